set_option maxHeartbeats 4000000 in
set_option maxRecDepth 100000 in
theorem k_X0_usedOfAll_L4 {p : Program} {l : Launch} {e : Env} {s : State} {m : MethodId} {args : Array Value} {below : List Frame} {meth : Method} {c : Code} {D : va_G} {ad sx : Nat → Nat} {ca : Nat → ClassId} (C : Cx D ad sx ca p s m c args RX0 cX0_usedOfAll 3) {Q : State → Prop} {w : Wd}   : ∀ (n9 : Nat) (z : Int32 × Int32) (o : Int32 × Int32), lp (f_X0_usedOfAll_L4 w) n9 z = some o → (∀ (ls : Array Slot) (H : Heap) (locs : List Loc), lv_has ls 3 [(1, .int o.1)] → St D ad ca s w H locs → W p l e (RM 0 0) s m args below meth c H locs 0 0 Q (F0 m 30 ls [])) → (∀ (ls : Array Slot) (H : Heap) (locs : List Loc), lv_has ls 3 [(0, .ref (ad 3)), (1, .int z.1), (2, .int z.2)] → St D ad ca s w H locs → W p l e (RM 0 0) s m args below meth c H locs 0 0 Q (F0 m 4 ls [])) := by
  refine lp_W (HW := fun (z : Int32 × Int32) => ∀ (ls : Array Slot) (H : Heap) (locs : List Loc), lv_has ls 3 [(0, .ref (ad 3)), (1, .int z.1), (2, .int z.2)] → St D ad ca s w H locs → W p l e (RM 0 0) s m args below meth c H locs 0 0 Q (F0 m 4 ls [])) (XW := fun (o : Int32 × Int32) => ∀ (ls : Array Slot) (H : Heap) (locs : List Loc), lv_has ls 3 [(1, .int o.1)] → St D ad ca s w H locs → W p l e (RM 0 0) s m args below meth c H locs 0 0 Q (F0 m 30 ls [])) ?_
  intro z x h hN hX ls H locs hl S
  unfold f_X0_usedOfAll_L4 at h
  refine lv_iload_n C.1 C.2.1 dX0_usedOfAll_4 rfl (lv_at hl 2 rfl) ?_
  refine lv_aload_n C.1 C.2.1 dX0_usedOfAll_5 rfl (lv_at hl 0 rfl) ?_
  refine r_geti C S o_3 cf_0 1 rfl (by decide) b_fl_RX0_17 dX0_usedOfAll_6 ?_
  refine lv_icmp_ge (tgt := 30) C.1 C.2.1 dX0_usedOfAll_9 (by decide) (fun q1 => ?_) (fun q1 => ?_)
  · replace h := (if_pos q1).symm.trans h
    exact hX _ (Option.some.inj h).symm _ _ _ (lv_sub hl [1] rfl) S
  · replace h := (if_neg q1).symm.trans h
    refine lv_iload_n C.1 C.2.1 dX0_usedOfAll_12 rfl (lv_at hl 1 rfl) ?_
    refine lv_aload_n C.1 C.2.1 dX0_usedOfAll_13 rfl (lv_at hl 0 rfl) ?_
    refine r_getr C S o_3 cf_0 0 rfl (by decide) b_fl_RX0_11 dX0_usedOfAll_14 ?_
    refine lv_iload_n C.1 C.2.1 dX0_usedOfAll_17 rfl (lv_at hl 2 rfl) ?_
    obtain ⟨g2, h⟩ := gd_some h
    refine r_aald C S a_17 g2 dX0_usedOfAll_18 ?_
    refine r_geti C S (o_F1 (inB_lt g2)) cf_4 8 rfl (by decide) b_fl_RX0_86 dX0_usedOfAll_19 ?_
    refine lv_iadd C.1 C.2.1 dX0_usedOfAll_22 ?_
    refine lv_istore_n (lv' := [(1, .int (z.1 + (w.1 (35 + z.2.toNatClampNeg) 8))), (0, .ref (ad 3)), (2, .int z.2)]) C.1 C.2.1 dX0_usedOfAll_23 rfl hl (by decide) rfl (fun ls hl => ?_)
    refine lv_iinc (v := z.2 + 1) (lv' := [(2, .int (z.2 + 1)), (1, .int (z.1 + (w.1 (35 + z.2.toNatClampNeg) 8))), (0, .ref (ad 3))]) C.1 C.2.1 dX0_usedOfAll_24 hl (k := 2) rfl rfl (by decide) rfl (fun ls hl => ?_)
    refine lv_goto (tgt := 4) C.1 C.2.1 dX0_usedOfAll_27 (by decide) ?_
    exact hN _ (Option.some.inj h).symm _ _ _ (lv_sub hl [2, 1, 0] rfl) S
set_option maxHeartbeats 4000000 in
set_option maxRecDepth 100000 in
theorem k_X0_usedOfAll   {w : Wd} {rv : Int32} (h : f_X0_usedOfAll w = some rv) : CI yX0_usedOfAll cX0_usedOfAll 3 .int 0 0 (fun ad => [.ref (ad 3)]) w rv w := by
  refine CI.of (by decide) ?_
  intro l D ad sx ca p e s m below meth c C S hr hlocks
  have hl := lv_entry ([.ref (ad 3)]) (n := 3) (Nat.le_of_ble_eq_true rfl)
  rw [lg_entry_eq]
  generalize (lg_sl ([.ref (ad 3)]) ++ List.replicate (3 - (lg_sl ([.ref (ad 3)])).length) Slot.unset).toArray = ls at hl ⊢
  have hl : lv_has ls 3 [(0, .ref (ad 3))] := hl
  generalize ha9 : ([.ref (ad 3)] : List Value).toArray = args at C ⊢
  generalize s.heap = H at S ⊢
  generalize ([] : List Loc) = locs at S ⊢
  unfold f_X0_usedOfAll at h
  refine lv_iconst (v := 0) C.1 C.2.1 dX0_usedOfAll_0 (by decide) ?_
  refine lv_istore_n (lv' := [(1, .int 0), (0, .ref (ad 3))]) C.1 C.2.1 dX0_usedOfAll_1 rfl hl (by decide) rfl (fun ls hl => ?_)
  refine lv_iconst (v := 0) C.1 C.2.1 dX0_usedOfAll_2 (by decide) ?_
  refine lv_istore_n (lv' := [(2, .int 0), (1, .int 0), (0, .ref (ad 3))]) C.1 C.2.1 dX0_usedOfAll_3 rfl hl (by decide) rfl (fun ls hl => ?_)
  obtain ⟨o3, e4, h⟩ := Option.bind_eq_some_iff.mp h
  refine k_X0_usedOfAll_L4 C  FU _ _ e4 (fun ls H locs hl S => ?_) ls H locs (lv_sub hl [2, 1, 0] rfl) S
  refine lv_iload_n C.1 C.2.1 dX0_usedOfAll_30 rfl (lv_at hl 0 rfl) ?_
  have h9 := Option.some.inj h
  subst h9
  exact r_iret C S hr hlocks dX0_usedOfAll_31
set_option maxHeartbeats 4000000 in
set_option maxRecDepth 100000 in
theorem k_X0_takenOfAll_L4 {p : Program} {l : Launch} {e : Env} {s : State} {m : MethodId} {args : Array Value} {below : List Frame} {meth : Method} {c : Code} {D : va_G} {ad sx : Nat → Nat} {ca : Nat → ClassId} (C : Cx D ad sx ca p s m c args RX0 cX0_takenOfAll 3) {Q : State → Prop} {w : Wd}   : ∀ (n9 : Nat) (z : Int32 × Int32) (o : Int32 × Int32), lp (f_X0_takenOfAll_L4 w) n9 z = some o → (∀ (ls : Array Slot) (H : Heap) (locs : List Loc), lv_has ls 3 [(1, .int o.1)] → St D ad ca s w H locs → W p l e (RM 0 0) s m args below meth c H locs 0 0 Q (F0 m 30 ls [])) → (∀ (ls : Array Slot) (H : Heap) (locs : List Loc), lv_has ls 3 [(0, .ref (ad 3)), (1, .int z.1), (2, .int z.2)] → St D ad ca s w H locs → W p l e (RM 0 0) s m args below meth c H locs 0 0 Q (F0 m 4 ls [])) := by
  refine lp_W (HW := fun (z : Int32 × Int32) => ∀ (ls : Array Slot) (H : Heap) (locs : List Loc), lv_has ls 3 [(0, .ref (ad 3)), (1, .int z.1), (2, .int z.2)] → St D ad ca s w H locs → W p l e (RM 0 0) s m args below meth c H locs 0 0 Q (F0 m 4 ls [])) (XW := fun (o : Int32 × Int32) => ∀ (ls : Array Slot) (H : Heap) (locs : List Loc), lv_has ls 3 [(1, .int o.1)] → St D ad ca s w H locs → W p l e (RM 0 0) s m args below meth c H locs 0 0 Q (F0 m 30 ls [])) ?_
  intro z x h hN hX ls H locs hl S
  unfold f_X0_takenOfAll_L4 at h
  refine lv_iload_n C.1 C.2.1 dX0_takenOfAll_4 rfl (lv_at hl 2 rfl) ?_
  refine lv_aload_n C.1 C.2.1 dX0_takenOfAll_5 rfl (lv_at hl 0 rfl) ?_
  refine r_geti C S o_3 cf_0 1 rfl (by decide) b_fl_RX0_17 dX0_takenOfAll_6 ?_
  refine lv_icmp_ge (tgt := 30) C.1 C.2.1 dX0_takenOfAll_9 (by decide) (fun q1 => ?_) (fun q1 => ?_)
  · replace h := (if_pos q1).symm.trans h
    exact hX _ (Option.some.inj h).symm _ _ _ (lv_sub hl [1] rfl) S
  · replace h := (if_neg q1).symm.trans h
    refine lv_iload_n C.1 C.2.1 dX0_takenOfAll_12 rfl (lv_at hl 1 rfl) ?_
    refine lv_aload_n C.1 C.2.1 dX0_takenOfAll_13 rfl (lv_at hl 0 rfl) ?_
    refine r_getr C S o_3 cf_0 0 rfl (by decide) b_fl_RX0_11 dX0_takenOfAll_14 ?_
    refine lv_iload_n C.1 C.2.1 dX0_takenOfAll_17 rfl (lv_at hl 2 rfl) ?_
    obtain ⟨g2, h⟩ := gd_some h
    refine r_aald C S a_17 g2 dX0_takenOfAll_18 ?_
    refine r_geti C S (o_F1 (inB_lt g2)) cf_4 9 rfl (by decide) b_fl_RX0_95 dX0_takenOfAll_19 ?_
    refine lv_iadd C.1 C.2.1 dX0_takenOfAll_22 ?_
    refine lv_istore_n (lv' := [(1, .int (z.1 + (w.1 (35 + z.2.toNatClampNeg) 9))), (0, .ref (ad 3)), (2, .int z.2)]) C.1 C.2.1 dX0_takenOfAll_23 rfl hl (by decide) rfl (fun ls hl => ?_)
    refine lv_iinc (v := z.2 + 1) (lv' := [(2, .int (z.2 + 1)), (1, .int (z.1 + (w.1 (35 + z.2.toNatClampNeg) 9))), (0, .ref (ad 3))]) C.1 C.2.1 dX0_takenOfAll_24 hl (k := 2) rfl rfl (by decide) rfl (fun ls hl => ?_)
    refine lv_goto (tgt := 4) C.1 C.2.1 dX0_takenOfAll_27 (by decide) ?_
    exact hN _ (Option.some.inj h).symm _ _ _ (lv_sub hl [2, 1, 0] rfl) S
set_option maxHeartbeats 4000000 in
set_option maxRecDepth 100000 in
theorem k_X0_takenOfAll   {w : Wd} {rv : Int32} (h : f_X0_takenOfAll w = some rv) : CI yX0_takenOfAll cX0_takenOfAll 3 .int 0 0 (fun ad => [.ref (ad 3)]) w rv w := by
  refine CI.of (by decide) ?_
  intro l D ad sx ca p e s m below meth c C S hr hlocks
  have hl := lv_entry ([.ref (ad 3)]) (n := 3) (Nat.le_of_ble_eq_true rfl)
  rw [lg_entry_eq]
  generalize (lg_sl ([.ref (ad 3)]) ++ List.replicate (3 - (lg_sl ([.ref (ad 3)])).length) Slot.unset).toArray = ls at hl ⊢
  have hl : lv_has ls 3 [(0, .ref (ad 3))] := hl
  generalize ha9 : ([.ref (ad 3)] : List Value).toArray = args at C ⊢
  generalize s.heap = H at S ⊢
  generalize ([] : List Loc) = locs at S ⊢
  unfold f_X0_takenOfAll at h
  refine lv_iconst (v := 0) C.1 C.2.1 dX0_takenOfAll_0 (by decide) ?_
  refine lv_istore_n (lv' := [(1, .int 0), (0, .ref (ad 3))]) C.1 C.2.1 dX0_takenOfAll_1 rfl hl (by decide) rfl (fun ls hl => ?_)
  refine lv_iconst (v := 0) C.1 C.2.1 dX0_takenOfAll_2 (by decide) ?_
  refine lv_istore_n (lv' := [(2, .int 0), (1, .int 0), (0, .ref (ad 3))]) C.1 C.2.1 dX0_takenOfAll_3 rfl hl (by decide) rfl (fun ls hl => ?_)
  obtain ⟨o3, e4, h⟩ := Option.bind_eq_some_iff.mp h
  refine k_X0_takenOfAll_L4 C  FU _ _ e4 (fun ls H locs hl S => ?_) ls H locs (lv_sub hl [2, 1, 0] rfl) S
  refine lv_iload_n C.1 C.2.1 dX0_takenOfAll_30 rfl (lv_at hl 0 rfl) ?_
  have h9 := Option.some.inj h
  subst h9
  exact r_iret C S hr hlocks dX0_takenOfAll_31
set_option maxHeartbeats 4000000 in
set_option maxRecDepth 100000 in
theorem k_X0_farthestMeter_L6 {p : Program} {l : Launch} {e : Env} {s : State} {m : MethodId} {args : Array Value} {below : List Frame} {meth : Method} {c : Code} {D : va_G} {ad sx : Nat → Nat} {ca : Nat → ClassId} (C : Cx D ad sx ca p s m c args RX0 cX0_farthestMeter 5) {Q : State → Prop} {w : Wd}   : ∀ (n9 : Nat) (z : Int32 × Int32 × Int32) (o : Int32 × Int32 × Int32), lp (f_X0_farthestMeter_L6 w) n9 z = some o → (∀ (ls : Array Slot) (H : Heap) (locs : List Loc), lv_has ls 5 [(1, .int o.1)] → St D ad ca s w H locs → W p l e (RM 1 21) s m args below meth c H locs 0 0 Q (F0 m 55 ls [])) → (∀ (ls : Array Slot) (H : Heap) (locs : List Loc), lv_has ls 5 [(0, .ref (ad 3)), (1, .int z.1), (2, .int z.2.1), (3, .int z.2.2)] → St D ad ca s w H locs → W p l e (RM 1 21) s m args below meth c H locs 0 0 Q (F0 m 6 ls [])) := by
  refine lp_W (HW := fun (z : Int32 × Int32 × Int32) => ∀ (ls : Array Slot) (H : Heap) (locs : List Loc), lv_has ls 5 [(0, .ref (ad 3)), (1, .int z.1), (2, .int z.2.1), (3, .int z.2.2)] → St D ad ca s w H locs → W p l e (RM 1 21) s m args below meth c H locs 0 0 Q (F0 m 6 ls [])) (XW := fun (o : Int32 × Int32 × Int32) => ∀ (ls : Array Slot) (H : Heap) (locs : List Loc), lv_has ls 5 [(1, .int o.1)] → St D ad ca s w H locs → W p l e (RM 1 21) s m args below meth c H locs 0 0 Q (F0 m 55 ls [])) ?_
  intro z x h hN hX ls H locs hl S
  unfold f_X0_farthestMeter_L6 at h
  refine lv_iload_n C.1 C.2.1 dX0_farthestMeter_6 rfl (lv_at hl 3 rfl) ?_
  refine lv_aload_n C.1 C.2.1 dX0_farthestMeter_7 rfl (lv_at hl 0 rfl) ?_
  refine r_geti C S o_3 cf_0 1 rfl (by decide) b_fl_RX0_17 dX0_farthestMeter_8 ?_
  refine lv_icmp_ge (tgt := 55) C.1 C.2.1 dX0_farthestMeter_11 (by decide) (fun q1 => ?_) (fun q1 => ?_)
  · replace h := (if_pos q1).symm.trans h
    exact hX _ (Option.some.inj h).symm _ _ _ (lv_sub hl [1] rfl) S
  · replace h := (if_neg q1).symm.trans h
    refine lv_aload_n C.1 C.2.1 dX0_farthestMeter_14 rfl (lv_at hl 0 rfl) ?_
    refine r_getr C S o_3 cf_0 0 rfl (by decide) b_fl_RX0_11 dX0_farthestMeter_15 ?_
    refine lv_iload_n C.1 C.2.1 dX0_farthestMeter_18 rfl (lv_at hl 3 rfl) ?_
    obtain ⟨g2, h⟩ := gd_some h
    refine r_aald C S a_17 g2 dX0_farthestMeter_19 ?_
    refine r_geti C S (o_F1 (inB_lt g2)) cf_4 8 rfl (by decide) b_fl_RX0_86 dX0_farthestMeter_20 ?_
    refine lv_aload_n C.1 C.2.1 dX0_farthestMeter_23 rfl (lv_at hl 0 rfl) ?_
    refine r_getr C S o_3 cf_0 0 rfl (by decide) b_fl_RX0_11 dX0_farthestMeter_24 ?_
    refine lv_iload_n C.1 C.2.1 dX0_farthestMeter_27 rfl (lv_at hl 3 rfl) ?_
    obtain ⟨g3, h⟩ := gd_some h
    refine r_aald C S a_17 g3 dX0_farthestMeter_28 ?_
    refine r_geti C S (o_F1 (inB_lt g3)) cf_4 9 rfl (by decide) b_fl_RX0_95 dX0_farthestMeter_29 ?_
    refine lv_isub C.1 C.2.1 dX0_farthestMeter_32 ?_
    refine r_mabs C hl b_ma_RX0_115 dX0_farthestMeter_33 (by decide) (Nat.le_of_ble_eq_true rfl) ?_
    refine lv_istore (lv' := [(4, .int (if 0 ≤ ((w.1 (35 + z.2.2.toNatClampNeg) 8) - (w.1 (35 + z.2.2.toNatClampNeg) 9)) then ((w.1 (35 + z.2.2.toNatClampNeg) 8) - (w.1 (35 + z.2.2.toNatClampNeg) 9)) else 0 - ((w.1 (35 + z.2.2.toNatClampNeg) 8) - (w.1 (35 + z.2.2.toNatClampNeg) 9)))), (0, .ref (ad 3)), (1, .int z.1), (2, .int z.2.1), (3, .int z.2.2)]) C.1 C.2.1 dX0_farthestMeter_36 hl (by decide) rfl (fun ls hl => ?_)
    refine lv_iload C.1 C.2.1 dX0_farthestMeter_38 (lv_at hl 0 rfl) ?_
    refine lv_iload_n C.1 C.2.1 dX0_farthestMeter_40 rfl (lv_at hl 3 rfl) ?_
    refine lv_icmp_le (tgt := 49) C.1 C.2.1 dX0_farthestMeter_41 (by decide) (fun q4 => ?_) (fun q4 => ?_)
    · replace h := (if_pos q4).symm.trans h
      refine lv_iinc (v := z.2.2 + 1) (lv' := [(3, .int (z.2.2 + 1)), (4, .int (if 0 ≤ ((w.1 (35 + z.2.2.toNatClampNeg) 8) - (w.1 (35 + z.2.2.toNatClampNeg) 9)) then ((w.1 (35 + z.2.2.toNatClampNeg) 8) - (w.1 (35 + z.2.2.toNatClampNeg) 9)) else 0 - ((w.1 (35 + z.2.2.toNatClampNeg) 8) - (w.1 (35 + z.2.2.toNatClampNeg) 9)))), (0, .ref (ad 3)), (1, .int z.1), (2, .int z.2.1)]) C.1 C.2.1 dX0_farthestMeter_49 hl (k := 4) rfl rfl (by decide) rfl (fun ls hl => ?_)
      refine lv_goto (tgt := 6) C.1 C.2.1 dX0_farthestMeter_52 (by decide) ?_
      exact hN _ (Option.some.inj h).symm _ _ _ (lv_sub hl [2, 3, 4, 0] rfl) S
    · replace h := (if_neg q4).symm.trans h
      refine lv_iload_n C.1 C.2.1 dX0_farthestMeter_44 rfl (lv_at hl 4 rfl) ?_
      refine lv_istore_n (lv' := [(1, .int z.2.2), (4, .int (if 0 ≤ ((w.1 (35 + z.2.2.toNatClampNeg) 8) - (w.1 (35 + z.2.2.toNatClampNeg) 9)) then ((w.1 (35 + z.2.2.toNatClampNeg) 8) - (w.1 (35 + z.2.2.toNatClampNeg) 9)) else 0 - ((w.1 (35 + z.2.2.toNatClampNeg) 8) - (w.1 (35 + z.2.2.toNatClampNeg) 9)))), (0, .ref (ad 3)), (2, .int z.2.1), (3, .int z.2.2)]) C.1 C.2.1 dX0_farthestMeter_45 rfl hl (by decide) rfl (fun ls hl => ?_)
      refine lv_iload C.1 C.2.1 dX0_farthestMeter_46 (lv_at hl 1 rfl) ?_
      refine lv_istore_n (lv' := [(2, .int (if 0 ≤ ((w.1 (35 + z.2.2.toNatClampNeg) 8) - (w.1 (35 + z.2.2.toNatClampNeg) 9)) then ((w.1 (35 + z.2.2.toNatClampNeg) 8) - (w.1 (35 + z.2.2.toNatClampNeg) 9)) else 0 - ((w.1 (35 + z.2.2.toNatClampNeg) 8) - (w.1 (35 + z.2.2.toNatClampNeg) 9)))), (1, .int z.2.2), (4, .int (if 0 ≤ ((w.1 (35 + z.2.2.toNatClampNeg) 8) - (w.1 (35 + z.2.2.toNatClampNeg) 9)) then ((w.1 (35 + z.2.2.toNatClampNeg) 8) - (w.1 (35 + z.2.2.toNatClampNeg) 9)) else 0 - ((w.1 (35 + z.2.2.toNatClampNeg) 8) - (w.1 (35 + z.2.2.toNatClampNeg) 9)))), (0, .ref (ad 3)), (3, .int z.2.2)]) C.1 C.2.1 dX0_farthestMeter_48 rfl hl (by decide) rfl (fun ls hl => ?_)
      refine lv_iinc (v := z.2.2 + 1) (lv' := [(3, .int (z.2.2 + 1)), (2, .int (if 0 ≤ ((w.1 (35 + z.2.2.toNatClampNeg) 8) - (w.1 (35 + z.2.2.toNatClampNeg) 9)) then ((w.1 (35 + z.2.2.toNatClampNeg) 8) - (w.1 (35 + z.2.2.toNatClampNeg) 9)) else 0 - ((w.1 (35 + z.2.2.toNatClampNeg) 8) - (w.1 (35 + z.2.2.toNatClampNeg) 9)))), (1, .int z.2.2), (4, .int (if 0 ≤ ((w.1 (35 + z.2.2.toNatClampNeg) 8) - (w.1 (35 + z.2.2.toNatClampNeg) 9)) then ((w.1 (35 + z.2.2.toNatClampNeg) 8) - (w.1 (35 + z.2.2.toNatClampNeg) 9)) else 0 - ((w.1 (35 + z.2.2.toNatClampNeg) 8) - (w.1 (35 + z.2.2.toNatClampNeg) 9)))), (0, .ref (ad 3))]) C.1 C.2.1 dX0_farthestMeter_49 hl (k := 4) rfl rfl (by decide) rfl (fun ls hl => ?_)
      refine lv_goto (tgt := 6) C.1 C.2.1 dX0_farthestMeter_52 (by decide) ?_
      exact hN _ (Option.some.inj h).symm _ _ _ (lv_sub hl [4, 2, 1, 0] rfl) S
set_option maxHeartbeats 4000000 in
set_option maxRecDepth 100000 in
theorem k_X0_farthestMeter   {w : Wd} {rv : Int32} (h : f_X0_farthestMeter w = some rv) : CI yX0_farthestMeter cX0_farthestMeter 5 .int 1 21 (fun ad => [.ref (ad 3)]) w rv w := by
  refine CI.of (by decide) ?_
  intro l D ad sx ca p e s m below meth c C S hr hlocks
  have hl := lv_entry ([.ref (ad 3)]) (n := 5) (Nat.le_of_ble_eq_true rfl)
  rw [lg_entry_eq]
  generalize (lg_sl ([.ref (ad 3)]) ++ List.replicate (5 - (lg_sl ([.ref (ad 3)])).length) Slot.unset).toArray = ls at hl ⊢
  have hl : lv_has ls 5 [(0, .ref (ad 3))] := hl
  generalize ha9 : ([.ref (ad 3)] : List Value).toArray = args at C ⊢
  generalize s.heap = H at S ⊢
  generalize ([] : List Loc) = locs at S ⊢
  unfold f_X0_farthestMeter at h
  refine lv_iconst (v := 0) C.1 C.2.1 dX0_farthestMeter_0 (by decide) ?_
  refine lv_istore_n (lv' := [(1, .int 0), (0, .ref (ad 3))]) C.1 C.2.1 dX0_farthestMeter_1 rfl hl (by decide) rfl (fun ls hl => ?_)
  refine lv_iconst (v := (-1)) C.1 C.2.1 dX0_farthestMeter_2 (by decide) ?_
  refine lv_istore_n (lv' := [(2, .int (-1)), (1, .int 0), (0, .ref (ad 3))]) C.1 C.2.1 dX0_farthestMeter_3 rfl hl (by decide) rfl (fun ls hl => ?_)
  refine lv_iconst (v := 0) C.1 C.2.1 dX0_farthestMeter_4 (by decide) ?_
  refine lv_istore_n (lv' := [(3, .int 0), (2, .int (-1)), (1, .int 0), (0, .ref (ad 3))]) C.1 C.2.1 dX0_farthestMeter_5 rfl hl (by decide) rfl (fun ls hl => ?_)
  obtain ⟨o5, e6, h⟩ := Option.bind_eq_some_iff.mp h
  refine k_X0_farthestMeter_L6 C  FU _ _ e6 (fun ls H locs hl S => ?_) ls H locs (lv_sub hl [3, 2, 1, 0] rfl) S
  refine lv_iload_n C.1 C.2.1 dX0_farthestMeter_55 rfl (lv_at hl 0 rfl) ?_
  have h9 := Option.some.inj h
  subst h9
  exact r_iret C S hr hlocks dX0_farthestMeter_56
set_option maxHeartbeats 4000000 in
set_option maxRecDepth 100000 in
theorem k_X10_meters {v1 : Int32}  {w : Wd} {rv : Int32 × Wd} (h : f_X10_meters v1 w = some rv) : CI yX10_meters cX10_meters 2 .int 2 45 (fun ad => [.ref (ad 0), .int v1]) w rv.1 rv.2 := by
  refine CI.of (by decide) ?_
  intro l D ad sx ca p e s m below meth c C S hr hlocks
  have hl := lv_entry ([.ref (ad 0), .int v1]) (n := 2) (Nat.le_of_ble_eq_true rfl)
  rw [lg_entry_eq]
  generalize (lg_sl ([.ref (ad 0), .int v1]) ++ List.replicate (2 - (lg_sl ([.ref (ad 0), .int v1])).length) Slot.unset).toArray = ls at hl ⊢
  have hl : lv_has ls 2 [(0, .ref (ad 0)), (1, .int v1)] := hl
  generalize ha9 : ([.ref (ad 0), .int v1] : List Value).toArray = args at C ⊢
  generalize s.heap = H at S ⊢
  generalize ([] : List Loc) = locs at S ⊢
  unfold f_X10_meters at h
  refine lv_iload_n C.1 C.2.1 dX10_meters_0 rfl (lv_at hl 1 rfl) ?_
  refine lv_iconst (v := 0) C.1 C.2.1 dX10_meters_1 (by decide) ?_
  refine lv_iconst (v := 1) C.1 C.2.1 dX10_meters_2 (by decide) ?_
  obtain ⟨o1, e2, h⟩ := Option.bind_eq_some_iff.mp h
  refine r_si C S hl (k_X10_within e2) b_sb_RX10_90 [.int v1, .int 0, .int 1] rfl [] rfl rfl (Nat.le_of_ble_eq_true rfl) ⟨Nat.le_of_ble_eq_true rfl, Nat.le_of_ble_eq_true rfl⟩ dX10_meters_3 (fun H locs S => ?_)
  refine lv_if_ne (tgt := 16) C.1 C.2.1 dX10_meters_6 (by decide) (fun q3 => ?_) (fun q3 => ?_)
  · replace h := (if_neg q3).symm.trans h
    refine lv_iload_n C.1 C.2.1 dX10_meters_16 rfl (lv_at hl 1 rfl) ?_
    refine lv_if_ne (tgt := 36) C.1 C.2.1 dX10_meters_17 (by decide) (fun q4 => ?_) (fun q4 => ?_)
    · replace h := (if_neg q4).symm.trans h
      refine lv_aload_n C.1 C.2.1 dX10_meters_36 rfl (lv_at hl 0 rfl) ?_
      refine r_getr C S o_0 cf_10 3 rfl (by decide) b_fl_RX10_27 dX10_meters_37 ?_
      refine r_geti C S o_3 cf_0 1 rfl (by decide) b_fl_RX10_99 dX10_meters_40 ?_
      refine lv_if_ne (tgt := 53) C.1 C.2.1 dX10_meters_43 (by decide) (fun q5 => ?_) (fun q5 => ?_)
      · replace h := (if_neg q5).symm.trans h
        refine lv_aload_n C.1 C.2.1 dX10_meters_53 rfl (lv_at hl 0 rfl) ?_
        refine r_getr C S o_0 cf_10 3 rfl (by decide) b_fl_RX10_27 dX10_meters_54 ?_
        obtain ⟨o6, e7, h⟩ := Option.bind_eq_some_iff.mp h
        refine r_vi C S hl o_3 cf_0 (k_X0_farthestMeter e7) b_vb_RX10_234 [] rfl [] rfl rfl (Nat.le_of_ble_eq_true rfl) ⟨Nat.le_of_ble_eq_true rfl, Nat.le_of_ble_eq_true rfl⟩ dX10_meters_57 (fun H locs S => ?_)
        have h9 := Option.some.inj h
        subst h9
        exact r_iret C S hr hlocks dX10_meters_60
      · replace h := (if_pos q5).symm.trans h
        refine lv_aload_n C.1 C.2.1 dX10_meters_46 rfl (lv_at hl 0 rfl) ?_
        refine r_ldc C (-1000000004) b_cn_RX10_224 dX10_meters_47 ?_
        obtain ⟨o8, e9, h⟩ := Option.bind_eq_some_iff.mp h
        refine r_vi C S hl o_0 cf_10 (k_X10_finding e9) b_vb_RX10_95 [.int (-1000000004)] rfl [] rfl rfl (Nat.le_of_ble_eq_true rfl) ⟨Nat.le_of_ble_eq_true rfl, Nat.le_of_ble_eq_true rfl⟩ dX10_meters_49 (fun H locs S => ?_)
        have h9 := Option.some.inj h
        subst h9
        exact r_iret C S hr hlocks dX10_meters_52
    · replace h := (if_pos q4).symm.trans h
      refine lv_aload_n C.1 C.2.1 dX10_meters_20 rfl (lv_at hl 0 rfl) ?_
      refine r_getr C S o_0 cf_10 3 rfl (by decide) b_fl_RX10_27 dX10_meters_21 ?_
      obtain ⟨o10, e11, h⟩ := Option.bind_eq_some_iff.mp h
      refine r_vi C S hl o_3 cf_0 (k_X0_usedOfAll e11) b_vb_RX10_228 [] rfl [] rfl rfl (Nat.le_of_ble_eq_true rfl) ⟨Nat.le_of_ble_eq_true rfl, Nat.le_of_ble_eq_true rfl⟩ dX10_meters_24 (fun H locs S => ?_)
      refine lv_aload_n C.1 C.2.1 dX10_meters_27 rfl (lv_at hl 0 rfl) ?_
      refine r_getr C S o_0 cf_10 3 rfl (by decide) b_fl_RX10_27 dX10_meters_28 ?_
      obtain ⟨o12, e13, h⟩ := Option.bind_eq_some_iff.mp h
      refine r_vi C S hl o_3 cf_0 (k_X0_takenOfAll e13) b_vb_RX10_231 [] rfl [.int o10] rfl rfl (Nat.le_of_ble_eq_true rfl) ⟨Nat.le_of_ble_eq_true rfl, Nat.le_of_ble_eq_true rfl⟩ dX10_meters_31 (fun H locs S => ?_)
      refine lv_isub C.1 C.2.1 dX10_meters_34 ?_
      have h9 := Option.some.inj h
      subst h9
      exact r_iret C S hr hlocks dX10_meters_35
  · replace h := (if_pos q3).symm.trans h
    refine lv_aload_n C.1 C.2.1 dX10_meters_9 rfl (lv_at hl 0 rfl) ?_
    refine r_ldc C (-1000000001) b_cn_RX10_94 dX10_meters_10 ?_
    obtain ⟨o14, e15, h⟩ := Option.bind_eq_some_iff.mp h
    refine r_vi C S hl o_0 cf_10 (k_X10_finding e15) b_vb_RX10_95 [.int (-1000000001)] rfl [] rfl rfl (Nat.le_of_ble_eq_true rfl) ⟨Nat.le_of_ble_eq_true rfl, Nat.le_of_ble_eq_true rfl⟩ dX10_meters_12 (fun H locs S => ?_)
    have h9 := Option.some.inj h
    subst h9
    exact r_iret C S hr hlocks dX10_meters_15
set_option maxHeartbeats 4000000 in
set_option maxRecDepth 100000 in
theorem k_X10_areBounds {v0 : Int32}  {w : Wd} {rv : Int32} (h : f_X10_areBounds v0 = some rv) : CI yX10_areBounds cX10_areBounds 1 .boolean 1 22 (fun ad => [.int v0]) w rv w := by
  refine CI.of (by decide) ?_
  intro l D ad sx ca p e s m below meth c C S hr hlocks
  have hl := lv_entry ([.int v0]) (n := 1) (Nat.le_of_ble_eq_true rfl)
  rw [lg_entry_eq]
  generalize (lg_sl ([.int v0]) ++ List.replicate (1 - (lg_sl ([.int v0])).length) Slot.unset).toArray = ls at hl ⊢
  have hl : lv_has ls 1 [(0, .int v0)] := hl
  generalize ha9 : ([.int v0] : List Value).toArray = args at C ⊢
  generalize s.heap = H at S ⊢
  generalize ([] : List Loc) = locs at S ⊢
  unfold f_X10_areBounds at h
  refine lv_iload_n C.1 C.2.1 dX10_areBounds_0 rfl (lv_at hl 0 rfl) ?_
  refine lv_iconst (v := 0) C.1 C.2.1 dX10_areBounds_1 (by decide) ?_
  refine r_ldcw C 999999 b_cn_RX10_346 dX10_areBounds_2 ?_
  obtain ⟨o1, e2, h⟩ := Option.bind_eq_some_iff.mp h
  refine r_si C S hl (k_X10_within e2) b_sb_RX10_90 [.int v0, .int 0, .int 999999] rfl [] rfl rfl (Nat.le_of_ble_eq_true rfl) ⟨Nat.le_of_ble_eq_true rfl, Nat.le_of_ble_eq_true rfl⟩ dX10_areBounds_5 (fun H locs S => ?_)
  obtain ⟨g3, h⟩ := gd_some h
  have h9 := Option.some.inj h
  subst h9
  exact r_zret C S hr hlocks (zo_or g3) dX10_areBounds_8
set_option maxHeartbeats 4000000 in
set_option maxRecDepth 100000 in
theorem k_X10_feeling {v0 : Int32} {v1 : Int32}  {w : Wd} {rv : Int32} (h : f_X10_feeling v0 v1 = some rv) : CI yX10_feeling cX10_feeling 2 .int 0 0 (fun ad => [.int v0, .int v1]) w rv w := by
  refine CI.of (by decide) ?_
  intro l D ad sx ca p e s m below meth c C S hr hlocks
  have hl := lv_entry ([.int v0, .int v1]) (n := 2) (Nat.le_of_ble_eq_true rfl)
  rw [lg_entry_eq]
  generalize (lg_sl ([.int v0, .int v1]) ++ List.replicate (2 - (lg_sl ([.int v0, .int v1])).length) Slot.unset).toArray = ls at hl ⊢
  have hl : lv_has ls 2 [(0, .int v0), (1, .int v1)] := hl
  generalize ha9 : ([.int v0, .int v1] : List Value).toArray = args at C ⊢
  generalize s.heap = H at S ⊢
  generalize ([] : List Loc) = locs at S ⊢
  unfold f_X10_feeling at h
  refine lv_iload_n C.1 C.2.1 dX10_feeling_0 rfl (lv_at hl 0 rfl) ?_
  refine lv_iload_n C.1 C.2.1 dX10_feeling_1 rfl (lv_at hl 1 rfl) ?_
  refine lv_sipush (v := 1000) C.1 C.2.1 dX10_feeling_2 (by decide) ?_
  refine lv_idiv C.1 C.2.1 dX10_feeling_5 (by decide) ?_
  refine lv_icmp_ge (tgt := 11) C.1 C.2.1 dX10_feeling_6 (by decide) (fun q1 => ?_) (fun q1 => ?_)
  · replace h := (if_pos q1).symm.trans h
    refine lv_iload_n C.1 C.2.1 dX10_feeling_11 rfl (lv_at hl 0 rfl) ?_
    refine lv_iload_n C.1 C.2.1 dX10_feeling_12 rfl (lv_at hl 1 rfl) ?_
    refine lv_sipush (v := 1000) C.1 C.2.1 dX10_feeling_13 (by decide) ?_
    refine lv_irem C.1 C.2.1 dX10_feeling_16 (by decide) ?_
    refine lv_icmp_le (tgt := 24) C.1 C.2.1 dX10_feeling_17 (by decide) (fun q2 => ?_) (fun q2 => ?_)
    · replace h := (if_pos q2).symm.trans h
      refine lv_iconst (v := 0) C.1 C.2.1 dX10_feeling_24 (by decide) ?_
      have h9 := Option.some.inj h
      subst h9
      exact r_iret C S hr hlocks dX10_feeling_25
    · replace h := (if_neg q2).symm.trans h
      refine lv_iconst (v := 2) C.1 C.2.1 dX10_feeling_20 (by decide) ?_
      refine lv_goto (tgt := 25) C.1 C.2.1 dX10_feeling_21 (by decide) ?_
      have h9 := Option.some.inj h
      subst h9
      exact r_iret C S hr hlocks dX10_feeling_25
  · replace h := (if_neg q1).symm.trans h
    refine lv_iconst (v := 1) C.1 C.2.1 dX10_feeling_9 (by decide) ?_
    have h9 := Option.some.inj h
    subst h9
    exact r_iret C S hr hlocks dX10_feeling_10
set_option maxHeartbeats 4000000 in
set_option maxRecDepth 100000 in
theorem k_X10_felt {v1 : Int32} {v2 : Int32}  {w : Wd} {rv : Int32 × Wd} (h : f_X10_felt v1 v2 w = some rv) : CI yX10_felt cX10_felt 3 .int 2 44 (fun ad => [.ref (ad 0), .int v1, .int v2]) w rv.1 rv.2 := by
  refine CI.of (by decide) ?_
  intro l D ad sx ca p e s m below meth c C S hr hlocks
  have hl := lv_entry ([.ref (ad 0), .int v1, .int v2]) (n := 3) (Nat.le_of_ble_eq_true rfl)
  rw [lg_entry_eq]
  generalize (lg_sl ([.ref (ad 0), .int v1, .int v2]) ++ List.replicate (3 - (lg_sl ([.ref (ad 0), .int v1, .int v2])).length) Slot.unset).toArray = ls at hl ⊢
  have hl : lv_has ls 3 [(0, .ref (ad 0)), (1, .int v1), (2, .int v2)] := hl
  generalize ha9 : ([.ref (ad 0), .int v1, .int v2] : List Value).toArray = args at C ⊢
  generalize s.heap = H at S ⊢
  generalize ([] : List Loc) = locs at S ⊢
  unfold f_X10_felt at h
  refine lv_aload_n C.1 C.2.1 dX10_felt_0 rfl (lv_at hl 0 rfl) ?_
  refine r_getr C S o_0 cf_10 3 rfl (by decide) b_fl_RX10_27 dX10_felt_1 ?_
  refine lv_iload_n C.1 C.2.1 dX10_felt_4 rfl (lv_at hl 1 rfl) ?_
  obtain ⟨o1, e2, h⟩ := Option.bind_eq_some_iff.mp h
  refine r_vi C S hl o_3 cf_0 (k_X0_has e2) b_vb_RX10_110 [.int v1] rfl [] rfl rfl (Nat.le_of_ble_eq_true rfl) ⟨Nat.le_of_ble_eq_true rfl, Nat.le_of_ble_eq_true rfl⟩ dX10_felt_5 (fun H locs S => ?_)
  refine lv_if_eq (tgt := 18) C.1 C.2.1 dX10_felt_8 (by decide) (fun q3 => ?_) (fun q3 => ?_)
  · replace h := (if_pos q3).symm.trans h
    refine lv_aload_n C.1 C.2.1 dX10_felt_18 rfl (lv_at hl 0 rfl) ?_
    refine r_ldc C (-1000000001) b_cn_RX10_94 dX10_felt_19 ?_
    obtain ⟨o4, e5, h⟩ := Option.bind_eq_some_iff.mp h
    refine r_vi C S hl o_0 cf_10 (k_X10_finding e5) b_vb_RX10_95 [.int (-1000000001)] rfl [] rfl rfl (Nat.le_of_ble_eq_true rfl) ⟨Nat.le_of_ble_eq_true rfl, Nat.le_of_ble_eq_true rfl⟩ dX10_felt_21 (fun H locs S => ?_)
    have h9 := Option.some.inj h
    subst h9
    exact r_iret C S hr hlocks dX10_felt_24
  · replace h := (if_neg q3).symm.trans h
    refine lv_iload_n C.1 C.2.1 dX10_felt_11 rfl (lv_at hl 2 rfl) ?_
    obtain ⟨o6, e7, h⟩ := Option.bind_eq_some_iff.mp h
    refine r_si C S hl (k_X10_areBounds e7) b_sb_RX10_237 [.int v2] rfl [] rfl rfl (Nat.le_of_ble_eq_true rfl) ⟨Nat.le_of_ble_eq_true rfl, Nat.le_of_ble_eq_true rfl⟩ dX10_felt_12 (fun H locs S => ?_)
    refine lv_if_ne (tgt := 25) C.1 C.2.1 dX10_felt_15 (by decide) (fun q8 => ?_) (fun q8 => ?_)
    · replace h := (if_neg q8).symm.trans h
      refine lv_aload_n C.1 C.2.1 dX10_felt_25 rfl (lv_at hl 0 rfl) ?_
      refine r_getr C S o_0 cf_10 3 rfl (by decide) b_fl_RX10_27 dX10_felt_26 ?_
      refine r_getr C S o_3 cf_0 0 rfl (by decide) b_fl_RX10_114 dX10_felt_29 ?_
      refine lv_iload_n C.1 C.2.1 dX10_felt_32 rfl (lv_at hl 1 rfl) ?_
      obtain ⟨g9, h⟩ := gd_some h
      refine r_aald C S a_17 g9 dX10_felt_33 ?_
      refine r_geti C S (o_F1 (inB_lt g9)) cf_4 7 rfl (by decide) b_fl_RX10_145 dX10_felt_34 ?_
      refine lv_iload_n C.1 C.2.1 dX10_felt_37 rfl (lv_at hl 2 rfl) ?_
      obtain ⟨o10, e11, h⟩ := Option.bind_eq_some_iff.mp h
      refine r_si C S hl (k_X10_feeling e11) b_sb_RX10_240 [.int (w.1 (35 + v1.toNatClampNeg) 7), .int v2] rfl [] rfl rfl (Nat.le_of_ble_eq_true rfl) ⟨Nat.le_of_ble_eq_true rfl, Nat.le_of_ble_eq_true rfl⟩ dX10_felt_38 (fun H locs S => ?_)
      have h9 := Option.some.inj h
      subst h9
      exact r_iret C S hr hlocks dX10_felt_41
    · replace h := (if_pos q8).symm.trans h
      refine lv_aload_n C.1 C.2.1 dX10_felt_18 rfl (lv_at hl 0 rfl) ?_
      refine r_ldc C (-1000000001) b_cn_RX10_94 dX10_felt_19 ?_
      obtain ⟨o12, e13, h⟩ := Option.bind_eq_some_iff.mp h
      refine r_vi C S hl o_0 cf_10 (k_X10_finding e13) b_vb_RX10_95 [.int (-1000000001)] rfl [] rfl rfl (Nat.le_of_ble_eq_true rfl) ⟨Nat.le_of_ble_eq_true rfl, Nat.le_of_ble_eq_true rfl⟩ dX10_felt_21 (fun H locs S => ?_)
      have h9 := Option.some.inj h
      subst h9
      exact r_iret C S hr hlocks dX10_felt_24
set_option maxHeartbeats 4000000 in
set_option maxRecDepth 100000 in
theorem k_X2_go_L20 {p : Program} {l : Launch} {e : Env} {s : State} {m : MethodId} {args : Array Value} {below : List Frame} {meth : Method} {c : Code} {D : va_G} {ad sx : Nat → Nat} {ca : Nat → ClassId} (C : Cx D ad sx ca p s m c args RX2 cX2_go 5) {Q : State → Prop} {w : Wd} {v1 : Int32} {v3 : Int32}  : ∀ (n9 : Nat) (z : Int32 × Int32) (o : Int32 × Int32), lp (f_X2_go_L20 v1 v3 w) n9 z = some o → (∀ (ls : Array Slot) (H : Heap) (locs : List Loc), lv_has ls 5 [(0, .ref (ad 13)), (1, .int v1), (2, .int o.1), (3, .int v3)] → St D ad ca s w H locs → W p l e (RM 2 45) s m args below meth c H locs 0 0 Q (F0 m 45 ls [])) → (∀ (ls : Array Slot) (H : Heap) (locs : List Loc), lv_has ls 5 [(0, .ref (ad 13)), (1, .int v1), (2, .int z.1), (3, .int v3), (4, .int z.2)] → St D ad ca s w H locs → W p l e (RM 2 45) s m args below meth c H locs 0 0 Q (F0 m 20 ls [])) := by
  refine lp_W (HW := fun (z : Int32 × Int32) => ∀ (ls : Array Slot) (H : Heap) (locs : List Loc), lv_has ls 5 [(0, .ref (ad 13)), (1, .int v1), (2, .int z.1), (3, .int v3), (4, .int z.2)] → St D ad ca s w H locs → W p l e (RM 2 45) s m args below meth c H locs 0 0 Q (F0 m 20 ls [])) (XW := fun (o : Int32 × Int32) => ∀ (ls : Array Slot) (H : Heap) (locs : List Loc), lv_has ls 5 [(0, .ref (ad 13)), (1, .int v1), (2, .int o.1), (3, .int v3)] → St D ad ca s w H locs → W p l e (RM 2 45) s m args below meth c H locs 0 0 Q (F0 m 45 ls [])) ?_
  intro z x h hN hX ls H locs hl S
  unfold f_X2_go_L20 at h
  refine lv_iload C.1 C.2.1 dX2_go_20 (lv_at hl 4 rfl) ?_
  refine lv_aload_n C.1 C.2.1 dX2_go_22 rfl (lv_at hl 0 rfl) ?_
  refine r_geti C S o_13 cf_2 0 rfl (by decide) b_fl_RX2_45 dX2_go_23 ?_
  refine lv_icmp_ge (tgt := 45) C.1 C.2.1 dX2_go_26 (by decide) (fun q6 => ?_) (fun q6 => ?_)
  · replace h := (if_pos q6).symm.trans h
    exact hX _ (Option.some.inj h).symm _ _ _ (lv_sub hl [0, 1, 2, 3] rfl) S
  · replace h := (if_neg q6).symm.trans h
    refine lv_iload_n C.1 C.2.1 dX2_go_29 rfl (lv_at hl 2 rfl) ?_
    refine lv_aload_n C.1 C.2.1 dX2_go_30 rfl (lv_at hl 0 rfl) ?_
    refine r_getr C S o_13 cf_2 9 rfl (by decide) b_fl_RX2_27 dX2_go_31 ?_
    refine lv_iload C.1 C.2.1 dX2_go_34 (lv_at hl 4 rfl) ?_
    obtain ⟨g7, h⟩ := gd_some h
    refine r_iald C S a_64 g7 dX2_go_36 ?_
    refine lv_iadd C.1 C.2.1 dX2_go_37 ?_
    refine lv_istore_n (lv' := [(2, .int (z.1 + (w.1 64 z.2.toNatClampNeg))), (0, .ref (ad 13)), (1, .int v1), (3, .int v3), (4, .int z.2)]) C.1 C.2.1 dX2_go_38 rfl hl (by decide) rfl (fun ls hl => ?_)
    refine lv_iinc (v := z.2 + 1) (lv' := [(4, .int (z.2 + 1)), (2, .int (z.1 + (w.1 64 z.2.toNatClampNeg))), (0, .ref (ad 13)), (1, .int v1), (3, .int v3)]) C.1 C.2.1 dX2_go_39 hl (k := 4) rfl rfl (by decide) rfl (fun ls hl => ?_)
    refine lv_goto (tgt := 20) C.1 C.2.1 dX2_go_42 (by decide) ?_
    exact hN _ (Option.some.inj h).symm _ _ _ (lv_sub hl [2, 3, 1, 4, 0] rfl) S
set_option maxHeartbeats 4000000 in
set_option maxRecDepth 100000 in
theorem k_X2_go_L8 {p : Program} {l : Launch} {e : Env} {s : State} {m : MethodId} {args : Array Value} {below : List Frame} {meth : Method} {c : Code} {D : va_G} {ad sx : Nat → Nat} {ca : Nat → ClassId} (C : Cx D ad sx ca p s m c args RX2 cX2_go 5) {Q : State → Prop} {v1 : Int32}  : ∀ (n9 : Nat) (z : Int32 × Int32 × Wd) (o : Int32 × Int32 × Wd), lp (f_X2_go_L8 v1) n9 z = some o → (∀ (ls : Array Slot) (H : Heap) (locs : List Loc), lv_has ls 5 [(2, .int o.1)] → St D ad ca s o.2.2 H locs → W p l e (RM 2 45) s m args below meth c H locs 0 0 Q (F0 m 51 ls [])) → (∀ (ls : Array Slot) (H : Heap) (locs : List Loc), lv_has ls 5 [(0, .ref (ad 13)), (1, .int v1), (2, .int z.1), (3, .int z.2.1)] → St D ad ca s z.2.2 H locs → W p l e (RM 2 45) s m args below meth c H locs 0 0 Q (F0 m 8 ls [])) := by
  refine lp_W (HW := fun (z : Int32 × Int32 × Wd) => ∀ (ls : Array Slot) (H : Heap) (locs : List Loc), lv_has ls 5 [(0, .ref (ad 13)), (1, .int v1), (2, .int z.1), (3, .int z.2.1)] → St D ad ca s z.2.2 H locs → W p l e (RM 2 45) s m args below meth c H locs 0 0 Q (F0 m 8 ls [])) (XW := fun (o : Int32 × Int32 × Wd) => ∀ (ls : Array Slot) (H : Heap) (locs : List Loc), lv_has ls 5 [(2, .int o.1)] → St D ad ca s o.2.2 H locs → W p l e (RM 2 45) s m args below meth c H locs 0 0 Q (F0 m 51 ls [])) ?_
  intro z x h hN hX ls H locs hl S
  unfold f_X2_go_L8 at h
  refine lv_iload_n C.1 C.2.1 dX2_go_8 rfl (lv_at hl 3 rfl) ?_
  refine lv_iload_n C.1 C.2.1 dX2_go_9 rfl (lv_at hl 1 rfl) ?_
  refine lv_icmp_ge (tgt := 51) C.1 C.2.1 dX2_go_10 (by decide) (fun q3 => ?_) (fun q3 => ?_)
  · replace h := (if_pos q3).symm.trans h
    exact hX _ (Option.some.inj h).symm _ _ _ (lv_sub hl [2] rfl) S
  · replace h := (if_neg q3).symm.trans h
    refine lv_aload_n C.1 C.2.1 dX2_go_13 rfl (lv_at hl 0 rfl) ?_
    obtain ⟨o4, e5, h⟩ := Option.bind_eq_some_iff.mp h
    refine r_vv C S hl o_13 cf_2 (k_X2_goHour e5) b_vb_RX2_99 [] rfl [] rfl rfl (Nat.le_of_ble_eq_true rfl) ⟨Nat.le_of_ble_eq_true rfl, Nat.le_of_ble_eq_true rfl⟩ dX2_go_14 (fun H locs S => ?_)
    refine lv_iconst (v := 0) C.1 C.2.1 dX2_go_17 (by decide) ?_
    refine lv_istore (lv' := [(4, .int 0), (0, .ref (ad 13)), (1, .int v1), (2, .int z.1), (3, .int z.2.1)]) C.1 C.2.1 dX2_go_18 hl (by decide) rfl (fun ls hl => ?_)
    obtain ⟨o8, e9, h⟩ := Option.bind_eq_some_iff.mp h
    refine k_X2_go_L20 C  FU _ _ e9 (fun ls H locs hl S => ?_) ls H locs (lv_sub hl [1, 2, 3, 4, 0] rfl) S
    refine lv_iinc (v := z.2.1 + 1) (lv' := [(3, .int (z.2.1 + 1)), (0, .ref (ad 13)), (1, .int v1), (2, .int o8.1)]) C.1 C.2.1 dX2_go_45 hl (k := 3) rfl rfl (by decide) rfl (fun ls hl => ?_)
    refine lv_goto (tgt := 8) C.1 C.2.1 dX2_go_48 (by decide) ?_
    exact hN _ (Option.some.inj h).symm _ _ _ (lv_sub hl [1, 2, 3, 0] rfl) S
set_option maxHeartbeats 4000000 in
set_option maxRecDepth 100000 in
theorem k_X2_go {v1 : Int32}  {w : Wd} {rv : Int32 × Wd} (h : f_X2_go v1 w = some rv) : CI yX2_go cX2_go 5 .int 2 45 (fun ad => [.ref (ad 13), .int v1]) w rv.1 rv.2 := by
  refine CI.of (by decide) ?_
  intro l D ad sx ca p e s m below meth c C S hr hlocks
  have hl := lv_entry ([.ref (ad 13), .int v1]) (n := 5) (Nat.le_of_ble_eq_true rfl)
  rw [lg_entry_eq]
  generalize (lg_sl ([.ref (ad 13), .int v1]) ++ List.replicate (5 - (lg_sl ([.ref (ad 13), .int v1])).length) Slot.unset).toArray = ls at hl ⊢
  have hl : lv_has ls 5 [(0, .ref (ad 13)), (1, .int v1)] := hl
  generalize ha9 : ([.ref (ad 13), .int v1] : List Value).toArray = args at C ⊢
  generalize s.heap = H at S ⊢
  generalize ([] : List Loc) = locs at S ⊢
  unfold f_X2_go at h
  refine lv_aload_n C.1 C.2.1 dX2_go_0 rfl (lv_at hl 0 rfl) ?_
  obtain ⟨o1, e2, h⟩ := Option.bind_eq_some_iff.mp h
  refine r_vv C S hl o_13 cf_2 (k_X2_restart e2) b_vb_RX2_92 [] rfl [] rfl rfl (Nat.le_of_ble_eq_true rfl) ⟨Nat.le_of_ble_eq_true rfl, Nat.le_of_ble_eq_true rfl⟩ dX2_go_1 (fun H locs S => ?_)
  refine lv_iconst (v := 0) C.1 C.2.1 dX2_go_4 (by decide) ?_
  refine lv_istore_n (lv' := [(2, .int 0), (0, .ref (ad 13)), (1, .int v1)]) C.1 C.2.1 dX2_go_5 rfl hl (by decide) rfl (fun ls hl => ?_)
  refine lv_iconst (v := 0) C.1 C.2.1 dX2_go_6 (by decide) ?_
  refine lv_istore_n (lv' := [(3, .int 0), (2, .int 0), (0, .ref (ad 13)), (1, .int v1)]) C.1 C.2.1 dX2_go_7 rfl hl (by decide) rfl (fun ls hl => ?_)
  obtain ⟨o10, e11, h⟩ := Option.bind_eq_some_iff.mp h
  refine k_X2_go_L8 C  FU _ _ e11 (fun ls H locs hl S => ?_) ls H locs (lv_sub hl [2, 3, 1, 0] rfl) S
  refine lv_iload_n C.1 C.2.1 dX2_go_51 rfl (lv_at hl 0 rfl) ?_
  have h9 := Option.some.inj h
  subst h9
  exact r_iret C S hr hlocks dX2_go_52
set_option maxHeartbeats 4000000 in
set_option maxRecDepth 100000 in
theorem k_X10_even_L49 {p : Program} {l : Launch} {e : Env} {s : State} {m : MethodId} {args : Array Value} {below : List Frame} {meth : Method} {c : Code} {D : va_G} {ad sx : Nat → Nat} {ca : Nat → ClassId} (C : Cx D ad sx ca p s m c args RX10 cX10_even 5) {Q : State → Prop} {w : Wd} {v1 : Int32}  : ∀ (n9 : Nat) (z : Int32 × Int32) (o : Int32 × Int32), lp (f_X10_even_L49 v1 w) n9 z = some o → (∀ (ls : Array Slot) (H : Heap) (locs : List Loc), lv_has ls 5 [(3, .int o.1)] → St D ad ca s w H locs → W p l e (RM 4 91) s m args below meth c H locs 0 0 Q (F0 m 91 ls [])) → (∀ (ls : Array Slot) (H : Heap) (locs : List Loc), lv_has ls 5 [(0, .ref (ad 0)), (1, .int v1), (3, .int z.1), (4, .int z.2)] → St D ad ca s w H locs → W p l e (RM 4 91) s m args below meth c H locs 0 0 Q (F0 m 49 ls [])) := by
  refine lp_W (HW := fun (z : Int32 × Int32) => ∀ (ls : Array Slot) (H : Heap) (locs : List Loc), lv_has ls 5 [(0, .ref (ad 0)), (1, .int v1), (3, .int z.1), (4, .int z.2)] → St D ad ca s w H locs → W p l e (RM 4 91) s m args below meth c H locs 0 0 Q (F0 m 49 ls [])) (XW := fun (o : Int32 × Int32) => ∀ (ls : Array Slot) (H : Heap) (locs : List Loc), lv_has ls 5 [(3, .int o.1)] → St D ad ca s w H locs → W p l e (RM 4 91) s m args below meth c H locs 0 0 Q (F0 m 91 ls [])) ?_
  intro z x h hN hX ls H locs hl S
  unfold f_X10_even_L49 at h
  refine lv_iload C.1 C.2.1 dX10_even_49 (lv_at hl 3 rfl) ?_
  refine lv_aload_n C.1 C.2.1 dX10_even_51 rfl (lv_at hl 0 rfl) ?_
  refine r_getr C S o_0 cf_10 3 rfl (by decide) b_fl_RX10_27 dX10_even_52 ?_
  refine r_geti C S o_3 cf_0 1 rfl (by decide) b_fl_RX10_99 dX10_even_55 ?_
  refine lv_icmp_ge (tgt := 91) C.1 C.2.1 dX10_even_58 (by decide) (fun q13 => ?_) (fun q13 => ?_)
  · replace h := (if_pos q13).symm.trans h
    exact hX _ (Option.some.inj h).symm _ _ _ (lv_sub hl [2] rfl) S
  · replace h := (if_neg q13).symm.trans h
    refine lv_aload_n C.1 C.2.1 dX10_even_61 rfl (lv_at hl 0 rfl) ?_
    refine r_getr C S o_0 cf_10 10 rfl (by decide) b_fl_RX10_66 dX10_even_62 ?_
    refine r_getr C S o_13 cf_2 5 rfl (by decide) b_fl_RX10_247 dX10_even_65 ?_
    refine lv_iload C.1 C.2.1 dX10_even_68 (lv_at hl 3 rfl) ?_
    obtain ⟨g14, h⟩ := gd_some h
    refine r_iald C S a_60 g14 dX10_even_70 ?_
    refine lv_iload_n C.1 C.2.1 dX10_even_71 rfl (lv_at hl 1 rfl) ?_
    obtain ⟨o15, e16, h⟩ := Option.bind_eq_some_iff.mp h
    refine r_si C S hl (k_X10_feeling e16) b_sb_RX10_240 [.int (w.1 60 z.2.toNatClampNeg), .int v1] rfl [] rfl rfl (Nat.le_of_ble_eq_true rfl) ⟨Nat.le_of_ble_eq_true rfl, Nat.le_of_ble_eq_true rfl⟩ dX10_even_72 (fun H locs S => ?_)
    refine lv_if_ne (tgt := 85) C.1 C.2.1 dX10_even_75 (by decide) (fun q17 => ?_) (fun q17 => ?_)
    · replace h := (if_neg q17).symm.trans h
      refine lv_iinc (v := z.2 + 1) (lv' := [(4, .int (z.2 + 1)), (0, .ref (ad 0)), (1, .int v1), (3, .int z.1)]) C.1 C.2.1 dX10_even_85 hl (k := 3) rfl rfl (by decide) rfl (fun ls hl => ?_)
      refine lv_goto (tgt := 49) C.1 C.2.1 dX10_even_88 (by decide) ?_
      exact hN _ (Option.some.inj h).symm _ _ _ (lv_sub hl [1, 2, 3, 0] rfl) S
    · replace h := (if_pos q17).symm.trans h
      refine lv_iload_n C.1 C.2.1 dX10_even_78 rfl (lv_at hl 2 rfl) ?_
      refine lv_iconst (v := 1) C.1 C.2.1 dX10_even_79 (by decide) ?_
      refine lv_iload C.1 C.2.1 dX10_even_80 (lv_at hl 3 rfl) ?_
      refine lv_ishl C.1 C.2.1 dX10_even_82 ?_
      refine lv_ior C.1 C.2.1 dX10_even_83 ?_
      refine lv_istore_n (lv' := [(3, .int (z.1 ||| (1 <<< (z.2 &&& 31)))), (0, .ref (ad 0)), (1, .int v1), (4, .int z.2)]) C.1 C.2.1 dX10_even_84 rfl hl (by decide) rfl (fun ls hl => ?_)
      refine lv_iinc (v := z.2 + 1) (lv' := [(4, .int (z.2 + 1)), (3, .int (z.1 ||| (1 <<< (z.2 &&& 31)))), (0, .ref (ad 0)), (1, .int v1)]) C.1 C.2.1 dX10_even_85 hl (k := 3) rfl rfl (by decide) rfl (fun ls hl => ?_)
      refine lv_goto (tgt := 49) C.1 C.2.1 dX10_even_88 (by decide) ?_
      exact hN _ (Option.some.inj h).symm _ _ _ (lv_sub hl [2, 3, 1, 0] rfl) S
set_option maxHeartbeats 4000000 in
set_option maxRecDepth 100000 in
theorem k_X10_even {v1 : Int32} {v2 : Int32}  {w : Wd} {rv : Int32 × Wd} (h : f_X10_even v1 v2 w = some rv) : CI yX10_even cX10_even 5 .int 4 91 (fun ad => [.ref (ad 0), .int v1, .int v2]) w rv.1 rv.2 := by
  refine CI.of (by decide) ?_
  intro l D ad sx ca p e s m below meth c C S hr hlocks
  have hl := lv_entry ([.ref (ad 0), .int v1, .int v2]) (n := 5) (Nat.le_of_ble_eq_true rfl)
  rw [lg_entry_eq]
  generalize (lg_sl ([.ref (ad 0), .int v1, .int v2]) ++ List.replicate (5 - (lg_sl ([.ref (ad 0), .int v1, .int v2])).length) Slot.unset).toArray = ls at hl ⊢
  have hl : lv_has ls 5 [(0, .ref (ad 0)), (1, .int v1), (2, .int v2)] := hl
  generalize ha9 : ([.ref (ad 0), .int v1, .int v2] : List Value).toArray = args at C ⊢
  generalize s.heap = H at S ⊢
  generalize ([] : List Loc) = locs at S ⊢
  unfold f_X10_even at h
  refine lv_iload_n C.1 C.2.1 dX10_even_0 rfl (lv_at hl 1 rfl) ?_
  obtain ⟨o1, e2, h⟩ := Option.bind_eq_some_iff.mp h
  refine r_si C S hl (k_X10_areBounds e2) b_sb_RX10_237 [.int v1] rfl [] rfl rfl (Nat.le_of_ble_eq_true rfl) ⟨Nat.le_of_ble_eq_true rfl, Nat.le_of_ble_eq_true rfl⟩ dX10_even_1 (fun H locs S => ?_)
  refine lv_if_eq (tgt := 17) C.1 C.2.1 dX10_even_4 (by decide) (fun q3 => ?_) (fun q3 => ?_)
  · replace h := (if_pos q3).symm.trans h
    refine lv_aload_n C.1 C.2.1 dX10_even_17 rfl (lv_at hl 0 rfl) ?_
    refine r_ldc C (-1000000001) b_cn_RX10_94 dX10_even_18 ?_
    obtain ⟨o4, e5, h⟩ := Option.bind_eq_some_iff.mp h
    refine r_vi C S hl o_0 cf_10 (k_X10_finding e5) b_vb_RX10_95 [.int (-1000000001)] rfl [] rfl rfl (Nat.le_of_ble_eq_true rfl) ⟨Nat.le_of_ble_eq_true rfl, Nat.le_of_ble_eq_true rfl⟩ dX10_even_20 (fun H locs S => ?_)
    have h9 := Option.some.inj h
    subst h9
    exact r_iret C S hr hlocks dX10_even_23
  · replace h := (if_neg q3).symm.trans h
    refine lv_iload_n C.1 C.2.1 dX10_even_7 rfl (lv_at hl 2 rfl) ?_
    refine lv_iconst (v := 0) C.1 C.2.1 dX10_even_8 (by decide) ?_
    refine lv_bipush (v := 50) C.1 C.2.1 dX10_even_9 (by decide) ?_
    obtain ⟨o6, e7, h⟩ := Option.bind_eq_some_iff.mp h
    refine r_si C S hl (k_X10_within e7) b_sb_RX10_90 [.int v2, .int 0, .int 50] rfl [] rfl rfl (Nat.le_of_ble_eq_true rfl) ⟨Nat.le_of_ble_eq_true rfl, Nat.le_of_ble_eq_true rfl⟩ dX10_even_11 (fun H locs S => ?_)
    refine lv_if_ne (tgt := 24) C.1 C.2.1 dX10_even_14 (by decide) (fun q8 => ?_) (fun q8 => ?_)
    · replace h := (if_neg q8).symm.trans h
      refine lv_aload_n C.1 C.2.1 dX10_even_24 rfl (lv_at hl 0 rfl) ?_
      refine r_getr C S o_0 cf_10 10 rfl (by decide) b_fl_RX10_66 dX10_even_25 ?_
      refine lv_aload_n C.1 C.2.1 dX10_even_28 rfl (lv_at hl 0 rfl) ?_
      refine r_getr C S o_0 cf_10 3 rfl (by decide) b_fl_RX10_27 dX10_even_29 ?_
      obtain ⟨o9, e10, h⟩ := Option.bind_eq_some_iff.mp h
      refine r_vv C S hl o_13 cf_2 (k_X2_begin e10) b_vb_RX10_187 [.ref (ad 3)] rfl [] rfl rfl (Nat.le_of_ble_eq_true rfl) ⟨Nat.le_of_ble_eq_true rfl, Nat.le_of_ble_eq_true rfl⟩ dX10_even_32 (fun H locs S => ?_)
      refine lv_aload_n C.1 C.2.1 dX10_even_35 rfl (lv_at hl 0 rfl) ?_
      refine r_getr C S o_0 cf_10 10 rfl (by decide) b_fl_RX10_66 dX10_even_36 ?_
      refine lv_iload_n C.1 C.2.1 dX10_even_39 rfl (lv_at hl 2 rfl) ?_
      obtain ⟨o11, e12, h⟩ := Option.bind_eq_some_iff.mp h
      refine r_vi C S hl o_13 cf_2 (k_X2_go e12) b_vb_RX10_244 [.int v2] rfl [] rfl rfl (Nat.le_of_ble_eq_true rfl) ⟨Nat.le_of_ble_eq_true rfl, Nat.le_of_ble_eq_true rfl⟩ dX10_even_40 (fun H locs S => ?_)
      refine lv_pop C.1 C.2.1 dX10_even_43 rfl ?_
      refine lv_iconst (v := 0) C.1 C.2.1 dX10_even_44 (by decide) ?_
      refine lv_istore_n (lv' := [(3, .int 0), (0, .ref (ad 0)), (1, .int v1), (2, .int v2)]) C.1 C.2.1 dX10_even_45 rfl hl (by decide) rfl (fun ls hl => ?_)
      refine lv_iconst (v := 0) C.1 C.2.1 dX10_even_46 (by decide) ?_
      refine lv_istore (lv' := [(4, .int 0), (3, .int 0), (0, .ref (ad 0)), (1, .int v1), (2, .int v2)]) C.1 C.2.1 dX10_even_47 hl (by decide) rfl (fun ls hl => ?_)
      obtain ⟨o18, e19, h⟩ := Option.bind_eq_some_iff.mp h
      refine k_X10_even_L49 C  FU _ _ e19 (fun ls H locs hl S => ?_) ls H locs (lv_sub hl [2, 3, 1, 0] rfl) S
      refine lv_iload_n C.1 C.2.1 dX10_even_91 rfl (lv_at hl 0 rfl) ?_
      have h9 := Option.some.inj h
      subst h9
      exact r_iret C S hr hlocks dX10_even_92
    · replace h := (if_pos q8).symm.trans h
      refine lv_aload_n C.1 C.2.1 dX10_even_17 rfl (lv_at hl 0 rfl) ?_
      refine r_ldc C (-1000000001) b_cn_RX10_94 dX10_even_18 ?_
      obtain ⟨o20, e21, h⟩ := Option.bind_eq_some_iff.mp h
      refine r_vi C S hl o_0 cf_10 (k_X10_finding e21) b_vb_RX10_95 [.int (-1000000001)] rfl [] rfl rfl (Nat.le_of_ble_eq_true rfl) ⟨Nat.le_of_ble_eq_true rfl, Nat.le_of_ble_eq_true rfl⟩ dX10_even_20 (fun H locs S => ?_)
      have h9 := Option.some.inj h
      subst h9
      exact r_iret C S hr hlocks dX10_even_23
set_option maxHeartbeats 4000000 in
set_option maxRecDepth 100000 in
theorem k_X10_foretold {v1 : Int32} {v2 : Int32}  {w : Wd} {rv : Int32 × Wd} (h : f_X10_foretold v1 v2 w = some rv) : CI yX10_foretold cX10_foretold 3 .int 4 91 (fun ad => [.ref (ad 0), .int v1, .int v2]) w rv.1 rv.2 := by
  refine CI.of (by decide) ?_
  intro l D ad sx ca p e s m below meth c C S hr hlocks
  have hl := lv_entry ([.ref (ad 0), .int v1, .int v2]) (n := 3) (Nat.le_of_ble_eq_true rfl)
  rw [lg_entry_eq]
  generalize (lg_sl ([.ref (ad 0), .int v1, .int v2]) ++ List.replicate (3 - (lg_sl ([.ref (ad 0), .int v1, .int v2])).length) Slot.unset).toArray = ls at hl ⊢
  have hl : lv_has ls 3 [(0, .ref (ad 0)), (1, .int v1), (2, .int v2)] := hl
  generalize ha9 : ([.ref (ad 0), .int v1, .int v2] : List Value).toArray = args at C ⊢
  generalize s.heap = H at S ⊢
  generalize ([] : List Loc) = locs at S ⊢
  unfold f_X10_foretold at h
  refine lv_aload_n C.1 C.2.1 dX10_foretold_0 rfl (lv_at hl 0 rfl) ?_
  refine r_getr C S o_0 cf_10 3 rfl (by decide) b_fl_RX10_27 dX10_foretold_1 ?_
  refine lv_iload_n C.1 C.2.1 dX10_foretold_4 rfl (lv_at hl 1 rfl) ?_
  obtain ⟨o1, e2, h⟩ := Option.bind_eq_some_iff.mp h
  refine r_vi C S hl o_3 cf_0 (k_X0_has e2) b_vb_RX10_110 [.int v1] rfl [] rfl rfl (Nat.le_of_ble_eq_true rfl) ⟨Nat.le_of_ble_eq_true rfl, Nat.le_of_ble_eq_true rfl⟩ dX10_foretold_5 (fun H locs S => ?_)
  refine lv_if_eq (tgt := 21) C.1 C.2.1 dX10_foretold_8 (by decide) (fun q3 => ?_) (fun q3 => ?_)
  · replace h := (if_pos q3).symm.trans h
    refine lv_aload_n C.1 C.2.1 dX10_foretold_21 rfl (lv_at hl 0 rfl) ?_
    refine r_ldc C (-1000000001) b_cn_RX10_94 dX10_foretold_22 ?_
    obtain ⟨o4, e5, h⟩ := Option.bind_eq_some_iff.mp h
    refine r_vi C S hl o_0 cf_10 (k_X10_finding e5) b_vb_RX10_95 [.int (-1000000001)] rfl [] rfl rfl (Nat.le_of_ble_eq_true rfl) ⟨Nat.le_of_ble_eq_true rfl, Nat.le_of_ble_eq_true rfl⟩ dX10_foretold_24 (fun H locs S => ?_)
    have h9 := Option.some.inj h
    subst h9
    exact r_iret C S hr hlocks dX10_foretold_27
  · replace h := (if_neg q3).symm.trans h
    refine lv_iload_n C.1 C.2.1 dX10_foretold_11 rfl (lv_at hl 2 rfl) ?_
    refine lv_iconst (v := 0) C.1 C.2.1 dX10_foretold_12 (by decide) ?_
    refine lv_bipush (v := 100) C.1 C.2.1 dX10_foretold_13 (by decide) ?_
    obtain ⟨o6, e7, h⟩ := Option.bind_eq_some_iff.mp h
    refine r_si C S hl (k_X10_within e7) b_sb_RX10_90 [.int v2, .int 0, .int 100] rfl [] rfl rfl (Nat.le_of_ble_eq_true rfl) ⟨Nat.le_of_ble_eq_true rfl, Nat.le_of_ble_eq_true rfl⟩ dX10_foretold_15 (fun H locs S => ?_)
    refine lv_if_ne (tgt := 28) C.1 C.2.1 dX10_foretold_18 (by decide) (fun q8 => ?_) (fun q8 => ?_)
    · replace h := (if_neg q8).symm.trans h
      refine lv_aload_n C.1 C.2.1 dX10_foretold_28 rfl (lv_at hl 0 rfl) ?_
      refine r_getr C S o_0 cf_10 10 rfl (by decide) b_fl_RX10_66 dX10_foretold_29 ?_
      refine lv_aload_n C.1 C.2.1 dX10_foretold_32 rfl (lv_at hl 0 rfl) ?_
      refine r_getr C S o_0 cf_10 3 rfl (by decide) b_fl_RX10_27 dX10_foretold_33 ?_
      obtain ⟨o9, e10, h⟩ := Option.bind_eq_some_iff.mp h
      refine r_vv C S hl o_13 cf_2 (k_X2_begin e10) b_vb_RX10_187 [.ref (ad 3)] rfl [] rfl rfl (Nat.le_of_ble_eq_true rfl) ⟨Nat.le_of_ble_eq_true rfl, Nat.le_of_ble_eq_true rfl⟩ dX10_foretold_36 (fun H locs S => ?_)
      refine lv_aload_n C.1 C.2.1 dX10_foretold_39 rfl (lv_at hl 0 rfl) ?_
      refine r_getr C S o_0 cf_10 10 rfl (by decide) b_fl_RX10_66 dX10_foretold_40 ?_
      refine lv_iload_n C.1 C.2.1 dX10_foretold_43 rfl (lv_at hl 2 rfl) ?_
      obtain ⟨o11, e12, h⟩ := Option.bind_eq_some_iff.mp h
      refine r_vi C S hl o_13 cf_2 (k_X2_go e12) b_vb_RX10_244 [.int v2] rfl [] rfl rfl (Nat.le_of_ble_eq_true rfl) ⟨Nat.le_of_ble_eq_true rfl, Nat.le_of_ble_eq_true rfl⟩ dX10_foretold_44 (fun H locs S => ?_)
      refine lv_pop C.1 C.2.1 dX10_foretold_47 rfl ?_
      refine lv_aload_n C.1 C.2.1 dX10_foretold_48 rfl (lv_at hl 0 rfl) ?_
      refine r_getr C S o_0 cf_10 10 rfl (by decide) b_fl_RX10_66 dX10_foretold_49 ?_
      refine r_getr C S o_13 cf_2 5 rfl (by decide) b_fl_RX10_247 dX10_foretold_52 ?_
      refine lv_iload_n C.1 C.2.1 dX10_foretold_55 rfl (lv_at hl 1 rfl) ?_
      obtain ⟨g13, h⟩ := gd_some h
      refine r_iald C S a_60 g13 dX10_foretold_56 ?_
      have h9 := Option.some.inj h
      subst h9
      exact r_iret C S hr hlocks dX10_foretold_57
    · replace h := (if_pos q8).symm.trans h
      refine lv_aload_n C.1 C.2.1 dX10_foretold_21 rfl (lv_at hl 0 rfl) ?_
      refine r_ldc C (-1000000001) b_cn_RX10_94 dX10_foretold_22 ?_
      obtain ⟨o14, e15, h⟩ := Option.bind_eq_some_iff.mp h
      refine r_vi C S hl o_0 cf_10 (k_X10_finding e15) b_vb_RX10_95 [.int (-1000000001)] rfl [] rfl rfl (Nat.le_of_ble_eq_true rfl) ⟨Nat.le_of_ble_eq_true rfl, Nat.le_of_ble_eq_true rfl⟩ dX10_foretold_24 (fun H locs S => ?_)
      have h9 := Option.some.inj h
      subst h9
      exact r_iret C S hr hlocks dX10_foretold_27
set_option maxHeartbeats 4000000 in
set_option maxRecDepth 100000 in
theorem k_X2_isAllEven_L2 {p : Program} {l : Launch} {e : Env} {s : State} {m : MethodId} {args : Array Value} {below : List Frame} {meth : Method} {c : Code} {D : va_G} {ad sx : Nat → Nat} {ca : Nat → ClassId} (C : Cx D ad sx ca p s m c args RX2 cX2_isAllEven 3) (hr : meth.sig.returnType = (some .boolean)) (hlocks : meth.locks = false) {rv : Int32} {w : Wd} {v1 : Int32}  : ∀ (n9 : Nat) (z : Int32) (o : (Int32) ⊕ (Int32)), lp (f_X2_isAllEven_L2 v1 w) n9 z = some o → ((∀ x, o = .inl x → ∀ (ls : Array Slot) (H : Heap) (locs : List Loc), lv_has ls 3 [] → St D ad ca s w H locs → W p l e (RM 1 21) s m args below meth c H locs 0 0 (MQ below (Qi D ad ca rv w) args s 0 0 (Aad ad)) (F0 m 31 ls [])) ∧ ∀ y, o = .inr y → y = rv) → (∀ (ls : Array Slot) (H : Heap) (locs : List Loc), lv_has ls 3 [(0, .ref (ad 13)), (1, .int v1), (2, .int z)] → St D ad ca s w H locs → W p l e (RM 1 21) s m args below meth c H locs 0 0 (MQ below (Qi D ad ca rv w) args s 0 0 (Aad ad)) (F0 m 2 ls [])) := by
  refine lp_W (HW := fun (z : Int32) => ∀ (ls : Array Slot) (H : Heap) (locs : List Loc), lv_has ls 3 [(0, .ref (ad 13)), (1, .int v1), (2, .int z)] → St D ad ca s w H locs → W p l e (RM 1 21) s m args below meth c H locs 0 0 (MQ below (Qi D ad ca rv w) args s 0 0 (Aad ad)) (F0 m 2 ls [])) (XW := fun (o : (Int32) ⊕ (Int32)) => (∀ x, o = .inl x → ∀ (ls : Array Slot) (H : Heap) (locs : List Loc), lv_has ls 3 [] → St D ad ca s w H locs → W p l e (RM 1 21) s m args below meth c H locs 0 0 (MQ below (Qi D ad ca rv w) args s 0 0 (Aad ad)) (F0 m 31 ls [])) ∧ ∀ y, o = .inr y → y = rv) ?_
  intro z x h hN hX ls H locs hl S
  unfold f_X2_isAllEven_L2 at h
  refine lv_iload_n C.1 C.2.1 dX2_isAllEven_2 rfl (lv_at hl 2 rfl) ?_
  refine lv_aload_n C.1 C.2.1 dX2_isAllEven_3 rfl (lv_at hl 0 rfl) ?_
  refine r_geti C S o_13 cf_2 0 rfl (by decide) b_fl_RX2_45 dX2_isAllEven_4 ?_
  refine lv_icmp_ge (tgt := 31) C.1 C.2.1 dX2_isAllEven_7 (by decide) (fun q1 => ?_) (fun q1 => ?_)
  · replace h := (if_pos q1).symm.trans h
    exact (hX _ (Option.some.inj h).symm).1 _ rfl _ _ _ (lv_sub hl [] rfl) S
  · replace h := (if_neg q1).symm.trans h
    refine lv_aload_n C.1 C.2.1 dX2_isAllEven_10 rfl (lv_at hl 0 rfl) ?_
    refine r_getr C S o_13 cf_2 5 rfl (by decide) b_fl_RX2_15 dX2_isAllEven_11 ?_
    refine lv_iload_n C.1 C.2.1 dX2_isAllEven_14 rfl (lv_at hl 2 rfl) ?_
    obtain ⟨g2, h⟩ := gd_some h
    refine r_iald C S a_60 g2 dX2_isAllEven_15 ?_
    refine lv_iload_n C.1 C.2.1 dX2_isAllEven_16 rfl (lv_at hl 1 rfl) ?_
    obtain ⟨o3, e4, h⟩ := Option.bind_eq_some_iff.mp h
    refine r_ni C S hl (k_X10_feeling e4) b_nb_RX2_107 [.int (w.1 60 z.toNatClampNeg), .int v1] rfl [] rfl rfl (Nat.le_of_ble_eq_true rfl) ⟨Nat.le_of_ble_eq_true rfl, Nat.le_of_ble_eq_true rfl⟩ dX2_isAllEven_17 (fun H locs S => ?_)
    refine lv_if_eq (tgt := 25) C.1 C.2.1 dX2_isAllEven_20 (by decide) (fun q5 => ?_) (fun q5 => ?_)
    · replace h := (if_pos q5).symm.trans h
      refine lv_iinc (v := z + 1) (lv' := [(2, .int (z + 1)), (0, .ref (ad 13)), (1, .int v1)]) C.1 C.2.1 dX2_isAllEven_25 hl (k := 2) rfl rfl (by decide) rfl (fun ls hl => ?_)
      refine lv_goto (tgt := 2) C.1 C.2.1 dX2_isAllEven_28 (by decide) ?_
      exact hN _ (Option.some.inj h).symm _ _ _ (lv_sub hl [1, 2, 0] rfl) S
    · replace h := (if_neg q5).symm.trans h
      refine lv_iconst (v := 0) C.1 C.2.1 dX2_isAllEven_23 (by decide) ?_
      have h9 := (hX _ (Option.some.inj h).symm).2 _ rfl
      subst h9
      exact r_zret C S hr hlocks (Or.inl rfl) dX2_isAllEven_24
set_option maxHeartbeats 4000000 in
set_option maxRecDepth 100000 in
theorem k_X2_isAllEven {v1 : Int32}  {w : Wd} {rv : Int32} (h : f_X2_isAllEven v1 w = some rv) : CI yX2_isAllEven cX2_isAllEven 3 .boolean 1 21 (fun ad => [.ref (ad 13), .int v1]) w rv w := by
  refine CI.of (by decide) ?_
  intro l D ad sx ca p e s m below meth c C S hr hlocks
  have hl := lv_entry ([.ref (ad 13), .int v1]) (n := 3) (Nat.le_of_ble_eq_true rfl)
  rw [lg_entry_eq]
  generalize (lg_sl ([.ref (ad 13), .int v1]) ++ List.replicate (3 - (lg_sl ([.ref (ad 13), .int v1])).length) Slot.unset).toArray = ls at hl ⊢
  have hl : lv_has ls 3 [(0, .ref (ad 13)), (1, .int v1)] := hl
  generalize ha9 : ([.ref (ad 13), .int v1] : List Value).toArray = args at C ⊢
  generalize s.heap = H at S ⊢
  generalize ([] : List Loc) = locs at S ⊢
  unfold f_X2_isAllEven at h
  refine lv_iconst (v := 0) C.1 C.2.1 dX2_isAllEven_0 (by decide) ?_
  refine lv_istore_n (lv' := [(2, .int 0), (0, .ref (ad 13)), (1, .int v1)]) C.1 C.2.1 dX2_isAllEven_1 rfl hl (by decide) rfl (fun ls hl => ?_)
  obtain ⟨o6, e7, h⟩ := Option.bind_eq_some_iff.mp h
  refine k_X2_isAllEven_L2 C hr hlocks  FU _ _ e7 ⟨fun x8 hx ls H locs hl S => ?_, fun y9 hy => ?_⟩ ls H locs (lv_sub hl [1, 2, 0] rfl) S
  · subst hx
    rw [sm_inl] at h
    refine lv_iconst (v := 1) C.1 C.2.1 dX2_isAllEven_31 (by decide) ?_
    have h9 := Option.some.inj h
    subst h9
    exact r_zret C S hr hlocks (Or.inr rfl) dX2_isAllEven_32
  · subst hy
    rw [sm_inr] at h
    exact Option.some.inj h

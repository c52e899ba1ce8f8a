set_option maxHeartbeats 4000000 in
set_option maxRecDepth 100000 in
theorem k_X10_undo   {w : Wd} {rv : Int32 × Wd} (h : f_X10_undo w = some rv) : CI yX10_undo cX10_undo 1 .int 4 88 (fun ad => [.ref (ad 0)]) w rv.1 rv.2 := by
  refine CI.of (by decide) ?_
  intro l D ad sx ca p e s m below meth c C S hr hlocks
  have hl := lv_entry ([.ref (ad 0)]) (n := 1) (Nat.le_of_ble_eq_true rfl)
  rw [lg_entry_eq]
  generalize (lg_sl ([.ref (ad 0)]) ++ List.replicate (1 - (lg_sl ([.ref (ad 0)])).length) Slot.unset).toArray = ls at hl ⊢
  have hl : lv_has ls 1 [(0, .ref (ad 0))] := hl
  generalize ha9 : ([.ref (ad 0)] : List Value).toArray = args at C ⊢
  generalize s.heap = H at S ⊢
  generalize ([] : List Loc) = locs at S ⊢
  unfold f_X10_undo at h
  refine lv_aload_n C.1 C.2.1 dX10_undo_0 rfl (lv_at hl 0 rfl) ?_
  refine r_geti C S o_0 cf_10 2 rfl (by decide) b_fl_RX10_19 dX10_undo_1 ?_
  refine lv_if_ne (tgt := 14) C.1 C.2.1 dX10_undo_4 (by decide) (fun q1 => ?_) (fun q1 => ?_)
  · replace h := (if_neg q1).symm.trans h
    refine lv_aload_n C.1 C.2.1 dX10_undo_14 rfl (lv_at hl 0 rfl) ?_
    refine r_getr C S o_0 cf_10 0 rfl (by decide) b_fl_RX10_10 dX10_undo_15 ?_
    refine lv_aload_n C.1 C.2.1 dX10_undo_18 rfl (lv_at hl 0 rfl) ?_
    refine r_getr C S o_0 cf_10 1 rfl (by decide) b_fl_RX10_16 dX10_undo_19 ?_
    obtain ⟨o2, e3, h⟩ := Option.bind_eq_some_iff.mp h
    refine r_vv C S hl o_1 cf_8 (k_X8_become pSta_1 pSta_2 e3) b_vb_RX10_317 [.ref (ad 2)] rfl [] rfl rfl (Nat.le_of_ble_eq_true rfl) ⟨Nat.le_of_ble_eq_true rfl, Nat.le_of_ble_eq_true rfl⟩ dX10_undo_22 (fun H locs S => ?_)
    refine lv_aload_n C.1 C.2.1 dX10_undo_25 rfl (lv_at hl 0 rfl) ?_
    refine r_getr C S o_0 cf_10 3 rfl (by decide) b_fl_RX10_27 dX10_undo_26 ?_
    refine r_geti C S o_3 cf_0 3 rfl (by decide) b_fl_RX10_184 dX10_undo_29 ?_
    have h9 := Option.some.inj h
    subst h9
    exact r_iret C S hr hlocks dX10_undo_32
  · replace h := (if_pos q1).symm.trans h
    refine lv_aload_n C.1 C.2.1 dX10_undo_7 rfl (lv_at hl 0 rfl) ?_
    refine r_ldc C (-1000000004) b_cn_RX10_224 dX10_undo_8 ?_
    obtain ⟨o4, e5, h⟩ := Option.bind_eq_some_iff.mp h
    refine r_vi C S hl o_0 cf_10 (k_X10_finding e5) b_vb_RX10_95 [.int (-1000000004)] rfl [] rfl rfl (Nat.le_of_ble_eq_true rfl) ⟨Nat.le_of_ble_eq_true rfl, Nat.le_of_ble_eq_true rfl⟩ dX10_undo_10 (fun H locs S => ?_)
    have h9 := Option.some.inj h
    subst h9
    exact r_iret C S hr hlocks dX10_undo_13
set_option maxHeartbeats 4000000 in
set_option maxRecDepth 100000 in
theorem k_X10_tear   {w : Wd} {rv : Int32 × Wd} (h : f_X10_tear w = some rv) : CI yX10_tear cX10_tear 2 .int 1 20 (fun ad => [.ref (ad 0)]) w rv.1 rv.2 := by
  refine CI.of (by decide) ?_
  intro l D ad sx ca p e s m below meth c C S hr hlocks
  have hl := lv_entry ([.ref (ad 0)]) (n := 2) (Nat.le_of_ble_eq_true rfl)
  rw [lg_entry_eq]
  generalize (lg_sl ([.ref (ad 0)]) ++ List.replicate (2 - (lg_sl ([.ref (ad 0)])).length) Slot.unset).toArray = ls at hl ⊢
  have hl : lv_has ls 2 [(0, .ref (ad 0))] := hl
  generalize ha9 : ([.ref (ad 0)] : List Value).toArray = args at C ⊢
  generalize s.heap = H at S ⊢
  generalize ([] : List Loc) = locs at S ⊢
  unfold f_X10_tear at h
  refine lv_aload_n C.1 C.2.1 dX10_tear_0 rfl (lv_at hl 0 rfl) ?_
  refine r_geti C S o_0 cf_10 2 rfl (by decide) b_fl_RX10_19 dX10_tear_1 ?_
  obtain ⟨o1, e2, h⟩ := Option.bind_eq_some_iff.mp h
  refine r_si C S hl (k_X10_bit e2) b_sb_RX10_138 [.int (w.1 0 2)] rfl [] rfl rfl (Nat.le_of_ble_eq_true rfl) ⟨Nat.le_of_ble_eq_true rfl, Nat.le_of_ble_eq_true rfl⟩ dX10_tear_4 (fun H locs S => ?_)
  refine lv_istore_n (lv' := [(1, .int o1), (0, .ref (ad 0))]) C.1 C.2.1 dX10_tear_7 rfl hl (by decide) rfl (fun ls hl => ?_)
  refine lv_aload_n C.1 C.2.1 dX10_tear_8 rfl (lv_at hl 1 rfl) ?_
  refine lv_iconst (v := 0) C.1 C.2.1 dX10_tear_9 (by decide) ?_
  refine r_put C S o_0 cf_10 2 rfl (by decide) rfl (zo_nar (by decide)) b_fl_RX10_19 dX10_tear_10 (fun H locs S => ?_)
  obtain ⟨w3, h, S⟩ := lw_S (P := fun y => St D ad ca s y H locs) h S
  refine lv_iload_n C.1 C.2.1 dX10_tear_13 rfl (lv_at hl 0 rfl) ?_
  have h9 := Option.some.inj h
  subst h9
  exact r_iret C S hr hlocks dX10_tear_14
set_option maxHeartbeats 4000000 in
set_option maxRecDepth 100000 in
theorem k_X0_heldOfAll_L4 {p : Program} {l : Launch} {e : Env} {s : State} {m : MethodId} {args : Array Value} {below : List Frame} {meth : Method} {c : Code} {D : va_G} {ad sx : Nat → Nat} {ca : Nat → ClassId} (C : Cx D ad sx ca p s m c args RX0 cX0_heldOfAll 3) {Q : State → Prop} {w : Wd}   : ∀ (n9 : Nat) (z : Int32 × Int32) (o : Int32 × Int32), lp (f_X0_heldOfAll_L4 w) n9 z = some o → (∀ (ls : Array Slot) (H : Heap) (locs : List Loc), lv_has ls 3 [(1, .int o.1)] → St D ad ca s w H locs → W p l e (RM 1 20) s m args below meth c H locs 0 0 Q (F0 m 33 ls [])) → (∀ (ls : Array Slot) (H : Heap) (locs : List Loc), lv_has ls 3 [(0, .ref (ad 3)), (1, .int z.1), (2, .int z.2)] → St D ad ca s w H locs → W p l e (RM 1 20) s m args below meth c H locs 0 0 Q (F0 m 4 ls [])) := by
  refine lp_W (HW := fun (z : Int32 × Int32) => ∀ (ls : Array Slot) (H : Heap) (locs : List Loc), lv_has ls 3 [(0, .ref (ad 3)), (1, .int z.1), (2, .int z.2)] → St D ad ca s w H locs → W p l e (RM 1 20) s m args below meth c H locs 0 0 Q (F0 m 4 ls [])) (XW := fun (o : Int32 × Int32) => ∀ (ls : Array Slot) (H : Heap) (locs : List Loc), lv_has ls 3 [(1, .int o.1)] → St D ad ca s w H locs → W p l e (RM 1 20) s m args below meth c H locs 0 0 Q (F0 m 33 ls [])) ?_
  intro z x h hN hX ls H locs hl S
  unfold f_X0_heldOfAll_L4 at h
  refine lv_iload_n C.1 C.2.1 dX0_heldOfAll_4 rfl (lv_at hl 2 rfl) ?_
  refine lv_aload_n C.1 C.2.1 dX0_heldOfAll_5 rfl (lv_at hl 0 rfl) ?_
  refine r_geti C S o_3 cf_0 1 rfl (by decide) b_fl_RX0_17 dX0_heldOfAll_6 ?_
  refine lv_icmp_ge (tgt := 33) C.1 C.2.1 dX0_heldOfAll_9 (by decide) (fun q1 => ?_) (fun q1 => ?_)
  · replace h := (if_pos q1).symm.trans h
    exact hX _ (Option.some.inj h).symm _ _ _ (lv_sub hl [1] rfl) S
  · replace h := (if_neg q1).symm.trans h
    refine lv_iload_n C.1 C.2.1 dX0_heldOfAll_12 rfl (lv_at hl 1 rfl) ?_
    refine lv_aload_n C.1 C.2.1 dX0_heldOfAll_13 rfl (lv_at hl 0 rfl) ?_
    refine r_getr C S o_3 cf_0 0 rfl (by decide) b_fl_RX0_11 dX0_heldOfAll_14 ?_
    refine lv_iload_n C.1 C.2.1 dX0_heldOfAll_17 rfl (lv_at hl 2 rfl) ?_
    obtain ⟨g2, h⟩ := gd_some h
    refine r_aald C S a_17 g2 dX0_heldOfAll_18 ?_
    refine r_geti C S (o_F1 (inB_lt g2)) cf_4 5 rfl (by decide) b_fl_RX0_104 dX0_heldOfAll_19 ?_
    obtain ⟨o3, e4, h⟩ := Option.bind_eq_some_iff.mp h
    refine r_ni C S hl (k_X10_bit e4) b_nb_RX0_108 [.int (w.1 (35 + z.2.toNatClampNeg) 5)] rfl [.int z.1] rfl rfl (Nat.le_of_ble_eq_true rfl) ⟨Nat.le_of_ble_eq_true rfl, Nat.le_of_ble_eq_true rfl⟩ dX0_heldOfAll_22 (fun H locs S => ?_)
    refine lv_iadd C.1 C.2.1 dX0_heldOfAll_25 ?_
    refine lv_istore_n (lv' := [(1, .int (z.1 + o3)), (0, .ref (ad 3)), (2, .int z.2)]) C.1 C.2.1 dX0_heldOfAll_26 rfl hl (by decide) rfl (fun ls hl => ?_)
    refine lv_iinc (v := z.2 + 1) (lv' := [(2, .int (z.2 + 1)), (1, .int (z.1 + o3)), (0, .ref (ad 3))]) C.1 C.2.1 dX0_heldOfAll_27 hl (k := 2) rfl rfl (by decide) rfl (fun ls hl => ?_)
    refine lv_goto (tgt := 4) C.1 C.2.1 dX0_heldOfAll_30 (by decide) ?_
    exact hN _ (Option.some.inj h).symm _ _ _ (lv_sub hl [2, 1, 0] rfl) S
set_option maxHeartbeats 4000000 in
set_option maxRecDepth 100000 in
theorem k_X0_heldOfAll   {w : Wd} {rv : Int32} (h : f_X0_heldOfAll w = some rv) : CI yX0_heldOfAll cX0_heldOfAll 3 .int 1 20 (fun ad => [.ref (ad 3)]) w rv w := by
  refine CI.of (by decide) ?_
  intro l D ad sx ca p e s m below meth c C S hr hlocks
  have hl := lv_entry ([.ref (ad 3)]) (n := 3) (Nat.le_of_ble_eq_true rfl)
  rw [lg_entry_eq]
  generalize (lg_sl ([.ref (ad 3)]) ++ List.replicate (3 - (lg_sl ([.ref (ad 3)])).length) Slot.unset).toArray = ls at hl ⊢
  have hl : lv_has ls 3 [(0, .ref (ad 3))] := hl
  generalize ha9 : ([.ref (ad 3)] : List Value).toArray = args at C ⊢
  generalize s.heap = H at S ⊢
  generalize ([] : List Loc) = locs at S ⊢
  unfold f_X0_heldOfAll at h
  refine lv_iconst (v := 0) C.1 C.2.1 dX0_heldOfAll_0 (by decide) ?_
  refine lv_istore_n (lv' := [(1, .int 0), (0, .ref (ad 3))]) C.1 C.2.1 dX0_heldOfAll_1 rfl hl (by decide) rfl (fun ls hl => ?_)
  refine lv_iconst (v := 0) C.1 C.2.1 dX0_heldOfAll_2 (by decide) ?_
  refine lv_istore_n (lv' := [(2, .int 0), (1, .int 0), (0, .ref (ad 3))]) C.1 C.2.1 dX0_heldOfAll_3 rfl hl (by decide) rfl (fun ls hl => ?_)
  obtain ⟨o5, e6, h⟩ := Option.bind_eq_some_iff.mp h
  refine k_X0_heldOfAll_L4 C  FU _ _ e6 (fun ls H locs hl S => ?_) ls H locs (lv_sub hl [2, 1, 0] rfl) S
  refine lv_iload_n C.1 C.2.1 dX0_heldOfAll_33 rfl (lv_at hl 0 rfl) ?_
  have h9 := Option.some.inj h
  subst h9
  exact r_iret C S hr hlocks dX0_heldOfAll_34
set_option maxHeartbeats 4000000 in
set_option maxRecDepth 100000 in
theorem k_X0_highestRiser_L4 {p : Program} {l : Launch} {e : Env} {s : State} {m : MethodId} {args : Array Value} {below : List Frame} {meth : Method} {c : Code} {D : va_G} {ad sx : Nat → Nat} {ca : Nat → ClassId} (C : Cx D ad sx ca p s m c args RX0 cX0_highestRiser 3) {Q : State → Prop} {w : Wd}   : ∀ (n9 : Nat) (z : Int32 × Int32) (o : Int32 × Int32), lp (f_X0_highestRiser_L4 w) n9 z = some o → (∀ (ls : Array Slot) (H : Heap) (locs : List Loc), lv_has ls 3 [(1, .int o.1)] → St D ad ca s w H locs → W p l e (RM 0 0) s m args below meth c H locs 0 0 Q (F0 m 32 ls [])) → (∀ (ls : Array Slot) (H : Heap) (locs : List Loc), lv_has ls 3 [(0, .ref (ad 3)), (1, .int z.1), (2, .int z.2)] → St D ad ca s w H locs → W p l e (RM 0 0) s m args below meth c H locs 0 0 Q (F0 m 4 ls [])) := by
  refine lp_W (HW := fun (z : Int32 × Int32) => ∀ (ls : Array Slot) (H : Heap) (locs : List Loc), lv_has ls 3 [(0, .ref (ad 3)), (1, .int z.1), (2, .int z.2)] → St D ad ca s w H locs → W p l e (RM 0 0) s m args below meth c H locs 0 0 Q (F0 m 4 ls [])) (XW := fun (o : Int32 × Int32) => ∀ (ls : Array Slot) (H : Heap) (locs : List Loc), lv_has ls 3 [(1, .int o.1)] → St D ad ca s w H locs → W p l e (RM 0 0) s m args below meth c H locs 0 0 Q (F0 m 32 ls [])) ?_
  intro z x h hN hX ls H locs hl S
  unfold f_X0_highestRiser_L4 at h
  refine lv_iload_n C.1 C.2.1 dX0_highestRiser_4 rfl (lv_at hl 2 rfl) ?_
  refine lv_iconst (v := 4) C.1 C.2.1 dX0_highestRiser_5 (by decide) ?_
  refine lv_icmp_ge (tgt := 32) C.1 C.2.1 dX0_highestRiser_6 (by decide) (fun q1 => ?_) (fun q1 => ?_)
  · replace h := (if_pos q1).symm.trans h
    exact hX _ (Option.some.inj h).symm _ _ _ (lv_sub hl [1] rfl) S
  · replace h := (if_neg q1).symm.trans h
    refine lv_aload_n C.1 C.2.1 dX0_highestRiser_9 rfl (lv_at hl 0 rfl) ?_
    refine r_getr C S o_3 cf_0 2 rfl (by decide) b_fl_RX0_21 dX0_highestRiser_10 ?_
    refine lv_iload_n C.1 C.2.1 dX0_highestRiser_13 rfl (lv_at hl 2 rfl) ?_
    obtain ⟨g2, h⟩ := gd_some h
    refine r_iald C S a_19 g2 dX0_highestRiser_14 ?_
    refine lv_aload_n C.1 C.2.1 dX0_highestRiser_15 rfl (lv_at hl 0 rfl) ?_
    refine r_getr C S o_3 cf_0 2 rfl (by decide) b_fl_RX0_21 dX0_highestRiser_16 ?_
    refine lv_iload_n C.1 C.2.1 dX0_highestRiser_19 rfl (lv_at hl 1 rfl) ?_
    obtain ⟨g3, h⟩ := gd_some h
    refine r_iald C S a_19 g3 dX0_highestRiser_20 ?_
    refine lv_icmp_le (tgt := 26) C.1 C.2.1 dX0_highestRiser_21 (by decide) (fun q4 => ?_) (fun q4 => ?_)
    · replace h := (if_pos q4).symm.trans h
      refine lv_iinc (v := z.2 + 1) (lv' := [(2, .int (z.2 + 1)), (0, .ref (ad 3)), (1, .int z.1)]) C.1 C.2.1 dX0_highestRiser_26 hl (k := 2) rfl rfl (by decide) rfl (fun ls hl => ?_)
      refine lv_goto (tgt := 4) C.1 C.2.1 dX0_highestRiser_29 (by decide) ?_
      exact hN _ (Option.some.inj h).symm _ _ _ (lv_sub hl [1, 2, 0] rfl) S
    · replace h := (if_neg q4).symm.trans h
      refine lv_iload_n C.1 C.2.1 dX0_highestRiser_24 rfl (lv_at hl 2 rfl) ?_
      refine lv_istore_n (lv' := [(1, .int z.2), (0, .ref (ad 3)), (2, .int z.2)]) C.1 C.2.1 dX0_highestRiser_25 rfl hl (by decide) rfl (fun ls hl => ?_)
      refine lv_iinc (v := z.2 + 1) (lv' := [(2, .int (z.2 + 1)), (1, .int z.2), (0, .ref (ad 3))]) C.1 C.2.1 dX0_highestRiser_26 hl (k := 2) rfl rfl (by decide) rfl (fun ls hl => ?_)
      refine lv_goto (tgt := 4) C.1 C.2.1 dX0_highestRiser_29 (by decide) ?_
      exact hN _ (Option.some.inj h).symm _ _ _ (lv_sub hl [2, 1, 0] rfl) S
set_option maxHeartbeats 4000000 in
set_option maxRecDepth 100000 in
theorem k_X0_highestRiser   {w : Wd} {rv : Int32} (h : f_X0_highestRiser w = some rv) : CI yX0_highestRiser cX0_highestRiser 3 .int 0 0 (fun ad => [.ref (ad 3)]) w rv w := by
  refine CI.of (by decide) ?_
  intro l D ad sx ca p e s m below meth c C S hr hlocks
  have hl := lv_entry ([.ref (ad 3)]) (n := 3) (Nat.le_of_ble_eq_true rfl)
  rw [lg_entry_eq]
  generalize (lg_sl ([.ref (ad 3)]) ++ List.replicate (3 - (lg_sl ([.ref (ad 3)])).length) Slot.unset).toArray = ls at hl ⊢
  have hl : lv_has ls 3 [(0, .ref (ad 3))] := hl
  generalize ha9 : ([.ref (ad 3)] : List Value).toArray = args at C ⊢
  generalize s.heap = H at S ⊢
  generalize ([] : List Loc) = locs at S ⊢
  unfold f_X0_highestRiser at h
  refine lv_iconst (v := 0) C.1 C.2.1 dX0_highestRiser_0 (by decide) ?_
  refine lv_istore_n (lv' := [(1, .int 0), (0, .ref (ad 3))]) C.1 C.2.1 dX0_highestRiser_1 rfl hl (by decide) rfl (fun ls hl => ?_)
  refine lv_iconst (v := 1) C.1 C.2.1 dX0_highestRiser_2 (by decide) ?_
  refine lv_istore_n (lv' := [(2, .int 1), (1, .int 0), (0, .ref (ad 3))]) C.1 C.2.1 dX0_highestRiser_3 rfl hl (by decide) rfl (fun ls hl => ?_)
  obtain ⟨o5, e6, h⟩ := Option.bind_eq_some_iff.mp h
  refine k_X0_highestRiser_L4 C  FU _ _ e6 (fun ls H locs hl S => ?_) ls H locs (lv_sub hl [2, 1, 0] rfl) S
  refine lv_iload_n C.1 C.2.1 dX0_highestRiser_32 rfl (lv_at hl 0 rfl) ?_
  have h9 := Option.some.inj h
  subst h9
  exact r_iret C S hr hlocks dX0_highestRiser_33
set_option maxHeartbeats 4000000 in
set_option maxRecDepth 100000 in
theorem k_X0_flowOfAll_L4 {p : Program} {l : Launch} {e : Env} {s : State} {m : MethodId} {args : Array Value} {below : List Frame} {meth : Method} {c : Code} {D : va_G} {ad sx : Nat → Nat} {ca : Nat → ClassId} (C : Cx D ad sx ca p s m c args RX0 cX0_flowOfAll 3) {Q : State → Prop} {w : Wd}   : ∀ (n9 : Nat) (z : Int32 × Int32) (o : Int32 × Int32), lp (f_X0_flowOfAll_L4 w) n9 z = some o → (∀ (ls : Array Slot) (H : Heap) (locs : List Loc), lv_has ls 3 [(1, .int o.1)] → St D ad ca s w H locs → W p l e (RM 4 90) s m args below meth c H locs 0 0 Q (F0 m 26 ls [])) → (∀ (ls : Array Slot) (H : Heap) (locs : List Loc), lv_has ls 3 [(0, .ref (ad 3)), (1, .int z.1), (2, .int z.2)] → St D ad ca s w H locs → W p l e (RM 4 90) s m args below meth c H locs 0 0 Q (F0 m 4 ls [])) := by
  refine lp_W (HW := fun (z : Int32 × Int32) => ∀ (ls : Array Slot) (H : Heap) (locs : List Loc), lv_has ls 3 [(0, .ref (ad 3)), (1, .int z.1), (2, .int z.2)] → St D ad ca s w H locs → W p l e (RM 4 90) s m args below meth c H locs 0 0 Q (F0 m 4 ls [])) (XW := fun (o : Int32 × Int32) => ∀ (ls : Array Slot) (H : Heap) (locs : List Loc), lv_has ls 3 [(1, .int o.1)] → St D ad ca s w H locs → W p l e (RM 4 90) s m args below meth c H locs 0 0 Q (F0 m 26 ls [])) ?_
  intro z x h hN hX ls H locs hl S
  unfold f_X0_flowOfAll_L4 at h
  refine lv_iload_n C.1 C.2.1 dX0_flowOfAll_4 rfl (lv_at hl 2 rfl) ?_
  refine lv_aload_n C.1 C.2.1 dX0_flowOfAll_5 rfl (lv_at hl 0 rfl) ?_
  refine r_geti C S o_3 cf_0 1 rfl (by decide) b_fl_RX0_17 dX0_flowOfAll_6 ?_
  refine lv_icmp_ge (tgt := 26) C.1 C.2.1 dX0_flowOfAll_9 (by decide) (fun q1 => ?_) (fun q1 => ?_)
  · replace h := (if_pos q1).symm.trans h
    exact hX _ (Option.some.inj h).symm _ _ _ (lv_sub hl [1] rfl) S
  · replace h := (if_neg q1).symm.trans h
    refine lv_iload_n C.1 C.2.1 dX0_flowOfAll_12 rfl (lv_at hl 1 rfl) ?_
    refine lv_aload_n C.1 C.2.1 dX0_flowOfAll_13 rfl (lv_at hl 0 rfl) ?_
    refine lv_iload_n C.1 C.2.1 dX0_flowOfAll_14 rfl (lv_at hl 2 rfl) ?_
    obtain ⟨o2, e3, h⟩ := Option.bind_eq_some_iff.mp h
    refine r_vi C S hl o_3 cf_0 (k_X0_flow e3) b_vb_RX0_112 [.int z.2] rfl [.int z.1] rfl rfl (Nat.le_of_ble_eq_true rfl) ⟨Nat.le_of_ble_eq_true rfl, Nat.le_of_ble_eq_true rfl⟩ dX0_flowOfAll_15 (fun H locs S => ?_)
    refine lv_iadd C.1 C.2.1 dX0_flowOfAll_18 ?_
    refine lv_istore_n (lv' := [(1, .int (z.1 + o2)), (0, .ref (ad 3)), (2, .int z.2)]) C.1 C.2.1 dX0_flowOfAll_19 rfl hl (by decide) rfl (fun ls hl => ?_)
    refine lv_iinc (v := z.2 + 1) (lv' := [(2, .int (z.2 + 1)), (1, .int (z.1 + o2)), (0, .ref (ad 3))]) C.1 C.2.1 dX0_flowOfAll_20 hl (k := 2) rfl rfl (by decide) rfl (fun ls hl => ?_)
    refine lv_goto (tgt := 4) C.1 C.2.1 dX0_flowOfAll_23 (by decide) ?_
    exact hN _ (Option.some.inj h).symm _ _ _ (lv_sub hl [2, 1, 0] rfl) S
set_option maxHeartbeats 4000000 in
set_option maxRecDepth 100000 in
theorem k_X0_flowOfAll   {w : Wd} {rv : Int32} (h : f_X0_flowOfAll w = some rv) : CI yX0_flowOfAll cX0_flowOfAll 3 .int 4 90 (fun ad => [.ref (ad 3)]) w rv w := by
  refine CI.of (by decide) ?_
  intro l D ad sx ca p e s m below meth c C S hr hlocks
  have hl := lv_entry ([.ref (ad 3)]) (n := 3) (Nat.le_of_ble_eq_true rfl)
  rw [lg_entry_eq]
  generalize (lg_sl ([.ref (ad 3)]) ++ List.replicate (3 - (lg_sl ([.ref (ad 3)])).length) Slot.unset).toArray = ls at hl ⊢
  have hl : lv_has ls 3 [(0, .ref (ad 3))] := hl
  generalize ha9 : ([.ref (ad 3)] : List Value).toArray = args at C ⊢
  generalize s.heap = H at S ⊢
  generalize ([] : List Loc) = locs at S ⊢
  unfold f_X0_flowOfAll at h
  refine lv_iconst (v := 0) C.1 C.2.1 dX0_flowOfAll_0 (by decide) ?_
  refine lv_istore_n (lv' := [(1, .int 0), (0, .ref (ad 3))]) C.1 C.2.1 dX0_flowOfAll_1 rfl hl (by decide) rfl (fun ls hl => ?_)
  refine lv_iconst (v := 0) C.1 C.2.1 dX0_flowOfAll_2 (by decide) ?_
  refine lv_istore_n (lv' := [(2, .int 0), (1, .int 0), (0, .ref (ad 3))]) C.1 C.2.1 dX0_flowOfAll_3 rfl hl (by decide) rfl (fun ls hl => ?_)
  obtain ⟨o4, e5, h⟩ := Option.bind_eq_some_iff.mp h
  refine k_X0_flowOfAll_L4 C  FU _ _ e5 (fun ls H locs hl S => ?_) ls H locs (lv_sub hl [2, 1, 0] rfl) S
  refine lv_iload_n C.1 C.2.1 dX0_flowOfAll_26 rfl (lv_at hl 0 rfl) ?_
  have h9 := Option.some.inj h
  subst h9
  exact r_iret C S hr hlocks dX0_flowOfAll_27
set_option maxHeartbeats 4000000 in
set_option maxRecDepth 100000 in
theorem k_X10_count {v1 : Int32}  {w : Wd} {rv : Int32 × Wd} (h : f_X10_count v1 w = some rv) : CI yX10_count cX10_count 2 .int 5 112 (fun ad => [.ref (ad 0), .int v1]) w rv.1 rv.2 := by
  refine CI.of (by decide) ?_
  intro l D ad sx ca p e s m below meth c C S hr hlocks
  have hl := lv_entry ([.ref (ad 0), .int v1]) (n := 2) (Nat.le_of_ble_eq_true rfl)
  rw [lg_entry_eq]
  generalize (lg_sl ([.ref (ad 0), .int v1]) ++ List.replicate (2 - (lg_sl ([.ref (ad 0), .int v1])).length) Slot.unset).toArray = ls at hl ⊢
  have hl : lv_has ls 2 [(0, .ref (ad 0)), (1, .int v1)] := hl
  generalize ha9 : ([.ref (ad 0), .int v1] : List Value).toArray = args at C ⊢
  generalize s.heap = H at S ⊢
  generalize ([] : List Loc) = locs at S ⊢
  unfold f_X10_count at h
  refine lv_iload_n C.1 C.2.1 dX10_count_0 rfl (lv_at hl 1 rfl) ?_
  by_cases q1 : v1 = 0
  · replace h := (if_pos q1).symm.trans h
    refine lv_tableIn (off := 51) (tgt := 52) C.1 C.2.1 dX10_count_1 (by rw [q1]; decide) (by rw [q1]; decide) (by rw [q1]; rfl) (by decide) ?_
    refine lv_aload_n C.1 C.2.1 dX10_count_52 rfl (lv_at hl 0 rfl) ?_
    refine r_getr C S o_0 cf_10 3 rfl (by decide) b_fl_RX10_27 dX10_count_53 ?_
    refine r_geti C S o_3 cf_0 3 rfl (by decide) b_fl_RX10_184 dX10_count_56 ?_
    have h9 := Option.some.inj h
    subst h9
    exact r_iret C S hr hlocks dX10_count_59
  · replace h := (if_neg q1).symm.trans h
    by_cases q2 : v1 = 1
    · replace h := (if_pos q2).symm.trans h
      refine lv_tableIn (off := 59) (tgt := 60) C.1 C.2.1 dX10_count_1 (by rw [q2]; decide) (by rw [q2]; decide) (by rw [q2]; rfl) (by decide) ?_
      refine lv_aload_n C.1 C.2.1 dX10_count_60 rfl (lv_at hl 0 rfl) ?_
      refine r_getr C S o_0 cf_10 3 rfl (by decide) b_fl_RX10_27 dX10_count_61 ?_
      refine r_geti C S o_3 cf_0 1 rfl (by decide) b_fl_RX10_99 dX10_count_64 ?_
      have h9 := Option.some.inj h
      subst h9
      exact r_iret C S hr hlocks dX10_count_67
    · replace h := (if_neg q2).symm.trans h
      by_cases q3 : v1 = 2
      · replace h := (if_pos q3).symm.trans h
        refine lv_tableIn (off := 67) (tgt := 68) C.1 C.2.1 dX10_count_1 (by rw [q3]; decide) (by rw [q3]; decide) (by rw [q3]; rfl) (by decide) ?_
        refine lv_aload_n C.1 C.2.1 dX10_count_68 rfl (lv_at hl 0 rfl) ?_
        refine r_getr C S o_0 cf_10 3 rfl (by decide) b_fl_RX10_27 dX10_count_69 ?_
        obtain ⟨o4, e5, h⟩ := Option.bind_eq_some_iff.mp h
        refine r_vi C S hl o_3 cf_0 (k_X0_heldOfAll e5) b_vb_RX10_320 [] rfl [] rfl rfl (Nat.le_of_ble_eq_true rfl) ⟨Nat.le_of_ble_eq_true rfl, Nat.le_of_ble_eq_true rfl⟩ dX10_count_72 (fun H locs S => ?_)
        have h9 := Option.some.inj h
        subst h9
        exact r_iret C S hr hlocks dX10_count_75
      · replace h := (if_neg q3).symm.trans h
        by_cases q6 : v1 = 3
        · replace h := (if_pos q6).symm.trans h
          refine lv_tableIn (off := 75) (tgt := 76) C.1 C.2.1 dX10_count_1 (by rw [q6]; decide) (by rw [q6]; decide) (by rw [q6]; rfl) (by decide) ?_
          refine lv_aload_n C.1 C.2.1 dX10_count_76 rfl (lv_at hl 0 rfl) ?_
          refine r_getr C S o_0 cf_10 4 rfl (by decide) b_fl_RX10_32 dX10_count_77 ?_
          refine r_geti C S o_8 cf_1 4 rfl (by decide) b_fl_RX10_258 dX10_count_80 ?_
          have h9 := Option.some.inj h
          subst h9
          exact r_iret C S hr hlocks dX10_count_83
        · replace h := (if_neg q6).symm.trans h
          by_cases q7 : v1 = 4
          · replace h := (if_pos q7).symm.trans h
            refine lv_tableIn (off := 83) (tgt := 84) C.1 C.2.1 dX10_count_1 (by rw [q7]; decide) (by rw [q7]; decide) (by rw [q7]; rfl) (by decide) ?_
            refine lv_aload_n C.1 C.2.1 dX10_count_84 rfl (lv_at hl 0 rfl) ?_
            refine r_getr C S o_0 cf_10 6 rfl (by decide) b_fl_RX10_41 dX10_count_85 ?_
            refine r_geti C S o_7 cf_9 1 rfl (by decide) b_fl_RX10_195 dX10_count_88 ?_
            have h9 := Option.some.inj h
            subst h9
            exact r_iret C S hr hlocks dX10_count_91
          · replace h := (if_neg q7).symm.trans h
            by_cases q8 : v1 = 5
            · replace h := (if_pos q8).symm.trans h
              refine lv_tableIn (off := 91) (tgt := 92) C.1 C.2.1 dX10_count_1 (by rw [q8]; decide) (by rw [q8]; decide) (by rw [q8]; rfl) (by decide) ?_
              refine lv_aload_n C.1 C.2.1 dX10_count_92 rfl (lv_at hl 0 rfl) ?_
              refine r_getr C S o_0 cf_10 3 rfl (by decide) b_fl_RX10_27 dX10_count_93 ?_
              obtain ⟨o9, e10, h⟩ := Option.bind_eq_some_iff.mp h
              refine r_vi C S hl o_3 cf_0 (k_X0_usedOfAll e10) b_vb_RX10_228 [] rfl [] rfl rfl (Nat.le_of_ble_eq_true rfl) ⟨Nat.le_of_ble_eq_true rfl, Nat.le_of_ble_eq_true rfl⟩ dX10_count_96 (fun H locs S => ?_)
              have h9 := Option.some.inj h
              subst h9
              exact r_iret C S hr hlocks dX10_count_99
            · replace h := (if_neg q8).symm.trans h
              by_cases q11 : v1 = 6
              · replace h := (if_pos q11).symm.trans h
                refine lv_tableIn (off := 99) (tgt := 100) C.1 C.2.1 dX10_count_1 (by rw [q11]; decide) (by rw [q11]; decide) (by rw [q11]; rfl) (by decide) ?_
                refine lv_aload_n C.1 C.2.1 dX10_count_100 rfl (lv_at hl 0 rfl) ?_
                refine r_getr C S o_0 cf_10 3 rfl (by decide) b_fl_RX10_27 dX10_count_101 ?_
                obtain ⟨o12, e13, h⟩ := Option.bind_eq_some_iff.mp h
                refine r_vi C S hl o_3 cf_0 (k_X0_takenOfAll e13) b_vb_RX10_231 [] rfl [] rfl rfl (Nat.le_of_ble_eq_true rfl) ⟨Nat.le_of_ble_eq_true rfl, Nat.le_of_ble_eq_true rfl⟩ dX10_count_104 (fun H locs S => ?_)
                have h9 := Option.some.inj h
                subst h9
                exact r_iret C S hr hlocks dX10_count_107
              · replace h := (if_neg q11).symm.trans h
                by_cases q14 : v1 = 7
                · replace h := (if_pos q14).symm.trans h
                  refine lv_tableIn (off := 107) (tgt := 108) C.1 C.2.1 dX10_count_1 (by rw [q14]; decide) (by rw [q14]; decide) (by rw [q14]; rfl) (by decide) ?_
                  refine lv_aload_n C.1 C.2.1 dX10_count_108 rfl (lv_at hl 0 rfl) ?_
                  refine r_getr C S o_0 cf_10 3 rfl (by decide) b_fl_RX10_27 dX10_count_109 ?_
                  obtain ⟨o15, e16, h⟩ := Option.bind_eq_some_iff.mp h
                  refine r_vi C S hl o_3 cf_0 (k_X0_highestRiser e16) b_vb_RX10_323 [] rfl [] rfl rfl (Nat.le_of_ble_eq_true rfl) ⟨Nat.le_of_ble_eq_true rfl, Nat.le_of_ble_eq_true rfl⟩ dX10_count_112 (fun H locs S => ?_)
                  have h9 := Option.some.inj h
                  subst h9
                  exact r_iret C S hr hlocks dX10_count_115
                · replace h := (if_neg q14).symm.trans h
                  by_cases q17 : v1 = 8
                  · replace h := (if_pos q17).symm.trans h
                    refine lv_tableIn (off := 115) (tgt := 116) C.1 C.2.1 dX10_count_1 (by rw [q17]; decide) (by rw [q17]; decide) (by rw [q17]; rfl) (by decide) ?_
                    refine lv_aload_n C.1 C.2.1 dX10_count_116 rfl (lv_at hl 0 rfl) ?_
                    refine r_getr C S o_0 cf_10 3 rfl (by decide) b_fl_RX10_27 dX10_count_117 ?_
                    obtain ⟨o18, e19, h⟩ := Option.bind_eq_some_iff.mp h
                    refine r_vi C S hl o_3 cf_0 (k_X0_flowOfAll e19) b_vb_RX10_326 [] rfl [] rfl rfl (Nat.le_of_ble_eq_true rfl) ⟨Nat.le_of_ble_eq_true rfl, Nat.le_of_ble_eq_true rfl⟩ dX10_count_120 (fun H locs S => ?_)
                    have h9 := Option.some.inj h
                    subst h9
                    exact r_iret C S hr hlocks dX10_count_123
                  · replace h := (if_neg q17).symm.trans h
                    have hb9 : (v1).toInt < 0 ∨ 8 < (v1).toInt := by
                      have zq1 := tb_ne q1
                      have zq2 := tb_ne q2
                      have zq3 := tb_ne q3
                      have zq6 := tb_ne q6
                      have zq7 := tb_ne q7
                      have zq8 := tb_ne q8
                      have zq11 := tb_ne q11
                      have zq14 := tb_ne q14
                      have zq17 := tb_ne q17
                      rw [show ((0 : Int32)).toInt = 0 from by decide] at zq1
                      rw [show ((1 : Int32)).toInt = 1 from by decide] at zq2
                      rw [show ((2 : Int32)).toInt = 2 from by decide] at zq3
                      rw [show ((3 : Int32)).toInt = 3 from by decide] at zq6
                      rw [show ((4 : Int32)).toInt = 4 from by decide] at zq7
                      rw [show ((5 : Int32)).toInt = 5 from by decide] at zq8
                      rw [show ((6 : Int32)).toInt = 6 from by decide] at zq11
                      rw [show ((7 : Int32)).toInt = 7 from by decide] at zq14
                      rw [show ((8 : Int32)).toInt = 8 from by decide] at zq17
                      omega
                    refine lv_tableOut (tgt := 124) C.1 C.2.1 dX10_count_1 hb9 (by decide) ?_
                    refine lv_aload_n C.1 C.2.1 dX10_count_124 rfl (lv_at hl 0 rfl) ?_
                    refine r_ldc C (-1000000001) b_cn_RX10_94 dX10_count_125 ?_
                    obtain ⟨o20, e21, h⟩ := Option.bind_eq_some_iff.mp h
                    refine r_vi C S hl o_0 cf_10 (k_X10_finding e21) b_vb_RX10_95 [.int (-1000000001)] rfl [] rfl rfl (Nat.le_of_ble_eq_true rfl) ⟨Nat.le_of_ble_eq_true rfl, Nat.le_of_ble_eq_true rfl⟩ dX10_count_127 (fun H locs S => ?_)
                    have h9 := Option.some.inj h
                    subst h9
                    exact r_iret C S hr hlocks dX10_count_130
set_option maxHeartbeats 4000000 in
set_option maxRecDepth 100000 in
theorem k_X10_status_L32 {p : Program} {l : Launch} {e : Env} {s : State} {m : MethodId} {args : Array Value} {below : List Frame} {meth : Method} {c : Code} {D : va_G} {ad sx : Nat → Nat} {ca : Nat → ClassId} (C : Cx D ad sx ca p s m c args RX10 cX10_status 4) {Q : State → Prop} {w : Wd}   : ∀ (n9 : Nat) (z : Int32 × Int32) (o : Int32 × Int32), lp (f_X10_status_L32 w) n9 z = some o → (∀ (ls : Array Slot) (H : Heap) (locs : List Loc), lv_has ls 4 [(2, .int o.1)] → St D ad ca s w H locs → W p l e (RM 2 44) s m args below meth c H locs 0 0 Q (F0 m 53 ls [])) → (∀ (ls : Array Slot) (H : Heap) (locs : List Loc), lv_has ls 4 [(0, .ref (ad 0)), (2, .int z.1), (3, .int z.2)] → St D ad ca s w H locs → W p l e (RM 2 44) s m args below meth c H locs 0 0 Q (F0 m 32 ls [])) := by
  refine lp_W (HW := fun (z : Int32 × Int32) => ∀ (ls : Array Slot) (H : Heap) (locs : List Loc), lv_has ls 4 [(0, .ref (ad 0)), (2, .int z.1), (3, .int z.2)] → St D ad ca s w H locs → W p l e (RM 2 44) s m args below meth c H locs 0 0 Q (F0 m 32 ls [])) (XW := fun (o : Int32 × Int32) => ∀ (ls : Array Slot) (H : Heap) (locs : List Loc), lv_has ls 4 [(2, .int o.1)] → St D ad ca s w H locs → W p l e (RM 2 44) s m args below meth c H locs 0 0 Q (F0 m 53 ls [])) ?_
  intro z x h hN hX ls H locs hl S
  unfold f_X10_status_L32 at h
  refine lv_iload_n C.1 C.2.1 dX10_status_32 rfl (lv_at hl 2 rfl) ?_
  refine lv_bipush (v := 7) C.1 C.2.1 dX10_status_33 (by decide) ?_
  refine lv_icmp_ge (tgt := 53) C.1 C.2.1 dX10_status_35 (by decide) (fun q5 => ?_) (fun q5 => ?_)
  · replace h := (if_pos q5).symm.trans h
    exact hX _ (Option.some.inj h).symm _ _ _ (lv_sub hl [1] rfl) S
  · replace h := (if_neg q5).symm.trans h
    refine lv_iload_n C.1 C.2.1 dX10_status_38 rfl (lv_at hl 1 rfl) ?_
    refine lv_aload_n C.1 C.2.1 dX10_status_39 rfl (lv_at hl 0 rfl) ?_
    refine r_getr C S o_0 cf_10 13 rfl (by decide) b_fl_RX10_86 dX10_status_40 ?_
    refine lv_iload_n C.1 C.2.1 dX10_status_43 rfl (lv_at hl 2 rfl) ?_
    obtain ⟨g6, h⟩ := gd_some h
    refine r_iald C S a_16 g6 dX10_status_44 ?_
    refine lv_iadd C.1 C.2.1 dX10_status_45 ?_
    refine lv_istore_n (lv' := [(2, .int (z.1 + (w.1 16 z.2.toNatClampNeg))), (0, .ref (ad 0)), (3, .int z.2)]) C.1 C.2.1 dX10_status_46 rfl hl (by decide) rfl (fun ls hl => ?_)
    refine lv_iinc (v := z.2 + 1) (lv' := [(3, .int (z.2 + 1)), (2, .int (z.1 + (w.1 16 z.2.toNatClampNeg))), (0, .ref (ad 0))]) C.1 C.2.1 dX10_status_47 hl (k := 2) rfl rfl (by decide) rfl (fun ls hl => ?_)
    refine lv_goto (tgt := 32) C.1 C.2.1 dX10_status_50 (by decide) ?_
    exact hN _ (Option.some.inj h).symm _ _ _ (lv_sub hl [2, 1, 0] rfl) S
set_option maxHeartbeats 4000000 in
set_option maxRecDepth 100000 in
theorem k_X10_status {v1 : Int32}  {w : Wd} {rv : Int32 × Wd} (h : f_X10_status v1 w = some rv) : CI yX10_status cX10_status 4 .int 2 44 (fun ad => [.ref (ad 0), .int v1]) w rv.1 rv.2 := by
  refine CI.of (by decide) ?_
  intro l D ad sx ca p e s m below meth c C S hr hlocks
  have hl := lv_entry ([.ref (ad 0), .int v1]) (n := 4) (Nat.le_of_ble_eq_true rfl)
  rw [lg_entry_eq]
  generalize (lg_sl ([.ref (ad 0), .int v1]) ++ List.replicate (4 - (lg_sl ([.ref (ad 0), .int v1])).length) Slot.unset).toArray = ls at hl ⊢
  have hl : lv_has ls 4 [(0, .ref (ad 0)), (1, .int v1)] := hl
  generalize ha9 : ([.ref (ad 0), .int v1] : List Value).toArray = args at C ⊢
  generalize s.heap = H at S ⊢
  generalize ([] : List Loc) = locs at S ⊢
  unfold f_X10_status at h
  refine lv_iload_n C.1 C.2.1 dX10_status_0 rfl (lv_at hl 1 rfl) ?_
  refine lv_iconst (v := (-1)) C.1 C.2.1 dX10_status_1 (by decide) ?_
  refine lv_bipush (v := 6) C.1 C.2.1 dX10_status_2 (by decide) ?_
  obtain ⟨o1, e2, h⟩ := Option.bind_eq_some_iff.mp h
  refine r_si C S hl (k_X10_within e2) b_sb_RX10_90 [.int v1, .int (-1), .int 6] rfl [] rfl rfl (Nat.le_of_ble_eq_true rfl) ⟨Nat.le_of_ble_eq_true rfl, Nat.le_of_ble_eq_true rfl⟩ dX10_status_4 (fun H locs S => ?_)
  refine lv_if_ne (tgt := 17) C.1 C.2.1 dX10_status_7 (by decide) (fun q3 => ?_) (fun q3 => ?_)
  · replace h := (if_neg q3).symm.trans h
    refine lv_iload_n C.1 C.2.1 dX10_status_17 rfl (lv_at hl 1 rfl) ?_
    refine lv_if_lt (tgt := 28) C.1 C.2.1 dX10_status_18 (by decide) (fun q4 => ?_) (fun q4 => ?_)
    · replace h := (if_pos q4).symm.trans h
      refine lv_iconst (v := 0) C.1 C.2.1 dX10_status_28 (by decide) ?_
      refine lv_istore_n (lv' := [(2, .int 0), (0, .ref (ad 0)), (1, .int v1)]) C.1 C.2.1 dX10_status_29 rfl hl (by decide) rfl (fun ls hl => ?_)
      refine lv_iconst (v := 0) C.1 C.2.1 dX10_status_30 (by decide) ?_
      refine lv_istore_n (lv' := [(3, .int 0), (2, .int 0), (0, .ref (ad 0)), (1, .int v1)]) C.1 C.2.1 dX10_status_31 rfl hl (by decide) rfl (fun ls hl => ?_)
      obtain ⟨o7, e8, h⟩ := Option.bind_eq_some_iff.mp h
      refine k_X10_status_L32 C  FU _ _ e8 (fun ls H locs hl S => ?_) ls H locs (lv_sub hl [2, 1, 0] rfl) S
      refine lv_iload_n C.1 C.2.1 dX10_status_53 rfl (lv_at hl 0 rfl) ?_
      have h9 := Option.some.inj h
      subst h9
      exact r_iret C S hr hlocks dX10_status_54
    · replace h := (if_neg q4).symm.trans h
      refine lv_aload_n C.1 C.2.1 dX10_status_21 rfl (lv_at hl 0 rfl) ?_
      refine r_getr C S o_0 cf_10 13 rfl (by decide) b_fl_RX10_86 dX10_status_22 ?_
      refine lv_iload_n C.1 C.2.1 dX10_status_25 rfl (lv_at hl 1 rfl) ?_
      obtain ⟨g9, h⟩ := gd_some h
      refine r_iald C S a_16 g9 dX10_status_26 ?_
      have h9 := Option.some.inj h
      subst h9
      exact r_iret C S hr hlocks dX10_status_27
  · replace h := (if_pos q3).symm.trans h
    refine lv_aload_n C.1 C.2.1 dX10_status_10 rfl (lv_at hl 0 rfl) ?_
    refine r_ldc C (-1000000001) b_cn_RX10_94 dX10_status_11 ?_
    obtain ⟨o10, e11, h⟩ := Option.bind_eq_some_iff.mp h
    refine r_vi C S hl o_0 cf_10 (k_X10_finding e11) b_vb_RX10_95 [.int (-1000000001)] rfl [] rfl rfl (Nat.le_of_ble_eq_true rfl) ⟨Nat.le_of_ble_eq_true rfl, Nat.le_of_ble_eq_true rfl⟩ dX10_status_13 (fun H locs S => ?_)
    have h9 := Option.some.inj h
    subst h9
    exact r_iret C S hr hlocks dX10_status_16
set_option maxHeartbeats 4000000 in
set_option maxRecDepth 100000 in
theorem k_X11_finds {v1 : Int32}  {w : Wd} {rv : Int32 × Wd} (h : f_X11_finds v1 w = some rv) : CI yX11_finds cX11_finds 2 .int 0 0 (fun ad => [.ref (ad 76), .int v1]) w rv.1 rv.2 := by
  refine CI.of (by decide) ?_
  intro l D ad sx ca p e s m below meth c C S hr hlocks
  have hl := lv_entry ([.ref (ad 76), .int v1]) (n := 2) (Nat.le_of_ble_eq_true rfl)
  rw [lg_entry_eq]
  generalize (lg_sl ([.ref (ad 76), .int v1]) ++ List.replicate (2 - (lg_sl ([.ref (ad 76), .int v1])).length) Slot.unset).toArray = ls at hl ⊢
  have hl : lv_has ls 2 [(0, .ref (ad 76)), (1, .int v1)] := hl
  generalize ha9 : ([.ref (ad 76), .int v1] : List Value).toArray = args at C ⊢
  generalize s.heap = H at S ⊢
  generalize ([] : List Loc) = locs at S ⊢
  unfold f_X11_finds at h
  refine lv_aload_n C.1 C.2.1 dX11_finds_0 rfl (lv_at hl 0 rfl) ?_
  refine r_getr C S o_76 cf_11 3 rfl (by decide) b_fl_RX11_16 dX11_finds_1 ?_
  refine r_ldc C (-1000000001) b_cn_RX11_92 dX11_finds_4 ?_
  refine lv_iload_n C.1 C.2.1 dX11_finds_6 rfl (lv_at hl 1 rfl) ?_
  refine lv_isub C.1 C.2.1 dX11_finds_7 ?_
  refine lv_dup2_11 C.1 C.2.1 dX11_finds_8 rfl rfl ?_
  obtain ⟨g1, h⟩ := gd_some h
  refine r_iald C S a_79 g1 dX11_finds_9 ?_
  refine lv_iconst (v := 1) C.1 C.2.1 dX11_finds_10 (by decide) ?_
  refine lv_iadd C.1 C.2.1 dX11_finds_11 ?_
  obtain ⟨g2, h⟩ := gd_some h
  refine r_iast C S a_79 g2 dX11_finds_12 (fun H locs S => ?_)
  obtain ⟨w3, h, S⟩ := lw_S (P := fun y => St D ad ca s y H locs) h S
  refine lv_aload_n C.1 C.2.1 dX11_finds_13 rfl (lv_at hl 0 rfl) ?_
  refine lv_dup C.1 C.2.1 dX11_finds_14 rfl ?_
  refine r_geti C S o_76 cf_11 4 rfl (by decide) b_fl_RX11_93 dX11_finds_15 ?_
  refine lv_iconst (v := 1) C.1 C.2.1 dX11_finds_18 (by decide) ?_
  refine lv_iadd C.1 C.2.1 dX11_finds_19 ?_
  refine r_put C S o_76 cf_11 4 rfl (by decide) rfl (ni _) b_fl_RX11_93 dX11_finds_20 (fun H locs S => ?_)
  obtain ⟨w4, h, S⟩ := lw_S (P := fun y => St D ad ca s y H locs) h S
  refine lv_iload_n C.1 C.2.1 dX11_finds_23 rfl (lv_at hl 1 rfl) ?_
  have h9 := Option.some.inj h
  subst h9
  exact r_iret C S hr hlocks dX11_finds_24
set_option maxHeartbeats 4000000 in
set_option maxRecDepth 100000 in
theorem k_X11_in {v0 : Int32} {v1 : Int32} {v2 : Int32}  {w : Wd} {rv : Int32} (h : f_X11_in v0 v1 v2 = some rv) : CI yX11_in cX11_in 3 .boolean 0 0 (fun ad => [.int v0, .int v1, .int v2]) w rv w := by
  refine CI.of (by decide) ?_
  intro l D ad sx ca p e s m below meth c C S hr hlocks
  have hl := lv_entry ([.int v0, .int v1, .int v2]) (n := 3) (Nat.le_of_ble_eq_true rfl)
  rw [lg_entry_eq]
  generalize (lg_sl ([.int v0, .int v1, .int v2]) ++ List.replicate (3 - (lg_sl ([.int v0, .int v1, .int v2])).length) Slot.unset).toArray = ls at hl ⊢
  have hl : lv_has ls 3 [(0, .int v0), (1, .int v1), (2, .int v2)] := hl
  generalize ha9 : ([.int v0, .int v1, .int v2] : List Value).toArray = args at C ⊢
  generalize s.heap = H at S ⊢
  generalize ([] : List Loc) = locs at S ⊢
  unfold f_X11_in at h
  refine lv_iload_n C.1 C.2.1 dX11_in_0 rfl (lv_at hl 0 rfl) ?_
  refine lv_iload_n C.1 C.2.1 dX11_in_1 rfl (lv_at hl 1 rfl) ?_
  refine lv_icmp_lt (tgt := 14) C.1 C.2.1 dX11_in_2 (by decide) (fun q1 => ?_) (fun q1 => ?_)
  · replace h := (if_pos q1).symm.trans h
    refine lv_iconst (v := 0) C.1 C.2.1 dX11_in_14 (by decide) ?_
    have h9 := Option.some.inj h
    subst h9
    exact r_zret C S hr hlocks (Or.inl rfl) dX11_in_15
  · replace h := (if_neg q1).symm.trans h
    refine lv_iload_n C.1 C.2.1 dX11_in_5 rfl (lv_at hl 0 rfl) ?_
    refine lv_iload_n C.1 C.2.1 dX11_in_6 rfl (lv_at hl 2 rfl) ?_
    refine lv_icmp_gt (tgt := 14) C.1 C.2.1 dX11_in_7 (by decide) (fun q2 => ?_) (fun q2 => ?_)
    · replace h := (if_pos q2).symm.trans h
      refine lv_iconst (v := 0) C.1 C.2.1 dX11_in_14 (by decide) ?_
      have h9 := Option.some.inj h
      subst h9
      exact r_zret C S hr hlocks (Or.inl rfl) dX11_in_15
    · replace h := (if_neg q2).symm.trans h
      refine lv_iconst (v := 1) C.1 C.2.1 dX11_in_10 (by decide) ?_
      refine lv_goto (tgt := 15) C.1 C.2.1 dX11_in_11 (by decide) ?_
      have h9 := Option.some.inj h
      subst h9
      exact r_zret C S hr hlocks (Or.inr rfl) dX11_in_15
set_option maxHeartbeats 4000000 in
set_option maxRecDepth 100000 in
theorem k_X11_within {v0 : Int32} {v1 : Int32} {v2 : Int32}  {w : Wd} {rv : Int32} (h : f_X11_within v0 v1 v2 = some rv) : CI yX11_within cX11_within 3 .int 0 0 (fun ad => [.int v0, .int v1, .int v2]) w rv w := by
  refine CI.of (by decide) ?_
  intro l D ad sx ca p e s m below meth c C S hr hlocks
  have hl := lv_entry ([.int v0, .int v1, .int v2]) (n := 3) (Nat.le_of_ble_eq_true rfl)
  rw [lg_entry_eq]
  generalize (lg_sl ([.int v0, .int v1, .int v2]) ++ List.replicate (3 - (lg_sl ([.int v0, .int v1, .int v2])).length) Slot.unset).toArray = ls at hl ⊢
  have hl : lv_has ls 3 [(0, .int v0), (1, .int v1), (2, .int v2)] := hl
  generalize ha9 : ([.int v0, .int v1, .int v2] : List Value).toArray = args at C ⊢
  generalize s.heap = H at S ⊢
  generalize ([] : List Loc) = locs at S ⊢
  unfold f_X11_within at h
  refine lv_iload_n C.1 C.2.1 dX11_within_0 rfl (lv_at hl 0 rfl) ?_
  refine lv_iload_n C.1 C.2.1 dX11_within_1 rfl (lv_at hl 1 rfl) ?_
  refine lv_icmp_ge (tgt := 9) C.1 C.2.1 dX11_within_2 (by decide) (fun q1 => ?_) (fun q1 => ?_)
  · replace h := (if_pos q1).symm.trans h
    refine lv_iload_n C.1 C.2.1 dX11_within_9 rfl (lv_at hl 0 rfl) ?_
    refine lv_iload_n C.1 C.2.1 dX11_within_10 rfl (lv_at hl 2 rfl) ?_
    refine lv_icmp_le (tgt := 18) C.1 C.2.1 dX11_within_11 (by decide) (fun q2 => ?_) (fun q2 => ?_)
    · replace h := (if_pos q2).symm.trans h
      refine lv_iload_n C.1 C.2.1 dX11_within_18 rfl (lv_at hl 0 rfl) ?_
      have h9 := Option.some.inj h
      subst h9
      exact r_iret C S hr hlocks dX11_within_19
    · replace h := (if_neg q2).symm.trans h
      refine lv_iload_n C.1 C.2.1 dX11_within_14 rfl (lv_at hl 2 rfl) ?_
      refine lv_goto (tgt := 19) C.1 C.2.1 dX11_within_15 (by decide) ?_
      have h9 := Option.some.inj h
      subst h9
      exact r_iret C S hr hlocks dX11_within_19
  · replace h := (if_neg q1).symm.trans h
    refine lv_iload_n C.1 C.2.1 dX11_within_5 rfl (lv_at hl 1 rfl) ?_
    refine lv_goto (tgt := 19) C.1 C.2.1 dX11_within_6 (by decide) ?_
    have h9 := Option.some.inj h
    subst h9
    exact r_iret C S hr hlocks dX11_within_19
set_option maxHeartbeats 4000000 in
set_option maxRecDepth 100000 in
theorem k_X11_isFlat {v1 : Int32}  {w : Wd} {rv : Int32} (h : f_X11_isFlat v1 w = some rv) : CI yX11_isFlat cX11_isFlat 2 .boolean 1 22 (fun ad => [.ref (ad 76), .int v1]) w rv w := by
  refine CI.of (by decide) ?_
  intro l D ad sx ca p e s m below meth c C S hr hlocks
  have hl := lv_entry ([.ref (ad 76), .int v1]) (n := 2) (Nat.le_of_ble_eq_true rfl)
  rw [lg_entry_eq]
  generalize (lg_sl ([.ref (ad 76), .int v1]) ++ List.replicate (2 - (lg_sl ([.ref (ad 76), .int v1])).length) Slot.unset).toArray = ls at hl ⊢
  have hl : lv_has ls 2 [(0, .ref (ad 76)), (1, .int v1)] := hl
  generalize ha9 : ([.ref (ad 76), .int v1] : List Value).toArray = args at C ⊢
  generalize s.heap = H at S ⊢
  generalize ([] : List Loc) = locs at S ⊢
  unfold f_X11_isFlat at h
  refine lv_iload_n C.1 C.2.1 dX11_isFlat_0 rfl (lv_at hl 1 rfl) ?_
  refine lv_iconst (v := 0) C.1 C.2.1 dX11_isFlat_1 (by decide) ?_
  refine lv_aload_n C.1 C.2.1 dX11_isFlat_2 rfl (lv_at hl 0 rfl) ?_
  refine r_getr C S o_76 cf_11 0 rfl (by decide) b_fl_RX11_9 dX11_isFlat_3 ?_
  refine lv_iconst (v := 4) C.1 C.2.1 dX11_isFlat_6 (by decide) ?_
  refine r_ialdn (j := 4) C S a_77 (by decide) (by decide) dX11_isFlat_7 ?_
  refine lv_iconst (v := 1) C.1 C.2.1 dX11_isFlat_8 (by decide) ?_
  refine lv_isub C.1 C.2.1 dX11_isFlat_9 ?_
  obtain ⟨o1, e2, h⟩ := Option.bind_eq_some_iff.mp h
  refine r_si C S hl (k_X11_in e2) b_sb_RX11_97 [.int v1, .int 0, .int ((w.1 77 4) - 1)] rfl [] rfl rfl (Nat.le_of_ble_eq_true rfl) ⟨Nat.le_of_ble_eq_true rfl, Nat.le_of_ble_eq_true rfl⟩ dX11_isFlat_10 (fun H locs S => ?_)
  obtain ⟨g3, h⟩ := gd_some h
  have h9 := Option.some.inj h
  subst h9
  exact r_zret C S hr hlocks (zo_or g3) dX11_isFlat_13
set_option maxHeartbeats 4000000 in
set_option maxRecDepth 100000 in
theorem k_X11_get {v1 : Int32} {v2 : Int32}  {w : Wd} {rv : Int32} (h : f_X11_get v1 v2 w = some rv) : CI yX11_get cX11_get 3 .int 0 0 (fun ad => [.ref (ad 76), .int v1, .int v2]) w rv w := by
  refine CI.of (by decide) ?_
  intro l D ad sx ca p e s m below meth c C S hr hlocks
  have hl := lv_entry ([.ref (ad 76), .int v1, .int v2]) (n := 3) (Nat.le_of_ble_eq_true rfl)
  rw [lg_entry_eq]
  generalize (lg_sl ([.ref (ad 76), .int v1, .int v2]) ++ List.replicate (3 - (lg_sl ([.ref (ad 76), .int v1, .int v2])).length) Slot.unset).toArray = ls at hl ⊢
  have hl : lv_has ls 3 [(0, .ref (ad 76)), (1, .int v1), (2, .int v2)] := hl
  generalize ha9 : ([.ref (ad 76), .int v1, .int v2] : List Value).toArray = args at C ⊢
  generalize s.heap = H at S ⊢
  generalize ([] : List Loc) = locs at S ⊢
  unfold f_X11_get at h
  refine lv_aload_n C.1 C.2.1 dX11_get_0 rfl (lv_at hl 0 rfl) ?_
  refine r_getr C S o_76 cf_11 0 rfl (by decide) b_fl_RX11_9 dX11_get_1 ?_
  refine lv_bipush (v := 7) C.1 C.2.1 dX11_get_4 (by decide) ?_
  refine lv_bipush (v := 11) C.1 C.2.1 dX11_get_6 (by decide) ?_
  refine lv_iload_n C.1 C.2.1 dX11_get_8 rfl (lv_at hl 1 rfl) ?_
  refine lv_imul C.1 C.2.1 dX11_get_9 ?_
  refine lv_iadd C.1 C.2.1 dX11_get_10 ?_
  refine lv_iload_n C.1 C.2.1 dX11_get_11 rfl (lv_at hl 2 rfl) ?_
  refine lv_iadd C.1 C.2.1 dX11_get_12 ?_
  obtain ⟨g1, h⟩ := gd_some h
  refine r_iald C S a_77 g1 dX11_get_13 ?_
  have h9 := Option.some.inj h
  subst h9
  exact r_iret C S hr hlocks dX11_get_14
set_option maxHeartbeats 4000000 in
set_option maxRecDepth 100000 in
theorem k_X11_becomes {v1 : Int32} {v2 : Int32} {v3 : Int32}  {w : Wd} {rv : Int32 × Wd} (h : f_X11_becomes v1 v2 v3 w = some rv) : CI yX11_becomes cX11_becomes 5 .int 1 22 (fun ad => [.ref (ad 76), .int v1, .int v2, .int v3]) w rv.1 rv.2 := by
  refine CI.of (by decide) ?_
  intro l D ad sx ca p e s m below meth c C S hr hlocks
  have hl := lv_entry ([.ref (ad 76), .int v1, .int v2, .int v3]) (n := 5) (Nat.le_of_ble_eq_true rfl)
  rw [lg_entry_eq]
  generalize (lg_sl ([.ref (ad 76), .int v1, .int v2, .int v3]) ++ List.replicate (5 - (lg_sl ([.ref (ad 76), .int v1, .int v2, .int v3])).length) Slot.unset).toArray = ls at hl ⊢
  have hl : lv_has ls 5 [(0, .ref (ad 76)), (1, .int v1), (2, .int v2), (3, .int v3)] := hl
  generalize ha9 : ([.ref (ad 76), .int v1, .int v2, .int v3] : List Value).toArray = args at C ⊢
  generalize s.heap = H at S ⊢
  generalize ([] : List Loc) = locs at S ⊢
  unfold f_X11_becomes at h
  refine lv_aload_n C.1 C.2.1 dX11_becomes_0 rfl (lv_at hl 0 rfl) ?_
  refine lv_iload_n C.1 C.2.1 dX11_becomes_1 rfl (lv_at hl 1 rfl) ?_
  refine lv_iload_n C.1 C.2.1 dX11_becomes_2 rfl (lv_at hl 2 rfl) ?_
  obtain ⟨o1, e2, h⟩ := Option.bind_eq_some_iff.mp h
  refine r_vi C S hl o_76 cf_11 (k_X11_get e2) b_vb_RX11_101 [.int v1, .int v2] rfl [] rfl rfl (Nat.le_of_ble_eq_true rfl) ⟨Nat.le_of_ble_eq_true rfl, Nat.le_of_ble_eq_true rfl⟩ dX11_becomes_3 (fun H locs S => ?_)
  refine lv_istore (lv' := [(4, .int o1), (0, .ref (ad 76)), (1, .int v1), (2, .int v2), (3, .int v3)]) C.1 C.2.1 dX11_becomes_6 hl (by decide) rfl (fun ls hl => ?_)
  refine lv_aload_n C.1 C.2.1 dX11_becomes_8 rfl (lv_at hl 1 rfl) ?_
  refine r_getr C S o_76 cf_11 0 rfl (by decide) b_fl_RX11_9 dX11_becomes_9 ?_
  refine lv_bipush (v := 7) C.1 C.2.1 dX11_becomes_12 (by decide) ?_
  refine lv_bipush (v := 11) C.1 C.2.1 dX11_becomes_14 (by decide) ?_
  refine lv_iload_n C.1 C.2.1 dX11_becomes_16 rfl (lv_at hl 2 rfl) ?_
  refine lv_imul C.1 C.2.1 dX11_becomes_17 ?_
  refine lv_iadd C.1 C.2.1 dX11_becomes_18 ?_
  refine lv_iload_n C.1 C.2.1 dX11_becomes_19 rfl (lv_at hl 3 rfl) ?_
  refine lv_iadd C.1 C.2.1 dX11_becomes_20 ?_
  refine lv_iload_n C.1 C.2.1 dX11_becomes_21 rfl (lv_at hl 4 rfl) ?_
  obtain ⟨g3, h⟩ := gd_some h
  refine r_iast C S a_77 g3 dX11_becomes_22 (fun H locs S => ?_)
  obtain ⟨w4, h, S⟩ := lw_S (P := fun y => St D ad ca s y H locs) h S
  refine lv_aload_n C.1 C.2.1 dX11_becomes_23 rfl (lv_at hl 1 rfl) ?_
  refine lv_iconst (v := 0) C.1 C.2.1 dX11_becomes_24 (by decide) ?_
  refine r_put C S o_76 cf_11 30 rfl (by decide) rfl (zo_nar (by decide)) b_fl_RX11_105 dX11_becomes_25 (fun H locs S => ?_)
  obtain ⟨w5, h, S⟩ := lw_S (P := fun y => St D ad ca s y H locs) h S
  refine lv_iload C.1 C.2.1 dX11_becomes_28 (lv_at hl 0 rfl) ?_
  have h9 := Option.some.inj h
  subst h9
  exact r_iret C S hr hlocks dX11_becomes_30

set_option maxHeartbeats 4000000 in
set_option maxRecDepth 100000 in
theorem k_X10_hours_L52 {p : Program} {l : Launch} {e : Env} {s : State} {m : MethodId} {args : Array Value} {below : List Frame} {meth : Method} {c : Code} {D : va_G} {ad sx : Nat → Nat} {ca : Nat → ClassId} (C : Cx D ad sx ca p s m c args RX10 cX10_hours 3) {Q : State → Prop} {v1 : Int32}  : ∀ (n9 : Nat) (z : Int32 × Wd) (o : Int32 × Wd), lp (f_X10_hours_L52 v1) n9 z = some o → (∀ (ls : Array Slot) (H : Heap) (locs : List Loc), lv_has ls 3 [(0, .ref (ad 0))] → St D ad ca s o.2 H locs → W p l e (RM 4 91) s m args below meth c H locs 0 0 Q (F0 m 74 ls [])) → (∀ (ls : Array Slot) (H : Heap) (locs : List Loc), lv_has ls 3 [(0, .ref (ad 0)), (1, .int v1), (2, .int z.1)] → St D ad ca s z.2 H locs → W p l e (RM 4 91) s m args below meth c H locs 0 0 Q (F0 m 52 ls [])) := by
  refine lp_W (HW := fun (z : Int32 × Wd) => ∀ (ls : Array Slot) (H : Heap) (locs : List Loc), lv_has ls 3 [(0, .ref (ad 0)), (1, .int v1), (2, .int z.1)] → St D ad ca s z.2 H locs → W p l e (RM 4 91) s m args below meth c H locs 0 0 Q (F0 m 52 ls [])) (XW := fun (o : Int32 × Wd) => ∀ (ls : Array Slot) (H : Heap) (locs : List Loc), lv_has ls 3 [(0, .ref (ad 0))] → St D ad ca s o.2 H locs → W p l e (RM 4 91) s m args below meth c H locs 0 0 Q (F0 m 74 ls [])) ?_
  intro z x h hN hX ls H locs hl S
  unfold f_X10_hours_L52 at h
  refine lv_iload_n C.1 C.2.1 dX10_hours_52 rfl (lv_at hl 2 rfl) ?_
  refine lv_iload_n C.1 C.2.1 dX10_hours_53 rfl (lv_at hl 1 rfl) ?_
  refine lv_icmp_ge (tgt := 74) C.1 C.2.1 dX10_hours_54 (by decide) (fun q7 => ?_) (fun q7 => ?_)
  · replace h := (if_pos q7).symm.trans h
    exact hX _ (Option.some.inj h).symm _ _ _ (lv_sub hl [0] rfl) S
  · replace h := (if_neg q7).symm.trans h
    refine lv_aload_n C.1 C.2.1 dX10_hours_57 rfl (lv_at hl 0 rfl) ?_
    refine r_getr C S o_0 cf_10 3 rfl (by decide) b_fl_RX10_27 dX10_hours_58 ?_
    refine lv_aload_n C.1 C.2.1 dX10_hours_61 rfl (lv_at hl 0 rfl) ?_
    refine r_getr C S o_0 cf_10 10 rfl (by decide) b_fl_RX10_66 dX10_hours_62 ?_
    obtain ⟨o8, e9, h⟩ := Option.bind_eq_some_iff.mp h
    refine r_vv C S hl o_3 cf_0 (k_X0_live e9) b_vb_RX10_191 [.ref (ad 13)] rfl [] rfl rfl (Nat.le_of_ble_eq_true rfl) ⟨Nat.le_of_ble_eq_true rfl, Nat.le_of_ble_eq_true rfl⟩ dX10_hours_65 (fun H locs S => ?_)
    refine lv_iinc (v := z.1 + 1) (lv' := [(2, .int (z.1 + 1)), (0, .ref (ad 0)), (1, .int v1)]) C.1 C.2.1 dX10_hours_68 hl (k := 2) rfl rfl (by decide) rfl (fun ls hl => ?_)
    refine lv_goto (tgt := 52) C.1 C.2.1 dX10_hours_71 (by decide) ?_
    exact hN _ (Option.some.inj h).symm _ _ _ (lv_sub hl [1, 2, 0] rfl) S
set_option maxHeartbeats 4000000 in
set_option maxRecDepth 100000 in
theorem k_X10_hours {v1 : Int32}  {w : Wd} {rv : Int32 × Wd} (h : f_X10_hours v1 w = some rv) : CI yX10_hours cX10_hours 3 .int 4 91 (fun ad => [.ref (ad 0), .int v1]) w rv.1 rv.2 := by
  refine CI.of (by decide) ?_
  intro l D ad sx ca p e s m below meth c C S hr hlocks
  have hl := lv_entry ([.ref (ad 0), .int v1]) (n := 3) (Nat.le_of_ble_eq_true rfl)
  rw [lg_entry_eq]
  generalize (lg_sl ([.ref (ad 0), .int v1]) ++ List.replicate (3 - (lg_sl ([.ref (ad 0), .int v1])).length) Slot.unset).toArray = ls at hl ⊢
  have hl : lv_has ls 3 [(0, .ref (ad 0)), (1, .int v1)] := hl
  generalize ha9 : ([.ref (ad 0), .int v1] : List Value).toArray = args at C ⊢
  generalize s.heap = H at S ⊢
  generalize ([] : List Loc) = locs at S ⊢
  unfold f_X10_hours at h
  refine lv_iload_n C.1 C.2.1 dX10_hours_0 rfl (lv_at hl 1 rfl) ?_
  refine lv_iconst (v := 1) C.1 C.2.1 dX10_hours_1 (by decide) ?_
  refine lv_bipush (v := 100) C.1 C.2.1 dX10_hours_2 (by decide) ?_
  obtain ⟨o1, e2, h⟩ := Option.bind_eq_some_iff.mp h
  refine r_si C S hl (k_X10_within e2) b_sb_RX10_90 [.int v1, .int 1, .int 100] rfl [] rfl rfl (Nat.le_of_ble_eq_true rfl) ⟨Nat.le_of_ble_eq_true rfl, Nat.le_of_ble_eq_true rfl⟩ dX10_hours_4 (fun H locs S => ?_)
  refine lv_if_ne (tgt := 17) C.1 C.2.1 dX10_hours_7 (by decide) (fun q3 => ?_) (fun q3 => ?_)
  · replace h := (if_neg q3).symm.trans h
    refine lv_aload_n C.1 C.2.1 dX10_hours_17 rfl (lv_at hl 0 rfl) ?_
    refine r_getr C S o_0 cf_10 3 rfl (by decide) b_fl_RX10_27 dX10_hours_18 ?_
    refine r_geti C S o_3 cf_0 3 rfl (by decide) b_fl_RX10_184 dX10_hours_21 ?_
    refine lv_iload_n C.1 C.2.1 dX10_hours_24 rfl (lv_at hl 1 rfl) ?_
    refine lv_iadd C.1 C.2.1 dX10_hours_25 ?_
    refine lv_sipush (v := 2000) C.1 C.2.1 dX10_hours_26 (by decide) ?_
    refine lv_icmp_le (tgt := 39) C.1 C.2.1 dX10_hours_29 (by decide) (fun q4 => ?_) (fun q4 => ?_)
    · replace h := (if_pos q4).symm.trans h
      refine lv_aload_n C.1 C.2.1 dX10_hours_39 rfl (lv_at hl 0 rfl) ?_
      refine r_getr C S o_0 cf_10 10 rfl (by decide) b_fl_RX10_66 dX10_hours_40 ?_
      refine lv_aload_n C.1 C.2.1 dX10_hours_43 rfl (lv_at hl 0 rfl) ?_
      refine r_getr C S o_0 cf_10 3 rfl (by decide) b_fl_RX10_27 dX10_hours_44 ?_
      obtain ⟨o5, e6, h⟩ := Option.bind_eq_some_iff.mp h
      refine r_vv C S hl o_13 cf_2 (k_X2_begin e6) b_vb_RX10_187 [.ref (ad 3)] rfl [] rfl rfl (Nat.le_of_ble_eq_true rfl) ⟨Nat.le_of_ble_eq_true rfl, Nat.le_of_ble_eq_true rfl⟩ dX10_hours_47 (fun H locs S => ?_)
      refine lv_iconst (v := 0) C.1 C.2.1 dX10_hours_50 (by decide) ?_
      refine lv_istore_n (lv' := [(2, .int 0), (0, .ref (ad 0)), (1, .int v1)]) C.1 C.2.1 dX10_hours_51 rfl hl (by decide) rfl (fun ls hl => ?_)
      obtain ⟨o10, e11, h⟩ := Option.bind_eq_some_iff.mp h
      refine k_X10_hours_L52 C  FU _ _ e11 (fun ls H locs hl S => ?_) ls H locs (lv_sub hl [1, 2, 0] rfl) S
      refine lv_aload_n C.1 C.2.1 dX10_hours_74 rfl (lv_at hl 0 rfl) ?_
      refine r_getr C S o_0 cf_10 3 rfl (by decide) b_fl_RX10_27 dX10_hours_75 ?_
      refine r_geti C S o_3 cf_0 3 rfl (by decide) b_fl_RX10_184 dX10_hours_78 ?_
      have h9 := Option.some.inj h
      subst h9
      exact r_iret C S hr hlocks dX10_hours_81
    · replace h := (if_neg q4).symm.trans h
      refine lv_aload_n C.1 C.2.1 dX10_hours_32 rfl (lv_at hl 0 rfl) ?_
      refine r_ldc C (-1000000005) b_cn_RX10_183 dX10_hours_33 ?_
      obtain ⟨o12, e13, h⟩ := Option.bind_eq_some_iff.mp h
      refine r_vi C S hl o_0 cf_10 (k_X10_finding e13) b_vb_RX10_95 [.int (-1000000005)] rfl [] rfl rfl (Nat.le_of_ble_eq_true rfl) ⟨Nat.le_of_ble_eq_true rfl, Nat.le_of_ble_eq_true rfl⟩ dX10_hours_35 (fun H locs S => ?_)
      have h9 := Option.some.inj h
      subst h9
      exact r_iret C S hr hlocks dX10_hours_38
  · replace h := (if_pos q3).symm.trans h
    refine lv_aload_n C.1 C.2.1 dX10_hours_10 rfl (lv_at hl 0 rfl) ?_
    refine r_ldc C (-1000000001) b_cn_RX10_94 dX10_hours_11 ?_
    obtain ⟨o14, e15, h⟩ := Option.bind_eq_some_iff.mp h
    refine r_vi C S hl o_0 cf_10 (k_X10_finding e15) b_vb_RX10_95 [.int (-1000000001)] rfl [] rfl rfl (Nat.le_of_ble_eq_true rfl) ⟨Nat.le_of_ble_eq_true rfl, Nat.le_of_ble_eq_true rfl⟩ dX10_hours_13 (fun H locs S => ?_)
    have h9 := Option.some.inj h
    subst h9
    exact r_iret C S hr hlocks dX10_hours_16
set_option maxHeartbeats 4000000 in
set_option maxRecDepth 100000 in
theorem k_X10_riser_L20 {p : Program} {l : Launch} {e : Env} {s : State} {m : MethodId} {args : Array Value} {below : List Frame} {meth : Method} {c : Code} {D : va_G} {ad sx : Nat → Nat} {ca : Nat → ClassId} (C : Cx D ad sx ca p s m c args RX10 cX10_riser 4) {Q : State → Prop} {w : Wd} {v1 : Int32}  : ∀ (n9 : Nat) (z : Int32 × Int32) (o : Int32 × Int32), lp (f_X10_riser_L20 v1 w) n9 z = some o → (∀ (ls : Array Slot) (H : Heap) (locs : List Loc), lv_has ls 4 [(2, .int o.1)] → St D ad ca s w H locs → W p l e (RM 2 44) s m args below meth c H locs 0 0 Q (F0 m 59 ls [])) → (∀ (ls : Array Slot) (H : Heap) (locs : List Loc), lv_has ls 4 [(0, .ref (ad 0)), (1, .int v1), (2, .int z.1), (3, .int z.2)] → St D ad ca s w H locs → W p l e (RM 2 44) s m args below meth c H locs 0 0 Q (F0 m 20 ls [])) := by
  refine lp_W (HW := fun (z : Int32 × Int32) => ∀ (ls : Array Slot) (H : Heap) (locs : List Loc), lv_has ls 4 [(0, .ref (ad 0)), (1, .int v1), (2, .int z.1), (3, .int z.2)] → St D ad ca s w H locs → W p l e (RM 2 44) s m args below meth c H locs 0 0 Q (F0 m 20 ls [])) (XW := fun (o : Int32 × Int32) => ∀ (ls : Array Slot) (H : Heap) (locs : List Loc), lv_has ls 4 [(2, .int o.1)] → St D ad ca s w H locs → W p l e (RM 2 44) s m args below meth c H locs 0 0 Q (F0 m 59 ls [])) ?_
  intro z x h hN hX ls H locs hl S
  unfold f_X10_riser_L20 at h
  refine lv_iload_n C.1 C.2.1 dX10_riser_20 rfl (lv_at hl 3 rfl) ?_
  refine lv_aload_n C.1 C.2.1 dX10_riser_21 rfl (lv_at hl 0 rfl) ?_
  refine r_getr C S o_0 cf_10 3 rfl (by decide) b_fl_RX10_27 dX10_riser_22 ?_
  refine r_geti C S o_3 cf_0 1 rfl (by decide) b_fl_RX10_99 dX10_riser_25 ?_
  refine lv_icmp_ge (tgt := 59) C.1 C.2.1 dX10_riser_28 (by decide) (fun q4 => ?_) (fun q4 => ?_)
  · replace h := (if_pos q4).symm.trans h
    exact hX _ (Option.some.inj h).symm _ _ _ (lv_sub hl [2] rfl) S
  · replace h := (if_neg q4).symm.trans h
    refine lv_aload_n C.1 C.2.1 dX10_riser_31 rfl (lv_at hl 0 rfl) ?_
    refine r_getr C S o_0 cf_10 3 rfl (by decide) b_fl_RX10_27 dX10_riser_32 ?_
    refine r_getr C S o_3 cf_0 0 rfl (by decide) b_fl_RX10_114 dX10_riser_35 ?_
    refine lv_iload_n C.1 C.2.1 dX10_riser_38 rfl (lv_at hl 3 rfl) ?_
    obtain ⟨g5, h⟩ := gd_some h
    refine r_aald C S a_17 g5 dX10_riser_39 ?_
    refine r_geti C S (o_F1 (inB_lt g5)) cf_4 1 rfl (by decide) b_fl_RX10_123 dX10_riser_40 ?_
    refine lv_iload_n C.1 C.2.1 dX10_riser_43 rfl (lv_at hl 1 rfl) ?_
    refine lv_icmp_ne (tgt := 53) C.1 C.2.1 dX10_riser_44 (by decide) (fun q6 => ?_) (fun q6 => ?_)
    · replace h := (if_neg q6).symm.trans h
      refine lv_iinc (v := z.2 + 1) (lv' := [(3, .int (z.2 + 1)), (0, .ref (ad 0)), (1, .int v1), (2, .int z.1)]) C.1 C.2.1 dX10_riser_53 hl (k := 3) rfl rfl (by decide) rfl (fun ls hl => ?_)
      refine lv_goto (tgt := 20) C.1 C.2.1 dX10_riser_56 (by decide) ?_
      exact hN _ (Option.some.inj h).symm _ _ _ (lv_sub hl [1, 2, 3, 0] rfl) S
    · replace h := (if_pos q6).symm.trans h
      refine lv_iload_n C.1 C.2.1 dX10_riser_47 rfl (lv_at hl 2 rfl) ?_
      refine lv_iconst (v := 1) C.1 C.2.1 dX10_riser_48 (by decide) ?_
      refine lv_iload_n C.1 C.2.1 dX10_riser_49 rfl (lv_at hl 3 rfl) ?_
      refine lv_ishl C.1 C.2.1 dX10_riser_50 ?_
      refine lv_ior C.1 C.2.1 dX10_riser_51 ?_
      refine lv_istore_n (lv' := [(2, .int (z.1 ||| (1 <<< (z.2 &&& 31)))), (0, .ref (ad 0)), (1, .int v1), (3, .int z.2)]) C.1 C.2.1 dX10_riser_52 rfl hl (by decide) rfl (fun ls hl => ?_)
      refine lv_iinc (v := z.2 + 1) (lv' := [(3, .int (z.2 + 1)), (2, .int (z.1 ||| (1 <<< (z.2 &&& 31)))), (0, .ref (ad 0)), (1, .int v1)]) C.1 C.2.1 dX10_riser_53 hl (k := 3) rfl rfl (by decide) rfl (fun ls hl => ?_)
      refine lv_goto (tgt := 20) C.1 C.2.1 dX10_riser_56 (by decide) ?_
      exact hN _ (Option.some.inj h).symm _ _ _ (lv_sub hl [2, 3, 1, 0] rfl) S
set_option maxHeartbeats 4000000 in
set_option maxRecDepth 100000 in
theorem k_X10_riser {v1 : Int32}  {w : Wd} {rv : Int32 × Wd} (h : f_X10_riser v1 w = some rv) : CI yX10_riser cX10_riser 4 .int 2 44 (fun ad => [.ref (ad 0), .int v1]) w rv.1 rv.2 := by
  refine CI.of (by decide) ?_
  intro l D ad sx ca p e s m below meth c C S hr hlocks
  have hl := lv_entry ([.ref (ad 0), .int v1]) (n := 4) (Nat.le_of_ble_eq_true rfl)
  rw [lg_entry_eq]
  generalize (lg_sl ([.ref (ad 0), .int v1]) ++ List.replicate (4 - (lg_sl ([.ref (ad 0), .int v1])).length) Slot.unset).toArray = ls at hl ⊢
  have hl : lv_has ls 4 [(0, .ref (ad 0)), (1, .int v1)] := hl
  generalize ha9 : ([.ref (ad 0), .int v1] : List Value).toArray = args at C ⊢
  generalize s.heap = H at S ⊢
  generalize ([] : List Loc) = locs at S ⊢
  unfold f_X10_riser at h
  refine lv_iload_n C.1 C.2.1 dX10_riser_0 rfl (lv_at hl 1 rfl) ?_
  refine lv_iconst (v := 0) C.1 C.2.1 dX10_riser_1 (by decide) ?_
  refine lv_iconst (v := 3) C.1 C.2.1 dX10_riser_2 (by decide) ?_
  obtain ⟨o1, e2, h⟩ := Option.bind_eq_some_iff.mp h
  refine r_si C S hl (k_X10_within e2) b_sb_RX10_90 [.int v1, .int 0, .int 3] rfl [] rfl rfl (Nat.le_of_ble_eq_true rfl) ⟨Nat.le_of_ble_eq_true rfl, Nat.le_of_ble_eq_true rfl⟩ dX10_riser_3 (fun H locs S => ?_)
  refine lv_if_ne (tgt := 16) C.1 C.2.1 dX10_riser_6 (by decide) (fun q3 => ?_) (fun q3 => ?_)
  · replace h := (if_neg q3).symm.trans h
    refine lv_iconst (v := 0) C.1 C.2.1 dX10_riser_16 (by decide) ?_
    refine lv_istore_n (lv' := [(2, .int 0), (0, .ref (ad 0)), (1, .int v1)]) C.1 C.2.1 dX10_riser_17 rfl hl (by decide) rfl (fun ls hl => ?_)
    refine lv_iconst (v := 0) C.1 C.2.1 dX10_riser_18 (by decide) ?_
    refine lv_istore_n (lv' := [(3, .int 0), (2, .int 0), (0, .ref (ad 0)), (1, .int v1)]) C.1 C.2.1 dX10_riser_19 rfl hl (by decide) rfl (fun ls hl => ?_)
    obtain ⟨o7, e8, h⟩ := Option.bind_eq_some_iff.mp h
    refine k_X10_riser_L20 C  FU _ _ e8 (fun ls H locs hl S => ?_) ls H locs (lv_sub hl [2, 3, 1, 0] rfl) S
    refine lv_iload_n C.1 C.2.1 dX10_riser_59 rfl (lv_at hl 0 rfl) ?_
    have h9 := Option.some.inj h
    subst h9
    exact r_iret C S hr hlocks dX10_riser_60
  · replace h := (if_pos q3).symm.trans h
    refine lv_aload_n C.1 C.2.1 dX10_riser_9 rfl (lv_at hl 0 rfl) ?_
    refine r_ldc C (-1000000001) b_cn_RX10_94 dX10_riser_10 ?_
    obtain ⟨o9, e10, h⟩ := Option.bind_eq_some_iff.mp h
    refine r_vi C S hl o_0 cf_10 (k_X10_finding e10) b_vb_RX10_95 [.int (-1000000001)] rfl [] rfl rfl (Nat.le_of_ble_eq_true rfl) ⟨Nat.le_of_ble_eq_true rfl, Nat.le_of_ble_eq_true rfl⟩ dX10_riser_12 (fun H locs S => ?_)
    have h9 := Option.some.inj h
    subst h9
    exact r_iret C S hr hlocks dX10_riser_15
set_option maxHeartbeats 4000000 in
set_option maxRecDepth 100000 in
theorem k_X9_append {v1 : Int32}  {w : Wd} {rv : Wd} (h : f_X9_append v1 w = some rv) : CV yX9_append cX9_append 2 0 0 (fun ad => [.ref (ad 7), .int v1]) w rv := by
  refine CV.of (by decide) ?_
  intro l D ad sx ca p e s m below meth c C S hr hlocks
  have hl := lv_entry ([.ref (ad 7), .int v1]) (n := 2) (Nat.le_of_ble_eq_true rfl)
  rw [lg_entry_eq]
  generalize (lg_sl ([.ref (ad 7), .int v1]) ++ List.replicate (2 - (lg_sl ([.ref (ad 7), .int v1])).length) Slot.unset).toArray = ls at hl ⊢
  have hl : lv_has ls 2 [(0, .ref (ad 7)), (1, .int v1)] := hl
  generalize ha9 : ([.ref (ad 7), .int v1] : List Value).toArray = args at C ⊢
  generalize s.heap = H at S ⊢
  generalize ([] : List Loc) = locs at S ⊢
  unfold f_X9_append at h
  refine lv_aload_n C.1 C.2.1 dX9_append_0 rfl (lv_at hl 0 rfl) ?_
  refine r_geti C S o_7 cf_9 1 rfl (by decide) b_fl_RX9_15 dX9_append_1 ?_
  refine lv_bipush (v := 80) C.1 C.2.1 dX9_append_4 (by decide) ?_
  refine lv_icmp_ge (tgt := 29) C.1 C.2.1 dX9_append_6 (by decide) (fun q1 => ?_) (fun q1 => ?_)
  · replace h := (if_pos q1).symm.trans h
    have h9 := Option.some.inj h
    subst h9
    exact r_vret C S hr hlocks dX9_append_29
  · replace h := (if_neg q1).symm.trans h
    refine lv_aload_n C.1 C.2.1 dX9_append_9 rfl (lv_at hl 0 rfl) ?_
    refine r_getr C S o_7 cf_9 0 rfl (by decide) b_fl_RX9_9 dX9_append_10 ?_
    refine lv_aload_n C.1 C.2.1 dX9_append_13 rfl (lv_at hl 0 rfl) ?_
    refine r_geti C S o_7 cf_9 1 rfl (by decide) b_fl_RX9_15 dX9_append_14 ?_
    refine lv_iload_n C.1 C.2.1 dX9_append_17 rfl (lv_at hl 1 rfl) ?_
    obtain ⟨g2, h⟩ := gd_some h
    refine r_iast C S a_23 g2 dX9_append_18 (fun H locs S => ?_)
    obtain ⟨w3, h, S⟩ := lw_S (P := fun y => St D ad ca s y H locs) h S
    refine lv_aload_n C.1 C.2.1 dX9_append_19 rfl (lv_at hl 0 rfl) ?_
    refine lv_dup C.1 C.2.1 dX9_append_20 rfl ?_
    refine r_geti C S o_7 cf_9 1 rfl (by decide) b_fl_RX9_15 dX9_append_21 ?_
    refine lv_iconst (v := 1) C.1 C.2.1 dX9_append_24 (by decide) ?_
    refine lv_iadd C.1 C.2.1 dX9_append_25 ?_
    refine r_put C S o_7 cf_9 1 rfl (by decide) rfl (ni _) b_fl_RX9_15 dX9_append_26 (fun H locs S => ?_)
    obtain ⟨w4, h, S⟩ := lw_S (P := fun y => St D ad ca s y H locs) h S
    have h9 := Option.some.inj h
    subst h9
    exact r_vret C S hr hlocks dX9_append_29
set_option maxHeartbeats 4000000 in
set_option maxRecDepth 100000 in
theorem k_X10_feed_L41 {p : Program} {l : Launch} {e : Env} {s : State} {m : MethodId} {args : Array Value} {below : List Frame} {meth : Method} {c : Code} {D : va_G} {ad sx : Nat → Nat} {ca : Nat → ClassId} (C : Cx D ad sx ca p s m c args RX10 cX10_feed 4) {Q : State → Prop} {v1 : Int32}  : ∀ (n9 : Nat) (z : Int32 × Wd) (o : Int32 × Wd), lp (f_X10_feed_L41 v1) n9 z = some o → (∀ (ls : Array Slot) (H : Heap) (locs : List Loc), lv_has ls 4 [(0, .ref (ad 0))] → St D ad ca s o.2 H locs → W p l e (RM 2 44) s m args below meth c H locs 0 0 Q (F0 m 68 ls [])) → (∀ (ls : Array Slot) (H : Heap) (locs : List Loc), lv_has ls 4 [(0, .ref (ad 0)), (1, .int v1), (3, .int z.1)] → St D ad ca s z.2 H locs → W p l e (RM 2 44) s m args below meth c H locs 0 0 Q (F0 m 41 ls [])) := by
  refine lp_W (HW := fun (z : Int32 × Wd) => ∀ (ls : Array Slot) (H : Heap) (locs : List Loc), lv_has ls 4 [(0, .ref (ad 0)), (1, .int v1), (3, .int z.1)] → St D ad ca s z.2 H locs → W p l e (RM 2 44) s m args below meth c H locs 0 0 Q (F0 m 41 ls [])) (XW := fun (o : Int32 × Wd) => ∀ (ls : Array Slot) (H : Heap) (locs : List Loc), lv_has ls 4 [(0, .ref (ad 0))] → St D ad ca s o.2 H locs → W p l e (RM 2 44) s m args below meth c H locs 0 0 Q (F0 m 68 ls [])) ?_
  intro z x h hN hX ls H locs hl S
  unfold f_X10_feed_L41 at h
  refine lv_iload_n C.1 C.2.1 dX10_feed_41 rfl (lv_at hl 2 rfl) ?_
  refine lv_if_lt (tgt := 68) C.1 C.2.1 dX10_feed_42 (by decide) (fun q5 => ?_) (fun q5 => ?_)
  · replace h := (if_pos q5).symm.trans h
    exact hX _ (Option.some.inj h).symm _ _ _ (lv_sub hl [0] rfl) S
  · replace h := (if_neg q5).symm.trans h
    refine lv_aload_n C.1 C.2.1 dX10_feed_45 rfl (lv_at hl 0 rfl) ?_
    refine r_getr C S o_0 cf_10 6 rfl (by decide) b_fl_RX10_41 dX10_feed_46 ?_
    refine lv_iload_n C.1 C.2.1 dX10_feed_49 rfl (lv_at hl 1 rfl) ?_
    refine lv_bipush (v := 8) C.1 C.2.1 dX10_feed_50 (by decide) ?_
    refine lv_iload_n C.1 C.2.1 dX10_feed_52 rfl (lv_at hl 2 rfl) ?_
    refine lv_imul C.1 C.2.1 dX10_feed_53 ?_
    refine lv_iushr C.1 C.2.1 dX10_feed_54 rfl ?_
    refine lv_sipush (v := 255) C.1 C.2.1 dX10_feed_55 (by decide) ?_
    refine lv_iand C.1 C.2.1 dX10_feed_58 ?_
    obtain ⟨o6, e7, h⟩ := Option.bind_eq_some_iff.mp h
    refine r_vv C S hl o_7 cf_9 (k_X9_append e7) b_vb_RX10_196 [.int (((v1.toUInt32 >>> ((8 * z.1).toUInt32 &&& Int32.toUInt32 31)).toInt32) &&& 255)] rfl [] rfl rfl (Nat.le_of_ble_eq_true rfl) ⟨Nat.le_of_ble_eq_true rfl, Nat.le_of_ble_eq_true rfl⟩ dX10_feed_59 (fun H locs S => ?_)
    refine lv_iinc (v := z.1 + (-1)) (lv' := [(3, .int (z.1 + (-1))), (0, .ref (ad 0)), (1, .int v1)]) C.1 C.2.1 dX10_feed_62 hl (k := 2) rfl rfl (by decide) rfl (fun ls hl => ?_)
    refine lv_goto (tgt := 41) C.1 C.2.1 dX10_feed_65 (by decide) ?_
    exact hN _ (Option.some.inj h).symm _ _ _ (lv_sub hl [1, 2, 0] rfl) S
set_option maxHeartbeats 4000000 in
set_option maxRecDepth 100000 in
theorem k_X10_feed {v1 : Int32} {v2 : Int32}  {w : Wd} {rv : Int32 × Wd} (h : f_X10_feed v1 v2 w = some rv) : CI yX10_feed cX10_feed 4 .int 2 44 (fun ad => [.ref (ad 0), .int v1, .int v2]) w rv.1 rv.2 := by
  refine CI.of (by decide) ?_
  intro l D ad sx ca p e s m below meth c C S hr hlocks
  have hl := lv_entry ([.ref (ad 0), .int v1, .int v2]) (n := 4) (Nat.le_of_ble_eq_true rfl)
  rw [lg_entry_eq]
  generalize (lg_sl ([.ref (ad 0), .int v1, .int v2]) ++ List.replicate (4 - (lg_sl ([.ref (ad 0), .int v1, .int v2])).length) Slot.unset).toArray = ls at hl ⊢
  have hl : lv_has ls 4 [(0, .ref (ad 0)), (1, .int v1), (2, .int v2)] := hl
  generalize ha9 : ([.ref (ad 0), .int v1, .int v2] : List Value).toArray = args at C ⊢
  generalize s.heap = H at S ⊢
  generalize ([] : List Loc) = locs at S ⊢
  unfold f_X10_feed at h
  refine lv_iload_n C.1 C.2.1 dX10_feed_0 rfl (lv_at hl 2 rfl) ?_
  refine lv_iconst (v := 1) C.1 C.2.1 dX10_feed_1 (by decide) ?_
  refine lv_iconst (v := 4) C.1 C.2.1 dX10_feed_2 (by decide) ?_
  obtain ⟨o1, e2, h⟩ := Option.bind_eq_some_iff.mp h
  refine r_si C S hl (k_X10_within e2) b_sb_RX10_90 [.int v2, .int 1, .int 4] rfl [] rfl rfl (Nat.le_of_ble_eq_true rfl) ⟨Nat.le_of_ble_eq_true rfl, Nat.le_of_ble_eq_true rfl⟩ dX10_feed_3 (fun H locs S => ?_)
  refine lv_if_ne (tgt := 16) C.1 C.2.1 dX10_feed_6 (by decide) (fun q3 => ?_) (fun q3 => ?_)
  · replace h := (if_neg q3).symm.trans h
    refine lv_aload_n C.1 C.2.1 dX10_feed_16 rfl (lv_at hl 0 rfl) ?_
    refine r_getr C S o_0 cf_10 6 rfl (by decide) b_fl_RX10_41 dX10_feed_17 ?_
    refine r_geti C S o_7 cf_9 1 rfl (by decide) b_fl_RX10_195 dX10_feed_20 ?_
    refine lv_iload_n C.1 C.2.1 dX10_feed_23 rfl (lv_at hl 2 rfl) ?_
    refine lv_iadd C.1 C.2.1 dX10_feed_24 ?_
    refine lv_bipush (v := 80) C.1 C.2.1 dX10_feed_25 (by decide) ?_
    refine lv_icmp_le (tgt := 37) C.1 C.2.1 dX10_feed_27 (by decide) (fun q4 => ?_) (fun q4 => ?_)
    · replace h := (if_pos q4).symm.trans h
      refine lv_iload_n C.1 C.2.1 dX10_feed_37 rfl (lv_at hl 2 rfl) ?_
      refine lv_iconst (v := 1) C.1 C.2.1 dX10_feed_38 (by decide) ?_
      refine lv_isub C.1 C.2.1 dX10_feed_39 ?_
      refine lv_istore_n (lv' := [(3, .int (v2 - 1)), (0, .ref (ad 0)), (1, .int v1), (2, .int v2)]) C.1 C.2.1 dX10_feed_40 rfl hl (by decide) rfl (fun ls hl => ?_)
      obtain ⟨o8, e9, h⟩ := Option.bind_eq_some_iff.mp h
      refine k_X10_feed_L41 C  FU _ _ e9 (fun ls H locs hl S => ?_) ls H locs (lv_sub hl [1, 2, 0] rfl) S
      refine lv_aload_n C.1 C.2.1 dX10_feed_68 rfl (lv_at hl 0 rfl) ?_
      refine r_getr C S o_0 cf_10 6 rfl (by decide) b_fl_RX10_41 dX10_feed_69 ?_
      refine r_geti C S o_7 cf_9 1 rfl (by decide) b_fl_RX10_195 dX10_feed_72 ?_
      have h9 := Option.some.inj h
      subst h9
      exact r_iret C S hr hlocks dX10_feed_75
    · replace h := (if_neg q4).symm.trans h
      refine lv_aload_n C.1 C.2.1 dX10_feed_30 rfl (lv_at hl 0 rfl) ?_
      refine r_ldc C (-1000000002) b_cn_RX10_105 dX10_feed_31 ?_
      obtain ⟨o10, e11, h⟩ := Option.bind_eq_some_iff.mp h
      refine r_vi C S hl o_0 cf_10 (k_X10_finding e11) b_vb_RX10_95 [.int (-1000000002)] rfl [] rfl rfl (Nat.le_of_ble_eq_true rfl) ⟨Nat.le_of_ble_eq_true rfl, Nat.le_of_ble_eq_true rfl⟩ dX10_feed_33 (fun H locs S => ?_)
      have h9 := Option.some.inj h
      subst h9
      exact r_iret C S hr hlocks dX10_feed_36
  · replace h := (if_pos q3).symm.trans h
    refine lv_aload_n C.1 C.2.1 dX10_feed_9 rfl (lv_at hl 0 rfl) ?_
    refine r_ldc C (-1000000001) b_cn_RX10_94 dX10_feed_10 ?_
    obtain ⟨o12, e13, h⟩ := Option.bind_eq_some_iff.mp h
    refine r_vi C S hl o_0 cf_10 (k_X10_finding e13) b_vb_RX10_95 [.int (-1000000001)] rfl [] rfl rfl (Nat.le_of_ble_eq_true rfl) ⟨Nat.le_of_ble_eq_true rfl, Nat.le_of_ble_eq_true rfl⟩ dX10_feed_12 (fun H locs S => ?_)
    have h9 := Option.some.inj h
    subst h9
    exact r_iret C S hr hlocks dX10_feed_15
set_option maxHeartbeats 4000000 in
set_option maxRecDepth 100000 in
theorem k_X10_wipe   {w : Wd} {rv : Int32 × Wd} (h : f_X10_wipe w = some rv) : CI yX10_wipe cX10_wipe 2 .int 0 0 (fun ad => [.ref (ad 0)]) w rv.1 rv.2 := by
  refine CI.of (by decide) ?_
  intro l D ad sx ca p e s m below meth c C S hr hlocks
  have hl := lv_entry ([.ref (ad 0)]) (n := 2) (Nat.le_of_ble_eq_true rfl)
  rw [lg_entry_eq]
  generalize (lg_sl ([.ref (ad 0)]) ++ List.replicate (2 - (lg_sl ([.ref (ad 0)])).length) Slot.unset).toArray = ls at hl ⊢
  have hl : lv_has ls 2 [(0, .ref (ad 0))] := hl
  generalize ha9 : ([.ref (ad 0)] : List Value).toArray = args at C ⊢
  generalize s.heap = H at S ⊢
  generalize ([] : List Loc) = locs at S ⊢
  unfold f_X10_wipe at h
  refine lv_aload_n C.1 C.2.1 dX10_wipe_0 rfl (lv_at hl 0 rfl) ?_
  refine r_getr C S o_0 cf_10 6 rfl (by decide) b_fl_RX10_41 dX10_wipe_1 ?_
  refine r_geti C S o_7 cf_9 1 rfl (by decide) b_fl_RX10_195 dX10_wipe_4 ?_
  refine lv_istore_n (lv' := [(1, .int (w.1 7 1)), (0, .ref (ad 0))]) C.1 C.2.1 dX10_wipe_7 rfl hl (by decide) rfl (fun ls hl => ?_)
  refine lv_aload_n C.1 C.2.1 dX10_wipe_8 rfl (lv_at hl 1 rfl) ?_
  refine r_getr C S o_0 cf_10 6 rfl (by decide) b_fl_RX10_41 dX10_wipe_9 ?_
  refine lv_iconst (v := 0) C.1 C.2.1 dX10_wipe_12 (by decide) ?_
  refine r_put C S o_7 cf_9 1 rfl (by decide) rfl (ni _) b_fl_RX10_195 dX10_wipe_13 (fun H locs S => ?_)
  obtain ⟨w1, h, S⟩ := lw_S (P := fun y => St D ad ca s y H locs) h S
  refine lv_iload_n C.1 C.2.1 dX10_wipe_16 rfl (lv_at hl 0 rfl) ?_
  have h9 := Option.some.inj h
  subst h9
  exact r_iret C S hr hlocks dX10_wipe_17
set_option maxHeartbeats 4000000 in
set_option maxRecDepth 100000 in
theorem k_X5_next {t0 : Nat} (ht0 : Rr t0) {w : Wd} {rv : Int32} (h : f_X5_next t0 w = some rv) : CI yX5_next cX5_next 1 .int 0 0 (fun ad => [.ref (ad t0)]) w rv w := by
  refine CI.of (by decide) ?_
  intro l D ad sx ca p e s m below meth c C S hr hlocks
  have hl := lv_entry ([.ref (ad t0)]) (n := 1) (Nat.le_of_ble_eq_true rfl)
  rw [lg_entry_eq]
  generalize (lg_sl ([.ref (ad t0)]) ++ List.replicate (1 - (lg_sl ([.ref (ad t0)])).length) Slot.unset).toArray = ls at hl ⊢
  have hl : lv_has ls 1 [(0, .ref (ad t0))] := hl
  generalize ha9 : ([.ref (ad t0)] : List Value).toArray = args at C ⊢
  generalize s.heap = H at S ⊢
  generalize ([] : List Loc) = locs at S ⊢
  unfold f_X5_next at h
  refine lv_aload_n C.1 C.2.1 dX5_next_0 rfl (lv_at hl 0 rfl) ?_
  refine r_geti C S ht0.1 cf_5 3 rfl (by decide) b_fl_RX5_23 dX5_next_1 ?_
  refine lv_if_ge (tgt := 36) C.1 C.2.1 dX5_next_4 (by decide) (fun q1 => ?_) (fun q1 => ?_)
  · replace h := (if_pos q1).symm.trans h
    refine lv_iconst (v := (-1)) C.1 C.2.1 dX5_next_36 (by decide) ?_
    have h9 := Option.some.inj h
    subst h9
    exact r_iret C S hr hlocks dX5_next_37
  · replace h := (if_neg q1).symm.trans h
    refine lv_aload_n C.1 C.2.1 dX5_next_7 rfl (lv_at hl 0 rfl) ?_
    refine r_geti C S ht0.1 cf_5 2 rfl (by decide) b_fl_RX5_19 dX5_next_8 ?_
    refine lv_aload_n C.1 C.2.1 dX5_next_11 rfl (lv_at hl 0 rfl) ?_
    refine r_getr C S ht0.1 cf_5 0 rfl (by decide) b_fl_RX5_15 dX5_next_12 ?_
    refine r_geti C S ht0.2.1.1 cf_9 1 rfl (by decide) b_fl_RX5_30 dX5_next_15 ?_
    refine lv_icmp_ge (tgt := 36) C.1 C.2.1 dX5_next_18 (by decide) (fun q2 => ?_) (fun q2 => ?_)
    · replace h := (if_pos q2).symm.trans h
      refine lv_iconst (v := (-1)) C.1 C.2.1 dX5_next_36 (by decide) ?_
      have h9 := Option.some.inj h
      subst h9
      exact r_iret C S hr hlocks dX5_next_37
    · replace h := (if_neg q2).symm.trans h
      refine lv_aload_n C.1 C.2.1 dX5_next_21 rfl (lv_at hl 0 rfl) ?_
      refine r_getr C S ht0.1 cf_5 0 rfl (by decide) b_fl_RX5_15 dX5_next_22 ?_
      refine r_getr C S ht0.2.1.1 cf_9 0 rfl (by decide) b_fl_RX5_67 dX5_next_25 ?_
      refine lv_aload_n C.1 C.2.1 dX5_next_28 rfl (lv_at hl 0 rfl) ?_
      refine r_geti C S ht0.1 cf_5 2 rfl (by decide) b_fl_RX5_19 dX5_next_29 ?_
      obtain ⟨g3, h⟩ := gd_some h
      refine r_iald C S ht0.2.1.2 g3 dX5_next_32 ?_
      refine lv_goto (tgt := 37) C.1 C.2.1 dX5_next_33 (by decide) ?_
      have h9 := Option.some.inj h
      subst h9
      exact r_iret C S hr hlocks dX5_next_37
set_option maxHeartbeats 4000000 in
set_option maxRecDepth 100000 in
theorem k_X5_isDigit {v0 : Int32}  {w : Wd} {rv : Int32} (h : f_X5_isDigit v0 = some rv) : CI yX5_isDigit cX5_isDigit 1 .boolean 0 0 (fun ad => [.int v0]) w rv w := by
  refine CI.of (by decide) ?_
  intro l D ad sx ca p e s m below meth c C S hr hlocks
  have hl := lv_entry ([.int v0]) (n := 1) (Nat.le_of_ble_eq_true rfl)
  rw [lg_entry_eq]
  generalize (lg_sl ([.int v0]) ++ List.replicate (1 - (lg_sl ([.int v0])).length) Slot.unset).toArray = ls at hl ⊢
  have hl : lv_has ls 1 [(0, .int v0)] := hl
  generalize ha9 : ([.int v0] : List Value).toArray = args at C ⊢
  generalize s.heap = H at S ⊢
  generalize ([] : List Loc) = locs at S ⊢
  unfold f_X5_isDigit at h
  refine lv_iload_n C.1 C.2.1 dX5_isDigit_0 rfl (lv_at hl 0 rfl) ?_
  refine lv_bipush (v := 48) C.1 C.2.1 dX5_isDigit_1 (by decide) ?_
  refine lv_icmp_lt (tgt := 16) C.1 C.2.1 dX5_isDigit_3 (by decide) (fun q1 => ?_) (fun q1 => ?_)
  · replace h := (if_pos q1).symm.trans h
    refine lv_iconst (v := 0) C.1 C.2.1 dX5_isDigit_16 (by decide) ?_
    have h9 := Option.some.inj h
    subst h9
    exact r_zret C S hr hlocks (Or.inl rfl) dX5_isDigit_17
  · replace h := (if_neg q1).symm.trans h
    refine lv_iload_n C.1 C.2.1 dX5_isDigit_6 rfl (lv_at hl 0 rfl) ?_
    refine lv_bipush (v := 57) C.1 C.2.1 dX5_isDigit_7 (by decide) ?_
    refine lv_icmp_gt (tgt := 16) C.1 C.2.1 dX5_isDigit_9 (by decide) (fun q2 => ?_) (fun q2 => ?_)
    · replace h := (if_pos q2).symm.trans h
      refine lv_iconst (v := 0) C.1 C.2.1 dX5_isDigit_16 (by decide) ?_
      have h9 := Option.some.inj h
      subst h9
      exact r_zret C S hr hlocks (Or.inl rfl) dX5_isDigit_17
    · replace h := (if_neg q2).symm.trans h
      refine lv_iconst (v := 1) C.1 C.2.1 dX5_isDigit_12 (by decide) ?_
      refine lv_goto (tgt := 17) C.1 C.2.1 dX5_isDigit_13 (by decide) ?_
      have h9 := Option.some.inj h
      subst h9
      exact r_zret C S hr hlocks (Or.inr rfl) dX5_isDigit_17
set_option maxHeartbeats 4000000 in
set_option maxRecDepth 100000 in
theorem k_X5_readNumber_L4 {p : Program} {l : Launch} {e : Env} {s : State} {m : MethodId} {args : Array Value} {below : List Frame} {meth : Method} {c : Code} {D : va_G} {ad sx : Nat → Nat} {ca : Nat → ClassId} (C : Cx D ad sx ca p s m c args RX5 cX5_readNumber 3) {Q : State → Prop} {t0 : Nat} (ht0 : Rr t0) : ∀ (n9 : Nat) (z : Int32 × Int32 × Wd) (o : Int32 × Int32 × Wd), lp (f_X5_readNumber_L4 t0) n9 z = some o → (∀ (ls : Array Slot) (H : Heap) (locs : List Loc), lv_has ls 3 [(1, .int o.1)] → St D ad ca s o.2.2 H locs → W p l e (RM 1 20) s m args below meth c H locs 0 0 Q (F0 m 48 ls [])) → (∀ (ls : Array Slot) (H : Heap) (locs : List Loc), lv_has ls 3 [(0, .ref (ad t0)), (1, .int z.1), (2, .int z.2.1)] → St D ad ca s z.2.2 H locs → W p l e (RM 1 20) s m args below meth c H locs 0 0 Q (F0 m 4 ls [])) := by
  refine lp_W (HW := fun (z : Int32 × Int32 × Wd) => ∀ (ls : Array Slot) (H : Heap) (locs : List Loc), lv_has ls 3 [(0, .ref (ad t0)), (1, .int z.1), (2, .int z.2.1)] → St D ad ca s z.2.2 H locs → W p l e (RM 1 20) s m args below meth c H locs 0 0 Q (F0 m 4 ls [])) (XW := fun (o : Int32 × Int32 × Wd) => ∀ (ls : Array Slot) (H : Heap) (locs : List Loc), lv_has ls 3 [(1, .int o.1)] → St D ad ca s o.2.2 H locs → W p l e (RM 1 20) s m args below meth c H locs 0 0 Q (F0 m 48 ls [])) ?_
  intro z x h hN hX ls H locs hl S
  unfold f_X5_readNumber_L4 at h
  refine lv_iload_n C.1 C.2.1 dX5_readNumber_4 rfl (lv_at hl 2 rfl) ?_
  refine lv_iconst (v := 4) C.1 C.2.1 dX5_readNumber_5 (by decide) ?_
  refine lv_icmp_ge (tgt := 48) C.1 C.2.1 dX5_readNumber_6 (by decide) (fun q1 => ?_) (fun q1 => ?_)
  · replace h := (if_pos q1).symm.trans h
    exact hX _ (Option.some.inj h).symm _ _ _ (lv_sub hl [1] rfl) S
  · replace h := (if_neg q1).symm.trans h
    refine lv_aload_n C.1 C.2.1 dX5_readNumber_9 rfl (lv_at hl 0 rfl) ?_
    obtain ⟨o2, e3, h⟩ := Option.bind_eq_some_iff.mp h
    refine r_vi C S hl ht0.1 cf_5 (k_X5_next ht0 e3) b_vb_RX5_70 [] rfl [] rfl rfl (Nat.le_of_ble_eq_true rfl) ⟨Nat.le_of_ble_eq_true rfl, Nat.le_of_ble_eq_true rfl⟩ dX5_readNumber_10 (fun H locs S => ?_)
    obtain ⟨o4, e5, h⟩ := Option.bind_eq_some_iff.mp h
    refine r_si C S hl (k_X5_isDigit e5) b_sb_RX5_84 [.int o2] rfl [] rfl rfl (Nat.le_of_ble_eq_true rfl) ⟨Nat.le_of_ble_eq_true rfl, Nat.le_of_ble_eq_true rfl⟩ dX5_readNumber_13 (fun H locs S => ?_)
    refine lv_if_eq (tgt := 48) C.1 C.2.1 dX5_readNumber_16 (by decide) (fun q6 => ?_) (fun q6 => ?_)
    · replace h := (if_pos q6).symm.trans h
      exact hX _ (Option.some.inj h).symm _ _ _ (lv_sub hl [1] rfl) S
    · replace h := (if_neg q6).symm.trans h
      refine lv_bipush (v := 10) C.1 C.2.1 dX5_readNumber_19 (by decide) ?_
      refine lv_iload_n C.1 C.2.1 dX5_readNumber_21 rfl (lv_at hl 1 rfl) ?_
      refine lv_imul C.1 C.2.1 dX5_readNumber_22 ?_
      refine lv_aload_n C.1 C.2.1 dX5_readNumber_23 rfl (lv_at hl 0 rfl) ?_
      obtain ⟨o7, e8, h⟩ := Option.bind_eq_some_iff.mp h
      refine r_vi C S hl ht0.1 cf_5 (k_X5_next ht0 e8) b_vb_RX5_70 [] rfl [.int (10 * z.1)] rfl rfl (Nat.le_of_ble_eq_true rfl) ⟨Nat.le_of_ble_eq_true rfl, Nat.le_of_ble_eq_true rfl⟩ dX5_readNumber_24 (fun H locs S => ?_)
      refine lv_iadd C.1 C.2.1 dX5_readNumber_27 ?_
      refine lv_bipush (v := 48) C.1 C.2.1 dX5_readNumber_28 (by decide) ?_
      refine lv_isub C.1 C.2.1 dX5_readNumber_30 ?_
      refine lv_istore_n (lv' := [(1, .int (((10 * z.1) + o7) - 48)), (0, .ref (ad t0)), (2, .int z.2.1)]) C.1 C.2.1 dX5_readNumber_31 rfl hl (by decide) rfl (fun ls hl => ?_)
      refine lv_aload_n C.1 C.2.1 dX5_readNumber_32 rfl (lv_at hl 1 rfl) ?_
      refine lv_dup C.1 C.2.1 dX5_readNumber_33 rfl ?_
      refine r_geti C S ht0.1 cf_5 2 rfl (by decide) b_fl_RX5_19 dX5_readNumber_34 ?_
      refine lv_iconst (v := 1) C.1 C.2.1 dX5_readNumber_37 (by decide) ?_
      refine lv_iadd C.1 C.2.1 dX5_readNumber_38 ?_
      refine r_put C S ht0.1 cf_5 2 rfl (by decide) rfl (ni _) b_fl_RX5_19 dX5_readNumber_39 (fun H locs S => ?_)
      obtain ⟨w9, h, S⟩ := lw_S (P := fun y => St D ad ca s y H locs) h S
      refine lv_iinc (v := z.2.1 + 1) (lv' := [(2, .int (z.2.1 + 1)), (1, .int (((10 * z.1) + o7) - 48)), (0, .ref (ad t0))]) C.1 C.2.1 dX5_readNumber_42 hl (k := 2) rfl rfl (by decide) rfl (fun ls hl => ?_)
      refine lv_goto (tgt := 4) C.1 C.2.1 dX5_readNumber_45 (by decide) ?_
      exact hN _ (Option.some.inj h).symm _ _ _ (lv_sub hl [2, 1, 0] rfl) S
set_option maxHeartbeats 4000000 in
set_option maxRecDepth 100000 in
theorem k_X5_readNumber {t0 : Nat} (ht0 : Rr t0) {w : Wd} {rv : Int32 × Wd} (h : f_X5_readNumber t0 w = some rv) : CI yX5_readNumber cX5_readNumber 3 .int 1 20 (fun ad => [.ref (ad t0)]) w rv.1 rv.2 := by
  refine CI.of (by decide) ?_
  intro l D ad sx ca p e s m below meth c C S hr hlocks
  have hl := lv_entry ([.ref (ad t0)]) (n := 3) (Nat.le_of_ble_eq_true rfl)
  rw [lg_entry_eq]
  generalize (lg_sl ([.ref (ad t0)]) ++ List.replicate (3 - (lg_sl ([.ref (ad t0)])).length) Slot.unset).toArray = ls at hl ⊢
  have hl : lv_has ls 3 [(0, .ref (ad t0))] := hl
  generalize ha9 : ([.ref (ad t0)] : List Value).toArray = args at C ⊢
  generalize s.heap = H at S ⊢
  generalize ([] : List Loc) = locs at S ⊢
  unfold f_X5_readNumber at h
  refine lv_iconst (v := 0) C.1 C.2.1 dX5_readNumber_0 (by decide) ?_
  refine lv_istore_n (lv' := [(1, .int 0), (0, .ref (ad t0))]) C.1 C.2.1 dX5_readNumber_1 rfl hl (by decide) rfl (fun ls hl => ?_)
  refine lv_iconst (v := 0) C.1 C.2.1 dX5_readNumber_2 (by decide) ?_
  refine lv_istore_n (lv' := [(2, .int 0), (1, .int 0), (0, .ref (ad t0))]) C.1 C.2.1 dX5_readNumber_3 rfl hl (by decide) rfl (fun ls hl => ?_)
  obtain ⟨o10, e11, h⟩ := Option.bind_eq_some_iff.mp h
  refine k_X5_readNumber_L4 C ht0 FU _ _ e11 (fun ls H locs hl S => ?_) ls H locs (lv_sub hl [2, 1, 0] rfl) S
  refine lv_iload_n C.1 C.2.1 dX5_readNumber_48 rfl (lv_at hl 0 rfl) ?_
  have h9 := Option.some.inj h
  subst h9
  exact r_iret C S hr hlocks dX5_readNumber_49
set_option maxHeartbeats 4000000 in
set_option maxRecDepth 100000 in
theorem k_X5_fail {t0 : Nat} (ht0 : Rr t0) {w : Wd} {rv : Wd} (h : f_X5_fail t0 w = some rv) : CV yX5_fail cX5_fail 1 0 0 (fun ad => [.ref (ad t0)]) w rv := by
  refine CV.of (by decide) ?_
  intro l D ad sx ca p e s m below meth c C S hr hlocks
  have hl := lv_entry ([.ref (ad t0)]) (n := 1) (Nat.le_of_ble_eq_true rfl)
  rw [lg_entry_eq]
  generalize (lg_sl ([.ref (ad t0)]) ++ List.replicate (1 - (lg_sl ([.ref (ad t0)])).length) Slot.unset).toArray = ls at hl ⊢
  have hl : lv_has ls 1 [(0, .ref (ad t0))] := hl
  generalize ha9 : ([.ref (ad t0)] : List Value).toArray = args at C ⊢
  generalize s.heap = H at S ⊢
  generalize ([] : List Loc) = locs at S ⊢
  unfold f_X5_fail at h
  refine lv_aload_n C.1 C.2.1 dX5_fail_0 rfl (lv_at hl 0 rfl) ?_
  refine r_geti C S ht0.1 cf_5 3 rfl (by decide) b_fl_RX5_23 dX5_fail_1 ?_
  refine lv_if_ge (tgt := 15) C.1 C.2.1 dX5_fail_4 (by decide) (fun q1 => ?_) (fun q1 => ?_)
  · replace h := (if_pos q1).symm.trans h
    have h9 := Option.some.inj h
    subst h9
    exact r_vret C S hr hlocks dX5_fail_15
  · replace h := (if_neg q1).symm.trans h
    refine lv_aload_n C.1 C.2.1 dX5_fail_7 rfl (lv_at hl 0 rfl) ?_
    refine lv_aload_n C.1 C.2.1 dX5_fail_8 rfl (lv_at hl 0 rfl) ?_
    refine r_geti C S ht0.1 cf_5 2 rfl (by decide) b_fl_RX5_19 dX5_fail_9 ?_
    refine r_put C S ht0.1 cf_5 3 rfl (by decide) rfl (ni _) b_fl_RX5_23 dX5_fail_12 (fun H locs S => ?_)
    obtain ⟨w2, h, S⟩ := lw_S (P := fun y => St D ad ca s y H locs) h S
    have h9 := Option.some.inj h
    subst h9
    exact r_vret C S hr hlocks dX5_fail_15
set_option maxHeartbeats 4000000 in
set_option maxRecDepth 100000 in
theorem k_X5_expect {t0 : Nat} {v1 : Int32} (ht0 : Rr t0) {w : Wd} {rv : Wd} (h : f_X5_expect t0 v1 w = some rv) : CV yX5_expect cX5_expect 2 1 20 (fun ad => [.ref (ad t0), .int v1]) w rv := by
  refine CV.of (by decide) ?_
  intro l D ad sx ca p e s m below meth c C S hr hlocks
  have hl := lv_entry ([.ref (ad t0), .int v1]) (n := 2) (Nat.le_of_ble_eq_true rfl)
  rw [lg_entry_eq]
  generalize (lg_sl ([.ref (ad t0), .int v1]) ++ List.replicate (2 - (lg_sl ([.ref (ad t0), .int v1])).length) Slot.unset).toArray = ls at hl ⊢
  have hl : lv_has ls 2 [(0, .ref (ad t0)), (1, .int v1)] := hl
  generalize ha9 : ([.ref (ad t0), .int v1] : List Value).toArray = args at C ⊢
  generalize s.heap = H at S ⊢
  generalize ([] : List Loc) = locs at S ⊢
  unfold f_X5_expect at h
  refine lv_aload_n C.1 C.2.1 dX5_expect_0 rfl (lv_at hl 0 rfl) ?_
  obtain ⟨o1, e2, h⟩ := Option.bind_eq_some_iff.mp h
  refine r_vi C S hl ht0.1 cf_5 (k_X5_next ht0 e2) b_vb_RX5_70 [] rfl [] rfl rfl (Nat.le_of_ble_eq_true rfl) ⟨Nat.le_of_ble_eq_true rfl, Nat.le_of_ble_eq_true rfl⟩ dX5_expect_1 (fun H locs S => ?_)
  refine lv_iload_n C.1 C.2.1 dX5_expect_4 rfl (lv_at hl 1 rfl) ?_
  refine lv_icmp_ne (tgt := 21) C.1 C.2.1 dX5_expect_5 (by decide) (fun q3 => ?_) (fun q3 => ?_)
  · replace h := (if_neg q3).symm.trans h
    refine lv_aload_n C.1 C.2.1 dX5_expect_21 rfl (lv_at hl 0 rfl) ?_
    obtain ⟨o4, e5, h⟩ := Option.bind_eq_some_iff.mp h
    refine r_vv C S hl ht0.1 cf_5 (k_X5_fail ht0 e5) b_vb_RX5_35 [] rfl [] rfl rfl (Nat.le_of_ble_eq_true rfl) ⟨Nat.le_of_ble_eq_true rfl, Nat.le_of_ble_eq_true rfl⟩ dX5_expect_22 (fun H locs S => ?_)
    have h9 := Option.some.inj h
    subst h9
    exact r_vret C S hr hlocks dX5_expect_25
  · replace h := (if_pos q3).symm.trans h
    refine lv_aload_n C.1 C.2.1 dX5_expect_8 rfl (lv_at hl 0 rfl) ?_
    refine lv_dup C.1 C.2.1 dX5_expect_9 rfl ?_
    refine r_geti C S ht0.1 cf_5 2 rfl (by decide) b_fl_RX5_19 dX5_expect_10 ?_
    refine lv_iconst (v := 1) C.1 C.2.1 dX5_expect_13 (by decide) ?_
    refine lv_iadd C.1 C.2.1 dX5_expect_14 ?_
    refine r_put C S ht0.1 cf_5 2 rfl (by decide) rfl (ni _) b_fl_RX5_19 dX5_expect_15 (fun H locs S => ?_)
    obtain ⟨w6, h, S⟩ := lw_S (P := fun y => St D ad ca s y H locs) h S
    refine lv_goto (tgt := 25) C.1 C.2.1 dX5_expect_18 (by decide) ?_
    have h9 := Option.some.inj h
    subst h9
    exact r_vret C S hr hlocks dX5_expect_25
set_option maxHeartbeats 4000000 in
set_option maxRecDepth 100000 in
theorem k_X5_readBracket {n : Nat} {S : Nat → Int32 → Wd → Option (Int32 × Wd)} (hS : ∀ {t : Nat} {d : Int32} {w : Wd} {rv : Int32 × Wd}, Rr t → S t d w = some rv → CI yX5_readSum cX5_readSum 6 .int (16 * n + 20) (400 * n + 600) (fun ad => [.ref (ad t), .int d]) w rv.1 rv.2) {t0 : Nat} {v1 : Int32} (ht0 : Rr t0) {w : Wd} {rv : Int32 × Wd} (h : f_X5_readBracket S t0 v1 w = some rv) : CI yX5_readBracket cX5_readBracket 3 .int (16 * n + 24) (400 * n + 700) (fun ad => [.ref (ad t0), .int v1]) w rv.1 rv.2 := by
  refine CI.of (by decide) ?_
  intro l D ad sx ca p e s m below meth c C S hr hlocks
  have hl := lv_entry ([.ref (ad t0), .int v1]) (n := 3) (Nat.le_of_ble_eq_true rfl)
  rw [lg_entry_eq]
  generalize (lg_sl ([.ref (ad t0), .int v1]) ++ List.replicate (3 - (lg_sl ([.ref (ad t0), .int v1])).length) Slot.unset).toArray = ls at hl ⊢
  have hl : lv_has ls 3 [(0, .ref (ad t0)), (1, .int v1)] := hl
  generalize ha9 : ([.ref (ad t0), .int v1] : List Value).toArray = args at C ⊢
  generalize s.heap = H at S ⊢
  generalize ([] : List Loc) = locs at S ⊢
  unfold f_X5_readBracket at h
  refine lv_aload_n C.1 C.2.1 dX5_readBracket_0 rfl (lv_at hl 0 rfl) ?_
  refine lv_dup C.1 C.2.1 dX5_readBracket_1 rfl ?_
  refine r_geti C S ht0.1 cf_5 2 rfl (by decide) b_fl_RX5_19 dX5_readBracket_2 ?_
  refine lv_iconst (v := 1) C.1 C.2.1 dX5_readBracket_5 (by decide) ?_
  refine lv_iadd C.1 C.2.1 dX5_readBracket_6 ?_
  refine r_put C S ht0.1 cf_5 2 rfl (by decide) rfl (ni _) b_fl_RX5_19 dX5_readBracket_7 (fun H locs S => ?_)
  obtain ⟨w1, h, S⟩ := lw_S (P := fun y => St D ad ca s y H locs) h S
  refine lv_aload_n C.1 C.2.1 dX5_readBracket_10 rfl (lv_at hl 0 rfl) ?_
  refine lv_iload_n C.1 C.2.1 dX5_readBracket_11 rfl (lv_at hl 1 rfl) ?_
  obtain ⟨o2, e3, h⟩ := Option.bind_eq_some_iff.mp h
  refine r_vi C S hl ht0.1 cf_5 (hS ht0 e3) b_vb_RX5_26 [.int v1] rfl [] rfl rfl (Nat.le_of_ble_eq_true rfl) ⟨(by dsimp only [RM]; omega), (by dsimp only [RM]; omega)⟩ dX5_readBracket_12 (fun H locs S => ?_)
  refine lv_istore_n (lv' := [(2, .int o2.1), (0, .ref (ad t0)), (1, .int v1)]) C.1 C.2.1 dX5_readBracket_15 rfl hl (by decide) rfl (fun ls hl => ?_)
  refine lv_aload_n C.1 C.2.1 dX5_readBracket_16 rfl (lv_at hl 1 rfl) ?_
  refine lv_bipush (v := 41) C.1 C.2.1 dX5_readBracket_17 (by decide) ?_
  obtain ⟨o4, e5, h⟩ := Option.bind_eq_some_iff.mp h
  refine r_vv C S hl ht0.1 cf_5 (k_X5_expect ht0 e5) b_vb_RX5_108 [.int 41] rfl [] rfl rfl (Nat.le_of_ble_eq_true rfl) ⟨(by dsimp only [RM]; omega), (by dsimp only [RM]; omega)⟩ dX5_readBracket_19 (fun H locs S => ?_)
  refine lv_iload_n C.1 C.2.1 dX5_readBracket_22 rfl (lv_at hl 0 rfl) ?_
  have h9 := Option.some.inj h
  subst h9
  exact r_iret C S hr hlocks dX5_readBracket_23
set_option maxHeartbeats 4000000 in
set_option maxRecDepth 100000 in
theorem k_X5_readChoice {n : Nat} {S : Nat → Int32 → Wd → Option (Int32 × Wd)} (hS : ∀ {t : Nat} {d : Int32} {w : Wd} {rv : Int32 × Wd}, Rr t → S t d w = some rv → CI yX5_readSum cX5_readSum 6 .int (16 * n + 20) (400 * n + 600) (fun ad => [.ref (ad t), .int d]) w rv.1 rv.2) {t0 : Nat} {v1 : Int32} (ht0 : Rr t0) {w : Wd} {rv : Int32 × Wd} (h : f_X5_readChoice S t0 v1 w = some rv) : CI yX5_readChoice cX5_readChoice 5 .int (16 * n + 24) (400 * n + 700) (fun ad => [.ref (ad t0), .int v1]) w rv.1 rv.2 := by
  refine CI.of (by decide) ?_
  intro l D ad sx ca p e s m below meth c C S hr hlocks
  have hl := lv_entry ([.ref (ad t0), .int v1]) (n := 5) (Nat.le_of_ble_eq_true rfl)
  rw [lg_entry_eq]
  generalize (lg_sl ([.ref (ad t0), .int v1]) ++ List.replicate (5 - (lg_sl ([.ref (ad t0), .int v1])).length) Slot.unset).toArray = ls at hl ⊢
  have hl : lv_has ls 5 [(0, .ref (ad t0)), (1, .int v1)] := hl
  generalize ha9 : ([.ref (ad t0), .int v1] : List Value).toArray = args at C ⊢
  generalize s.heap = H at S ⊢
  generalize ([] : List Loc) = locs at S ⊢
  unfold f_X5_readChoice at h
  refine lv_aload_n C.1 C.2.1 dX5_readChoice_0 rfl (lv_at hl 0 rfl) ?_
  refine lv_dup C.1 C.2.1 dX5_readChoice_1 rfl ?_
  refine r_geti C S ht0.1 cf_5 2 rfl (by decide) b_fl_RX5_19 dX5_readChoice_2 ?_
  refine lv_iconst (v := 1) C.1 C.2.1 dX5_readChoice_5 (by decide) ?_
  refine lv_iadd C.1 C.2.1 dX5_readChoice_6 ?_
  refine r_put C S ht0.1 cf_5 2 rfl (by decide) rfl (ni _) b_fl_RX5_19 dX5_readChoice_7 (fun H locs S => ?_)
  obtain ⟨w1, h, S⟩ := lw_S (P := fun y => St D ad ca s y H locs) h S
  refine lv_aload_n C.1 C.2.1 dX5_readChoice_10 rfl (lv_at hl 0 rfl) ?_
  refine lv_iload_n C.1 C.2.1 dX5_readChoice_11 rfl (lv_at hl 1 rfl) ?_
  obtain ⟨o2, e3, h⟩ := Option.bind_eq_some_iff.mp h
  refine r_vi C S hl ht0.1 cf_5 (hS ht0 e3) b_vb_RX5_26 [.int v1] rfl [] rfl rfl (Nat.le_of_ble_eq_true rfl) ⟨(by dsimp only [RM]; omega), (by dsimp only [RM]; omega)⟩ dX5_readChoice_12 (fun H locs S => ?_)
  refine lv_istore_n (lv' := [(2, .int o2.1), (0, .ref (ad t0)), (1, .int v1)]) C.1 C.2.1 dX5_readChoice_15 rfl hl (by decide) rfl (fun ls hl => ?_)
  refine lv_aload_n C.1 C.2.1 dX5_readChoice_16 rfl (lv_at hl 1 rfl) ?_
  refine lv_bipush (v := 63) C.1 C.2.1 dX5_readChoice_17 (by decide) ?_
  obtain ⟨o4, e5, h⟩ := Option.bind_eq_some_iff.mp h
  refine r_vv C S hl ht0.1 cf_5 (k_X5_expect ht0 e5) b_vb_RX5_108 [.int 63] rfl [] rfl rfl (Nat.le_of_ble_eq_true rfl) ⟨(by dsimp only [RM]; omega), (by dsimp only [RM]; omega)⟩ dX5_readChoice_19 (fun H locs S => ?_)
  refine lv_aload_n C.1 C.2.1 dX5_readChoice_22 rfl (lv_at hl 1 rfl) ?_
  refine lv_iload_n C.1 C.2.1 dX5_readChoice_23 rfl (lv_at hl 2 rfl) ?_
  obtain ⟨o6, e7, h⟩ := Option.bind_eq_some_iff.mp h
  refine r_vi C S hl ht0.1 cf_5 (hS ht0 e7) b_vb_RX5_26 [.int v1] rfl [] rfl rfl (Nat.le_of_ble_eq_true rfl) ⟨(by dsimp only [RM]; omega), (by dsimp only [RM]; omega)⟩ dX5_readChoice_24 (fun H locs S => ?_)
  refine lv_istore_n (lv' := [(3, .int o6.1), (2, .int o2.1), (0, .ref (ad t0)), (1, .int v1)]) C.1 C.2.1 dX5_readChoice_27 rfl hl (by decide) rfl (fun ls hl => ?_)
  refine lv_aload_n C.1 C.2.1 dX5_readChoice_28 rfl (lv_at hl 2 rfl) ?_
  refine lv_bipush (v := 58) C.1 C.2.1 dX5_readChoice_29 (by decide) ?_
  obtain ⟨o8, e9, h⟩ := Option.bind_eq_some_iff.mp h
  refine r_vv C S hl ht0.1 cf_5 (k_X5_expect ht0 e9) b_vb_RX5_108 [.int 58] rfl [] rfl rfl (Nat.le_of_ble_eq_true rfl) ⟨(by dsimp only [RM]; omega), (by dsimp only [RM]; omega)⟩ dX5_readChoice_31 (fun H locs S => ?_)
  refine lv_aload_n C.1 C.2.1 dX5_readChoice_34 rfl (lv_at hl 2 rfl) ?_
  refine lv_iload_n C.1 C.2.1 dX5_readChoice_35 rfl (lv_at hl 3 rfl) ?_
  obtain ⟨o10, e11, h⟩ := Option.bind_eq_some_iff.mp h
  refine r_vi C S hl ht0.1 cf_5 (hS ht0 e11) b_vb_RX5_26 [.int v1] rfl [] rfl rfl (Nat.le_of_ble_eq_true rfl) ⟨(by dsimp only [RM]; omega), (by dsimp only [RM]; omega)⟩ dX5_readChoice_36 (fun H locs S => ?_)
  refine lv_istore (lv' := [(4, .int o10.1), (3, .int o6.1), (2, .int o2.1), (0, .ref (ad t0)), (1, .int v1)]) C.1 C.2.1 dX5_readChoice_39 hl (by decide) rfl (fun ls hl => ?_)
  refine lv_aload_n C.1 C.2.1 dX5_readChoice_41 rfl (lv_at hl 3 rfl) ?_
  refine lv_bipush (v := 93) C.1 C.2.1 dX5_readChoice_42 (by decide) ?_
  obtain ⟨o12, e13, h⟩ := Option.bind_eq_some_iff.mp h
  refine r_vv C S hl ht0.1 cf_5 (k_X5_expect ht0 e13) b_vb_RX5_108 [.int 93] rfl [] rfl rfl (Nat.le_of_ble_eq_true rfl) ⟨(by dsimp only [RM]; omega), (by dsimp only [RM]; omega)⟩ dX5_readChoice_44 (fun H locs S => ?_)
  refine lv_iload_n C.1 C.2.1 dX5_readChoice_47 rfl (lv_at hl 2 rfl) ?_
  refine lv_if_eq (tgt := 55) C.1 C.2.1 dX5_readChoice_48 (by decide) (fun q14 => ?_) (fun q14 => ?_)
  · replace h := (if_pos q14).symm.trans h
    refine lv_iload C.1 C.2.1 dX5_readChoice_55 (lv_at hl 0 rfl) ?_
    have h9 := Option.some.inj h
    subst h9
    exact r_iret C S hr hlocks dX5_readChoice_57
  · replace h := (if_neg q14).symm.trans h
    refine lv_iload_n C.1 C.2.1 dX5_readChoice_51 rfl (lv_at hl 1 rfl) ?_
    refine lv_goto (tgt := 57) C.1 C.2.1 dX5_readChoice_52 (by decide) ?_
    have h9 := Option.some.inj h
    subst h9
    exact r_iret C S hr hlocks dX5_readChoice_57
set_option maxHeartbeats 4000000 in
set_option maxRecDepth 100000 in
theorem k_J0_isLatin1_aae02   {w : Wd} {rv : Int32} (h : f_J0_isLatin1_aae02 w = some rv) : CI yJ0_isLatin1_aae02 cJ0_isLatin1_aae02 1 .boolean 0 0 (fun ad => [.ref (ad 105)]) w rv w := by
  refine CI.of (by decide) ?_
  intro l D ad sx ca p e s m below meth c C S hr hlocks
  have hl := lv_entry ([.ref (ad 105)]) (n := 1) (Nat.le_of_ble_eq_true rfl)
  rw [lg_entry_eq]
  generalize (lg_sl ([.ref (ad 105)]) ++ List.replicate (1 - (lg_sl ([.ref (ad 105)])).length) Slot.unset).toArray = ls at hl ⊢
  have hl : lv_has ls 1 [(0, .ref (ad 105))] := hl
  generalize ha9 : ([.ref (ad 105)] : List Value).toArray = args at C ⊢
  generalize s.heap = H at S ⊢
  generalize ([] : List Loc) = locs at S ⊢
  unfold f_J0_isLatin1_aae02 at h
  refine r_compact C S b_sf_RJ0_38 dJ0_isLatin1_aae02_0 ?_
  refine lv_if_eq (tgt := 17) C.1 C.2.1 dJ0_isLatin1_aae02_3 (by decide) (fun q1 => ?_) (fun q1 => ?_)
  · replace h := (if_pos q1).symm.trans h
    refine lv_iconst (v := 0) C.1 C.2.1 dJ0_isLatin1_aae02_17 (by decide) ?_
    have h9 := Option.some.inj h
    subst h9
    exact r_zret C S hr hlocks (Or.inl rfl) dJ0_isLatin1_aae02_18
  · replace h := (if_neg q1).symm.trans h
    refine lv_aload_n C.1 C.2.1 dJ0_isLatin1_aae02_6 rfl (lv_at hl 0 rfl) ?_
    refine r_coder C S b_sf_RJ0_15 dJ0_isLatin1_aae02_7 ?_
    refine lv_if_ne (tgt := 17) C.1 C.2.1 dJ0_isLatin1_aae02_10 (by decide) (fun q2 => ?_) (fun q2 => ?_)
    · replace h := (if_neg q2).symm.trans h
      refine lv_iconst (v := 0) C.1 C.2.1 dJ0_isLatin1_aae02_17 (by decide) ?_
      have h9 := Option.some.inj h
      subst h9
      exact r_zret C S hr hlocks (Or.inl rfl) dJ0_isLatin1_aae02_18
    · replace h := (if_pos q2).symm.trans h
      refine lv_iconst (v := 1) C.1 C.2.1 dJ0_isLatin1_aae02_13 (by decide) ?_
      refine lv_goto (tgt := 18) C.1 C.2.1 dJ0_isLatin1_aae02_14 (by decide) ?_
      have h9 := Option.some.inj h
      subst h9
      exact r_zret C S hr hlocks (Or.inr rfl) dJ0_isLatin1_aae02_18
set_option maxHeartbeats 4000000 in
set_option maxRecDepth 100000 in
theorem k_J0_coder_7d493   {w : Wd} {rv : Int32} (h : f_J0_coder_7d493 w = some rv) : CI yJ0_coder_7d493 cJ0_coder_7d493 1 .byte 0 0 (fun ad => [.ref (ad 105)]) w rv w := by
  refine CI.of (by decide) ?_
  intro l D ad sx ca p e s m below meth c C S hr hlocks
  have hl := lv_entry ([.ref (ad 105)]) (n := 1) (Nat.le_of_ble_eq_true rfl)
  rw [lg_entry_eq]
  generalize (lg_sl ([.ref (ad 105)]) ++ List.replicate (1 - (lg_sl ([.ref (ad 105)])).length) Slot.unset).toArray = ls at hl ⊢
  have hl : lv_has ls 1 [(0, .ref (ad 105))] := hl
  generalize ha9 : ([.ref (ad 105)] : List Value).toArray = args at C ⊢
  generalize s.heap = H at S ⊢
  generalize ([] : List Loc) = locs at S ⊢
  unfold f_J0_coder_7d493 at h
  refine r_compact C S b_sf_RJ0_38 dJ0_coder_7d493_0 ?_
  refine lv_if_eq (tgt := 13) C.1 C.2.1 dJ0_coder_7d493_3 (by decide) (fun q1 => ?_) (fun q1 => ?_)
  · replace h := (if_pos q1).symm.trans h
    refine lv_iconst (v := 1) C.1 C.2.1 dJ0_coder_7d493_13 (by decide) ?_
    obtain ⟨g2, h⟩ := gd_some h
    have h9 := Option.some.inj h
    subst h9
    exact r_bret C S hr hlocks (zo_or g2) dJ0_coder_7d493_14
  · replace h := (if_neg q1).symm.trans h
    refine lv_aload_n C.1 C.2.1 dJ0_coder_7d493_6 rfl (lv_at hl 0 rfl) ?_
    refine r_coder C S b_sf_RJ0_15 dJ0_coder_7d493_7 ?_
    refine lv_goto (tgt := 14) C.1 C.2.1 dJ0_coder_7d493_10 (by decide) ?_
    obtain ⟨g3, h⟩ := gd_some h
    have h9 := Option.some.inj h
    subst h9
    exact r_bret C S hr hlocks (zo_or g3) dJ0_coder_7d493_14
set_option maxHeartbeats 4000000 in
set_option maxRecDepth 100000 in
theorem k_J0_length_8abf5   {w : Wd} {rv : Int32} (h : f_J0_length_8abf5 w = some rv) : CI yJ0_length_8abf5 cJ0_length_8abf5 1 .int 1 20 (fun ad => [.ref (ad 105)]) w rv w := by
  refine CI.of (by decide) ?_
  intro l D ad sx ca p e s m below meth c C S hr hlocks
  have hl := lv_entry ([.ref (ad 105)]) (n := 1) (Nat.le_of_ble_eq_true rfl)
  rw [lg_entry_eq]
  generalize (lg_sl ([.ref (ad 105)]) ++ List.replicate (1 - (lg_sl ([.ref (ad 105)])).length) Slot.unset).toArray = ls at hl ⊢
  have hl : lv_has ls 1 [(0, .ref (ad 105))] := hl
  generalize ha9 : ([.ref (ad 105)] : List Value).toArray = args at C ⊢
  generalize s.heap = H at S ⊢
  generalize ([] : List Loc) = locs at S ⊢
  unfold f_J0_length_8abf5 at h
  refine lv_aload_n C.1 C.2.1 dJ0_length_8abf5_0 rfl (lv_at hl 0 rfl) ?_
  refine r_value C S b_sf_RJ0_9 dJ0_length_8abf5_1 ?_
  refine r_blen C S dJ0_length_8abf5_4 ?_
  refine lv_aload_n C.1 C.2.1 dJ0_length_8abf5_5 rfl (lv_at hl 0 rfl) ?_
  obtain ⟨o1, e2, h⟩ := Option.bind_eq_some_iff.mp h
  refine r_vsi C S hl (k_J0_coder_7d493 e2) b_vb_RJ0_335 [] rfl [.int (8 : Int32)] rfl rfl (Nat.le_of_ble_eq_true rfl) ⟨Nat.le_of_ble_eq_true rfl, Nat.le_of_ble_eq_true rfl⟩ dJ0_length_8abf5_6 (fun H locs S => ?_)
  refine lv_ishr C.1 C.2.1 dJ0_length_8abf5_9 ?_
  have h9 := Option.some.inj h
  subst h9
  exact r_iret C S hr hlocks dJ0_length_8abf5_10
set_option maxHeartbeats 4000000 in
set_option maxRecDepth 100000 in
theorem k_J1_canEncode_9a6ad {v0 : Int32}  {w : Wd} {rv : Int32} (h : f_J1_canEncode_9a6ad v0 = some rv) : CI yJ1_canEncode_9a6ad cJ1_canEncode_9a6ad 1 .boolean 0 0 (fun ad => [.int v0]) w rv w := by
  refine CI.of (by decide) ?_
  intro l D ad sx ca p e s m below meth c C S hr hlocks
  have hl := lv_entry ([.int v0]) (n := 1) (Nat.le_of_ble_eq_true rfl)
  rw [lg_entry_eq]
  generalize (lg_sl ([.int v0]) ++ List.replicate (1 - (lg_sl ([.int v0])).length) Slot.unset).toArray = ls at hl ⊢
  have hl : lv_has ls 1 [(0, .int v0)] := hl
  generalize ha9 : ([.int v0] : List Value).toArray = args at C ⊢
  generalize s.heap = H at S ⊢
  generalize ([] : List Loc) = locs at S ⊢
  unfold f_J1_canEncode_9a6ad at h
  refine lv_iload_n C.1 C.2.1 dJ1_canEncode_9a6ad_0 rfl (lv_at hl 0 rfl) ?_
  refine lv_if_lt (tgt := 15) C.1 C.2.1 dJ1_canEncode_9a6ad_1 (by decide) (fun q1 => ?_) (fun q1 => ?_)
  · replace h := (if_pos q1).symm.trans h
    refine lv_iconst (v := 0) C.1 C.2.1 dJ1_canEncode_9a6ad_15 (by decide) ?_
    have h9 := Option.some.inj h
    subst h9
    exact r_zret C S hr hlocks (Or.inl rfl) dJ1_canEncode_9a6ad_16
  · replace h := (if_neg q1).symm.trans h
    refine lv_iload_n C.1 C.2.1 dJ1_canEncode_9a6ad_4 rfl (lv_at hl 0 rfl) ?_
    refine lv_sipush (v := 255) C.1 C.2.1 dJ1_canEncode_9a6ad_5 (by decide) ?_
    refine lv_icmp_gt (tgt := 15) C.1 C.2.1 dJ1_canEncode_9a6ad_8 (by decide) (fun q2 => ?_) (fun q2 => ?_)
    · replace h := (if_pos q2).symm.trans h
      refine lv_iconst (v := 0) C.1 C.2.1 dJ1_canEncode_9a6ad_15 (by decide) ?_
      have h9 := Option.some.inj h
      subst h9
      exact r_zret C S hr hlocks (Or.inl rfl) dJ1_canEncode_9a6ad_16
    · replace h := (if_neg q2).symm.trans h
      refine lv_iconst (v := 1) C.1 C.2.1 dJ1_canEncode_9a6ad_11 (by decide) ?_
      refine lv_goto (tgt := 16) C.1 C.2.1 dJ1_canEncode_9a6ad_12 (by decide) ?_
      have h9 := Option.some.inj h
      subst h9
      exact r_zret C S hr hlocks (Or.inr rfl) dJ1_canEncode_9a6ad_16
set_option maxHeartbeats 4000000 in
set_option maxRecDepth 100000 in
theorem k_J1_indexOfChar_4cfef_L7 {p : Program} {l : Launch} {e : Env} {s : State} {m : MethodId} {args : Array Value} {below : List Frame} {meth : Method} {c : Code} {D : va_G} {ad sx : Nat → Nat} {ca : Nat → ClassId} (C : Cx D ad sx ca p s m c args RJ1 cJ1_indexOfChar_4cfef 6) (hr : meth.sig.returnType = (some .int)) (hlocks : meth.locks = false) {rv : Int32} {w : Wd} {v3 : Int32} {v4 : Int32}  : ∀ (n9 : Nat) (z : Int32) (o : (Int32) ⊕ (Int32)), lp (f_J1_indexOfChar_4cfef_L7 v3 v4) n9 z = some o → ((∀ x, o = .inl x → ∀ (ls : Array Slot) (H : Heap) (locs : List Loc), lv_has ls 6 [] → St D ad ca s w H locs → W p l e (RM 0 0) s m args below meth c H locs 0 0 (MQ below (Qi D ad ca rv w) args s 0 0 (Aad ad)) (F0 m 31 ls [])) ∧ ∀ y, o = .inr y → y = rv) → (∀ (ls : Array Slot) (H : Heap) (locs : List Loc), lv_has ls 6 [(0, .ref (ad 106)), (3, .int v3), (4, .int v4), (5, .int z)] → St D ad ca s w H locs → W p l e (RM 0 0) s m args below meth c H locs 0 0 (MQ below (Qi D ad ca rv w) args s 0 0 (Aad ad)) (F0 m 7 ls [])) := by
  refine lp_W (HW := fun (z : Int32) => ∀ (ls : Array Slot) (H : Heap) (locs : List Loc), lv_has ls 6 [(0, .ref (ad 106)), (3, .int v3), (4, .int v4), (5, .int z)] → St D ad ca s w H locs → W p l e (RM 0 0) s m args below meth c H locs 0 0 (MQ below (Qi D ad ca rv w) args s 0 0 (Aad ad)) (F0 m 7 ls [])) (XW := fun (o : (Int32) ⊕ (Int32)) => (∀ x, o = .inl x → ∀ (ls : Array Slot) (H : Heap) (locs : List Loc), lv_has ls 6 [] → St D ad ca s w H locs → W p l e (RM 0 0) s m args below meth c H locs 0 0 (MQ below (Qi D ad ca rv w) args s 0 0 (Aad ad)) (F0 m 31 ls [])) ∧ ∀ y, o = .inr y → y = rv) ?_
  intro z x h hN hX ls H locs hl S
  unfold f_J1_indexOfChar_4cfef_L7 at h
  refine lv_iload C.1 C.2.1 dJ1_indexOfChar_4cfef_7 (lv_at hl 3 rfl) ?_
  refine lv_iload_n C.1 C.2.1 dJ1_indexOfChar_4cfef_9 rfl (lv_at hl 1 rfl) ?_
  refine lv_icmp_ge (tgt := 31) C.1 C.2.1 dJ1_indexOfChar_4cfef_10 (by decide) (fun q1 => ?_) (fun q1 => ?_)
  · replace h := (if_pos q1).symm.trans h
    exact (hX _ (Option.some.inj h).symm).1 _ rfl _ _ _ (lv_sub hl [] rfl) S
  · replace h := (if_neg q1).symm.trans h
    refine lv_aload_n C.1 C.2.1 dJ1_indexOfChar_4cfef_13 rfl (lv_at hl 0 rfl) ?_
    refine lv_iload C.1 C.2.1 dJ1_indexOfChar_4cfef_14 (lv_at hl 3 rfl) ?_
    obtain ⟨g2, h⟩ := gd_some h
    refine r_bald C S g2 dJ1_indexOfChar_4cfef_16 ?_
    refine lv_iload C.1 C.2.1 dJ1_indexOfChar_4cfef_17 (lv_at hl 2 rfl) ?_
    refine lv_icmp_ne (tgt := 25) C.1 C.2.1 dJ1_indexOfChar_4cfef_19 (by decide) (fun q3 => ?_) (fun q3 => ?_)
    · replace h := (if_neg q3).symm.trans h
      refine lv_iinc (v := z + 1) (lv' := [(5, .int (z + 1)), (0, .ref (ad 106)), (3, .int v3), (4, .int v4)]) C.1 C.2.1 dJ1_indexOfChar_4cfef_25 hl (k := 3) rfl rfl (by decide) rfl (fun ls hl => ?_)
      refine lv_goto (tgt := 7) C.1 C.2.1 dJ1_indexOfChar_4cfef_28 (by decide) ?_
      exact hN _ (Option.some.inj h).symm _ _ _ (lv_sub hl [1, 2, 3, 0] rfl) S
    · replace h := (if_pos q3).symm.trans h
      refine lv_iload C.1 C.2.1 dJ1_indexOfChar_4cfef_22 (lv_at hl 3 rfl) ?_
      have h9 := (hX _ (Option.some.inj h).symm).2 _ rfl
      subst h9
      exact r_iret C S hr hlocks dJ1_indexOfChar_4cfef_24
set_option maxHeartbeats 4000000 in
set_option maxRecDepth 100000 in
theorem k_J1_indexOfChar_4cfef {v1 : Int32} {v2 : Int32} {v3 : Int32}  {w : Wd} {rv : Int32} (h : f_J1_indexOfChar_4cfef v1 v2 v3 = some rv) : CI yJ1_indexOfChar_4cfef cJ1_indexOfChar_4cfef 6 .int 0 0 (fun ad => [.ref (ad 106), .int v1, .int v2, .int v3]) w rv w := by
  refine CI.of (by decide) ?_
  intro l D ad sx ca p e s m below meth c C S hr hlocks
  have hl := lv_entry ([.ref (ad 106), .int v1, .int v2, .int v3]) (n := 6) (Nat.le_of_ble_eq_true rfl)
  rw [lg_entry_eq]
  generalize (lg_sl ([.ref (ad 106), .int v1, .int v2, .int v3]) ++ List.replicate (6 - (lg_sl ([.ref (ad 106), .int v1, .int v2, .int v3])).length) Slot.unset).toArray = ls at hl ⊢
  have hl : lv_has ls 6 [(0, .ref (ad 106)), (1, .int v1), (2, .int v2), (3, .int v3)] := hl
  generalize ha9 : ([.ref (ad 106), .int v1, .int v2, .int v3] : List Value).toArray = args at C ⊢
  generalize s.heap = H at S ⊢
  generalize ([] : List Loc) = locs at S ⊢
  unfold f_J1_indexOfChar_4cfef at h
  refine lv_iload_n C.1 C.2.1 dJ1_indexOfChar_4cfef_0 rfl (lv_at hl 1 rfl) ?_
  refine lv_i2b C.1 C.2.1 dJ1_indexOfChar_4cfef_1 rfl ?_
  refine lv_istore (lv' := [(4, .int v1.toInt8.toInt32), (0, .ref (ad 106)), (1, .int v1), (2, .int v2), (3, .int v3)]) C.1 C.2.1 dJ1_indexOfChar_4cfef_2 hl (by decide) rfl (fun ls hl => ?_)
  refine lv_iload_n C.1 C.2.1 dJ1_indexOfChar_4cfef_4 rfl (lv_at hl 3 rfl) ?_
  refine lv_istore (lv' := [(5, .int v2), (4, .int v1.toInt8.toInt32), (0, .ref (ad 106)), (1, .int v1), (2, .int v2), (3, .int v3)]) C.1 C.2.1 dJ1_indexOfChar_4cfef_5 hl (by decide) rfl (fun ls hl => ?_)
  obtain ⟨o4, e5, h⟩ := Option.bind_eq_some_iff.mp h
  refine k_J1_indexOfChar_4cfef_L7 C hr hlocks  FU _ _ e5 ⟨fun x6 hx ls H locs hl S => ?_, fun y7 hy => ?_⟩ ls H locs (lv_sub hl [2, 5, 1, 0] rfl) S
  · subst hx
    rw [sm_inl] at h
    refine lv_iconst (v := (-1)) C.1 C.2.1 dJ1_indexOfChar_4cfef_31 (by decide) ?_
    have h9 := Option.some.inj h
    subst h9
    exact r_iret C S hr hlocks dJ1_indexOfChar_4cfef_32
  · subst hy
    rw [sm_inr] at h
    exact Option.some.inj h

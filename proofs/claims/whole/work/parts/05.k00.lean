set_option maxHeartbeats 4000000 in
set_option maxRecDepth 100000 in
theorem k_X10_within {v0 : Int32} {v1 : Int32} {v2 : Int32}  {w : Wd} {rv : Int32} (h : f_X10_within v0 v1 v2 = some rv) : CI yX10_within cX10_within 3 .boolean 0 0 (fun ad => [.int v0, .int v1, .int v2]) w rv w := by
  refine CI.of (by decide) ?_
  intro l D ad sx ca p e s m below meth c C S hr hlocks
  have hl := lv_entry ([.int v0, .int v1, .int v2]) (n := 3) (Nat.le_of_ble_eq_true rfl)
  rw [lg_entry_eq]
  generalize (lg_sl ([.int v0, .int v1, .int v2]) ++ List.replicate (3 - (lg_sl ([.int v0, .int v1, .int v2])).length) Slot.unset).toArray = ls at hl ⊢
  have hl : lv_has ls 3 [(0, .int v0), (1, .int v1), (2, .int v2)] := hl
  generalize ha9 : ([.int v0, .int v1, .int v2] : List Value).toArray = args at C ⊢
  generalize s.heap = H at S ⊢
  generalize ([] : List Loc) = locs at S ⊢
  unfold f_X10_within at h
  refine lv_iload_n C.1 C.2.1 dX10_within_0 rfl (lv_at hl 0 rfl) ?_
  refine lv_iload_n C.1 C.2.1 dX10_within_1 rfl (lv_at hl 1 rfl) ?_
  refine lv_icmp_lt (tgt := 14) C.1 C.2.1 dX10_within_2 (by decide) (fun q1 => ?_) (fun q1 => ?_)
  · replace h := (if_pos q1).symm.trans h
    refine lv_iconst (v := 0) C.1 C.2.1 dX10_within_14 (by decide) ?_
    have h9 := Option.some.inj h
    subst h9
    exact r_zret C S hr hlocks (Or.inl rfl) dX10_within_15
  · replace h := (if_neg q1).symm.trans h
    refine lv_iload_n C.1 C.2.1 dX10_within_5 rfl (lv_at hl 0 rfl) ?_
    refine lv_iload_n C.1 C.2.1 dX10_within_6 rfl (lv_at hl 2 rfl) ?_
    refine lv_icmp_gt (tgt := 14) C.1 C.2.1 dX10_within_7 (by decide) (fun q2 => ?_) (fun q2 => ?_)
    · replace h := (if_pos q2).symm.trans h
      refine lv_iconst (v := 0) C.1 C.2.1 dX10_within_14 (by decide) ?_
      have h9 := Option.some.inj h
      subst h9
      exact r_zret C S hr hlocks (Or.inl rfl) dX10_within_15
    · replace h := (if_neg q2).symm.trans h
      refine lv_iconst (v := 1) C.1 C.2.1 dX10_within_10 (by decide) ?_
      refine lv_goto (tgt := 15) C.1 C.2.1 dX10_within_11 (by decide) ?_
      have h9 := Option.some.inj h
      subst h9
      exact r_zret C S hr hlocks (Or.inr rfl) dX10_within_15
set_option maxHeartbeats 4000000 in
set_option maxRecDepth 100000 in
theorem k_X10_finding {v1 : Int32}  {w : Wd} {rv : Int32 × Wd} (h : f_X10_finding v1 w = some rv) : CI yX10_finding cX10_finding 3 .int 1 22 (fun ad => [.ref (ad 0), .int v1]) w rv.1 rv.2 := by
  refine CI.of (by decide) ?_
  intro l D ad sx ca p e s m below meth c C S hr hlocks
  have hl := lv_entry ([.ref (ad 0), .int v1]) (n := 3) (Nat.le_of_ble_eq_true rfl)
  rw [lg_entry_eq]
  generalize (lg_sl ([.ref (ad 0), .int v1]) ++ List.replicate (3 - (lg_sl ([.ref (ad 0), .int v1])).length) Slot.unset).toArray = ls at hl ⊢
  have hl : lv_has ls 3 [(0, .ref (ad 0)), (1, .int v1)] := hl
  generalize ha9 : ([.ref (ad 0), .int v1] : List Value).toArray = args at C ⊢
  generalize s.heap = H at S ⊢
  generalize ([] : List Loc) = locs at S ⊢
  unfold f_X10_finding at h
  refine r_ldc C (-1000000001) b_cn_RX10_94 dX10_finding_0 ?_
  refine lv_iload_n C.1 C.2.1 dX10_finding_2 rfl (lv_at hl 1 rfl) ?_
  refine lv_isub C.1 C.2.1 dX10_finding_3 ?_
  refine lv_istore_n (lv' := [(2, .int ((-1000000001) - v1)), (0, .ref (ad 0)), (1, .int v1)]) C.1 C.2.1 dX10_finding_4 rfl hl (by decide) rfl (fun ls hl => ?_)
  refine lv_iload_n C.1 C.2.1 dX10_finding_5 rfl (lv_at hl 0 rfl) ?_
  refine lv_iconst (v := 0) C.1 C.2.1 dX10_finding_6 (by decide) ?_
  refine lv_bipush (v := 6) C.1 C.2.1 dX10_finding_7 (by decide) ?_
  obtain ⟨o1, e2, h⟩ := Option.bind_eq_some_iff.mp h
  refine r_si C S hl (k_X10_within e2) b_sb_RX10_90 [.int ((-1000000001) - v1), .int 0, .int 6] rfl [] rfl rfl (Nat.le_of_ble_eq_true rfl) ⟨Nat.le_of_ble_eq_true rfl, Nat.le_of_ble_eq_true rfl⟩ dX10_finding_9 (fun H locs S => ?_)
  refine lv_if_eq (tgt := 25) C.1 C.2.1 dX10_finding_12 (by decide) (fun q3 => ?_) (fun q3 => ?_)
  · replace h := (if_pos q3).symm.trans h
    refine lv_iload_n C.1 C.2.1 dX10_finding_25 rfl (lv_at hl 2 rfl) ?_
    have h9 := Option.some.inj h
    subst h9
    exact r_iret C S hr hlocks dX10_finding_26
  · replace h := (if_neg q3).symm.trans h
    refine lv_aload_n C.1 C.2.1 dX10_finding_15 rfl (lv_at hl 1 rfl) ?_
    refine r_getr C S o_0 cf_10 13 rfl (by decide) b_fl_RX10_86 dX10_finding_16 ?_
    refine lv_iload_n C.1 C.2.1 dX10_finding_19 rfl (lv_at hl 0 rfl) ?_
    refine lv_dup2_11 C.1 C.2.1 dX10_finding_20 rfl rfl ?_
    obtain ⟨g4, h⟩ := gd_some h
    refine r_iald C S a_16 g4 dX10_finding_21 ?_
    refine lv_iconst (v := 1) C.1 C.2.1 dX10_finding_22 (by decide) ?_
    refine lv_iadd C.1 C.2.1 dX10_finding_23 ?_
    obtain ⟨g5, h⟩ := gd_some h
    refine r_iast C S a_16 g5 dX10_finding_24 (fun H locs S => ?_)
    obtain ⟨w6, h, S⟩ := lw_S (P := fun y => St D ad ca s y H locs) h S
    refine lv_iload_n C.1 C.2.1 dX10_finding_25 rfl (lv_at hl 2 rfl) ?_
    have h9 := Option.some.inj h
    subst h9
    exact r_iret C S hr hlocks dX10_finding_26
set_option maxHeartbeats 4000000 in
set_option maxRecDepth 100000 in
theorem k_X4_becomeNew {t0 : Nat} {v1 : Int32} {v2 : Int32} {v3 : Int32} {v4 : Int32} (ht0 : Fl t0) {w : Wd} {rv : Wd} (h : f_X4_becomeNew t0 v1 v2 v3 v4 w = some rv) : CV yX4_becomeNew cX4_becomeNew 5 0 0 (fun ad => [.ref (ad t0), .int v1, .int v2, .int v3, .int v4]) w rv := by
  refine CV.of (by decide) ?_
  intro l D ad sx ca p e s m below meth c C S hr hlocks
  have hl := lv_entry ([.ref (ad t0), .int v1, .int v2, .int v3, .int v4]) (n := 5) (Nat.le_of_ble_eq_true rfl)
  rw [lg_entry_eq]
  generalize (lg_sl ([.ref (ad t0), .int v1, .int v2, .int v3, .int v4]) ++ List.replicate (5 - (lg_sl ([.ref (ad t0), .int v1, .int v2, .int v3, .int v4])).length) Slot.unset).toArray = ls at hl ⊢
  have hl : lv_has ls 5 [(0, .ref (ad t0)), (1, .int v1), (2, .int v2), (3, .int v3), (4, .int v4)] := hl
  generalize ha9 : ([.ref (ad t0), .int v1, .int v2, .int v3, .int v4] : List Value).toArray = args at C ⊢
  generalize s.heap = H at S ⊢
  generalize ([] : List Loc) = locs at S ⊢
  unfold f_X4_becomeNew at h
  refine lv_aload_n C.1 C.2.1 dX4_becomeNew_0 rfl (lv_at hl 0 rfl) ?_
  refine lv_iload_n C.1 C.2.1 dX4_becomeNew_1 rfl (lv_at hl 1 rfl) ?_
  refine r_put C S ht0 cf_4 0 rfl (by decide) rfl (ni _) b_fl_RX4_9 dX4_becomeNew_2 (fun H locs S => ?_)
  obtain ⟨w1, h, S⟩ := lw_S (P := fun y => St D ad ca s y H locs) h S
  refine lv_aload_n C.1 C.2.1 dX4_becomeNew_5 rfl (lv_at hl 0 rfl) ?_
  refine lv_iload_n C.1 C.2.1 dX4_becomeNew_6 rfl (lv_at hl 2 rfl) ?_
  refine r_put C S ht0 cf_4 1 rfl (by decide) rfl (ni _) b_fl_RX4_15 dX4_becomeNew_7 (fun H locs S => ?_)
  obtain ⟨w2, h, S⟩ := lw_S (P := fun y => St D ad ca s y H locs) h S
  refine lv_aload_n C.1 C.2.1 dX4_becomeNew_10 rfl (lv_at hl 0 rfl) ?_
  refine lv_iload_n C.1 C.2.1 dX4_becomeNew_11 rfl (lv_at hl 3 rfl) ?_
  refine r_put C S ht0 cf_4 2 rfl (by decide) rfl (ni _) b_fl_RX4_18 dX4_becomeNew_12 (fun H locs S => ?_)
  obtain ⟨w3, h, S⟩ := lw_S (P := fun y => St D ad ca s y H locs) h S
  refine lv_aload_n C.1 C.2.1 dX4_becomeNew_15 rfl (lv_at hl 0 rfl) ?_
  refine lv_iload C.1 C.2.1 dX4_becomeNew_16 (lv_at hl 4 rfl) ?_
  refine r_put C S ht0 cf_4 3 rfl (by decide) rfl (ni _) b_fl_RX4_21 dX4_becomeNew_18 (fun H locs S => ?_)
  obtain ⟨w4, h, S⟩ := lw_S (P := fun y => St D ad ca s y H locs) h S
  refine lv_aload_n C.1 C.2.1 dX4_becomeNew_21 rfl (lv_at hl 0 rfl) ?_
  refine lv_iconst (v := 4) C.1 C.2.1 dX4_becomeNew_22 (by decide) ?_
  refine r_put C S ht0 cf_4 4 rfl (by decide) rfl (ni _) b_fl_RX4_24 dX4_becomeNew_23 (fun H locs S => ?_)
  obtain ⟨w5, h, S⟩ := lw_S (P := fun y => St D ad ca s y H locs) h S
  refine lv_aload_n C.1 C.2.1 dX4_becomeNew_26 rfl (lv_at hl 0 rfl) ?_
  refine lv_iconst (v := 0) C.1 C.2.1 dX4_becomeNew_27 (by decide) ?_
  refine r_put C S ht0 cf_4 5 rfl (by decide) rfl (zo_nar (by decide)) b_fl_RX4_27 dX4_becomeNew_28 (fun H locs S => ?_)
  obtain ⟨w6, h, S⟩ := lw_S (P := fun y => St D ad ca s y H locs) h S
  refine lv_aload_n C.1 C.2.1 dX4_becomeNew_31 rfl (lv_at hl 0 rfl) ?_
  refine lv_iconst (v := 0) C.1 C.2.1 dX4_becomeNew_32 (by decide) ?_
  refine r_put C S ht0 cf_4 6 rfl (by decide) rfl (zo_nar (by decide)) b_fl_RX4_31 dX4_becomeNew_33 (fun H locs S => ?_)
  obtain ⟨w7, h, S⟩ := lw_S (P := fun y => St D ad ca s y H locs) h S
  refine lv_aload_n C.1 C.2.1 dX4_becomeNew_36 rfl (lv_at hl 0 rfl) ?_
  refine lv_sipush (v := 200) C.1 C.2.1 dX4_becomeNew_37 (by decide) ?_
  refine r_put C S ht0 cf_4 7 rfl (by decide) rfl (ni _) b_fl_RX4_34 dX4_becomeNew_40 (fun H locs S => ?_)
  obtain ⟨w8, h, S⟩ := lw_S (P := fun y => St D ad ca s y H locs) h S
  refine lv_aload_n C.1 C.2.1 dX4_becomeNew_43 rfl (lv_at hl 0 rfl) ?_
  refine lv_iconst (v := 0) C.1 C.2.1 dX4_becomeNew_44 (by decide) ?_
  refine r_put C S ht0 cf_4 8 rfl (by decide) rfl (ni _) b_fl_RX4_37 dX4_becomeNew_45 (fun H locs S => ?_)
  obtain ⟨w9, h, S⟩ := lw_S (P := fun y => St D ad ca s y H locs) h S
  refine lv_aload_n C.1 C.2.1 dX4_becomeNew_48 rfl (lv_at hl 0 rfl) ?_
  refine lv_iconst (v := 0) C.1 C.2.1 dX4_becomeNew_49 (by decide) ?_
  refine r_put C S ht0 cf_4 9 rfl (by decide) rfl (ni _) b_fl_RX4_40 dX4_becomeNew_50 (fun H locs S => ?_)
  obtain ⟨w10, h, S⟩ := lw_S (P := fun y => St D ad ca s y H locs) h S
  refine lv_aload_n C.1 C.2.1 dX4_becomeNew_53 rfl (lv_at hl 0 rfl) ?_
  refine lv_iconst (v := 0) C.1 C.2.1 dX4_becomeNew_54 (by decide) ?_
  refine r_put C S ht0 cf_4 10 rfl (by decide) rfl (ni _) b_fl_RX4_43 dX4_becomeNew_55 (fun H locs S => ?_)
  obtain ⟨w11, h, S⟩ := lw_S (P := fun y => St D ad ca s y H locs) h S
  refine lv_aload_n C.1 C.2.1 dX4_becomeNew_58 rfl (lv_at hl 0 rfl) ?_
  refine lv_bipush (v := 100) C.1 C.2.1 dX4_becomeNew_59 (by decide) ?_
  refine r_put C S ht0 cf_4 11 rfl (by decide) rfl (ni _) b_fl_RX4_46 dX4_becomeNew_61 (fun H locs S => ?_)
  obtain ⟨w12, h, S⟩ := lw_S (P := fun y => St D ad ca s y H locs) h S
  have h9 := Option.some.inj h
  subst h9
  exact r_vret C S hr hlocks dX4_becomeNew_64
set_option maxHeartbeats 4000000 in
set_option maxRecDepth 100000 in
theorem k_X0_add {v1 : Int32} {v2 : Int32} {v3 : Int32}  {w : Wd} {rv : Int32 × Wd} (h : f_X0_add v1 v2 v3 w = some rv) : CI yX0_add cX0_add 4 .int 1 24 (fun ad => [.ref (ad 3), .int v1, .int v2, .int v3]) w rv.1 rv.2 := by
  refine CI.of (by decide) ?_
  intro l D ad sx ca p e s m below meth c C S hr hlocks
  have hl := lv_entry ([.ref (ad 3), .int v1, .int v2, .int v3]) (n := 4) (Nat.le_of_ble_eq_true rfl)
  rw [lg_entry_eq]
  generalize (lg_sl ([.ref (ad 3), .int v1, .int v2, .int v3]) ++ List.replicate (4 - (lg_sl ([.ref (ad 3), .int v1, .int v2, .int v3])).length) Slot.unset).toArray = ls at hl ⊢
  have hl : lv_has ls 4 [(0, .ref (ad 3)), (1, .int v1), (2, .int v2), (3, .int v3)] := hl
  generalize ha9 : ([.ref (ad 3), .int v1, .int v2, .int v3] : List Value).toArray = args at C ⊢
  generalize s.heap = H at S ⊢
  generalize ([] : List Loc) = locs at S ⊢
  unfold f_X0_add at h
  refine lv_aload_n C.1 C.2.1 dX0_add_0 rfl (lv_at hl 0 rfl) ?_
  refine r_getr C S o_3 cf_0 0 rfl (by decide) b_fl_RX0_11 dX0_add_1 ?_
  refine lv_aload_n C.1 C.2.1 dX0_add_4 rfl (lv_at hl 0 rfl) ?_
  refine r_geti C S o_3 cf_0 1 rfl (by decide) b_fl_RX0_17 dX0_add_5 ?_
  obtain ⟨g1, h⟩ := gd_some h
  refine r_aald C S a_17 g1 dX0_add_8 ?_
  refine lv_iload_n C.1 C.2.1 dX0_add_9 rfl (lv_at hl 1 rfl) ?_
  refine lv_iload_n C.1 C.2.1 dX0_add_10 rfl (lv_at hl 2 rfl) ?_
  refine lv_aload_n C.1 C.2.1 dX0_add_11 rfl (lv_at hl 0 rfl) ?_
  refine r_getr C S o_3 cf_0 2 rfl (by decide) b_fl_RX0_21 dX0_add_12 ?_
  refine lv_iload_n C.1 C.2.1 dX0_add_15 rfl (lv_at hl 2 rfl) ?_
  obtain ⟨g2, h⟩ := gd_some h
  refine r_iald C S a_19 g2 dX0_add_16 ?_
  refine lv_iload_n C.1 C.2.1 dX0_add_17 rfl (lv_at hl 3 rfl) ?_
  obtain ⟨o3, e4, h⟩ := Option.bind_eq_some_iff.mp h
  refine r_vv C S hl (o_F1 (inB_lt g1)) cf_4 (k_X4_becomeNew (o_F1 (inB_lt g1)) e4) b_vb_RX0_46 [.int v1, .int v2, .int (w.1 19 v2.toNatClampNeg), .int v3] rfl [] rfl rfl (Nat.le_of_ble_eq_true rfl) ⟨Nat.le_of_ble_eq_true rfl, Nat.le_of_ble_eq_true rfl⟩ dX0_add_18 (fun H locs S => ?_)
  refine lv_aload_n C.1 C.2.1 dX0_add_21 rfl (lv_at hl 0 rfl) ?_
  refine r_getr C S o_3 cf_0 2 rfl (by decide) b_fl_RX0_21 dX0_add_22 ?_
  refine lv_iload_n C.1 C.2.1 dX0_add_25 rfl (lv_at hl 2 rfl) ?_
  refine lv_dup2_11 C.1 C.2.1 dX0_add_26 rfl rfl ?_
  obtain ⟨g5, h⟩ := gd_some h
  refine r_iald C S a_19 g5 dX0_add_27 ?_
  refine lv_iconst (v := 1) C.1 C.2.1 dX0_add_28 (by decide) ?_
  refine lv_iadd C.1 C.2.1 dX0_add_29 ?_
  obtain ⟨g6, h⟩ := gd_some h
  refine r_iast C S a_19 g6 dX0_add_30 (fun H locs S => ?_)
  obtain ⟨w7, h, S⟩ := lw_S (P := fun y => St D ad ca s y H locs) h S
  refine lv_aload_n C.1 C.2.1 dX0_add_31 rfl (lv_at hl 0 rfl) ?_
  refine lv_dup C.1 C.2.1 dX0_add_32 rfl ?_
  refine r_geti C S o_3 cf_0 1 rfl (by decide) b_fl_RX0_17 dX0_add_33 ?_
  refine lv_iconst (v := 1) C.1 C.2.1 dX0_add_36 (by decide) ?_
  refine lv_iadd C.1 C.2.1 dX0_add_37 ?_
  refine r_put C S o_3 cf_0 1 rfl (by decide) rfl (ni _) b_fl_RX0_17 dX0_add_38 (fun H locs S => ?_)
  obtain ⟨w8, h, S⟩ := lw_S (P := fun y => St D ad ca s y H locs) h S
  refine lv_aload_n C.1 C.2.1 dX0_add_41 rfl (lv_at hl 0 rfl) ?_
  refine r_geti C S o_3 cf_0 1 rfl (by decide) b_fl_RX0_17 dX0_add_42 ?_
  refine lv_iconst (v := 1) C.1 C.2.1 dX0_add_45 (by decide) ?_
  refine lv_isub C.1 C.2.1 dX0_add_46 ?_
  have h9 := Option.some.inj h
  subst h9
  exact r_iret C S hr hlocks dX0_add_47
set_option maxHeartbeats 4000000 in
set_option maxRecDepth 100000 in
theorem k_X10_flat {v1 : Int32} {v2 : Int32} {v3 : Int32}  {w : Wd} {rv : Int32 × Wd} (h : f_X10_flat v1 v2 v3 w = some rv) : CI yX10_flat cX10_flat 4 .int 2 47 (fun ad => [.ref (ad 0), .int v1, .int v2, .int v3]) w rv.1 rv.2 := by
  refine CI.of (by decide) ?_
  intro l D ad sx ca p e s m below meth c C S hr hlocks
  have hl := lv_entry ([.ref (ad 0), .int v1, .int v2, .int v3]) (n := 4) (Nat.le_of_ble_eq_true rfl)
  rw [lg_entry_eq]
  generalize (lg_sl ([.ref (ad 0), .int v1, .int v2, .int v3]) ++ List.replicate (4 - (lg_sl ([.ref (ad 0), .int v1, .int v2, .int v3])).length) Slot.unset).toArray = ls at hl ⊢
  have hl : lv_has ls 4 [(0, .ref (ad 0)), (1, .int v1), (2, .int v2), (3, .int v3)] := hl
  generalize ha9 : ([.ref (ad 0), .int v1, .int v2, .int v3] : List Value).toArray = args at C ⊢
  generalize s.heap = H at S ⊢
  generalize ([] : List Loc) = locs at S ⊢
  unfold f_X10_flat at h
  refine lv_iload_n C.1 C.2.1 dX10_flat_0 rfl (lv_at hl 1 rfl) ?_
  refine lv_iconst (v := 0) C.1 C.2.1 dX10_flat_1 (by decide) ?_
  refine lv_iconst (v := 5) C.1 C.2.1 dX10_flat_2 (by decide) ?_
  obtain ⟨o1, e2, h⟩ := Option.bind_eq_some_iff.mp h
  refine r_si C S hl (k_X10_within e2) b_sb_RX10_90 [.int v1, .int 0, .int 5] rfl [] rfl rfl (Nat.le_of_ble_eq_true rfl) ⟨Nat.le_of_ble_eq_true rfl, Nat.le_of_ble_eq_true rfl⟩ dX10_flat_3 (fun H locs S => ?_)
  refine lv_if_eq (tgt := 28) C.1 C.2.1 dX10_flat_6 (by decide) (fun q3 => ?_) (fun q3 => ?_)
  · replace h := (if_pos q3).symm.trans h
    refine lv_aload_n C.1 C.2.1 dX10_flat_28 rfl (lv_at hl 0 rfl) ?_
    refine r_ldc C (-1000000001) b_cn_RX10_94 dX10_flat_29 ?_
    obtain ⟨o4, e5, h⟩ := Option.bind_eq_some_iff.mp h
    refine r_vi C S hl o_0 cf_10 (k_X10_finding e5) b_vb_RX10_95 [.int (-1000000001)] rfl [] rfl rfl (Nat.le_of_ble_eq_true rfl) ⟨Nat.le_of_ble_eq_true rfl, Nat.le_of_ble_eq_true rfl⟩ dX10_flat_31 (fun H locs S => ?_)
    have h9 := Option.some.inj h
    subst h9
    exact r_iret C S hr hlocks dX10_flat_34
  · replace h := (if_neg q3).symm.trans h
    refine lv_iload_n C.1 C.2.1 dX10_flat_9 rfl (lv_at hl 2 rfl) ?_
    refine lv_iconst (v := 0) C.1 C.2.1 dX10_flat_10 (by decide) ?_
    refine lv_iconst (v := 3) C.1 C.2.1 dX10_flat_11 (by decide) ?_
    obtain ⟨o6, e7, h⟩ := Option.bind_eq_some_iff.mp h
    refine r_si C S hl (k_X10_within e7) b_sb_RX10_90 [.int v2, .int 0, .int 3] rfl [] rfl rfl (Nat.le_of_ble_eq_true rfl) ⟨Nat.le_of_ble_eq_true rfl, Nat.le_of_ble_eq_true rfl⟩ dX10_flat_12 (fun H locs S => ?_)
    refine lv_if_eq (tgt := 28) C.1 C.2.1 dX10_flat_15 (by decide) (fun q8 => ?_) (fun q8 => ?_)
    · replace h := (if_pos q8).symm.trans h
      refine lv_aload_n C.1 C.2.1 dX10_flat_28 rfl (lv_at hl 0 rfl) ?_
      refine r_ldc C (-1000000001) b_cn_RX10_94 dX10_flat_29 ?_
      obtain ⟨o9, e10, h⟩ := Option.bind_eq_some_iff.mp h
      refine r_vi C S hl o_0 cf_10 (k_X10_finding e10) b_vb_RX10_95 [.int (-1000000001)] rfl [] rfl rfl (Nat.le_of_ble_eq_true rfl) ⟨Nat.le_of_ble_eq_true rfl, Nat.le_of_ble_eq_true rfl⟩ dX10_flat_31 (fun H locs S => ?_)
      have h9 := Option.some.inj h
      subst h9
      exact r_iret C S hr hlocks dX10_flat_34
    · replace h := (if_neg q8).symm.trans h
      refine lv_iload_n C.1 C.2.1 dX10_flat_18 rfl (lv_at hl 3 rfl) ?_
      refine lv_iconst (v := 1) C.1 C.2.1 dX10_flat_19 (by decide) ?_
      refine lv_bipush (v := 99) C.1 C.2.1 dX10_flat_20 (by decide) ?_
      obtain ⟨o11, e12, h⟩ := Option.bind_eq_some_iff.mp h
      refine r_si C S hl (k_X10_within e12) b_sb_RX10_90 [.int v3, .int 1, .int 99] rfl [] rfl rfl (Nat.le_of_ble_eq_true rfl) ⟨Nat.le_of_ble_eq_true rfl, Nat.le_of_ble_eq_true rfl⟩ dX10_flat_22 (fun H locs S => ?_)
      refine lv_if_ne (tgt := 35) C.1 C.2.1 dX10_flat_25 (by decide) (fun q13 => ?_) (fun q13 => ?_)
      · replace h := (if_neg q13).symm.trans h
        refine lv_aload_n C.1 C.2.1 dX10_flat_35 rfl (lv_at hl 0 rfl) ?_
        refine r_getr C S o_0 cf_10 3 rfl (by decide) b_fl_RX10_27 dX10_flat_36 ?_
        refine r_geti C S o_3 cf_0 1 rfl (by decide) b_fl_RX10_99 dX10_flat_39 ?_
        refine lv_bipush (v := 12) C.1 C.2.1 dX10_flat_42 (by decide) ?_
        refine lv_icmp_lt (tgt := 54) C.1 C.2.1 dX10_flat_44 (by decide) (fun q14 => ?_) (fun q14 => ?_)
        · replace h := (if_pos q14).symm.trans h
          refine lv_aload_n C.1 C.2.1 dX10_flat_54 rfl (lv_at hl 0 rfl) ?_
          refine r_getr C S o_0 cf_10 3 rfl (by decide) b_fl_RX10_27 dX10_flat_55 ?_
          refine lv_iload_n C.1 C.2.1 dX10_flat_58 rfl (lv_at hl 1 rfl) ?_
          refine lv_iload_n C.1 C.2.1 dX10_flat_59 rfl (lv_at hl 2 rfl) ?_
          refine lv_iload_n C.1 C.2.1 dX10_flat_60 rfl (lv_at hl 3 rfl) ?_
          obtain ⟨o15, e16, h⟩ := Option.bind_eq_some_iff.mp h
          refine r_vi C S hl o_3 cf_0 (k_X0_add e16) b_vb_RX10_106 [.int v1, .int v2, .int v3] rfl [] rfl rfl (Nat.le_of_ble_eq_true rfl) ⟨Nat.le_of_ble_eq_true rfl, Nat.le_of_ble_eq_true rfl⟩ dX10_flat_61 (fun H locs S => ?_)
          have h9 := Option.some.inj h
          subst h9
          exact r_iret C S hr hlocks dX10_flat_64
        · replace h := (if_neg q14).symm.trans h
          refine lv_aload_n C.1 C.2.1 dX10_flat_47 rfl (lv_at hl 0 rfl) ?_
          refine r_ldc C (-1000000002) b_cn_RX10_105 dX10_flat_48 ?_
          obtain ⟨o17, e18, h⟩ := Option.bind_eq_some_iff.mp h
          refine r_vi C S hl o_0 cf_10 (k_X10_finding e18) b_vb_RX10_95 [.int (-1000000002)] rfl [] rfl rfl (Nat.le_of_ble_eq_true rfl) ⟨Nat.le_of_ble_eq_true rfl, Nat.le_of_ble_eq_true rfl⟩ dX10_flat_50 (fun H locs S => ?_)
          have h9 := Option.some.inj h
          subst h9
          exact r_iret C S hr hlocks dX10_flat_53
      · replace h := (if_pos q13).symm.trans h
        refine lv_aload_n C.1 C.2.1 dX10_flat_28 rfl (lv_at hl 0 rfl) ?_
        refine r_ldc C (-1000000001) b_cn_RX10_94 dX10_flat_29 ?_
        obtain ⟨o19, e20, h⟩ := Option.bind_eq_some_iff.mp h
        refine r_vi C S hl o_0 cf_10 (k_X10_finding e20) b_vb_RX10_95 [.int (-1000000001)] rfl [] rfl rfl (Nat.le_of_ble_eq_true rfl) ⟨Nat.le_of_ble_eq_true rfl, Nat.le_of_ble_eq_true rfl⟩ dX10_flat_31 (fun H locs S => ?_)
        have h9 := Option.some.inj h
        subst h9
        exact r_iret C S hr hlocks dX10_flat_34
set_option maxHeartbeats 4000000 in
set_option maxRecDepth 100000 in
theorem k_X0_has {v1 : Int32}  {w : Wd} {rv : Int32} (h : f_X0_has v1 w = some rv) : CI yX0_has cX0_has 2 .boolean 1 22 (fun ad => [.ref (ad 3), .int v1]) w rv w := by
  refine CI.of (by decide) ?_
  intro l D ad sx ca p e s m below meth c C S hr hlocks
  have hl := lv_entry ([.ref (ad 3), .int v1]) (n := 2) (Nat.le_of_ble_eq_true rfl)
  rw [lg_entry_eq]
  generalize (lg_sl ([.ref (ad 3), .int v1]) ++ List.replicate (2 - (lg_sl ([.ref (ad 3), .int v1])).length) Slot.unset).toArray = ls at hl ⊢
  have hl : lv_has ls 2 [(0, .ref (ad 3)), (1, .int v1)] := hl
  generalize ha9 : ([.ref (ad 3), .int v1] : List Value).toArray = args at C ⊢
  generalize s.heap = H at S ⊢
  generalize ([] : List Loc) = locs at S ⊢
  unfold f_X0_has at h
  refine lv_iload_n C.1 C.2.1 dX0_has_0 rfl (lv_at hl 1 rfl) ?_
  refine lv_iconst (v := 0) C.1 C.2.1 dX0_has_1 (by decide) ?_
  refine lv_aload_n C.1 C.2.1 dX0_has_2 rfl (lv_at hl 0 rfl) ?_
  refine r_geti C S o_3 cf_0 1 rfl (by decide) b_fl_RX0_17 dX0_has_3 ?_
  refine lv_iconst (v := 1) C.1 C.2.1 dX0_has_6 (by decide) ?_
  refine lv_isub C.1 C.2.1 dX0_has_7 ?_
  obtain ⟨o1, e2, h⟩ := Option.bind_eq_some_iff.mp h
  refine r_ni C S hl (k_X10_within e2) b_nb_RX0_42 [.int v1, .int 0, .int ((w.1 3 1) - 1)] rfl [] rfl rfl (Nat.le_of_ble_eq_true rfl) ⟨Nat.le_of_ble_eq_true rfl, Nat.le_of_ble_eq_true rfl⟩ dX0_has_8 (fun H locs S => ?_)
  obtain ⟨g3, h⟩ := gd_some h
  have h9 := Option.some.inj h
  subst h9
  exact r_zret C S hr hlocks (zo_or g3) dX0_has_11
set_option maxHeartbeats 4000000 in
set_option maxRecDepth 100000 in
theorem k_X10_bit {v0 : Int32}  {w : Wd} {rv : Int32} (h : f_X10_bit v0 = some rv) : CI yX10_bit cX10_bit 1 .int 0 0 (fun ad => [.int v0]) w rv w := by
  refine CI.of (by decide) ?_
  intro l D ad sx ca p e s m below meth c C S hr hlocks
  have hl := lv_entry ([.int v0]) (n := 1) (Nat.le_of_ble_eq_true rfl)
  rw [lg_entry_eq]
  generalize (lg_sl ([.int v0]) ++ List.replicate (1 - (lg_sl ([.int v0])).length) Slot.unset).toArray = ls at hl ⊢
  have hl : lv_has ls 1 [(0, .int v0)] := hl
  generalize ha9 : ([.int v0] : List Value).toArray = args at C ⊢
  generalize s.heap = H at S ⊢
  generalize ([] : List Loc) = locs at S ⊢
  unfold f_X10_bit at h
  refine lv_iload_n C.1 C.2.1 dX10_bit_0 rfl (lv_at hl 0 rfl) ?_
  refine lv_if_eq (tgt := 8) C.1 C.2.1 dX10_bit_1 (by decide) (fun q1 => ?_) (fun q1 => ?_)
  · replace h := (if_pos q1).symm.trans h
    refine lv_iconst (v := 0) C.1 C.2.1 dX10_bit_8 (by decide) ?_
    have h9 := Option.some.inj h
    subst h9
    exact r_iret C S hr hlocks dX10_bit_9
  · replace h := (if_neg q1).symm.trans h
    refine lv_iconst (v := 1) C.1 C.2.1 dX10_bit_4 (by decide) ?_
    refine lv_goto (tgt := 9) C.1 C.2.1 dX10_bit_5 (by decide) ?_
    have h9 := Option.some.inj h
    subst h9
    exact r_iret C S hr hlocks dX10_bit_9
set_option maxHeartbeats 4000000 in
set_option maxRecDepth 100000 in
theorem k_X4_leaksShut {t0 : Nat} {v1 : Int32} (ht0 : Fl t0) {w : Wd} {rv : Int32} (h : f_X4_leaksShut t0 v1 w = some rv) : CI yX4_leaksShut cX4_leaksShut 3 .int 0 0 (fun ad => [.ref (ad t0), .int v1]) w rv w := by
  refine CI.of (by decide) ?_
  intro l D ad sx ca p e s m below meth c C S hr hlocks
  have hl := lv_entry ([.ref (ad t0), .int v1]) (n := 3) (Nat.le_of_ble_eq_true rfl)
  rw [lg_entry_eq]
  generalize (lg_sl ([.ref (ad t0), .int v1]) ++ List.replicate (3 - (lg_sl ([.ref (ad t0), .int v1])).length) Slot.unset).toArray = ls at hl ⊢
  have hl : lv_has ls 3 [(0, .ref (ad t0)), (1, .int v1)] := hl
  generalize ha9 : ([.ref (ad t0), .int v1] : List Value).toArray = args at C ⊢
  generalize s.heap = H at S ⊢
  generalize ([] : List Loc) = locs at S ⊢
  unfold f_X4_leaksShut at h
  refine lv_iload_n C.1 C.2.1 dX4_leaksShut_0 rfl (lv_at hl 1 rfl) ?_
  refine lv_iload_n C.1 C.2.1 dX4_leaksShut_1 rfl (lv_at hl 1 rfl) ?_
  refine lv_iconst (v := 2) C.1 C.2.1 dX4_leaksShut_2 (by decide) ?_
  refine lv_idiv C.1 C.2.1 dX4_leaksShut_3 (by decide) ?_
  refine lv_iadd C.1 C.2.1 dX4_leaksShut_4 ?_
  refine lv_istore_n (lv' := [(2, .int (v1 + (v1 / 2))), (0, .ref (ad t0)), (1, .int v1)]) C.1 C.2.1 dX4_leaksShut_5 rfl hl (by decide) rfl (fun ls hl => ?_)
  refine lv_aload_n C.1 C.2.1 dX4_leaksShut_6 rfl (lv_at hl 1 rfl) ?_
  refine r_geti C S ht0 cf_4 0 rfl (by decide) b_fl_RX4_9 dX4_leaksShut_7 ?_
  by_cases q1 : (w.1 t0 0) = 1
  · replace h := (if_pos q1).symm.trans h
    refine lv_tableIn (off := 30) (tgt := 40) C.1 C.2.1 dX4_leaksShut_10 (by rw [q1]; decide) (by rw [q1]; decide) (by rw [q1]; rfl) (by decide) ?_
    refine lv_iload_n C.1 C.2.1 dX4_leaksShut_40 rfl (lv_at hl 0 rfl) ?_
    have h9 := Option.some.inj h
    subst h9
    exact r_iret C S hr hlocks dX4_leaksShut_41
  · replace h := (if_neg q1).symm.trans h
    by_cases q2 : (w.1 t0 0) = 2
    · replace h := (if_pos q2).symm.trans h
      refine lv_tableIn (off := 32) (tgt := 42) C.1 C.2.1 dX4_leaksShut_10 (by rw [q2]; decide) (by rw [q2]; decide) (by rw [q2]; rfl) (by decide) ?_
      refine lv_iload_n C.1 C.2.1 dX4_leaksShut_42 rfl (lv_at hl 2 rfl) ?_
      refine lv_iload_n C.1 C.2.1 dX4_leaksShut_43 rfl (lv_at hl 2 rfl) ?_
      refine lv_iconst (v := 3) C.1 C.2.1 dX4_leaksShut_44 (by decide) ?_
      refine lv_idiv C.1 C.2.1 dX4_leaksShut_45 (by decide) ?_
      refine lv_isub C.1 C.2.1 dX4_leaksShut_46 ?_
      refine lv_iconst (v := 1) C.1 C.2.1 dX4_leaksShut_47 (by decide) ?_
      refine lv_iadd C.1 C.2.1 dX4_leaksShut_48 ?_
      have h9 := Option.some.inj h
      subst h9
      exact r_iret C S hr hlocks dX4_leaksShut_49
    · replace h := (if_neg q2).symm.trans h
      by_cases q3 : (w.1 t0 0) = 3
      · replace h := (if_pos q3).symm.trans h
        refine lv_tableIn (off := 45) (tgt := 55) C.1 C.2.1 dX4_leaksShut_10 (by rw [q3]; decide) (by rw [q3]; decide) (by rw [q3]; rfl) (by decide) ?_
        refine lv_iload_n C.1 C.2.1 dX4_leaksShut_55 rfl (lv_at hl 2 rfl) ?_
        have h9 := Option.some.inj h
        subst h9
        exact r_iret C S hr hlocks dX4_leaksShut_56
      · replace h := (if_neg q3).symm.trans h
        by_cases q4 : (w.1 t0 0) = 4
        · replace h := (if_pos q4).symm.trans h
          refine lv_tableIn (off := 40) (tgt := 50) C.1 C.2.1 dX4_leaksShut_10 (by rw [q4]; decide) (by rw [q4]; decide) (by rw [q4]; rfl) (by decide) ?_
          refine lv_iload_n C.1 C.2.1 dX4_leaksShut_50 rfl (lv_at hl 0 rfl) ?_
          refine lv_bipush (v := 20) C.1 C.2.1 dX4_leaksShut_51 (by decide) ?_
          refine lv_iadd C.1 C.2.1 dX4_leaksShut_53 ?_
          have h9 := Option.some.inj h
          subst h9
          exact r_iret C S hr hlocks dX4_leaksShut_54
        · replace h := (if_neg q4).symm.trans h
          have hb9 : (w.1 t0 0).toInt < 1 ∨ 4 < (w.1 t0 0).toInt := by
            have zq1 := tb_ne q1
            have zq2 := tb_ne q2
            have zq3 := tb_ne q3
            have zq4 := tb_ne q4
            rw [show ((1 : Int32)).toInt = 1 from by decide] at zq1
            rw [show ((2 : Int32)).toInt = 2 from by decide] at zq2
            rw [show ((3 : Int32)).toInt = 3 from by decide] at zq3
            rw [show ((4 : Int32)).toInt = 4 from by decide] at zq4
            omega
          refine lv_tableOut (tgt := 55) C.1 C.2.1 dX4_leaksShut_10 hb9 (by decide) ?_
          refine lv_iload_n C.1 C.2.1 dX4_leaksShut_55 rfl (lv_at hl 2 rfl) ?_
          have h9 := Option.some.inj h
          subst h9
          exact r_iret C S hr hlocks dX4_leaksShut_56
set_option maxHeartbeats 4000000 in
set_option maxRecDepth 100000 in
theorem k_X4_leaks {t0 : Nat} {v1 : Int32} (ht0 : Fl t0) {w : Wd} {rv : Int32} (h : f_X4_leaks t0 v1 w = some rv) : CI yX4_leaks cX4_leaks 2 .int 1 22 (fun ad => [.ref (ad t0), .int v1]) w rv w := by
  refine CI.of (by decide) ?_
  intro l D ad sx ca p e s m below meth c C S hr hlocks
  have hl := lv_entry ([.ref (ad t0), .int v1]) (n := 2) (Nat.le_of_ble_eq_true rfl)
  rw [lg_entry_eq]
  generalize (lg_sl ([.ref (ad t0), .int v1]) ++ List.replicate (2 - (lg_sl ([.ref (ad t0), .int v1])).length) Slot.unset).toArray = ls at hl ⊢
  have hl : lv_has ls 2 [(0, .ref (ad t0)), (1, .int v1)] := hl
  generalize ha9 : ([.ref (ad t0), .int v1] : List Value).toArray = args at C ⊢
  generalize s.heap = H at S ⊢
  generalize ([] : List Loc) = locs at S ⊢
  unfold f_X4_leaks at h
  refine lv_aload_n C.1 C.2.1 dX4_leaks_0 rfl (lv_at hl 0 rfl) ?_
  refine lv_iload_n C.1 C.2.1 dX4_leaks_1 rfl (lv_at hl 1 rfl) ?_
  obtain ⟨o1, e2, h⟩ := Option.bind_eq_some_iff.mp h
  refine r_vi C S hl ht0 cf_4 (k_X4_leaksShut ht0 e2) b_vb_RX4_53 [.int v1] rfl [] rfl rfl (Nat.le_of_ble_eq_true rfl) ⟨Nat.le_of_ble_eq_true rfl, Nat.le_of_ble_eq_true rfl⟩ dX4_leaks_2 (fun H locs S => ?_)
  refine lv_aload_n C.1 C.2.1 dX4_leaks_5 rfl (lv_at hl 0 rfl) ?_
  refine r_geti C S ht0 cf_4 6 rfl (by decide) b_fl_RX4_31 dX4_leaks_6 ?_
  refine lv_if_eq (tgt := 17) C.1 C.2.1 dX4_leaks_9 (by decide) (fun q3 => ?_) (fun q3 => ?_)
  · replace h := (if_pos q3).symm.trans h
    refine lv_iconst (v := 0) C.1 C.2.1 dX4_leaks_17 (by decide) ?_
    refine lv_iadd C.1 C.2.1 dX4_leaks_18 ?_
    have h9 := Option.some.inj h
    subst h9
    exact r_iret C S hr hlocks dX4_leaks_19
  · replace h := (if_neg q3).symm.trans h
    refine lv_bipush (v := 100) C.1 C.2.1 dX4_leaks_12 (by decide) ?_
    refine lv_goto (tgt := 18) C.1 C.2.1 dX4_leaks_14 (by decide) ?_
    refine lv_iadd C.1 C.2.1 dX4_leaks_18 ?_
    have h9 := Option.some.inj h
    subst h9
    exact r_iret C S hr hlocks dX4_leaks_19
set_option maxHeartbeats 4000000 in
set_option maxRecDepth 100000 in
theorem k_X4_takes {t0 : Nat} {v1 : Int32} (ht0 : Fl t0) {w : Wd} {rv : Int32} (h : f_X4_takes t0 v1 w = some rv) : CI yX4_takes cX4_takes 3 .int 1 21 (fun ad => [.ref (ad t0), .int v1]) w rv w := by
  refine CI.of (by decide) ?_
  intro l D ad sx ca p e s m below meth c C S hr hlocks
  have hl := lv_entry ([.ref (ad t0), .int v1]) (n := 3) (Nat.le_of_ble_eq_true rfl)
  rw [lg_entry_eq]
  generalize (lg_sl ([.ref (ad t0), .int v1]) ++ List.replicate (3 - (lg_sl ([.ref (ad t0), .int v1])).length) Slot.unset).toArray = ls at hl ⊢
  have hl : lv_has ls 3 [(0, .ref (ad t0)), (1, .int v1)] := hl
  generalize ha9 : ([.ref (ad t0), .int v1] : List Value).toArray = args at C ⊢
  generalize s.heap = H at S ⊢
  generalize ([] : List Loc) = locs at S ⊢
  unfold f_X4_takes at h
  refine lv_iload_n C.1 C.2.1 dX4_takes_0 rfl (lv_at hl 1 rfl) ?_
  refine lv_iconst (v := 2) C.1 C.2.1 dX4_takes_1 (by decide) ?_
  refine r_mmin C hl b_ma_RX4_57 dX4_takes_2 (by decide) (Nat.le_of_ble_eq_true rfl) ?_
  refine lv_istore_n (lv' := [(2, .int (if 2 < v1 then 2 else v1)), (0, .ref (ad t0)), (1, .int v1)]) C.1 C.2.1 dX4_takes_5 rfl hl (by decide) rfl (fun ls hl => ?_)
  refine lv_aload_n C.1 C.2.1 dX4_takes_6 rfl (lv_at hl 1 rfl) ?_
  refine r_geti C S ht0 cf_4 0 rfl (by decide) b_fl_RX4_9 dX4_takes_7 ?_
  by_cases q1 : (w.1 t0 0) = 3
  · replace h := (if_pos q1).symm.trans h
    refine lv_lookup (off := 26) (tgt := 36) C.1 C.2.1 dX4_takes_10 (by decide) (by rw [q1]; decide) (by decide) ?_
    refine lv_iload_n C.1 C.2.1 dX4_takes_36 rfl (lv_at hl 0 rfl) ?_
    have h9 := Option.some.inj h
    subst h9
    exact r_iret C S hr hlocks dX4_takes_37
  · replace h := (if_neg q1).symm.trans h
    by_cases q2 : (w.1 t0 0) = 5
    · replace h := (if_pos q2).symm.trans h
      refine lv_lookup (off := 28) (tgt := 38) C.1 C.2.1 dX4_takes_10 (by decide) (by rw [q2]; decide) (by decide) ?_
      refine lv_iload_n C.1 C.2.1 dX4_takes_38 rfl (lv_at hl 0 rfl) ?_
      refine lv_iconst (v := 1) C.1 C.2.1 dX4_takes_39 (by decide) ?_
      refine lv_iadd C.1 C.2.1 dX4_takes_40 ?_
      have h9 := Option.some.inj h
      subst h9
      exact r_iret C S hr hlocks dX4_takes_41
    · replace h := (if_neg q2).symm.trans h
      refine lv_lookup (off := 32) (tgt := 42) C.1 C.2.1 dX4_takes_10 (by decide) ?_ (by decide) ?_
      · have hb9 : ∀ k : Int32, ¬ (w.1 t0 0) = k → ¬ (w.1 t0 0).toInt = k.toInt := fun _ h9 => tb_ne h9
        have zq1 : ¬ (w.1 t0 0).toInt = 3 := hb9 3 q1
        have zq2 : ¬ (w.1 t0 0).toInt = 5 := hb9 5 q2
        simp [Op.lookupswitch.offset, zq1, Ne.symm zq1, zq2, Ne.symm zq2]
      refine lv_iload_n C.1 C.2.1 dX4_takes_42 rfl (lv_at hl 2 rfl) ?_
      have h9 := Option.some.inj h
      subst h9
      exact r_iret C S hr hlocks dX4_takes_43
set_option maxHeartbeats 4000000 in
set_option maxRecDepth 100000 in
theorem k_X0_weight {v1 : Int32} {v2 : Int32}  {w : Wd} {rv : Int32} (h : f_X0_weight v1 v2 w = some rv) : CI yX0_weight cX0_weight 5 .int 2 43 (fun ad => [.ref (ad 3), .int v1, .int v2]) w rv w := by
  refine CI.of (by decide) ?_
  intro l D ad sx ca p e s m below meth c C S hr hlocks
  have hl := lv_entry ([.ref (ad 3), .int v1, .int v2]) (n := 5) (Nat.le_of_ble_eq_true rfl)
  rw [lg_entry_eq]
  generalize (lg_sl ([.ref (ad 3), .int v1, .int v2]) ++ List.replicate (5 - (lg_sl ([.ref (ad 3), .int v1, .int v2])).length) Slot.unset).toArray = ls at hl ⊢
  have hl : lv_has ls 5 [(0, .ref (ad 3)), (1, .int v1), (2, .int v2)] := hl
  generalize ha9 : ([.ref (ad 3), .int v1, .int v2] : List Value).toArray = args at C ⊢
  generalize s.heap = H at S ⊢
  generalize ([] : List Loc) = locs at S ⊢
  unfold f_X0_weight at h
  refine lv_aload_n C.1 C.2.1 dX0_weight_0 rfl (lv_at hl 0 rfl) ?_
  refine r_getr C S o_3 cf_0 0 rfl (by decide) b_fl_RX0_11 dX0_weight_1 ?_
  refine lv_iload_n C.1 C.2.1 dX0_weight_4 rfl (lv_at hl 1 rfl) ?_
  obtain ⟨g1, h⟩ := gd_some h
  refine r_aald C S a_17 g1 dX0_weight_5 ?_
  refine lv_astore_n (lv' := [(3, .ref (ad (35 + v1.toNatClampNeg))), (0, .ref (ad 3)), (1, .int v1), (2, .int v2)]) C.1 C.2.1 dX0_weight_6 rfl hl (by decide) rfl (fun ls hl => ?_)
  refine lv_aload_n C.1 C.2.1 dX0_weight_7 rfl (lv_at hl 1 rfl) ?_
  refine r_getr C S o_3 cf_0 2 rfl (by decide) b_fl_RX0_21 dX0_weight_8 ?_
  refine lv_aload_n C.1 C.2.1 dX0_weight_11 rfl (lv_at hl 0 rfl) ?_
  refine r_geti C S (o_F1 (inB_lt g1)) cf_4 1 rfl (by decide) b_fl_RX0_50 dX0_weight_12 ?_
  obtain ⟨g2, h⟩ := gd_some h
  refine r_iald C S a_19 g2 dX0_weight_15 ?_
  refine lv_iconst (v := 1) C.1 C.2.1 dX0_weight_16 (by decide) ?_
  refine lv_isub C.1 C.2.1 dX0_weight_17 ?_
  refine lv_aload_n C.1 C.2.1 dX0_weight_18 rfl (lv_at hl 0 rfl) ?_
  refine r_geti C S (o_F1 (inB_lt g1)) cf_4 2 rfl (by decide) b_fl_RX0_53 dX0_weight_19 ?_
  refine lv_isub C.1 C.2.1 dX0_weight_22 ?_
  refine lv_istore (lv' := [(4, .int (((w.1 19 ((w.1 (35 + v1.toNatClampNeg) 1).toNatClampNeg)) - 1) - (w.1 (35 + v1.toNatClampNeg) 2))), (3, .ref (ad (35 + v1.toNatClampNeg))), (0, .ref (ad 3)), (1, .int v1), (2, .int v2)]) C.1 C.2.1 dX0_weight_23 hl (by decide) rfl (fun ls hl => ?_)
  refine lv_iconst (v := 0) C.1 C.2.1 dX0_weight_25 (by decide) ?_
  refine lv_bipush (v := 10) C.1 C.2.1 dX0_weight_26 (by decide) ?_
  refine lv_aload_n C.1 C.2.1 dX0_weight_28 rfl (lv_at hl 1 rfl) ?_
  refine lv_iload_n C.1 C.2.1 dX0_weight_29 rfl (lv_at hl 4 rfl) ?_
  obtain ⟨o3, e4, h⟩ := Option.bind_eq_some_iff.mp h
  refine r_vi C S hl (o_F1 (inB_lt g1)) cf_4 (k_X4_takes (o_F1 (inB_lt g1)) e4) b_vb_RX0_56 [.int v2] rfl [.int 10, .int 0] rfl rfl (Nat.le_of_ble_eq_true rfl) ⟨Nat.le_of_ble_eq_true rfl, Nat.le_of_ble_eq_true rfl⟩ dX0_weight_30 (fun H locs S => ?_)
  refine lv_imul C.1 C.2.1 dX0_weight_33 ?_
  refine lv_iconst (v := 2) C.1 C.2.1 dX0_weight_34 (by decide) ?_
  refine lv_iload C.1 C.2.1 dX0_weight_35 (lv_at hl 0 rfl) ?_
  refine lv_imul C.1 C.2.1 dX0_weight_37 ?_
  refine lv_isub C.1 C.2.1 dX0_weight_38 ?_
  refine r_mmax C hl b_ma_RX0_60 dX0_weight_39 (by decide) (Nat.le_of_ble_eq_true rfl) ?_
  have h9 := Option.some.inj h
  subst h9
  exact r_iret C S hr hlocks dX0_weight_42
set_option maxHeartbeats 4000000 in
set_option maxRecDepth 100000 in
theorem k_X0_flowOf {v0 : Int32} {v1 : Int32} {v2 : Int32}  {w : Wd} {rv : Int32} (h : f_X0_flowOf v0 v1 v2 = some rv) : CI yX0_flowOf cX0_flowOf 3 .int 0 0 (fun ad => [.int v0, .int v1, .int v2]) w rv w := by
  refine CI.of (by decide) ?_
  intro l D ad sx ca p e s m below meth c C S hr hlocks
  have hl := lv_entry ([.int v0, .int v1, .int v2]) (n := 3) (Nat.le_of_ble_eq_true rfl)
  rw [lg_entry_eq]
  generalize (lg_sl ([.int v0, .int v1, .int v2]) ++ List.replicate (3 - (lg_sl ([.int v0, .int v1, .int v2])).length) Slot.unset).toArray = ls at hl ⊢
  have hl : lv_has ls 3 [(0, .int v0), (1, .int v1), (2, .int v2)] := hl
  generalize ha9 : ([.int v0, .int v1, .int v2] : List Value).toArray = args at C ⊢
  generalize s.heap = H at S ⊢
  generalize ([] : List Loc) = locs at S ⊢
  unfold f_X0_flowOf at h
  refine lv_iload_n C.1 C.2.1 dX0_flowOf_0 rfl (lv_at hl 2 rfl) ?_
  refine lv_if_ne (tgt := 8) C.1 C.2.1 dX0_flowOf_1 (by decide) (fun q1 => ?_) (fun q1 => ?_)
  · replace h := (if_neg q1).symm.trans h
    refine lv_iload_n C.1 C.2.1 dX0_flowOf_8 rfl (lv_at hl 0 rfl) ?_
    refine lv_iload_n C.1 C.2.1 dX0_flowOf_9 rfl (lv_at hl 1 rfl) ?_
    refine lv_imul C.1 C.2.1 dX0_flowOf_10 ?_
    refine lv_iload_n C.1 C.2.1 dX0_flowOf_11 rfl (lv_at hl 2 rfl) ?_
    obtain ⟨g2, h⟩ := gd_some h
    refine lv_idiv C.1 C.2.1 dX0_flowOf_12 (nz_ne g2) ?_
    have h9 := Option.some.inj h
    subst h9
    exact r_iret C S hr hlocks dX0_flowOf_13
  · replace h := (if_pos q1).symm.trans h
    refine lv_iconst (v := 0) C.1 C.2.1 dX0_flowOf_4 (by decide) ?_
    refine lv_goto (tgt := 13) C.1 C.2.1 dX0_flowOf_5 (by decide) ?_
    have h9 := Option.some.inj h
    subst h9
    exact r_iret C S hr hlocks dX0_flowOf_13
set_option maxHeartbeats 4000000 in
set_option maxRecDepth 100000 in
theorem k_X0_flow_L4 {p : Program} {l : Launch} {e : Env} {s : State} {m : MethodId} {args : Array Value} {below : List Frame} {meth : Method} {c : Code} {D : va_G} {ad sx : Nat → Nat} {ca : Nat → ClassId} (C : Cx D ad sx ca p s m c args RX0 cX0_flow 4) {Q : State → Prop} {w : Wd} {v1 : Int32}  : ∀ (n9 : Nat) (z : Int32 × Int32) (o : Int32 × Int32), lp (f_X0_flow_L4 v1 w) n9 z = some o → (∀ (ls : Array Slot) (H : Heap) (locs : List Loc), lv_has ls 4 [(0, .ref (ad 3)), (1, .int v1), (2, .int o.1)] → St D ad ca s w H locs → W p l e (RM 3 67) s m args below meth c H locs 0 0 Q (F0 m 35 ls [])) → (∀ (ls : Array Slot) (H : Heap) (locs : List Loc), lv_has ls 4 [(0, .ref (ad 3)), (1, .int v1), (2, .int z.1), (3, .int z.2)] → St D ad ca s w H locs → W p l e (RM 3 67) s m args below meth c H locs 0 0 Q (F0 m 4 ls [])) := by
  refine lp_W (HW := fun (z : Int32 × Int32) => ∀ (ls : Array Slot) (H : Heap) (locs : List Loc), lv_has ls 4 [(0, .ref (ad 3)), (1, .int v1), (2, .int z.1), (3, .int z.2)] → St D ad ca s w H locs → W p l e (RM 3 67) s m args below meth c H locs 0 0 Q (F0 m 4 ls [])) (XW := fun (o : Int32 × Int32) => ∀ (ls : Array Slot) (H : Heap) (locs : List Loc), lv_has ls 4 [(0, .ref (ad 3)), (1, .int v1), (2, .int o.1)] → St D ad ca s w H locs → W p l e (RM 3 67) s m args below meth c H locs 0 0 Q (F0 m 35 ls [])) ?_
  intro z x h hN hX ls H locs hl S
  unfold f_X0_flow_L4 at h
  refine lv_iload_n C.1 C.2.1 dX0_flow_4 rfl (lv_at hl 3 rfl) ?_
  refine lv_aload_n C.1 C.2.1 dX0_flow_5 rfl (lv_at hl 0 rfl) ?_
  refine r_geti C S o_3 cf_0 1 rfl (by decide) b_fl_RX0_17 dX0_flow_6 ?_
  refine lv_icmp_ge (tgt := 35) C.1 C.2.1 dX0_flow_9 (by decide) (fun q1 => ?_) (fun q1 => ?_)
  · replace h := (if_pos q1).symm.trans h
    exact hX _ (Option.some.inj h).symm _ _ _ (lv_sub hl [0, 1, 2] rfl) S
  · replace h := (if_neg q1).symm.trans h
    refine lv_iload_n C.1 C.2.1 dX0_flow_12 rfl (lv_at hl 2 rfl) ?_
    refine lv_aload_n C.1 C.2.1 dX0_flow_13 rfl (lv_at hl 0 rfl) ?_
    refine lv_iload_n C.1 C.2.1 dX0_flow_14 rfl (lv_at hl 3 rfl) ?_
    refine lv_aload_n C.1 C.2.1 dX0_flow_15 rfl (lv_at hl 0 rfl) ?_
    refine r_getr C S o_3 cf_0 0 rfl (by decide) b_fl_RX0_11 dX0_flow_16 ?_
    refine lv_iload_n C.1 C.2.1 dX0_flow_19 rfl (lv_at hl 3 rfl) ?_
    obtain ⟨g2, h⟩ := gd_some h
    refine r_aald C S a_17 g2 dX0_flow_20 ?_
    refine r_geti C S (o_F1 (inB_lt g2)) cf_4 4 rfl (by decide) b_fl_RX0_66 dX0_flow_21 ?_
    obtain ⟨o3, e4, h⟩ := Option.bind_eq_some_iff.mp h
    refine r_vi C S hl o_3 cf_0 (k_X0_weight e4) b_vb_RX0_69 [.int z.2, .int (w.1 (35 + z.2.toNatClampNeg) 4)] rfl [.int z.1] rfl rfl (Nat.le_of_ble_eq_true rfl) ⟨Nat.le_of_ble_eq_true rfl, Nat.le_of_ble_eq_true rfl⟩ dX0_flow_24 (fun H locs S => ?_)
    refine lv_iadd C.1 C.2.1 dX0_flow_27 ?_
    refine lv_istore_n (lv' := [(2, .int (z.1 + o3)), (0, .ref (ad 3)), (1, .int v1), (3, .int z.2)]) C.1 C.2.1 dX0_flow_28 rfl hl (by decide) rfl (fun ls hl => ?_)
    refine lv_iinc (v := z.2 + 1) (lv' := [(3, .int (z.2 + 1)), (2, .int (z.1 + o3)), (0, .ref (ad 3)), (1, .int v1)]) C.1 C.2.1 dX0_flow_29 hl (k := 3) rfl rfl (by decide) rfl (fun ls hl => ?_)
    refine lv_goto (tgt := 4) C.1 C.2.1 dX0_flow_32 (by decide) ?_
    exact hN _ (Option.some.inj h).symm _ _ _ (lv_sub hl [2, 3, 1, 0] rfl) S
set_option maxHeartbeats 4000000 in
set_option maxRecDepth 100000 in
theorem k_X0_flow {v1 : Int32}  {w : Wd} {rv : Int32} (h : f_X0_flow v1 w = some rv) : CI yX0_flow cX0_flow 4 .int 3 67 (fun ad => [.ref (ad 3), .int v1]) w rv w := by
  refine CI.of (by decide) ?_
  intro l D ad sx ca p e s m below meth c C S hr hlocks
  have hl := lv_entry ([.ref (ad 3), .int v1]) (n := 4) (Nat.le_of_ble_eq_true rfl)
  rw [lg_entry_eq]
  generalize (lg_sl ([.ref (ad 3), .int v1]) ++ List.replicate (4 - (lg_sl ([.ref (ad 3), .int v1])).length) Slot.unset).toArray = ls at hl ⊢
  have hl : lv_has ls 4 [(0, .ref (ad 3)), (1, .int v1)] := hl
  generalize ha9 : ([.ref (ad 3), .int v1] : List Value).toArray = args at C ⊢
  generalize s.heap = H at S ⊢
  generalize ([] : List Loc) = locs at S ⊢
  unfold f_X0_flow at h
  refine lv_iconst (v := 0) C.1 C.2.1 dX0_flow_0 (by decide) ?_
  refine lv_istore_n (lv' := [(2, .int 0), (0, .ref (ad 3)), (1, .int v1)]) C.1 C.2.1 dX0_flow_1 rfl hl (by decide) rfl (fun ls hl => ?_)
  refine lv_iconst (v := 0) C.1 C.2.1 dX0_flow_2 (by decide) ?_
  refine lv_istore_n (lv' := [(3, .int 0), (2, .int 0), (0, .ref (ad 3)), (1, .int v1)]) C.1 C.2.1 dX0_flow_3 rfl hl (by decide) rfl (fun ls hl => ?_)
  obtain ⟨o5, e6, h⟩ := Option.bind_eq_some_iff.mp h
  refine k_X0_flow_L4 C  FU _ _ e6 (fun ls H locs hl S => ?_) ls H locs (lv_sub hl [2, 3, 1, 0] rfl) S
  refine lv_aload_n C.1 C.2.1 dX0_flow_35 rfl (lv_at hl 0 rfl) ?_
  refine r_geti C S o_3 cf_0 5 rfl (by decide) b_fl_RX0_31 dX0_flow_36 ?_
  refine lv_aload_n C.1 C.2.1 dX0_flow_39 rfl (lv_at hl 0 rfl) ?_
  refine lv_iload_n C.1 C.2.1 dX0_flow_40 rfl (lv_at hl 1 rfl) ?_
  refine lv_aload_n C.1 C.2.1 dX0_flow_41 rfl (lv_at hl 0 rfl) ?_
  refine r_getr C S o_3 cf_0 0 rfl (by decide) b_fl_RX0_11 dX0_flow_42 ?_
  refine lv_iload_n C.1 C.2.1 dX0_flow_45 rfl (lv_at hl 1 rfl) ?_
  obtain ⟨g7, h⟩ := gd_some h
  refine r_aald C S a_17 g7 dX0_flow_46 ?_
  refine r_geti C S (o_F1 (inB_lt g7)) cf_4 4 rfl (by decide) b_fl_RX0_66 dX0_flow_47 ?_
  obtain ⟨o8, e9, h⟩ := Option.bind_eq_some_iff.mp h
  refine r_vi C S hl o_3 cf_0 (k_X0_weight e9) b_vb_RX0_69 [.int v1, .int (w.1 (35 + v1.toNatClampNeg) 4)] rfl [.int (w.1 3 5)] rfl rfl (Nat.le_of_ble_eq_true rfl) ⟨Nat.le_of_ble_eq_true rfl, Nat.le_of_ble_eq_true rfl⟩ dX0_flow_50 (fun H locs S => ?_)
  refine lv_iload_n C.1 C.2.1 dX0_flow_53 rfl (lv_at hl 2 rfl) ?_
  obtain ⟨o10, e11, h⟩ := Option.bind_eq_some_iff.mp h
  refine r_si C S hl (k_X0_flowOf e11) b_sb_RX0_72 [.int (w.1 3 5), .int o8, .int o5.1] rfl [] rfl rfl (Nat.le_of_ble_eq_true rfl) ⟨Nat.le_of_ble_eq_true rfl, Nat.le_of_ble_eq_true rfl⟩ dX0_flow_54 (fun H locs S => ?_)
  have h9 := Option.some.inj h
  subst h9
  exact r_iret C S hr hlocks dX0_flow_57

set_option maxHeartbeats 4000000 in
set_option maxRecDepth 100000 in
theorem k_X5_value {t0 : Nat} {v2 : Int32} (ht0 : Rr t0) {w : Wd} {rv : Int32 × Wd} (h : f_X5_value t0 v2 w = some rv) : CI yX5_value cX5_value 4 .int 101 2625 (fun ad => [.ref (ad t0), .ref (ad 3), .int v2]) w rv.1 rv.2 := by
  refine CI.of (by decide) ?_
  intro l D ad sx ca p e s m below meth c C S hr hlocks
  have hl := lv_entry ([.ref (ad t0), .ref (ad 3), .int v2]) (n := 4) (Nat.le_of_ble_eq_true rfl)
  rw [lg_entry_eq]
  generalize (lg_sl ([.ref (ad t0), .ref (ad 3), .int v2]) ++ List.replicate (4 - (lg_sl ([.ref (ad t0), .ref (ad 3), .int v2])).length) Slot.unset).toArray = ls at hl ⊢
  have hl : lv_has ls 4 [(0, .ref (ad t0)), (1, .ref (ad 3)), (2, .int v2)] := hl
  generalize ha9 : ([.ref (ad t0), .ref (ad 3), .int v2] : List Value).toArray = args at C ⊢
  generalize s.heap = H at S ⊢
  generalize ([] : List Loc) = locs at S ⊢
  unfold f_X5_value at h
  refine lv_aload_n C.1 C.2.1 dX5_value_0 rfl (lv_at hl 1 rfl) ?_
  refine r_getr C S o_3 cf_0 0 rfl (by decide) b_fl_RX5_38 dX5_value_1 ?_
  refine lv_iload_n C.1 C.2.1 dX5_value_4 rfl (lv_at hl 2 rfl) ?_
  obtain ⟨g1, h⟩ := gd_some h
  refine r_aald C S a_17 g1 dX5_value_5 ?_
  refine lv_astore_n (lv' := [(3, .ref (ad (35 + v2.toNatClampNeg))), (0, .ref (ad t0)), (1, .ref (ad 3)), (2, .int v2)]) C.1 C.2.1 dX5_value_6 rfl hl (by decide) rfl (fun ls hl => ?_)
  refine lv_aload_n C.1 C.2.1 dX5_value_7 rfl (lv_at hl 1 rfl) ?_
  refine r_getr C S ht0.1 cf_5 1 rfl (by decide) b_fl_RX5_9 dX5_value_8 ?_
  refine lv_iconst (v := 0) C.1 C.2.1 dX5_value_11 (by decide) ?_
  refine lv_aload_n C.1 C.2.1 dX5_value_12 rfl (lv_at hl 0 rfl) ?_
  refine r_geti C S (o_F1 (inB_lt g1)) cf_4 8 rfl (by decide) b_fl_RX5_44 dX5_value_13 ?_
  refine r_iastn (j := 0) C S ht0.2.2 (by decide) (by decide) dX5_value_16 (fun H locs S => ?_)
  obtain ⟨w2, h, S⟩ := lw_S (P := fun y => St D ad ca s y H locs) h S
  refine lv_aload_n C.1 C.2.1 dX5_value_17 rfl (lv_at hl 1 rfl) ?_
  refine r_getr C S ht0.1 cf_5 1 rfl (by decide) b_fl_RX5_9 dX5_value_18 ?_
  refine lv_iconst (v := 1) C.1 C.2.1 dX5_value_21 (by decide) ?_
  refine lv_aload_n C.1 C.2.1 dX5_value_22 rfl (lv_at hl 0 rfl) ?_
  refine r_geti C S (o_F1 (inB_lt g1)) cf_4 9 rfl (by decide) b_fl_RX5_49 dX5_value_23 ?_
  refine r_iastn (j := 1) C S ht0.2.2 (by decide) (by decide) dX5_value_26 (fun H locs S => ?_)
  obtain ⟨w3, h, S⟩ := lw_S (P := fun y => St D ad ca s y H locs) h S
  refine lv_aload_n C.1 C.2.1 dX5_value_27 rfl (lv_at hl 1 rfl) ?_
  refine r_getr C S ht0.1 cf_5 1 rfl (by decide) b_fl_RX5_9 dX5_value_28 ?_
  refine lv_iconst (v := 2) C.1 C.2.1 dX5_value_31 (by decide) ?_
  refine lv_aload_n C.1 C.2.1 dX5_value_32 rfl (lv_at hl 0 rfl) ?_
  refine r_geti C S (o_F1 (inB_lt g1)) cf_4 10 rfl (by decide) b_fl_RX5_52 dX5_value_33 ?_
  refine r_iastn (j := 2) C S ht0.2.2 (by decide) (by decide) dX5_value_36 (fun H locs S => ?_)
  obtain ⟨w4, h, S⟩ := lw_S (P := fun y => St D ad ca s y H locs) h S
  refine lv_aload_n C.1 C.2.1 dX5_value_37 rfl (lv_at hl 1 rfl) ?_
  refine r_getr C S ht0.1 cf_5 1 rfl (by decide) b_fl_RX5_9 dX5_value_38 ?_
  refine lv_iconst (v := 3) C.1 C.2.1 dX5_value_41 (by decide) ?_
  refine lv_aload_n C.1 C.2.1 dX5_value_42 rfl (lv_at hl 0 rfl) ?_
  refine r_geti C S (o_F1 (inB_lt g1)) cf_4 3 rfl (by decide) b_fl_RX5_55 dX5_value_43 ?_
  refine r_iastn (j := 3) C S ht0.2.2 (by decide) (by decide) dX5_value_46 (fun H locs S => ?_)
  obtain ⟨w5, h, S⟩ := lw_S (P := fun y => St D ad ca s y H locs) h S
  refine lv_aload_n C.1 C.2.1 dX5_value_47 rfl (lv_at hl 1 rfl) ?_
  refine r_getr C S ht0.1 cf_5 1 rfl (by decide) b_fl_RX5_9 dX5_value_48 ?_
  refine lv_iconst (v := 4) C.1 C.2.1 dX5_value_51 (by decide) ?_
  refine lv_aload_n C.1 C.2.1 dX5_value_52 rfl (lv_at hl 0 rfl) ?_
  refine r_geti C S (o_F1 (inB_lt g1)) cf_4 0 rfl (by decide) b_fl_RX5_58 dX5_value_53 ?_
  refine r_iastn (j := 4) C S ht0.2.2 (by decide) (by decide) dX5_value_56 (fun H locs S => ?_)
  obtain ⟨w6, h, S⟩ := lw_S (P := fun y => St D ad ca s y H locs) h S
  refine lv_aload_n C.1 C.2.1 dX5_value_57 rfl (lv_at hl 1 rfl) ?_
  refine r_getr C S ht0.1 cf_5 1 rfl (by decide) b_fl_RX5_9 dX5_value_58 ?_
  refine lv_iconst (v := 5) C.1 C.2.1 dX5_value_61 (by decide) ?_
  refine lv_iload_n C.1 C.2.1 dX5_value_62 rfl (lv_at hl 3 rfl) ?_
  refine r_iastn (j := 5) C S ht0.2.2 (by decide) (by decide) dX5_value_63 (fun H locs S => ?_)
  obtain ⟨w7, h, S⟩ := lw_S (P := fun y => St D ad ca s y H locs) h S
  refine lv_aload_n C.1 C.2.1 dX5_value_64 rfl (lv_at hl 1 rfl) ?_
  refine r_getr C S ht0.1 cf_5 1 rfl (by decide) b_fl_RX5_9 dX5_value_65 ?_
  refine lv_bipush (v := 6) C.1 C.2.1 dX5_value_68 (by decide) ?_
  refine lv_aload_n C.1 C.2.1 dX5_value_70 rfl (lv_at hl 0 rfl) ?_
  refine r_geti C S (o_F1 (inB_lt g1)) cf_4 1 rfl (by decide) b_fl_RX5_61 dX5_value_71 ?_
  refine r_iastn (j := 6) C S ht0.2.2 (by decide) (by decide) dX5_value_74 (fun H locs S => ?_)
  obtain ⟨w8, h, S⟩ := lw_S (P := fun y => St D ad ca s y H locs) h S
  refine lv_aload_n C.1 C.2.1 dX5_value_75 rfl (lv_at hl 1 rfl) ?_
  refine r_getr C S ht0.1 cf_5 1 rfl (by decide) b_fl_RX5_9 dX5_value_76 ?_
  refine lv_bipush (v := 7) C.1 C.2.1 dX5_value_79 (by decide) ?_
  refine lv_aload_n C.1 C.2.1 dX5_value_81 rfl (lv_at hl 0 rfl) ?_
  refine r_geti C S (o_F1 (inB_lt g1)) cf_4 2 rfl (by decide) b_fl_RX5_64 dX5_value_82 ?_
  refine r_iastn (j := 7) C S ht0.2.2 (by decide) (by decide) dX5_value_85 (fun H locs S => ?_)
  obtain ⟨w9, h, S⟩ := lw_S (P := fun y => St D ad ca s y H locs) h S
  refine lv_aload_n C.1 C.2.1 dX5_value_86 rfl (lv_at hl 1 rfl) ?_
  refine lv_iconst (v := 0) C.1 C.2.1 dX5_value_87 (by decide) ?_
  refine r_put C S ht0.1 cf_5 2 rfl (by decide) rfl (ni _) b_fl_RX5_19 dX5_value_88 (fun H locs S => ?_)
  obtain ⟨w10, h, S⟩ := lw_S (P := fun y => St D ad ca s y H locs) h S
  refine lv_aload_n C.1 C.2.1 dX5_value_91 rfl (lv_at hl 1 rfl) ?_
  refine lv_iconst (v := (-1)) C.1 C.2.1 dX5_value_92 (by decide) ?_
  refine r_put C S ht0.1 cf_5 3 rfl (by decide) rfl (ni _) b_fl_RX5_23 dX5_value_93 (fun H locs S => ?_)
  obtain ⟨w11, h, S⟩ := lw_S (P := fun y => St D ad ca s y H locs) h S
  refine lv_aload_n C.1 C.2.1 dX5_value_96 rfl (lv_at hl 1 rfl) ?_
  refine lv_iconst (v := 0) C.1 C.2.1 dX5_value_97 (by decide) ?_
  obtain ⟨o12, e13, h⟩ := Option.bind_eq_some_iff.mp h
  refine r_vi C S hl ht0.1 cf_5 (k_X5_readSum ht0 e13) b_vb_RX5_26 [.int 0] rfl [] rfl rfl (Nat.le_of_ble_eq_true rfl) ⟨Nat.le_of_ble_eq_true rfl, Nat.le_of_ble_eq_true rfl⟩ dX5_value_98 (fun H locs S => ?_)
  have h9 := Option.some.inj h
  subst h9
  exact r_iret C S hr hlocks dX5_value_101
set_option maxHeartbeats 4000000 in
set_option maxRecDepth 100000 in
theorem k_X10_ruledShare {v1 : Int32}  {w : Wd} {rv : Int32 × Wd} (h : f_X10_ruledShare v1 w = some rv) : CI yX10_ruledShare cX10_ruledShare 2 .int 102 2648 (fun ad => [.ref (ad 0), .int v1]) w rv.1 rv.2 := by
  refine CI.of (by decide) ?_
  intro l D ad sx ca p e s m below meth c C S hr hlocks
  have hl := lv_entry ([.ref (ad 0), .int v1]) (n := 2) (Nat.le_of_ble_eq_true rfl)
  rw [lg_entry_eq]
  generalize (lg_sl ([.ref (ad 0), .int v1]) ++ List.replicate (2 - (lg_sl ([.ref (ad 0), .int v1])).length) Slot.unset).toArray = ls at hl ⊢
  have hl : lv_has ls 2 [(0, .ref (ad 0)), (1, .int v1)] := hl
  generalize ha9 : ([.ref (ad 0), .int v1] : List Value).toArray = args at C ⊢
  generalize s.heap = H at S ⊢
  generalize ([] : List Loc) = locs at S ⊢
  unfold f_X10_ruledShare at h
  refine lv_iconst (v := 0) C.1 C.2.1 dX10_ruledShare_0 (by decide) ?_
  refine r_ldcw C 99999 b_cn_RX10_329 dX10_ruledShare_1 ?_
  refine lv_aload_n C.1 C.2.1 dX10_ruledShare_4 rfl (lv_at hl 0 rfl) ?_
  refine r_getr C S o_0 cf_10 7 rfl (by decide) b_fl_RX10_49 dX10_ruledShare_5 ?_
  refine lv_aload_n C.1 C.2.1 dX10_ruledShare_8 rfl (lv_at hl 0 rfl) ?_
  refine r_getr C S o_0 cf_10 3 rfl (by decide) b_fl_RX10_27 dX10_ruledShare_9 ?_
  refine lv_iload_n C.1 C.2.1 dX10_ruledShare_12 rfl (lv_at hl 1 rfl) ?_
  obtain ⟨o1, e2, h⟩ := Option.bind_eq_some_iff.mp h
  refine r_vi C S hl o_10 cf_5 (k_X5_value pRr_10 e2) b_vb_RX10_330 [.ref (ad 3), .int v1] rfl [.int 99999, .int 0] rfl rfl (Nat.le_of_ble_eq_true rfl) ⟨Nat.le_of_ble_eq_true rfl, Nat.le_of_ble_eq_true rfl⟩ dX10_ruledShare_13 (fun H locs S => ?_)
  refine r_mmin C hl b_ma_RX10_334 dX10_ruledShare_16 (by decide) (Nat.le_of_ble_eq_true rfl) ?_
  refine r_mmax C hl b_ma_RX10_339 dX10_ruledShare_19 (by decide) (Nat.le_of_ble_eq_true rfl) ?_
  have h9 := Option.some.inj h
  subst h9
  exact r_iret C S hr hlocks dX10_ruledShare_22
set_option maxHeartbeats 4000000 in
set_option maxRecDepth 100000 in
theorem k_X10_plainShare {v1 : Int32}  {w : Wd} {rv : Int32} (h : f_X10_plainShare v1 w = some rv) : CI yX10_plainShare cX10_plainShare 2 .int 1 21 (fun ad => [.ref (ad 0), .int v1]) w rv w := by
  refine CI.of (by decide) ?_
  intro l D ad sx ca p e s m below meth c C S hr hlocks
  have hl := lv_entry ([.ref (ad 0), .int v1]) (n := 2) (Nat.le_of_ble_eq_true rfl)
  rw [lg_entry_eq]
  generalize (lg_sl ([.ref (ad 0), .int v1]) ++ List.replicate (2 - (lg_sl ([.ref (ad 0), .int v1])).length) Slot.unset).toArray = ls at hl ⊢
  have hl : lv_has ls 2 [(0, .ref (ad 0)), (1, .int v1)] := hl
  generalize ha9 : ([.ref (ad 0), .int v1] : List Value).toArray = args at C ⊢
  generalize s.heap = H at S ⊢
  generalize ([] : List Loc) = locs at S ⊢
  unfold f_X10_plainShare at h
  refine r_ldcw C 99999 b_cn_RX10_329 dX10_plainShare_0 ?_
  refine lv_aload_n C.1 C.2.1 dX10_plainShare_3 rfl (lv_at hl 0 rfl) ?_
  refine r_getr C S o_0 cf_10 3 rfl (by decide) b_fl_RX10_27 dX10_plainShare_4 ?_
  refine r_getr C S o_3 cf_0 0 rfl (by decide) b_fl_RX10_114 dX10_plainShare_7 ?_
  refine lv_iload_n C.1 C.2.1 dX10_plainShare_10 rfl (lv_at hl 1 rfl) ?_
  obtain ⟨g1, h⟩ := gd_some h
  refine r_aald C S a_17 g1 dX10_plainShare_11 ?_
  refine r_geti C S (o_F1 (inB_lt g1)) cf_4 8 rfl (by decide) b_fl_RX10_157 dX10_plainShare_12 ?_
  refine r_mmin C hl b_ma_RX10_334 dX10_plainShare_15 (by decide) (Nat.le_of_ble_eq_true rfl) ?_
  have h9 := Option.some.inj h
  subst h9
  exact r_iret C S hr hlocks dX10_plainShare_18
set_option maxHeartbeats 4000000 in
set_option maxRecDepth 100000 in
theorem k_X10_share {v1 : Int32}  {w : Wd} {rv : Int32 × Wd} (h : f_X10_share v1 w = some rv) : CI yX10_share cX10_share 2 .int 103 2669 (fun ad => [.ref (ad 0), .int v1]) w rv.1 rv.2 := by
  refine CI.of (by decide) ?_
  intro l D ad sx ca p e s m below meth c C S hr hlocks
  have hl := lv_entry ([.ref (ad 0), .int v1]) (n := 2) (Nat.le_of_ble_eq_true rfl)
  rw [lg_entry_eq]
  generalize (lg_sl ([.ref (ad 0), .int v1]) ++ List.replicate (2 - (lg_sl ([.ref (ad 0), .int v1])).length) Slot.unset).toArray = ls at hl ⊢
  have hl : lv_has ls 2 [(0, .ref (ad 0)), (1, .int v1)] := hl
  generalize ha9 : ([.ref (ad 0), .int v1] : List Value).toArray = args at C ⊢
  generalize s.heap = H at S ⊢
  generalize ([] : List Loc) = locs at S ⊢
  unfold f_X10_share at h
  refine lv_aload_n C.1 C.2.1 dX10_share_0 rfl (lv_at hl 0 rfl) ?_
  refine r_getr C S o_0 cf_10 3 rfl (by decide) b_fl_RX10_27 dX10_share_1 ?_
  refine lv_iload_n C.1 C.2.1 dX10_share_4 rfl (lv_at hl 1 rfl) ?_
  obtain ⟨o1, e2, h⟩ := Option.bind_eq_some_iff.mp h
  refine r_vi C S hl o_3 cf_0 (k_X0_has e2) b_vb_RX10_110 [.int v1] rfl [] rfl rfl (Nat.le_of_ble_eq_true rfl) ⟨Nat.le_of_ble_eq_true rfl, Nat.le_of_ble_eq_true rfl⟩ dX10_share_5 (fun H locs S => ?_)
  refine lv_if_ne (tgt := 18) C.1 C.2.1 dX10_share_8 (by decide) (fun q3 => ?_) (fun q3 => ?_)
  · replace h := (if_neg q3).symm.trans h
    refine lv_aload_n C.1 C.2.1 dX10_share_18 rfl (lv_at hl 0 rfl) ?_
    obtain ⟨o4, e5, h⟩ := Option.bind_eq_some_iff.mp h
    refine r_vi C S hl o_0 cf_10 (k_X10_isRuled e5) b_vb_RX10_207 [] rfl [] rfl rfl (Nat.le_of_ble_eq_true rfl) ⟨Nat.le_of_ble_eq_true rfl, Nat.le_of_ble_eq_true rfl⟩ dX10_share_19 (fun H locs S => ?_)
    refine lv_if_eq (tgt := 33) C.1 C.2.1 dX10_share_22 (by decide) (fun q6 => ?_) (fun q6 => ?_)
    · replace h := (if_pos q6).symm.trans h
      refine lv_aload_n C.1 C.2.1 dX10_share_33 rfl (lv_at hl 0 rfl) ?_
      refine lv_iload_n C.1 C.2.1 dX10_share_34 rfl (lv_at hl 1 rfl) ?_
      obtain ⟨o7, e8, h⟩ := Option.bind_eq_some_iff.mp h
      refine r_vi C S hl o_0 cf_10 (k_X10_plainShare e8) b_vb_RX10_214 [.int v1] rfl [] rfl rfl (Nat.le_of_ble_eq_true rfl) ⟨Nat.le_of_ble_eq_true rfl, Nat.le_of_ble_eq_true rfl⟩ dX10_share_35 (fun H locs S => ?_)
      have h9 := Option.some.inj h
      subst h9
      exact r_iret C S hr hlocks dX10_share_38
    · replace h := (if_neg q6).symm.trans h
      refine lv_aload_n C.1 C.2.1 dX10_share_25 rfl (lv_at hl 0 rfl) ?_
      refine lv_iload_n C.1 C.2.1 dX10_share_26 rfl (lv_at hl 1 rfl) ?_
      obtain ⟨o9, e10, h⟩ := Option.bind_eq_some_iff.mp h
      refine r_vi C S hl o_0 cf_10 (k_X10_ruledShare e10) b_vb_RX10_211 [.int v1] rfl [] rfl rfl (Nat.le_of_ble_eq_true rfl) ⟨Nat.le_of_ble_eq_true rfl, Nat.le_of_ble_eq_true rfl⟩ dX10_share_27 (fun H locs S => ?_)
      refine lv_goto (tgt := 38) C.1 C.2.1 dX10_share_30 (by decide) ?_
      have h9 := Option.some.inj h
      subst h9
      exact r_iret C S hr hlocks dX10_share_38
  · replace h := (if_pos q3).symm.trans h
    refine lv_aload_n C.1 C.2.1 dX10_share_11 rfl (lv_at hl 0 rfl) ?_
    refine r_ldc C (-1000000001) b_cn_RX10_94 dX10_share_12 ?_
    obtain ⟨o11, e12, h⟩ := Option.bind_eq_some_iff.mp h
    refine r_vi C S hl o_0 cf_10 (k_X10_finding e12) b_vb_RX10_95 [.int (-1000000001)] rfl [] rfl rfl (Nat.le_of_ble_eq_true rfl) ⟨Nat.le_of_ble_eq_true rfl, Nat.le_of_ble_eq_true rfl⟩ dX10_share_14 (fun H locs S => ?_)
    have h9 := Option.some.inj h
    subst h9
    exact r_iret C S hr hlocks dX10_share_17
set_option maxHeartbeats 4000000 in
set_option maxRecDepth 100000 in
theorem k_X7_begin {v1 : Int32}  {w : Wd} {rv : Wd} (h : f_X7_begin v1 w = some rv) : CV yX7_begin cX7_begin 2 0 0 (fun ad => [.ref (ad 12), .int v1]) w rv := by
  refine CV.of (by decide) ?_
  intro l D ad sx ca p e s m below meth c C S hr hlocks
  have hl := lv_entry ([.ref (ad 12), .int v1]) (n := 2) (Nat.le_of_ble_eq_true rfl)
  rw [lg_entry_eq]
  generalize (lg_sl ([.ref (ad 12), .int v1]) ++ List.replicate (2 - (lg_sl ([.ref (ad 12), .int v1])).length) Slot.unset).toArray = ls at hl ⊢
  have hl : lv_has ls 2 [(0, .ref (ad 12)), (1, .int v1)] := hl
  generalize ha9 : ([.ref (ad 12), .int v1] : List Value).toArray = args at C ⊢
  generalize s.heap = H at S ⊢
  generalize ([] : List Loc) = locs at S ⊢
  unfold f_X7_begin at h
  refine lv_aload_n C.1 C.2.1 dX7_begin_0 rfl (lv_at hl 0 rfl) ?_
  refine lv_iload_n C.1 C.2.1 dX7_begin_1 rfl (lv_at hl 1 rfl) ?_
  refine r_put C S o_12 cf_7 2 rfl (by decide) rfl (ni _) b_fl_RX7_15 dX7_begin_2 (fun H locs S => ?_)
  obtain ⟨w1, h, S⟩ := lw_S (P := fun y => St D ad ca s y H locs) h S
  refine lv_aload_n C.1 C.2.1 dX7_begin_5 rfl (lv_at hl 0 rfl) ?_
  refine lv_iconst (v := 0) C.1 C.2.1 dX7_begin_6 (by decide) ?_
  refine r_put C S o_12 cf_7 1 rfl (by decide) rfl (ni _) b_fl_RX7_19 dX7_begin_7 (fun H locs S => ?_)
  obtain ⟨w2, h, S⟩ := lw_S (P := fun y => St D ad ca s y H locs) h S
  refine lv_aload_n C.1 C.2.1 dX7_begin_10 rfl (lv_at hl 0 rfl) ?_
  refine lv_iconst (v := 0) C.1 C.2.1 dX7_begin_11 (by decide) ?_
  refine r_put C S o_12 cf_7 3 rfl (by decide) rfl (ni _) b_fl_RX7_22 dX7_begin_12 (fun H locs S => ?_)
  obtain ⟨w3, h, S⟩ := lw_S (P := fun y => St D ad ca s y H locs) h S
  have h9 := Option.some.inj h
  subst h9
  exact r_vret C S hr hlocks dX7_begin_15
set_option maxHeartbeats 4000000 in
set_option maxRecDepth 100000 in
theorem k_X7_add {v1 : Int32}  {w : Wd} {rv : Wd} (h : f_X7_add v1 w = some rv) : CV yX7_add cX7_add 2 0 0 (fun ad => [.ref (ad 12), .int v1]) w rv := by
  refine CV.of (by decide) ?_
  intro l D ad sx ca p e s m below meth c C S hr hlocks
  have hl := lv_entry ([.ref (ad 12), .int v1]) (n := 2) (Nat.le_of_ble_eq_true rfl)
  rw [lg_entry_eq]
  generalize (lg_sl ([.ref (ad 12), .int v1]) ++ List.replicate (2 - (lg_sl ([.ref (ad 12), .int v1])).length) Slot.unset).toArray = ls at hl ⊢
  have hl : lv_has ls 2 [(0, .ref (ad 12)), (1, .int v1)] := hl
  generalize ha9 : ([.ref (ad 12), .int v1] : List Value).toArray = args at C ⊢
  generalize s.heap = H at S ⊢
  generalize ([] : List Loc) = locs at S ⊢
  unfold f_X7_add at h
  refine lv_aload_n C.1 C.2.1 dX7_add_0 rfl (lv_at hl 0 rfl) ?_
  refine r_geti C S o_12 cf_7 1 rfl (by decide) b_fl_RX7_19 dX7_add_1 ?_
  refine lv_bipush (v := 12) C.1 C.2.1 dX7_add_4 (by decide) ?_
  refine lv_icmp_ge (tgt := 39) C.1 C.2.1 dX7_add_6 (by decide) (fun q1 => ?_) (fun q1 => ?_)
  · replace h := (if_pos q1).symm.trans h
    have h9 := Option.some.inj h
    subst h9
    exact r_vret C S hr hlocks dX7_add_39
  · replace h := (if_neg q1).symm.trans h
    refine lv_aload_n C.1 C.2.1 dX7_add_9 rfl (lv_at hl 0 rfl) ?_
    refine r_getr C S o_12 cf_7 0 rfl (by decide) b_fl_RX7_9 dX7_add_10 ?_
    refine lv_aload_n C.1 C.2.1 dX7_add_13 rfl (lv_at hl 0 rfl) ?_
    refine r_geti C S o_12 cf_7 1 rfl (by decide) b_fl_RX7_19 dX7_add_14 ?_
    refine lv_iload_n C.1 C.2.1 dX7_add_17 rfl (lv_at hl 1 rfl) ?_
    obtain ⟨g2, h⟩ := gd_some h
    refine r_iast C S a_34 g2 dX7_add_18 (fun H locs S => ?_)
    obtain ⟨w3, h, S⟩ := lw_S (P := fun y => St D ad ca s y H locs) h S
    refine lv_aload_n C.1 C.2.1 dX7_add_19 rfl (lv_at hl 0 rfl) ?_
    refine lv_dup C.1 C.2.1 dX7_add_20 rfl ?_
    refine r_geti C S o_12 cf_7 3 rfl (by decide) b_fl_RX7_22 dX7_add_21 ?_
    refine lv_iload_n C.1 C.2.1 dX7_add_24 rfl (lv_at hl 1 rfl) ?_
    refine lv_iadd C.1 C.2.1 dX7_add_25 ?_
    refine r_put C S o_12 cf_7 3 rfl (by decide) rfl (ni _) b_fl_RX7_22 dX7_add_26 (fun H locs S => ?_)
    obtain ⟨w4, h, S⟩ := lw_S (P := fun y => St D ad ca s y H locs) h S
    refine lv_aload_n C.1 C.2.1 dX7_add_29 rfl (lv_at hl 0 rfl) ?_
    refine lv_dup C.1 C.2.1 dX7_add_30 rfl ?_
    refine r_geti C S o_12 cf_7 1 rfl (by decide) b_fl_RX7_19 dX7_add_31 ?_
    refine lv_iconst (v := 1) C.1 C.2.1 dX7_add_34 (by decide) ?_
    refine lv_iadd C.1 C.2.1 dX7_add_35 ?_
    refine r_put C S o_12 cf_7 1 rfl (by decide) rfl (ni _) b_fl_RX7_19 dX7_add_36 (fun H locs S => ?_)
    obtain ⟨w5, h, S⟩ := lw_S (P := fun y => St D ad ca s y H locs) h S
    have h9 := Option.some.inj h
    subst h9
    exact r_vret C S hr hlocks dX7_add_39
set_option maxHeartbeats 4000000 in
set_option maxRecDepth 100000 in
theorem k_X10_splitByShares_L10 {p : Program} {l : Launch} {e : Env} {s : State} {m : MethodId} {args : Array Value} {below : List Frame} {meth : Method} {c : Code} {D : va_G} {ad sx : Nat → Nat} {ca : Nat → ClassId} (C : Cx D ad sx ca p s m c args RX10 cX10_splitByShares 4) {Q : State → Prop} {v2 : Int32}  : ∀ (n9 : Nat) (z : Int32 × Wd) (o : Int32 × Wd), lp (f_X10_splitByShares_L10 v2) n9 z = some o → (∀ (ls : Array Slot) (H : Heap) (locs : List Loc), lv_has ls 4 [] → St D ad ca s o.2 H locs → W p l e (RM 103 2669) s m args below meth c H locs 0 0 Q (F0 m 51 ls [])) → (∀ (ls : Array Slot) (H : Heap) (locs : List Loc), lv_has ls 4 [(0, .ref (ad 0)), (2, .int v2), (3, .int z.1)] → St D ad ca s z.2 H locs → W p l e (RM 103 2669) s m args below meth c H locs 0 0 Q (F0 m 10 ls [])) := by
  refine lp_W (HW := fun (z : Int32 × Wd) => ∀ (ls : Array Slot) (H : Heap) (locs : List Loc), lv_has ls 4 [(0, .ref (ad 0)), (2, .int v2), (3, .int z.1)] → St D ad ca s z.2 H locs → W p l e (RM 103 2669) s m args below meth c H locs 0 0 Q (F0 m 10 ls [])) (XW := fun (o : Int32 × Wd) => ∀ (ls : Array Slot) (H : Heap) (locs : List Loc), lv_has ls 4 [] → St D ad ca s o.2 H locs → W p l e (RM 103 2669) s m args below meth c H locs 0 0 Q (F0 m 51 ls [])) ?_
  intro z x h hN hX ls H locs hl S
  unfold f_X10_splitByShares_L10 at h
  refine lv_iload_n C.1 C.2.1 dX10_splitByShares_10 rfl (lv_at hl 2 rfl) ?_
  refine lv_aload_n C.1 C.2.1 dX10_splitByShares_11 rfl (lv_at hl 0 rfl) ?_
  refine r_getr C S o_0 cf_10 3 rfl (by decide) b_fl_RX10_27 dX10_splitByShares_12 ?_
  refine r_geti C S o_3 cf_0 1 rfl (by decide) b_fl_RX10_99 dX10_splitByShares_15 ?_
  refine lv_icmp_ge (tgt := 51) C.1 C.2.1 dX10_splitByShares_18 (by decide) (fun q3 => ?_) (fun q3 => ?_)
  · replace h := (if_pos q3).symm.trans h
    exact hX _ (Option.some.inj h).symm _ _ _ (lv_sub hl [] rfl) S
  · replace h := (if_neg q3).symm.trans h
    refine lv_aload_n C.1 C.2.1 dX10_splitByShares_21 rfl (lv_at hl 0 rfl) ?_
    refine r_getr C S o_0 cf_10 9 rfl (by decide) b_fl_RX10_59 dX10_splitByShares_22 ?_
    refine lv_iload_n C.1 C.2.1 dX10_splitByShares_25 rfl (lv_at hl 1 rfl) ?_
    refine lv_if_eq (tgt := 37) C.1 C.2.1 dX10_splitByShares_26 (by decide) (fun q4 => ?_) (fun q4 => ?_)
    · replace h := (if_pos q4).symm.trans h
      refine lv_aload_n C.1 C.2.1 dX10_splitByShares_37 rfl (lv_at hl 0 rfl) ?_
      refine lv_iload_n C.1 C.2.1 dX10_splitByShares_38 rfl (lv_at hl 2 rfl) ?_
      obtain ⟨o5, e6, h⟩ := Option.bind_eq_some_iff.mp h
      refine r_vi C S hl o_0 cf_10 (k_X10_plainShare e6) b_vb_RX10_214 [.int z.1] rfl [.ref (ad 12)] rfl rfl (Nat.le_of_ble_eq_true rfl) ⟨Nat.le_of_ble_eq_true rfl, Nat.le_of_ble_eq_true rfl⟩ dX10_splitByShares_39 (fun H locs S => ?_)
      obtain ⟨o7, e8, h⟩ := Option.bind_eq_some_iff.mp h
      refine r_vv C S hl o_12 cf_7 (k_X7_add e8) b_vb_RX10_344 [.int o5] rfl [] rfl rfl (Nat.le_of_ble_eq_true rfl) ⟨Nat.le_of_ble_eq_true rfl, Nat.le_of_ble_eq_true rfl⟩ dX10_splitByShares_42 (fun H locs S => ?_)
      refine lv_iinc (v := z.1 + 1) (lv' := [(3, .int (z.1 + 1)), (0, .ref (ad 0)), (2, .int v2)]) C.1 C.2.1 dX10_splitByShares_45 hl (k := 2) rfl rfl (by decide) rfl (fun ls hl => ?_)
      refine lv_goto (tgt := 10) C.1 C.2.1 dX10_splitByShares_48 (by decide) ?_
      exact hN _ (Option.some.inj h).symm _ _ _ (lv_sub hl [1, 2, 0] rfl) S
    · replace h := (if_neg q4).symm.trans h
      refine lv_aload_n C.1 C.2.1 dX10_splitByShares_29 rfl (lv_at hl 0 rfl) ?_
      refine lv_iload_n C.1 C.2.1 dX10_splitByShares_30 rfl (lv_at hl 2 rfl) ?_
      obtain ⟨o9, e10, h⟩ := Option.bind_eq_some_iff.mp h
      refine r_vi C S hl o_0 cf_10 (k_X10_ruledShare e10) b_vb_RX10_211 [.int z.1] rfl [.ref (ad 12)] rfl rfl (Nat.le_of_ble_eq_true rfl) ⟨Nat.le_of_ble_eq_true rfl, Nat.le_of_ble_eq_true rfl⟩ dX10_splitByShares_31 (fun H locs S => ?_)
      refine lv_goto (tgt := 42) C.1 C.2.1 dX10_splitByShares_34 (by decide) ?_
      obtain ⟨o11, e12, h⟩ := Option.bind_eq_some_iff.mp h
      refine r_vv C S hl o_12 cf_7 (k_X7_add e12) b_vb_RX10_344 [.int o9.1] rfl [] rfl rfl (Nat.le_of_ble_eq_true rfl) ⟨Nat.le_of_ble_eq_true rfl, Nat.le_of_ble_eq_true rfl⟩ dX10_splitByShares_42 (fun H locs S => ?_)
      refine lv_iinc (v := z.1 + 1) (lv' := [(3, .int (z.1 + 1)), (0, .ref (ad 0)), (2, .int v2)]) C.1 C.2.1 dX10_splitByShares_45 hl (k := 2) rfl rfl (by decide) rfl (fun ls hl => ?_)
      refine lv_goto (tgt := 10) C.1 C.2.1 dX10_splitByShares_48 (by decide) ?_
      exact hN _ (Option.some.inj h).symm _ _ _ (lv_sub hl [1, 2, 0] rfl) S
set_option maxHeartbeats 4000000 in
set_option maxRecDepth 100000 in
theorem k_X10_splitByShares {v1 : Int32} {v2 : Int32}  {w : Wd} {rv : Wd} (h : f_X10_splitByShares v1 v2 w = some rv) : CV yX10_splitByShares cX10_splitByShares 4 103 2669 (fun ad => [.ref (ad 0), .int v1, .int v2]) w rv := by
  refine CV.of (by decide) ?_
  intro l D ad sx ca p e s m below meth c C S hr hlocks
  have hl := lv_entry ([.ref (ad 0), .int v1, .int v2]) (n := 4) (Nat.le_of_ble_eq_true rfl)
  rw [lg_entry_eq]
  generalize (lg_sl ([.ref (ad 0), .int v1, .int v2]) ++ List.replicate (4 - (lg_sl ([.ref (ad 0), .int v1, .int v2])).length) Slot.unset).toArray = ls at hl ⊢
  have hl : lv_has ls 4 [(0, .ref (ad 0)), (1, .int v1), (2, .int v2)] := hl
  generalize ha9 : ([.ref (ad 0), .int v1, .int v2] : List Value).toArray = args at C ⊢
  generalize s.heap = H at S ⊢
  generalize ([] : List Loc) = locs at S ⊢
  unfold f_X10_splitByShares at h
  refine lv_aload_n C.1 C.2.1 dX10_splitByShares_0 rfl (lv_at hl 0 rfl) ?_
  refine r_getr C S o_0 cf_10 9 rfl (by decide) b_fl_RX10_59 dX10_splitByShares_1 ?_
  refine lv_iload_n C.1 C.2.1 dX10_splitByShares_4 rfl (lv_at hl 1 rfl) ?_
  obtain ⟨o1, e2, h⟩ := Option.bind_eq_some_iff.mp h
  refine r_vv C S hl o_12 cf_7 (k_X7_begin e2) b_vb_RX10_342 [.int v1] rfl [] rfl rfl (Nat.le_of_ble_eq_true rfl) ⟨Nat.le_of_ble_eq_true rfl, Nat.le_of_ble_eq_true rfl⟩ dX10_splitByShares_5 (fun H locs S => ?_)
  refine lv_iconst (v := 0) C.1 C.2.1 dX10_splitByShares_8 (by decide) ?_
  refine lv_istore_n (lv' := [(3, .int 0), (0, .ref (ad 0)), (1, .int v1), (2, .int v2)]) C.1 C.2.1 dX10_splitByShares_9 rfl hl (by decide) rfl (fun ls hl => ?_)
  obtain ⟨o13, e14, h⟩ := Option.bind_eq_some_iff.mp h
  refine k_X10_splitByShares_L10 C  FU _ _ e14 (fun ls H locs hl S => ?_) ls H locs (lv_sub hl [1, 3, 0] rfl) S
  have h9 := Option.some.inj h
  subst h9
  exact r_vret C S hr hlocks dX10_splitByShares_51
set_option maxHeartbeats 4000000 in
set_option maxRecDepth 100000 in
theorem k_X7_nobodyPays   {w : Wd} {rv : Int32} (h : f_X7_nobodyPays w = some rv) : CI yX7_nobodyPays cX7_nobodyPays 1 .boolean 0 0 (fun ad => [.ref (ad 12)]) w rv w := by
  refine CI.of (by decide) ?_
  intro l D ad sx ca p e s m below meth c C S hr hlocks
  have hl := lv_entry ([.ref (ad 12)]) (n := 1) (Nat.le_of_ble_eq_true rfl)
  rw [lg_entry_eq]
  generalize (lg_sl ([.ref (ad 12)]) ++ List.replicate (1 - (lg_sl ([.ref (ad 12)])).length) Slot.unset).toArray = ls at hl ⊢
  have hl : lv_has ls 1 [(0, .ref (ad 12))] := hl
  generalize ha9 : ([.ref (ad 12)] : List Value).toArray = args at C ⊢
  generalize s.heap = H at S ⊢
  generalize ([] : List Loc) = locs at S ⊢
  unfold f_X7_nobodyPays at h
  refine lv_aload_n C.1 C.2.1 dX7_nobodyPays_0 rfl (lv_at hl 0 rfl) ?_
  refine r_geti C S o_12 cf_7 3 rfl (by decide) b_fl_RX7_22 dX7_nobodyPays_1 ?_
  refine lv_if_gt (tgt := 11) C.1 C.2.1 dX7_nobodyPays_4 (by decide) (fun q1 => ?_) (fun q1 => ?_)
  · replace h := (if_pos q1).symm.trans h
    refine lv_iconst (v := 0) C.1 C.2.1 dX7_nobodyPays_11 (by decide) ?_
    have h9 := Option.some.inj h
    subst h9
    exact r_zret C S hr hlocks (Or.inl rfl) dX7_nobodyPays_12
  · replace h := (if_neg q1).symm.trans h
    refine lv_iconst (v := 1) C.1 C.2.1 dX7_nobodyPays_7 (by decide) ?_
    refine lv_goto (tgt := 12) C.1 C.2.1 dX7_nobodyPays_8 (by decide) ?_
    have h9 := Option.some.inj h
    subst h9
    exact r_zret C S hr hlocks (Or.inr rfl) dX7_nobodyPays_12
set_option maxHeartbeats 4000000 in
set_option maxRecDepth 100000 in
theorem k_X7_pays_L51 {p : Program} {l : Launch} {e : Env} {s : State} {m : MethodId} {args : Array Value} {below : List Frame} {meth : Method} {c : Code} {D : va_G} {ad sx : Nat → Nat} {ca : Nat → ClassId} (C : Cx D ad sx ca p s m c args RX7 cX7_pays 7) {Q : State → Prop} {w : Wd} {v1 : Int32} {v4 : Int32}  : ∀ (n9 : Nat) (z : Int32 × Int32 × Int32) (o : Int32 × Int32 × Int32), lp (f_X7_pays_L51 v1 v4 w) n9 z = some o → (∀ (ls : Array Slot) (H : Heap) (locs : List Loc), lv_has ls 7 [(0, .ref (ad 12)), (1, .int v1), (2, .int o.1), (3, .int o.2.1)] → St D ad ca s w H locs → W p l e (RM 1 22) s m args below meth c H locs 0 0 Q (F0 m 128 ls [])) → (∀ (ls : Array Slot) (H : Heap) (locs : List Loc), lv_has ls 7 [(0, .ref (ad 12)), (1, .int v1), (2, .int z.1), (3, .int z.2.1), (4, .int v4), (5, .int z.2.2)] → St D ad ca s w H locs → W p l e (RM 1 22) s m args below meth c H locs 0 0 Q (F0 m 51 ls [])) := by
  refine lp_W (HW := fun (z : Int32 × Int32 × Int32) => ∀ (ls : Array Slot) (H : Heap) (locs : List Loc), lv_has ls 7 [(0, .ref (ad 12)), (1, .int v1), (2, .int z.1), (3, .int z.2.1), (4, .int v4), (5, .int z.2.2)] → St D ad ca s w H locs → W p l e (RM 1 22) s m args below meth c H locs 0 0 Q (F0 m 51 ls [])) (XW := fun (o : Int32 × Int32 × Int32) => ∀ (ls : Array Slot) (H : Heap) (locs : List Loc), lv_has ls 7 [(0, .ref (ad 12)), (1, .int v1), (2, .int o.1), (3, .int o.2.1)] → St D ad ca s w H locs → W p l e (RM 1 22) s m args below meth c H locs 0 0 Q (F0 m 128 ls [])) ?_
  intro z x h hN hX ls H locs hl S
  unfold f_X7_pays_L51 at h
  refine lv_iload C.1 C.2.1 dX7_pays_51 (lv_at hl 5 rfl) ?_
  refine lv_aload_n C.1 C.2.1 dX7_pays_53 rfl (lv_at hl 0 rfl) ?_
  refine r_geti C S o_12 cf_7 1 rfl (by decide) b_fl_RX7_19 dX7_pays_54 ?_
  refine lv_icmp_ge (tgt := 128) C.1 C.2.1 dX7_pays_57 (by decide) (fun q7 => ?_) (fun q7 => ?_)
  · replace h := (if_pos q7).symm.trans h
    exact hX _ (Option.some.inj h).symm _ _ _ (lv_sub hl [0, 1, 2, 3] rfl) S
  · replace h := (if_neg q7).symm.trans h
    refine lv_aload_n C.1 C.2.1 dX7_pays_60 rfl (lv_at hl 0 rfl) ?_
    refine r_geti C S o_12 cf_7 2 rfl (by decide) b_fl_RX7_15 dX7_pays_61 ?_
    refine lv_aload_n C.1 C.2.1 dX7_pays_64 rfl (lv_at hl 0 rfl) ?_
    refine r_getr C S o_12 cf_7 0 rfl (by decide) b_fl_RX7_9 dX7_pays_65 ?_
    refine lv_iload C.1 C.2.1 dX7_pays_68 (lv_at hl 5 rfl) ?_
    obtain ⟨g8, h⟩ := gd_some h
    refine r_iald C S a_34 g8 dX7_pays_70 ?_
    refine lv_imul C.1 C.2.1 dX7_pays_71 ?_
    refine lv_aload_n C.1 C.2.1 dX7_pays_72 rfl (lv_at hl 0 rfl) ?_
    refine r_geti C S o_12 cf_7 3 rfl (by decide) b_fl_RX7_22 dX7_pays_73 ?_
    obtain ⟨g9, h⟩ := gd_some h
    refine lv_irem C.1 C.2.1 dX7_pays_76 (nz_ne g9) ?_
    refine lv_istore (lv' := [(6, .int (((w.1 12 2) * (w.1 34 z.2.2.toNatClampNeg)) - ((w.1 12 2) * (w.1 34 z.2.2.toNatClampNeg)) / (w.1 12 3) * (w.1 12 3))), (0, .ref (ad 12)), (1, .int v1), (2, .int z.1), (3, .int z.2.1), (4, .int v4), (5, .int z.2.2)]) C.1 C.2.1 dX7_pays_77 hl (by decide) rfl (fun ls hl => ?_)
    refine lv_iload_n C.1 C.2.1 dX7_pays_79 rfl (lv_at hl 3 rfl) ?_
    refine lv_aload_n C.1 C.2.1 dX7_pays_80 rfl (lv_at hl 1 rfl) ?_
    refine r_geti C S o_12 cf_7 2 rfl (by decide) b_fl_RX7_15 dX7_pays_81 ?_
    refine lv_aload_n C.1 C.2.1 dX7_pays_84 rfl (lv_at hl 1 rfl) ?_
    refine r_getr C S o_12 cf_7 0 rfl (by decide) b_fl_RX7_9 dX7_pays_85 ?_
    refine lv_iload C.1 C.2.1 dX7_pays_88 (lv_at hl 6 rfl) ?_
    obtain ⟨g10, h⟩ := gd_some h
    refine r_iald C S a_34 g10 dX7_pays_90 ?_
    refine lv_imul C.1 C.2.1 dX7_pays_91 ?_
    refine lv_aload_n C.1 C.2.1 dX7_pays_92 rfl (lv_at hl 1 rfl) ?_
    refine r_geti C S o_12 cf_7 3 rfl (by decide) b_fl_RX7_22 dX7_pays_93 ?_
    obtain ⟨g11, h⟩ := gd_some h
    refine lv_idiv C.1 C.2.1 dX7_pays_96 (nz_ne g11) ?_
    refine lv_isub C.1 C.2.1 dX7_pays_97 ?_
    refine lv_istore_n (lv' := [(2, .int (z.1 - (((w.1 12 2) * (w.1 34 z.2.2.toNatClampNeg)) / (w.1 12 3)))), (6, .int (((w.1 12 2) * (w.1 34 z.2.2.toNatClampNeg)) - ((w.1 12 2) * (w.1 34 z.2.2.toNatClampNeg)) / (w.1 12 3) * (w.1 12 3))), (0, .ref (ad 12)), (1, .int v1), (3, .int z.2.1), (4, .int v4), (5, .int z.2.2)]) C.1 C.2.1 dX7_pays_98 rfl hl (by decide) rfl (fun ls hl => ?_)
    refine lv_iload C.1 C.2.1 dX7_pays_99 (lv_at hl 1 rfl) ?_
    refine lv_iload C.1 C.2.1 dX7_pays_101 (lv_at hl 5 rfl) ?_
    refine lv_icmp_gt (tgt := 119) C.1 C.2.1 dX7_pays_103 (by decide) (fun q12 => ?_) (fun q12 => ?_)
    · replace h := (if_pos q12).symm.trans h
      refine lv_iinc (v := z.2.1 + 1) (lv' := [(3, .int (z.2.1 + 1)), (2, .int (z.1 - (((w.1 12 2) * (w.1 34 z.2.2.toNatClampNeg)) / (w.1 12 3)))), (6, .int (((w.1 12 2) * (w.1 34 z.2.2.toNatClampNeg)) - ((w.1 12 2) * (w.1 34 z.2.2.toNatClampNeg)) / (w.1 12 3) * (w.1 12 3))), (0, .ref (ad 12)), (1, .int v1), (4, .int v4), (5, .int z.2.2)]) C.1 C.2.1 dX7_pays_119 hl (k := 4) rfl rfl (by decide) rfl (fun ls hl => ?_)
      refine lv_iinc (v := z.2.2 + 1) (lv' := [(5, .int (z.2.2 + 1)), (3, .int (z.2.1 + 1)), (2, .int (z.1 - (((w.1 12 2) * (w.1 34 z.2.2.toNatClampNeg)) / (w.1 12 3)))), (6, .int (((w.1 12 2) * (w.1 34 z.2.2.toNatClampNeg)) - ((w.1 12 2) * (w.1 34 z.2.2.toNatClampNeg)) / (w.1 12 3) * (w.1 12 3))), (0, .ref (ad 12)), (1, .int v1), (4, .int v4)]) C.1 C.2.1 dX7_pays_122 hl (k := 6) rfl rfl (by decide) rfl (fun ls hl => ?_)
      refine lv_goto (tgt := 51) C.1 C.2.1 dX7_pays_125 (by decide) ?_
      exact hN _ (Option.some.inj h).symm _ _ _ (lv_sub hl [4, 5, 2, 1, 6, 0] rfl) S
    · replace h := (if_neg q12).symm.trans h
      refine lv_iload C.1 C.2.1 dX7_pays_106 (lv_at hl 1 rfl) ?_
      refine lv_iload C.1 C.2.1 dX7_pays_108 (lv_at hl 5 rfl) ?_
      refine lv_icmp_ne (tgt := 122) C.1 C.2.1 dX7_pays_110 (by decide) (fun q13 => ?_) (fun q13 => ?_)
      · replace h := (if_neg q13).symm.trans h
        refine lv_iinc (v := z.2.2 + 1) (lv' := [(5, .int (z.2.2 + 1)), (2, .int (z.1 - (((w.1 12 2) * (w.1 34 z.2.2.toNatClampNeg)) / (w.1 12 3)))), (6, .int (((w.1 12 2) * (w.1 34 z.2.2.toNatClampNeg)) - ((w.1 12 2) * (w.1 34 z.2.2.toNatClampNeg)) / (w.1 12 3) * (w.1 12 3))), (0, .ref (ad 12)), (1, .int v1), (3, .int z.2.1), (4, .int v4)]) C.1 C.2.1 dX7_pays_122 hl (k := 6) rfl rfl (by decide) rfl (fun ls hl => ?_)
        refine lv_goto (tgt := 51) C.1 C.2.1 dX7_pays_125 (by decide) ?_
        exact hN _ (Option.some.inj h).symm _ _ _ (lv_sub hl [3, 4, 1, 5, 6, 0] rfl) S
      · replace h := (if_pos q13).symm.trans h
        refine lv_iload C.1 C.2.1 dX7_pays_113 (lv_at hl 6 rfl) ?_
        refine lv_iload_n C.1 C.2.1 dX7_pays_115 rfl (lv_at hl 3 rfl) ?_
        refine lv_icmp_ge (tgt := 122) C.1 C.2.1 dX7_pays_116 (by decide) (fun q14 => ?_) (fun q14 => ?_)
        · replace h := (if_pos q14).symm.trans h
          refine lv_iinc (v := z.2.2 + 1) (lv' := [(5, .int (z.2.2 + 1)), (2, .int (z.1 - (((w.1 12 2) * (w.1 34 z.2.2.toNatClampNeg)) / (w.1 12 3)))), (6, .int (((w.1 12 2) * (w.1 34 z.2.2.toNatClampNeg)) - ((w.1 12 2) * (w.1 34 z.2.2.toNatClampNeg)) / (w.1 12 3) * (w.1 12 3))), (0, .ref (ad 12)), (1, .int v1), (3, .int z.2.1), (4, .int v4)]) C.1 C.2.1 dX7_pays_122 hl (k := 6) rfl rfl (by decide) rfl (fun ls hl => ?_)
          refine lv_goto (tgt := 51) C.1 C.2.1 dX7_pays_125 (by decide) ?_
          exact hN _ (Option.some.inj h).symm _ _ _ (lv_sub hl [3, 4, 1, 5, 6, 0] rfl) S
        · replace h := (if_neg q14).symm.trans h
          refine lv_iinc (v := z.2.1 + 1) (lv' := [(3, .int (z.2.1 + 1)), (2, .int (z.1 - (((w.1 12 2) * (w.1 34 z.2.2.toNatClampNeg)) / (w.1 12 3)))), (6, .int (((w.1 12 2) * (w.1 34 z.2.2.toNatClampNeg)) - ((w.1 12 2) * (w.1 34 z.2.2.toNatClampNeg)) / (w.1 12 3) * (w.1 12 3))), (0, .ref (ad 12)), (1, .int v1), (4, .int v4), (5, .int z.2.2)]) C.1 C.2.1 dX7_pays_119 hl (k := 4) rfl rfl (by decide) rfl (fun ls hl => ?_)
          refine lv_iinc (v := z.2.2 + 1) (lv' := [(5, .int (z.2.2 + 1)), (3, .int (z.2.1 + 1)), (2, .int (z.1 - (((w.1 12 2) * (w.1 34 z.2.2.toNatClampNeg)) / (w.1 12 3)))), (6, .int (((w.1 12 2) * (w.1 34 z.2.2.toNatClampNeg)) - ((w.1 12 2) * (w.1 34 z.2.2.toNatClampNeg)) / (w.1 12 3) * (w.1 12 3))), (0, .ref (ad 12)), (1, .int v1), (4, .int v4)]) C.1 C.2.1 dX7_pays_122 hl (k := 6) rfl rfl (by decide) rfl (fun ls hl => ?_)
          refine lv_goto (tgt := 51) C.1 C.2.1 dX7_pays_125 (by decide) ?_
          exact hN _ (Option.some.inj h).symm _ _ _ (lv_sub hl [4, 5, 2, 1, 6, 0] rfl) S
set_option maxHeartbeats 4000000 in
set_option maxRecDepth 100000 in
theorem k_X7_pays {v1 : Int32}  {w : Wd} {rv : Int32} (h : f_X7_pays v1 w = some rv) : CI yX7_pays cX7_pays 7 .int 1 22 (fun ad => [.ref (ad 12), .int v1]) w rv w := by
  refine CI.of (by decide) ?_
  intro l D ad sx ca p e s m below meth c C S hr hlocks
  have hl := lv_entry ([.ref (ad 12), .int v1]) (n := 7) (Nat.le_of_ble_eq_true rfl)
  rw [lg_entry_eq]
  generalize (lg_sl ([.ref (ad 12), .int v1]) ++ List.replicate (7 - (lg_sl ([.ref (ad 12), .int v1])).length) Slot.unset).toArray = ls at hl ⊢
  have hl : lv_has ls 7 [(0, .ref (ad 12)), (1, .int v1)] := hl
  generalize ha9 : ([.ref (ad 12), .int v1] : List Value).toArray = args at C ⊢
  generalize s.heap = H at S ⊢
  generalize ([] : List Loc) = locs at S ⊢
  unfold f_X7_pays at h
  refine lv_aload_n C.1 C.2.1 dX7_pays_0 rfl (lv_at hl 0 rfl) ?_
  refine r_geti C S o_12 cf_7 3 rfl (by decide) b_fl_RX7_22 dX7_pays_1 ?_
  refine lv_if_le (tgt := 21) C.1 C.2.1 dX7_pays_4 (by decide) (fun q1 => ?_) (fun q1 => ?_)
  · replace h := (if_pos q1).symm.trans h
    refine lv_iconst (v := 0) C.1 C.2.1 dX7_pays_21 (by decide) ?_
    have h9 := Option.some.inj h
    subst h9
    exact r_iret C S hr hlocks dX7_pays_22
  · replace h := (if_neg q1).symm.trans h
    refine lv_iload_n C.1 C.2.1 dX7_pays_7 rfl (lv_at hl 1 rfl) ?_
    refine lv_iconst (v := 0) C.1 C.2.1 dX7_pays_8 (by decide) ?_
    refine lv_aload_n C.1 C.2.1 dX7_pays_9 rfl (lv_at hl 0 rfl) ?_
    refine r_geti C S o_12 cf_7 1 rfl (by decide) b_fl_RX7_19 dX7_pays_10 ?_
    refine lv_iconst (v := 1) C.1 C.2.1 dX7_pays_13 (by decide) ?_
    refine lv_isub C.1 C.2.1 dX7_pays_14 ?_
    obtain ⟨o2, e3, h⟩ := Option.bind_eq_some_iff.mp h
    refine r_ni C S hl (k_X10_within e3) b_nb_RX7_25 [.int v1, .int 0, .int ((w.1 12 1) - 1)] rfl [] rfl rfl (Nat.le_of_ble_eq_true rfl) ⟨Nat.le_of_ble_eq_true rfl, Nat.le_of_ble_eq_true rfl⟩ dX7_pays_15 (fun H locs S => ?_)
    refine lv_if_ne (tgt := 23) C.1 C.2.1 dX7_pays_18 (by decide) (fun q4 => ?_) (fun q4 => ?_)
    · replace h := (if_neg q4).symm.trans h
      refine lv_aload_n C.1 C.2.1 dX7_pays_23 rfl (lv_at hl 0 rfl) ?_
      refine r_geti C S o_12 cf_7 2 rfl (by decide) b_fl_RX7_15 dX7_pays_24 ?_
      refine lv_istore_n (lv' := [(2, .int (w.1 12 2)), (0, .ref (ad 12)), (1, .int v1)]) C.1 C.2.1 dX7_pays_27 rfl hl (by decide) rfl (fun ls hl => ?_)
      refine lv_iconst (v := 0) C.1 C.2.1 dX7_pays_28 (by decide) ?_
      refine lv_istore_n (lv' := [(3, .int 0), (2, .int (w.1 12 2)), (0, .ref (ad 12)), (1, .int v1)]) C.1 C.2.1 dX7_pays_29 rfl hl (by decide) rfl (fun ls hl => ?_)
      refine lv_aload_n C.1 C.2.1 dX7_pays_30 rfl (lv_at hl 2 rfl) ?_
      refine r_geti C S o_12 cf_7 2 rfl (by decide) b_fl_RX7_15 dX7_pays_31 ?_
      refine lv_aload_n C.1 C.2.1 dX7_pays_34 rfl (lv_at hl 2 rfl) ?_
      refine r_getr C S o_12 cf_7 0 rfl (by decide) b_fl_RX7_9 dX7_pays_35 ?_
      refine lv_iload_n C.1 C.2.1 dX7_pays_38 rfl (lv_at hl 3 rfl) ?_
      obtain ⟨g5, h⟩ := gd_some h
      refine r_iald C S a_34 g5 dX7_pays_39 ?_
      refine lv_imul C.1 C.2.1 dX7_pays_40 ?_
      refine lv_aload_n C.1 C.2.1 dX7_pays_41 rfl (lv_at hl 2 rfl) ?_
      refine r_geti C S o_12 cf_7 3 rfl (by decide) b_fl_RX7_22 dX7_pays_42 ?_
      obtain ⟨g6, h⟩ := gd_some h
      refine lv_irem C.1 C.2.1 dX7_pays_45 (nz_ne g6) ?_
      refine lv_istore (lv' := [(4, .int (((w.1 12 2) * (w.1 34 v1.toNatClampNeg)) - ((w.1 12 2) * (w.1 34 v1.toNatClampNeg)) / (w.1 12 3) * (w.1 12 3))), (3, .int 0), (2, .int (w.1 12 2)), (0, .ref (ad 12)), (1, .int v1)]) C.1 C.2.1 dX7_pays_46 hl (by decide) rfl (fun ls hl => ?_)
      refine lv_iconst (v := 0) C.1 C.2.1 dX7_pays_48 (by decide) ?_
      refine lv_istore (lv' := [(5, .int 0), (4, .int (((w.1 12 2) * (w.1 34 v1.toNatClampNeg)) - ((w.1 12 2) * (w.1 34 v1.toNatClampNeg)) / (w.1 12 3) * (w.1 12 3))), (3, .int 0), (2, .int (w.1 12 2)), (0, .ref (ad 12)), (1, .int v1)]) C.1 C.2.1 dX7_pays_49 hl (by decide) rfl (fun ls hl => ?_)
      obtain ⟨o15, e16, h⟩ := Option.bind_eq_some_iff.mp h
      refine k_X7_pays_L51 C  FU _ _ e16 (fun ls H locs hl S => ?_) ls H locs (lv_sub hl [4, 5, 3, 2, 1, 0] rfl) S
      refine lv_aload_n C.1 C.2.1 dX7_pays_128 rfl (lv_at hl 0 rfl) ?_
      refine r_geti C S o_12 cf_7 2 rfl (by decide) b_fl_RX7_15 dX7_pays_129 ?_
      refine lv_aload_n C.1 C.2.1 dX7_pays_132 rfl (lv_at hl 0 rfl) ?_
      refine r_getr C S o_12 cf_7 0 rfl (by decide) b_fl_RX7_9 dX7_pays_133 ?_
      refine lv_iload_n C.1 C.2.1 dX7_pays_136 rfl (lv_at hl 1 rfl) ?_
      obtain ⟨g17, h⟩ := gd_some h
      refine r_iald C S a_34 g17 dX7_pays_137 ?_
      refine lv_imul C.1 C.2.1 dX7_pays_138 ?_
      refine lv_aload_n C.1 C.2.1 dX7_pays_139 rfl (lv_at hl 0 rfl) ?_
      refine r_geti C S o_12 cf_7 3 rfl (by decide) b_fl_RX7_22 dX7_pays_140 ?_
      obtain ⟨g18, h⟩ := gd_some h
      refine lv_idiv C.1 C.2.1 dX7_pays_143 (nz_ne g18) ?_
      refine lv_iload_n C.1 C.2.1 dX7_pays_144 rfl (lv_at hl 3 rfl) ?_
      refine lv_iload_n C.1 C.2.1 dX7_pays_145 rfl (lv_at hl 2 rfl) ?_
      refine lv_icmp_ge (tgt := 153) C.1 C.2.1 dX7_pays_146 (by decide) (fun q19 => ?_) (fun q19 => ?_)
      · replace h := (if_pos q19).symm.trans h
        refine lv_iconst (v := 0) C.1 C.2.1 dX7_pays_153 (by decide) ?_
        obtain ⟨o20, e21, h⟩ := Option.bind_eq_some_iff.mp h
        refine r_ni C S hl (k_X10_bit e21) b_nb_RX7_29 [.int 0] rfl [.int (((w.1 12 2) * (w.1 34 v1.toNatClampNeg)) / (w.1 12 3))] rfl rfl (Nat.le_of_ble_eq_true rfl) ⟨Nat.le_of_ble_eq_true rfl, Nat.le_of_ble_eq_true rfl⟩ dX7_pays_154 (fun H locs S => ?_)
        refine lv_iadd C.1 C.2.1 dX7_pays_157 ?_
        have h9 := Option.some.inj h
        subst h9
        exact r_iret C S hr hlocks dX7_pays_158
      · replace h := (if_neg q19).symm.trans h
        refine lv_iconst (v := 1) C.1 C.2.1 dX7_pays_149 (by decide) ?_
        refine lv_goto (tgt := 154) C.1 C.2.1 dX7_pays_150 (by decide) ?_
        obtain ⟨o22, e23, h⟩ := Option.bind_eq_some_iff.mp h
        refine r_ni C S hl (k_X10_bit e23) b_nb_RX7_29 [.int 1] rfl [.int (((w.1 12 2) * (w.1 34 v1.toNatClampNeg)) / (w.1 12 3))] rfl rfl (Nat.le_of_ble_eq_true rfl) ⟨Nat.le_of_ble_eq_true rfl, Nat.le_of_ble_eq_true rfl⟩ dX7_pays_154 (fun H locs S => ?_)
        refine lv_iadd C.1 C.2.1 dX7_pays_157 ?_
        have h9 := Option.some.inj h
        subst h9
        exact r_iret C S hr hlocks dX7_pays_158
    · replace h := (if_pos q4).symm.trans h
      refine lv_iconst (v := 0) C.1 C.2.1 dX7_pays_21 (by decide) ?_
      have h9 := Option.some.inj h
      subst h9
      exact r_iret C S hr hlocks dX7_pays_22
set_option maxHeartbeats 4000000 in
set_option maxRecDepth 100000 in
theorem k_X10_bill {v1 : Int32} {v2 : Int32}  {w : Wd} {rv : Int32 × Wd} (h : f_X10_bill v1 v2 w = some rv) : CI yX10_bill cX10_bill 3 .int 104 2692 (fun ad => [.ref (ad 0), .int v1, .int v2]) w rv.1 rv.2 := by
  refine CI.of (by decide) ?_
  intro l D ad sx ca p e s m below meth c C S hr hlocks
  have hl := lv_entry ([.ref (ad 0), .int v1, .int v2]) (n := 3) (Nat.le_of_ble_eq_true rfl)
  rw [lg_entry_eq]
  generalize (lg_sl ([.ref (ad 0), .int v1, .int v2]) ++ List.replicate (3 - (lg_sl ([.ref (ad 0), .int v1, .int v2])).length) Slot.unset).toArray = ls at hl ⊢
  have hl : lv_has ls 3 [(0, .ref (ad 0)), (1, .int v1), (2, .int v2)] := hl
  generalize ha9 : ([.ref (ad 0), .int v1, .int v2] : List Value).toArray = args at C ⊢
  generalize s.heap = H at S ⊢
  generalize ([] : List Loc) = locs at S ⊢
  unfold f_X10_bill at h
  refine lv_iload_n C.1 C.2.1 dX10_bill_0 rfl (lv_at hl 1 rfl) ?_
  refine lv_iconst (v := 0) C.1 C.2.1 dX10_bill_1 (by decide) ?_
  refine lv_sipush (v := 9999) C.1 C.2.1 dX10_bill_2 (by decide) ?_
  obtain ⟨o1, e2, h⟩ := Option.bind_eq_some_iff.mp h
  refine r_si C S hl (k_X10_within e2) b_sb_RX10_90 [.int v1, .int 0, .int 9999] rfl [] rfl rfl (Nat.le_of_ble_eq_true rfl) ⟨Nat.le_of_ble_eq_true rfl, Nat.le_of_ble_eq_true rfl⟩ dX10_bill_5 (fun H locs S => ?_)
  refine lv_if_eq (tgt := 22) C.1 C.2.1 dX10_bill_8 (by decide) (fun q3 => ?_) (fun q3 => ?_)
  · replace h := (if_pos q3).symm.trans h
    refine lv_aload_n C.1 C.2.1 dX10_bill_22 rfl (lv_at hl 0 rfl) ?_
    refine r_ldc C (-1000000001) b_cn_RX10_94 dX10_bill_23 ?_
    obtain ⟨o4, e5, h⟩ := Option.bind_eq_some_iff.mp h
    refine r_vi C S hl o_0 cf_10 (k_X10_finding e5) b_vb_RX10_95 [.int (-1000000001)] rfl [] rfl rfl (Nat.le_of_ble_eq_true rfl) ⟨Nat.le_of_ble_eq_true rfl, Nat.le_of_ble_eq_true rfl⟩ dX10_bill_25 (fun H locs S => ?_)
    have h9 := Option.some.inj h
    subst h9
    exact r_iret C S hr hlocks dX10_bill_28
  · replace h := (if_neg q3).symm.trans h
    refine lv_aload_n C.1 C.2.1 dX10_bill_11 rfl (lv_at hl 0 rfl) ?_
    refine r_getr C S o_0 cf_10 3 rfl (by decide) b_fl_RX10_27 dX10_bill_12 ?_
    refine lv_iload_n C.1 C.2.1 dX10_bill_15 rfl (lv_at hl 2 rfl) ?_
    obtain ⟨o6, e7, h⟩ := Option.bind_eq_some_iff.mp h
    refine r_vi C S hl o_3 cf_0 (k_X0_has e7) b_vb_RX10_110 [.int v2] rfl [] rfl rfl (Nat.le_of_ble_eq_true rfl) ⟨Nat.le_of_ble_eq_true rfl, Nat.le_of_ble_eq_true rfl⟩ dX10_bill_16 (fun H locs S => ?_)
    refine lv_if_ne (tgt := 29) C.1 C.2.1 dX10_bill_19 (by decide) (fun q8 => ?_) (fun q8 => ?_)
    · replace h := (if_neg q8).symm.trans h
      refine lv_aload_n C.1 C.2.1 dX10_bill_29 rfl (lv_at hl 0 rfl) ?_
      refine lv_iload_n C.1 C.2.1 dX10_bill_30 rfl (lv_at hl 1 rfl) ?_
      refine lv_aload_n C.1 C.2.1 dX10_bill_31 rfl (lv_at hl 0 rfl) ?_
      obtain ⟨o9, e10, h⟩ := Option.bind_eq_some_iff.mp h
      refine r_vi C S hl o_0 cf_10 (k_X10_isRuled e10) b_vb_RX10_207 [] rfl [.int v1, .ref (ad 0)] rfl rfl (Nat.le_of_ble_eq_true rfl) ⟨Nat.le_of_ble_eq_true rfl, Nat.le_of_ble_eq_true rfl⟩ dX10_bill_32 (fun H locs S => ?_)
      obtain ⟨o11, e12, h⟩ := Option.bind_eq_some_iff.mp h
      refine r_vv C S hl o_0 cf_10 (k_X10_splitByShares e12) b_vb_RX10_217 [.int v1, .int o9] rfl [] rfl rfl (Nat.le_of_ble_eq_true rfl) ⟨Nat.le_of_ble_eq_true rfl, Nat.le_of_ble_eq_true rfl⟩ dX10_bill_35 (fun H locs S => ?_)
      refine lv_aload_n C.1 C.2.1 dX10_bill_38 rfl (lv_at hl 0 rfl) ?_
      refine r_getr C S o_0 cf_10 9 rfl (by decide) b_fl_RX10_59 dX10_bill_39 ?_
      obtain ⟨o13, e14, h⟩ := Option.bind_eq_some_iff.mp h
      refine r_vi C S hl o_12 cf_7 (k_X7_nobodyPays e14) b_vb_RX10_221 [] rfl [] rfl rfl (Nat.le_of_ble_eq_true rfl) ⟨Nat.le_of_ble_eq_true rfl, Nat.le_of_ble_eq_true rfl⟩ dX10_bill_42 (fun H locs S => ?_)
      refine lv_if_eq (tgt := 55) C.1 C.2.1 dX10_bill_45 (by decide) (fun q15 => ?_) (fun q15 => ?_)
      · replace h := (if_pos q15).symm.trans h
        refine lv_aload_n C.1 C.2.1 dX10_bill_55 rfl (lv_at hl 0 rfl) ?_
        refine r_getr C S o_0 cf_10 9 rfl (by decide) b_fl_RX10_59 dX10_bill_56 ?_
        refine lv_iload_n C.1 C.2.1 dX10_bill_59 rfl (lv_at hl 2 rfl) ?_
        obtain ⟨o16, e17, h⟩ := Option.bind_eq_some_iff.mp h
        refine r_vi C S hl o_12 cf_7 (k_X7_pays e17) b_vb_RX10_225 [.int v2] rfl [] rfl rfl (Nat.le_of_ble_eq_true rfl) ⟨Nat.le_of_ble_eq_true rfl, Nat.le_of_ble_eq_true rfl⟩ dX10_bill_60 (fun H locs S => ?_)
        have h9 := Option.some.inj h
        subst h9
        exact r_iret C S hr hlocks dX10_bill_63
      · replace h := (if_neg q15).symm.trans h
        refine lv_aload_n C.1 C.2.1 dX10_bill_48 rfl (lv_at hl 0 rfl) ?_
        refine r_ldc C (-1000000004) b_cn_RX10_224 dX10_bill_49 ?_
        obtain ⟨o18, e19, h⟩ := Option.bind_eq_some_iff.mp h
        refine r_vi C S hl o_0 cf_10 (k_X10_finding e19) b_vb_RX10_95 [.int (-1000000004)] rfl [] rfl rfl (Nat.le_of_ble_eq_true rfl) ⟨Nat.le_of_ble_eq_true rfl, Nat.le_of_ble_eq_true rfl⟩ dX10_bill_51 (fun H locs S => ?_)
        have h9 := Option.some.inj h
        subst h9
        exact r_iret C S hr hlocks dX10_bill_54
    · replace h := (if_pos q8).symm.trans h
      refine lv_aload_n C.1 C.2.1 dX10_bill_22 rfl (lv_at hl 0 rfl) ?_
      refine r_ldc C (-1000000001) b_cn_RX10_94 dX10_bill_23 ?_
      obtain ⟨o20, e21, h⟩ := Option.bind_eq_some_iff.mp h
      refine r_vi C S hl o_0 cf_10 (k_X10_finding e21) b_vb_RX10_95 [.int (-1000000001)] rfl [] rfl rfl (Nat.le_of_ble_eq_true rfl) ⟨Nat.le_of_ble_eq_true rfl, Nat.le_of_ble_eq_true rfl⟩ dX10_bill_25 (fun H locs S => ?_)
      have h9 := Option.some.inj h
      subst h9
      exact r_iret C S hr hlocks dX10_bill_28
set_option maxHeartbeats 4000000 in
set_option maxRecDepth 100000 in
theorem k_X10_other {v1 : Int32} {v2 : Int32}  {w : Wd} {rv : Int32 × Wd} (h : f_X10_other v1 v2 w = some rv) : CI yX10_other cX10_other 4 .int 104 2692 (fun ad => [.ref (ad 0), .int v1, .int v2]) w rv.1 rv.2 := by
  refine CI.of (by decide) ?_
  intro l D ad sx ca p e s m below meth c C S hr hlocks
  have hl := lv_entry ([.ref (ad 0), .int v1, .int v2]) (n := 4) (Nat.le_of_ble_eq_true rfl)
  rw [lg_entry_eq]
  generalize (lg_sl ([.ref (ad 0), .int v1, .int v2]) ++ List.replicate (4 - (lg_sl ([.ref (ad 0), .int v1, .int v2])).length) Slot.unset).toArray = ls at hl ⊢
  have hl : lv_has ls 4 [(0, .ref (ad 0)), (1, .int v1), (2, .int v2)] := hl
  generalize ha9 : ([.ref (ad 0), .int v1, .int v2] : List Value).toArray = args at C ⊢
  generalize s.heap = H at S ⊢
  generalize ([] : List Loc) = locs at S ⊢
  unfold f_X10_other at h
  refine lv_iload_n C.1 C.2.1 dX10_other_0 rfl (lv_at hl 1 rfl) ?_
  refine lv_iconst (v := 0) C.1 C.2.1 dX10_other_1 (by decide) ?_
  refine lv_sipush (v := 9999) C.1 C.2.1 dX10_other_2 (by decide) ?_
  obtain ⟨o1, e2, h⟩ := Option.bind_eq_some_iff.mp h
  refine r_si C S hl (k_X10_within e2) b_sb_RX10_90 [.int v1, .int 0, .int 9999] rfl [] rfl rfl (Nat.le_of_ble_eq_true rfl) ⟨Nat.le_of_ble_eq_true rfl, Nat.le_of_ble_eq_true rfl⟩ dX10_other_5 (fun H locs S => ?_)
  refine lv_if_eq (tgt := 22) C.1 C.2.1 dX10_other_8 (by decide) (fun q3 => ?_) (fun q3 => ?_)
  · replace h := (if_pos q3).symm.trans h
    refine lv_aload_n C.1 C.2.1 dX10_other_22 rfl (lv_at hl 0 rfl) ?_
    refine r_ldc C (-1000000001) b_cn_RX10_94 dX10_other_23 ?_
    obtain ⟨o4, e5, h⟩ := Option.bind_eq_some_iff.mp h
    refine r_vi C S hl o_0 cf_10 (k_X10_finding e5) b_vb_RX10_95 [.int (-1000000001)] rfl [] rfl rfl (Nat.le_of_ble_eq_true rfl) ⟨Nat.le_of_ble_eq_true rfl, Nat.le_of_ble_eq_true rfl⟩ dX10_other_25 (fun H locs S => ?_)
    have h9 := Option.some.inj h
    subst h9
    exact r_iret C S hr hlocks dX10_other_28
  · replace h := (if_neg q3).symm.trans h
    refine lv_aload_n C.1 C.2.1 dX10_other_11 rfl (lv_at hl 0 rfl) ?_
    refine r_getr C S o_0 cf_10 3 rfl (by decide) b_fl_RX10_27 dX10_other_12 ?_
    refine lv_iload_n C.1 C.2.1 dX10_other_15 rfl (lv_at hl 2 rfl) ?_
    obtain ⟨o6, e7, h⟩ := Option.bind_eq_some_iff.mp h
    refine r_vi C S hl o_3 cf_0 (k_X0_has e7) b_vb_RX10_110 [.int v2] rfl [] rfl rfl (Nat.le_of_ble_eq_true rfl) ⟨Nat.le_of_ble_eq_true rfl, Nat.le_of_ble_eq_true rfl⟩ dX10_other_16 (fun H locs S => ?_)
    refine lv_if_ne (tgt := 29) C.1 C.2.1 dX10_other_19 (by decide) (fun q8 => ?_) (fun q8 => ?_)
    · replace h := (if_neg q8).symm.trans h
      refine lv_aload_n C.1 C.2.1 dX10_other_29 rfl (lv_at hl 0 rfl) ?_
      refine lv_iload_n C.1 C.2.1 dX10_other_30 rfl (lv_at hl 1 rfl) ?_
      refine lv_aload_n C.1 C.2.1 dX10_other_31 rfl (lv_at hl 0 rfl) ?_
      obtain ⟨o9, e10, h⟩ := Option.bind_eq_some_iff.mp h
      refine r_vi C S hl o_0 cf_10 (k_X10_isRuled e10) b_vb_RX10_207 [] rfl [.int v1, .ref (ad 0)] rfl rfl (Nat.le_of_ble_eq_true rfl) ⟨Nat.le_of_ble_eq_true rfl, Nat.le_of_ble_eq_true rfl⟩ dX10_other_32 (fun H locs S => ?_)
      obtain ⟨o11, e12, h⟩ := Option.bind_eq_some_iff.mp h
      refine r_vv C S hl o_0 cf_10 (k_X10_splitByShares e12) b_vb_RX10_217 [.int v1, .int o9] rfl [] rfl rfl (Nat.le_of_ble_eq_true rfl) ⟨Nat.le_of_ble_eq_true rfl, Nat.le_of_ble_eq_true rfl⟩ dX10_other_35 (fun H locs S => ?_)
      refine lv_aload_n C.1 C.2.1 dX10_other_38 rfl (lv_at hl 0 rfl) ?_
      refine r_getr C S o_0 cf_10 9 rfl (by decide) b_fl_RX10_59 dX10_other_39 ?_
      obtain ⟨o13, e14, h⟩ := Option.bind_eq_some_iff.mp h
      refine r_vi C S hl o_12 cf_7 (k_X7_nobodyPays e14) b_vb_RX10_221 [] rfl [] rfl rfl (Nat.le_of_ble_eq_true rfl) ⟨Nat.le_of_ble_eq_true rfl, Nat.le_of_ble_eq_true rfl⟩ dX10_other_42 (fun H locs S => ?_)
      refine lv_if_eq (tgt := 55) C.1 C.2.1 dX10_other_45 (by decide) (fun q15 => ?_) (fun q15 => ?_)
      · replace h := (if_pos q15).symm.trans h
        refine lv_aload_n C.1 C.2.1 dX10_other_55 rfl (lv_at hl 0 rfl) ?_
        refine r_getr C S o_0 cf_10 9 rfl (by decide) b_fl_RX10_59 dX10_other_56 ?_
        refine lv_iload_n C.1 C.2.1 dX10_other_59 rfl (lv_at hl 2 rfl) ?_
        obtain ⟨o16, e17, h⟩ := Option.bind_eq_some_iff.mp h
        refine r_vi C S hl o_12 cf_7 (k_X7_pays e17) b_vb_RX10_225 [.int v2] rfl [] rfl rfl (Nat.le_of_ble_eq_true rfl) ⟨Nat.le_of_ble_eq_true rfl, Nat.le_of_ble_eq_true rfl⟩ dX10_other_60 (fun H locs S => ?_)
        refine lv_istore_n (lv' := [(3, .int o16), (0, .ref (ad 0)), (1, .int v1), (2, .int v2)]) C.1 C.2.1 dX10_other_63 rfl hl (by decide) rfl (fun ls hl => ?_)
        refine lv_aload_n C.1 C.2.1 dX10_other_64 rfl (lv_at hl 1 rfl) ?_
        refine lv_iload_n C.1 C.2.1 dX10_other_65 rfl (lv_at hl 2 rfl) ?_
        refine lv_iconst (v := 0) C.1 C.2.1 dX10_other_66 (by decide) ?_
        obtain ⟨o18, e19, h⟩ := Option.bind_eq_some_iff.mp h
        refine r_vv C S hl o_0 cf_10 (k_X10_splitByShares e19) b_vb_RX10_217 [.int v1, .int 0] rfl [] rfl rfl (Nat.le_of_ble_eq_true rfl) ⟨Nat.le_of_ble_eq_true rfl, Nat.le_of_ble_eq_true rfl⟩ dX10_other_67 (fun H locs S => ?_)
        refine lv_aload_n C.1 C.2.1 dX10_other_70 rfl (lv_at hl 1 rfl) ?_
        refine r_getr C S o_0 cf_10 9 rfl (by decide) b_fl_RX10_59 dX10_other_71 ?_
        obtain ⟨o20, e21, h⟩ := Option.bind_eq_some_iff.mp h
        refine r_vi C S hl o_12 cf_7 (k_X7_nobodyPays e21) b_vb_RX10_221 [] rfl [] rfl rfl (Nat.le_of_ble_eq_true rfl) ⟨Nat.le_of_ble_eq_true rfl, Nat.le_of_ble_eq_true rfl⟩ dX10_other_74 (fun H locs S => ?_)
        refine lv_if_eq (tgt := 87) C.1 C.2.1 dX10_other_77 (by decide) (fun q22 => ?_) (fun q22 => ?_)
        · replace h := (if_pos q22).symm.trans h
          refine lv_aload_n C.1 C.2.1 dX10_other_87 rfl (lv_at hl 1 rfl) ?_
          refine r_getr C S o_0 cf_10 9 rfl (by decide) b_fl_RX10_59 dX10_other_88 ?_
          refine lv_iload_n C.1 C.2.1 dX10_other_91 rfl (lv_at hl 3 rfl) ?_
          obtain ⟨o23, e24, h⟩ := Option.bind_eq_some_iff.mp h
          refine r_vi C S hl o_12 cf_7 (k_X7_pays e24) b_vb_RX10_225 [.int v2] rfl [] rfl rfl (Nat.le_of_ble_eq_true rfl) ⟨Nat.le_of_ble_eq_true rfl, Nat.le_of_ble_eq_true rfl⟩ dX10_other_92 (fun H locs S => ?_)
          refine lv_iload_n C.1 C.2.1 dX10_other_95 rfl (lv_at hl 0 rfl) ?_
          refine lv_isub C.1 C.2.1 dX10_other_96 ?_
          have h9 := Option.some.inj h
          subst h9
          exact r_iret C S hr hlocks dX10_other_97
        · replace h := (if_neg q22).symm.trans h
          refine lv_aload_n C.1 C.2.1 dX10_other_80 rfl (lv_at hl 1 rfl) ?_
          refine r_ldc C (-1000000004) b_cn_RX10_224 dX10_other_81 ?_
          obtain ⟨o25, e26, h⟩ := Option.bind_eq_some_iff.mp h
          refine r_vi C S hl o_0 cf_10 (k_X10_finding e26) b_vb_RX10_95 [.int (-1000000004)] rfl [] rfl rfl (Nat.le_of_ble_eq_true rfl) ⟨Nat.le_of_ble_eq_true rfl, Nat.le_of_ble_eq_true rfl⟩ dX10_other_83 (fun H locs S => ?_)
          have h9 := Option.some.inj h
          subst h9
          exact r_iret C S hr hlocks dX10_other_86
      · replace h := (if_neg q15).symm.trans h
        refine lv_aload_n C.1 C.2.1 dX10_other_48 rfl (lv_at hl 0 rfl) ?_
        refine r_ldc C (-1000000004) b_cn_RX10_224 dX10_other_49 ?_
        obtain ⟨o27, e28, h⟩ := Option.bind_eq_some_iff.mp h
        refine r_vi C S hl o_0 cf_10 (k_X10_finding e28) b_vb_RX10_95 [.int (-1000000004)] rfl [] rfl rfl (Nat.le_of_ble_eq_true rfl) ⟨Nat.le_of_ble_eq_true rfl, Nat.le_of_ble_eq_true rfl⟩ dX10_other_51 (fun H locs S => ?_)
        have h9 := Option.some.inj h
        subst h9
        exact r_iret C S hr hlocks dX10_other_54
    · replace h := (if_pos q8).symm.trans h
      refine lv_aload_n C.1 C.2.1 dX10_other_22 rfl (lv_at hl 0 rfl) ?_
      refine r_ldc C (-1000000001) b_cn_RX10_94 dX10_other_23 ?_
      obtain ⟨o29, e30, h⟩ := Option.bind_eq_some_iff.mp h
      refine r_vi C S hl o_0 cf_10 (k_X10_finding e30) b_vb_RX10_95 [.int (-1000000001)] rfl [] rfl rfl (Nat.le_of_ble_eq_true rfl) ⟨Nat.le_of_ble_eq_true rfl, Nat.le_of_ble_eq_true rfl⟩ dX10_other_25 (fun H locs S => ?_)
      have h9 := Option.some.inj h
      subst h9
      exact r_iret C S hr hlocks dX10_other_28

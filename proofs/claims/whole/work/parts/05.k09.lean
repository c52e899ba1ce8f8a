set_option maxHeartbeats 4000000 in
set_option maxRecDepth 100000 in
theorem k_X10_complain {v1 : Int32} {v2 : Int32}  {w : Wd} {rv : Int32 × Wd} (h : f_X10_complain v1 v2 w = some rv) : CI yX10_complain cX10_complain 3 .int 4 90 (fun ad => [.ref (ad 0), .int v1, .int v2]) w rv.1 rv.2 := by
  refine CI.of (by decide) ?_
  intro l D ad sx ca p e s m below meth c C S hr hlocks
  have hl := lv_entry ([.ref (ad 0), .int v1, .int v2]) (n := 3) (Nat.le_of_ble_eq_true rfl)
  rw [lg_entry_eq]
  generalize (lg_sl ([.ref (ad 0), .int v1, .int v2]) ++ List.replicate (3 - (lg_sl ([.ref (ad 0), .int v1, .int v2])).length) Slot.unset).toArray = ls at hl ⊢
  have hl : lv_has ls 3 [(0, .ref (ad 0)), (1, .int v1), (2, .int v2)] := hl
  generalize ha9 : ([.ref (ad 0), .int v1, .int v2] : List Value).toArray = args at C ⊢
  generalize s.heap = H at S ⊢
  generalize ([] : List Loc) = locs at S ⊢
  unfold f_X10_complain at h
  refine lv_aload_n C.1 C.2.1 dX10_complain_0 rfl (lv_at hl 0 rfl) ?_
  refine r_getr C S o_0 cf_10 3 rfl (by decide) b_fl_RX10_27 dX10_complain_1 ?_
  refine lv_iload_n C.1 C.2.1 dX10_complain_4 rfl (lv_at hl 1 rfl) ?_
  obtain ⟨o1, e2, h⟩ := Option.bind_eq_some_iff.mp h
  refine r_vi C S hl o_3 cf_0 (k_X0_has e2) b_vb_RX10_110 [.int v1] rfl [] rfl rfl (Nat.le_of_ble_eq_true rfl) ⟨Nat.le_of_ble_eq_true rfl, Nat.le_of_ble_eq_true rfl⟩ dX10_complain_5 (fun H locs S => ?_)
  refine lv_if_eq (tgt := 20) C.1 C.2.1 dX10_complain_8 (by decide) (fun q3 => ?_) (fun q3 => ?_)
  · replace h := (if_pos q3).symm.trans h
    refine lv_aload_n C.1 C.2.1 dX10_complain_20 rfl (lv_at hl 0 rfl) ?_
    refine r_ldc C (-1000000001) b_cn_RX10_94 dX10_complain_21 ?_
    obtain ⟨o4, e5, h⟩ := Option.bind_eq_some_iff.mp h
    refine r_vi C S hl o_0 cf_10 (k_X10_finding e5) b_vb_RX10_95 [.int (-1000000001)] rfl [] rfl rfl (Nat.le_of_ble_eq_true rfl) ⟨Nat.le_of_ble_eq_true rfl, Nat.le_of_ble_eq_true rfl⟩ dX10_complain_23 (fun H locs S => ?_)
    have h9 := Option.some.inj h
    subst h9
    exact r_iret C S hr hlocks dX10_complain_26
  · replace h := (if_neg q3).symm.trans h
    refine lv_iload_n C.1 C.2.1 dX10_complain_11 rfl (lv_at hl 2 rfl) ?_
    refine lv_iconst (v := 1) C.1 C.2.1 dX10_complain_12 (by decide) ?_
    refine lv_iconst (v := 2) C.1 C.2.1 dX10_complain_13 (by decide) ?_
    obtain ⟨o6, e7, h⟩ := Option.bind_eq_some_iff.mp h
    refine r_si C S hl (k_X10_within e7) b_sb_RX10_90 [.int v2, .int 1, .int 2] rfl [] rfl rfl (Nat.le_of_ble_eq_true rfl) ⟨Nat.le_of_ble_eq_true rfl, Nat.le_of_ble_eq_true rfl⟩ dX10_complain_14 (fun H locs S => ?_)
    refine lv_if_ne (tgt := 27) C.1 C.2.1 dX10_complain_17 (by decide) (fun q8 => ?_) (fun q8 => ?_)
    · replace h := (if_neg q8).symm.trans h
      refine lv_aload_n C.1 C.2.1 dX10_complain_27 rfl (lv_at hl 0 rfl) ?_
      refine r_getr C S o_0 cf_10 4 rfl (by decide) b_fl_RX10_32 dX10_complain_28 ?_
      refine r_geti C S o_8 cf_1 4 rfl (by decide) b_fl_RX10_258 dX10_complain_31 ?_
      refine lv_bipush (v := 24) C.1 C.2.1 dX10_complain_34 (by decide) ?_
      refine lv_icmp_lt (tgt := 46) C.1 C.2.1 dX10_complain_36 (by decide) (fun q9 => ?_) (fun q9 => ?_)
      · replace h := (if_pos q9).symm.trans h
        refine lv_aload_n C.1 C.2.1 dX10_complain_46 rfl (lv_at hl 0 rfl) ?_
        refine r_getr C S o_0 cf_10 4 rfl (by decide) b_fl_RX10_32 dX10_complain_47 ?_
        refine lv_aload_n C.1 C.2.1 dX10_complain_50 rfl (lv_at hl 0 rfl) ?_
        refine r_getr C S o_0 cf_10 3 rfl (by decide) b_fl_RX10_27 dX10_complain_51 ?_
        refine lv_iload_n C.1 C.2.1 dX10_complain_54 rfl (lv_at hl 1 rfl) ?_
        refine lv_iload_n C.1 C.2.1 dX10_complain_55 rfl (lv_at hl 2 rfl) ?_
        obtain ⟨o10, e11, h⟩ := Option.bind_eq_some_iff.mp h
        refine r_vi C S hl o_8 cf_1 (k_X1_add e11) b_vb_RX10_261 [.ref (ad 3), .int v1, .int v2] rfl [] rfl rfl (Nat.le_of_ble_eq_true rfl) ⟨Nat.le_of_ble_eq_true rfl, Nat.le_of_ble_eq_true rfl⟩ dX10_complain_56 (fun H locs S => ?_)
        have h9 := Option.some.inj h
        subst h9
        exact r_iret C S hr hlocks dX10_complain_59
      · replace h := (if_neg q9).symm.trans h
        refine lv_aload_n C.1 C.2.1 dX10_complain_39 rfl (lv_at hl 0 rfl) ?_
        refine r_ldc C (-1000000002) b_cn_RX10_105 dX10_complain_40 ?_
        obtain ⟨o12, e13, h⟩ := Option.bind_eq_some_iff.mp h
        refine r_vi C S hl o_0 cf_10 (k_X10_finding e13) b_vb_RX10_95 [.int (-1000000002)] rfl [] rfl rfl (Nat.le_of_ble_eq_true rfl) ⟨Nat.le_of_ble_eq_true rfl, Nat.le_of_ble_eq_true rfl⟩ dX10_complain_42 (fun H locs S => ?_)
        have h9 := Option.some.inj h
        subst h9
        exact r_iret C S hr hlocks dX10_complain_45
    · replace h := (if_pos q8).symm.trans h
      refine lv_aload_n C.1 C.2.1 dX10_complain_20 rfl (lv_at hl 0 rfl) ?_
      refine r_ldc C (-1000000001) b_cn_RX10_94 dX10_complain_21 ?_
      obtain ⟨o14, e15, h⟩ := Option.bind_eq_some_iff.mp h
      refine r_vi C S hl o_0 cf_10 (k_X10_finding e15) b_vb_RX10_95 [.int (-1000000001)] rfl [] rfl rfl (Nat.le_of_ble_eq_true rfl) ⟨Nat.le_of_ble_eq_true rfl, Nat.le_of_ble_eq_true rfl⟩ dX10_complain_23 (fun H locs S => ?_)
      have h9 := Option.some.inj h
      subst h9
      exact r_iret C S hr hlocks dX10_complain_26
set_option maxHeartbeats 4000000 in
set_option maxRecDepth 100000 in
theorem k_X10_complaint {v1 : Int32} {v2 : Int32}  {w : Wd} {rv : Int32 × Wd} (h : f_X10_complaint v1 v2 w = some rv) : CI yX10_complaint cX10_complaint 3 .int 2 44 (fun ad => [.ref (ad 0), .int v1, .int v2]) w rv.1 rv.2 := by
  refine CI.of (by decide) ?_
  intro l D ad sx ca p e s m below meth c C S hr hlocks
  have hl := lv_entry ([.ref (ad 0), .int v1, .int v2]) (n := 3) (Nat.le_of_ble_eq_true rfl)
  rw [lg_entry_eq]
  generalize (lg_sl ([.ref (ad 0), .int v1, .int v2]) ++ List.replicate (3 - (lg_sl ([.ref (ad 0), .int v1, .int v2])).length) Slot.unset).toArray = ls at hl ⊢
  have hl : lv_has ls 3 [(0, .ref (ad 0)), (1, .int v1), (2, .int v2)] := hl
  generalize ha9 : ([.ref (ad 0), .int v1, .int v2] : List Value).toArray = args at C ⊢
  generalize s.heap = H at S ⊢
  generalize ([] : List Loc) = locs at S ⊢
  unfold f_X10_complaint at h
  refine lv_iload_n C.1 C.2.1 dX10_complaint_0 rfl (lv_at hl 1 rfl) ?_
  refine lv_iconst (v := 0) C.1 C.2.1 dX10_complaint_1 (by decide) ?_
  refine lv_aload_n C.1 C.2.1 dX10_complaint_2 rfl (lv_at hl 0 rfl) ?_
  refine r_getr C S o_0 cf_10 4 rfl (by decide) b_fl_RX10_32 dX10_complaint_3 ?_
  refine r_geti C S o_8 cf_1 4 rfl (by decide) b_fl_RX10_258 dX10_complaint_6 ?_
  refine lv_iconst (v := 1) C.1 C.2.1 dX10_complaint_9 (by decide) ?_
  refine lv_isub C.1 C.2.1 dX10_complaint_10 ?_
  obtain ⟨o1, e2, h⟩ := Option.bind_eq_some_iff.mp h
  refine r_si C S hl (k_X10_within e2) b_sb_RX10_90 [.int v1, .int 0, .int ((w.1 8 4) - 1)] rfl [] rfl rfl (Nat.le_of_ble_eq_true rfl) ⟨Nat.le_of_ble_eq_true rfl, Nat.le_of_ble_eq_true rfl⟩ dX10_complaint_11 (fun H locs S => ?_)
  refine lv_if_ne (tgt := 24) C.1 C.2.1 dX10_complaint_14 (by decide) (fun q3 => ?_) (fun q3 => ?_)
  · replace h := (if_neg q3).symm.trans h
    refine lv_iload_n C.1 C.2.1 dX10_complaint_24 rfl (lv_at hl 2 rfl) ?_
    by_cases q4 : v2 = 0
    · replace h := (if_pos q4).symm.trans h
      refine lv_tableIn (off := 31) (tgt := 56) C.1 C.2.1 dX10_complaint_25 (by rw [q4]; decide) (by rw [q4]; decide) (by rw [q4]; rfl) (by decide) ?_
      refine lv_aload_n C.1 C.2.1 dX10_complaint_56 rfl (lv_at hl 0 rfl) ?_
      refine r_getr C S o_0 cf_10 4 rfl (by decide) b_fl_RX10_32 dX10_complaint_57 ?_
      refine r_getr C S o_8 cf_1 0 rfl (by decide) b_fl_RX10_264 dX10_complaint_60 ?_
      refine lv_iload_n C.1 C.2.1 dX10_complaint_63 rfl (lv_at hl 1 rfl) ?_
      obtain ⟨g5, h⟩ := gd_some h
      refine r_iald C S a_24 g5 dX10_complaint_64 ?_
      have h9 := Option.some.inj h
      subst h9
      exact r_iret C S hr hlocks dX10_complaint_65
    · replace h := (if_neg q4).symm.trans h
      by_cases q6 : v2 = 1
      · replace h := (if_pos q6).symm.trans h
        refine lv_tableIn (off := 41) (tgt := 66) C.1 C.2.1 dX10_complaint_25 (by rw [q6]; decide) (by rw [q6]; decide) (by rw [q6]; rfl) (by decide) ?_
        refine lv_aload_n C.1 C.2.1 dX10_complaint_66 rfl (lv_at hl 0 rfl) ?_
        refine r_getr C S o_0 cf_10 4 rfl (by decide) b_fl_RX10_32 dX10_complaint_67 ?_
        refine r_getr C S o_8 cf_1 1 rfl (by decide) b_fl_RX10_267 dX10_complaint_70 ?_
        refine lv_iload_n C.1 C.2.1 dX10_complaint_73 rfl (lv_at hl 1 rfl) ?_
        obtain ⟨g7, h⟩ := gd_some h
        refine r_iald C S a_25 g7 dX10_complaint_74 ?_
        have h9 := Option.some.inj h
        subst h9
        exact r_iret C S hr hlocks dX10_complaint_75
      · replace h := (if_neg q6).symm.trans h
        by_cases q8 : v2 = 2
        · replace h := (if_pos q8).symm.trans h
          refine lv_tableIn (off := 51) (tgt := 76) C.1 C.2.1 dX10_complaint_25 (by rw [q8]; decide) (by rw [q8]; decide) (by rw [q8]; rfl) (by decide) ?_
          refine lv_aload_n C.1 C.2.1 dX10_complaint_76 rfl (lv_at hl 0 rfl) ?_
          refine r_getr C S o_0 cf_10 4 rfl (by decide) b_fl_RX10_32 dX10_complaint_77 ?_
          refine r_getr C S o_8 cf_1 2 rfl (by decide) b_fl_RX10_270 dX10_complaint_80 ?_
          refine lv_iload_n C.1 C.2.1 dX10_complaint_83 rfl (lv_at hl 1 rfl) ?_
          obtain ⟨g9, h⟩ := gd_some h
          refine r_iald C S a_26 g9 dX10_complaint_84 ?_
          have h9 := Option.some.inj h
          subst h9
          exact r_iret C S hr hlocks dX10_complaint_85
        · replace h := (if_neg q8).symm.trans h
          by_cases q10 : v2 = 3
          · replace h := (if_pos q10).symm.trans h
            refine lv_tableIn (off := 61) (tgt := 86) C.1 C.2.1 dX10_complaint_25 (by rw [q10]; decide) (by rw [q10]; decide) (by rw [q10]; rfl) (by decide) ?_
            refine lv_aload_n C.1 C.2.1 dX10_complaint_86 rfl (lv_at hl 0 rfl) ?_
            refine r_getr C S o_0 cf_10 4 rfl (by decide) b_fl_RX10_32 dX10_complaint_87 ?_
            refine r_getr C S o_8 cf_1 3 rfl (by decide) b_fl_RX10_273 dX10_complaint_90 ?_
            refine lv_iload_n C.1 C.2.1 dX10_complaint_93 rfl (lv_at hl 1 rfl) ?_
            obtain ⟨g11, h⟩ := gd_some h
            refine r_iald C S a_27 g11 dX10_complaint_94 ?_
            have h9 := Option.some.inj h
            subst h9
            exact r_iret C S hr hlocks dX10_complaint_95
          · replace h := (if_neg q10).symm.trans h
            have hb9 : (v2).toInt < 0 ∨ 3 < (v2).toInt := by
              have zq4 := tb_ne q4
              have zq6 := tb_ne q6
              have zq8 := tb_ne q8
              have zq10 := tb_ne q10
              rw [show ((0 : Int32)).toInt = 0 from by decide] at zq4
              rw [show ((1 : Int32)).toInt = 1 from by decide] at zq6
              rw [show ((2 : Int32)).toInt = 2 from by decide] at zq8
              rw [show ((3 : Int32)).toInt = 3 from by decide] at zq10
              omega
            refine lv_tableOut (tgt := 96) C.1 C.2.1 dX10_complaint_25 hb9 (by decide) ?_
            refine lv_aload_n C.1 C.2.1 dX10_complaint_96 rfl (lv_at hl 0 rfl) ?_
            refine r_ldc C (-1000000001) b_cn_RX10_94 dX10_complaint_97 ?_
            obtain ⟨o12, e13, h⟩ := Option.bind_eq_some_iff.mp h
            refine r_vi C S hl o_0 cf_10 (k_X10_finding e13) b_vb_RX10_95 [.int (-1000000001)] rfl [] rfl rfl (Nat.le_of_ble_eq_true rfl) ⟨Nat.le_of_ble_eq_true rfl, Nat.le_of_ble_eq_true rfl⟩ dX10_complaint_99 (fun H locs S => ?_)
            have h9 := Option.some.inj h
            subst h9
            exact r_iret C S hr hlocks dX10_complaint_102
  · replace h := (if_pos q3).symm.trans h
    refine lv_aload_n C.1 C.2.1 dX10_complaint_17 rfl (lv_at hl 0 rfl) ?_
    refine r_ldc C (-1000000001) b_cn_RX10_94 dX10_complaint_18 ?_
    obtain ⟨o14, e15, h⟩ := Option.bind_eq_some_iff.mp h
    refine r_vi C S hl o_0 cf_10 (k_X10_finding e15) b_vb_RX10_95 [.int (-1000000001)] rfl [] rfl rfl (Nat.le_of_ble_eq_true rfl) ⟨Nat.le_of_ble_eq_true rfl, Nat.le_of_ble_eq_true rfl⟩ dX10_complaint_20 (fun H locs S => ?_)
    have h9 := Option.some.inj h
    subst h9
    exact r_iret C S hr hlocks dX10_complaint_23
set_option maxHeartbeats 4000000 in
set_option maxRecDepth 100000 in
theorem k_X10_joined {v1 : Int32} {v2 : Int32}  {w : Wd} {rv : Int32 × Wd} (h : f_X10_joined v1 v2 w = some rv) : CI yX10_joined cX10_joined 3 .int 2 44 (fun ad => [.ref (ad 0), .int v1, .int v2]) w rv.1 rv.2 := by
  refine CI.of (by decide) ?_
  intro l D ad sx ca p e s m below meth c C S hr hlocks
  have hl := lv_entry ([.ref (ad 0), .int v1, .int v2]) (n := 3) (Nat.le_of_ble_eq_true rfl)
  rw [lg_entry_eq]
  generalize (lg_sl ([.ref (ad 0), .int v1, .int v2]) ++ List.replicate (3 - (lg_sl ([.ref (ad 0), .int v1, .int v2])).length) Slot.unset).toArray = ls at hl ⊢
  have hl : lv_has ls 3 [(0, .ref (ad 0)), (1, .int v1), (2, .int v2)] := hl
  generalize ha9 : ([.ref (ad 0), .int v1, .int v2] : List Value).toArray = args at C ⊢
  generalize s.heap = H at S ⊢
  generalize ([] : List Loc) = locs at S ⊢
  unfold f_X10_joined at h
  refine lv_iload_n C.1 C.2.1 dX10_joined_0 rfl (lv_at hl 1 rfl) ?_
  refine lv_iconst (v := 0) C.1 C.2.1 dX10_joined_1 (by decide) ?_
  refine lv_aload_n C.1 C.2.1 dX10_joined_2 rfl (lv_at hl 0 rfl) ?_
  refine r_getr C S o_0 cf_10 4 rfl (by decide) b_fl_RX10_32 dX10_joined_3 ?_
  refine r_geti C S o_8 cf_1 4 rfl (by decide) b_fl_RX10_258 dX10_joined_6 ?_
  refine lv_iconst (v := 1) C.1 C.2.1 dX10_joined_9 (by decide) ?_
  refine lv_isub C.1 C.2.1 dX10_joined_10 ?_
  obtain ⟨o1, e2, h⟩ := Option.bind_eq_some_iff.mp h
  refine r_si C S hl (k_X10_within e2) b_sb_RX10_90 [.int v1, .int 0, .int ((w.1 8 4) - 1)] rfl [] rfl rfl (Nat.le_of_ble_eq_true rfl) ⟨Nat.le_of_ble_eq_true rfl, Nat.le_of_ble_eq_true rfl⟩ dX10_joined_11 (fun H locs S => ?_)
  refine lv_if_eq (tgt := 34) C.1 C.2.1 dX10_joined_14 (by decide) (fun q3 => ?_) (fun q3 => ?_)
  · replace h := (if_pos q3).symm.trans h
    refine lv_aload_n C.1 C.2.1 dX10_joined_34 rfl (lv_at hl 0 rfl) ?_
    refine r_ldc C (-1000000001) b_cn_RX10_94 dX10_joined_35 ?_
    obtain ⟨o4, e5, h⟩ := Option.bind_eq_some_iff.mp h
    refine r_vi C S hl o_0 cf_10 (k_X10_finding e5) b_vb_RX10_95 [.int (-1000000001)] rfl [] rfl rfl (Nat.le_of_ble_eq_true rfl) ⟨Nat.le_of_ble_eq_true rfl, Nat.le_of_ble_eq_true rfl⟩ dX10_joined_37 (fun H locs S => ?_)
    have h9 := Option.some.inj h
    subst h9
    exact r_iret C S hr hlocks dX10_joined_40
  · replace h := (if_neg q3).symm.trans h
    refine lv_iload_n C.1 C.2.1 dX10_joined_17 rfl (lv_at hl 2 rfl) ?_
    refine lv_iconst (v := 0) C.1 C.2.1 dX10_joined_18 (by decide) ?_
    refine lv_aload_n C.1 C.2.1 dX10_joined_19 rfl (lv_at hl 0 rfl) ?_
    refine r_getr C S o_0 cf_10 4 rfl (by decide) b_fl_RX10_32 dX10_joined_20 ?_
    refine r_geti C S o_8 cf_1 4 rfl (by decide) b_fl_RX10_258 dX10_joined_23 ?_
    refine lv_iconst (v := 1) C.1 C.2.1 dX10_joined_26 (by decide) ?_
    refine lv_isub C.1 C.2.1 dX10_joined_27 ?_
    obtain ⟨o6, e7, h⟩ := Option.bind_eq_some_iff.mp h
    refine r_si C S hl (k_X10_within e7) b_sb_RX10_90 [.int v2, .int 0, .int ((w.1 8 4) - 1)] rfl [] rfl rfl (Nat.le_of_ble_eq_true rfl) ⟨Nat.le_of_ble_eq_true rfl, Nat.le_of_ble_eq_true rfl⟩ dX10_joined_28 (fun H locs S => ?_)
    refine lv_if_ne (tgt := 41) C.1 C.2.1 dX10_joined_31 (by decide) (fun q8 => ?_) (fun q8 => ?_)
    · replace h := (if_neg q8).symm.trans h
      refine lv_aload_n C.1 C.2.1 dX10_joined_41 rfl (lv_at hl 0 rfl) ?_
      refine r_getr C S o_0 cf_10 4 rfl (by decide) b_fl_RX10_32 dX10_joined_42 ?_
      refine r_getr C S o_8 cf_1 3 rfl (by decide) b_fl_RX10_273 dX10_joined_45 ?_
      refine lv_iload_n C.1 C.2.1 dX10_joined_48 rfl (lv_at hl 1 rfl) ?_
      obtain ⟨g9, h⟩ := gd_some h
      refine r_iald C S a_27 g9 dX10_joined_49 ?_
      refine lv_aload_n C.1 C.2.1 dX10_joined_50 rfl (lv_at hl 0 rfl) ?_
      refine r_getr C S o_0 cf_10 4 rfl (by decide) b_fl_RX10_32 dX10_joined_51 ?_
      refine r_getr C S o_8 cf_1 3 rfl (by decide) b_fl_RX10_273 dX10_joined_54 ?_
      refine lv_iload_n C.1 C.2.1 dX10_joined_57 rfl (lv_at hl 2 rfl) ?_
      obtain ⟨g10, h⟩ := gd_some h
      refine r_iald C S a_27 g10 dX10_joined_58 ?_
      refine lv_icmp_ne (tgt := 66) C.1 C.2.1 dX10_joined_59 (by decide) (fun q11 => ?_) (fun q11 => ?_)
      · replace h := (if_neg q11).symm.trans h
        refine lv_iconst (v := 0) C.1 C.2.1 dX10_joined_66 (by decide) ?_
        obtain ⟨o12, e13, h⟩ := Option.bind_eq_some_iff.mp h
        refine r_si C S hl (k_X10_bit e13) b_sb_RX10_138 [.int 0] rfl [] rfl rfl (Nat.le_of_ble_eq_true rfl) ⟨Nat.le_of_ble_eq_true rfl, Nat.le_of_ble_eq_true rfl⟩ dX10_joined_67 (fun H locs S => ?_)
        have h9 := Option.some.inj h
        subst h9
        exact r_iret C S hr hlocks dX10_joined_70
      · replace h := (if_pos q11).symm.trans h
        refine lv_iconst (v := 1) C.1 C.2.1 dX10_joined_62 (by decide) ?_
        refine lv_goto (tgt := 67) C.1 C.2.1 dX10_joined_63 (by decide) ?_
        obtain ⟨o14, e15, h⟩ := Option.bind_eq_some_iff.mp h
        refine r_si C S hl (k_X10_bit e15) b_sb_RX10_138 [.int 1] rfl [] rfl rfl (Nat.le_of_ble_eq_true rfl) ⟨Nat.le_of_ble_eq_true rfl, Nat.le_of_ble_eq_true rfl⟩ dX10_joined_67 (fun H locs S => ?_)
        have h9 := Option.some.inj h
        subst h9
        exact r_iret C S hr hlocks dX10_joined_70
    · replace h := (if_pos q8).symm.trans h
      refine lv_aload_n C.1 C.2.1 dX10_joined_34 rfl (lv_at hl 0 rfl) ?_
      refine r_ldc C (-1000000001) b_cn_RX10_94 dX10_joined_35 ?_
      obtain ⟨o16, e17, h⟩ := Option.bind_eq_some_iff.mp h
      refine r_vi C S hl o_0 cf_10 (k_X10_finding e17) b_vb_RX10_95 [.int (-1000000001)] rfl [] rfl rfl (Nat.le_of_ble_eq_true rfl) ⟨Nat.le_of_ble_eq_true rfl, Nat.le_of_ble_eq_true rfl⟩ dX10_joined_37 (fun H locs S => ?_)
      have h9 := Option.some.inj h
      subst h9
      exact r_iret C S hr hlocks dX10_joined_40
set_option maxHeartbeats 4000000 in
set_option maxRecDepth 100000 in
theorem k_X1_groupsOf_L4 {p : Program} {l : Launch} {e : Env} {s : State} {m : MethodId} {args : Array Value} {below : List Frame} {meth : Method} {c : Code} {D : va_G} {ad sx : Nat → Nat} {ca : Nat → ClassId} (C : Cx D ad sx ca p s m c args RX1 cX1_groupsOf 4) {Q : State → Prop} {w : Wd} {v1 : Int32}  : ∀ (n9 : Nat) (z : Int32 × Int32) (o : Int32 × Int32), lp (f_X1_groupsOf_L4 v1 w) n9 z = some o → (∀ (ls : Array Slot) (H : Heap) (locs : List Loc), lv_has ls 4 [(2, .int o.1)] → St D ad ca s w H locs → W p l e (RM 0 0) s m args below meth c H locs 0 0 Q (F0 m 45 ls [])) → (∀ (ls : Array Slot) (H : Heap) (locs : List Loc), lv_has ls 4 [(0, .ref (ad 8)), (1, .int v1), (2, .int z.1), (3, .int z.2)] → St D ad ca s w H locs → W p l e (RM 0 0) s m args below meth c H locs 0 0 Q (F0 m 4 ls [])) := by
  refine lp_W (HW := fun (z : Int32 × Int32) => ∀ (ls : Array Slot) (H : Heap) (locs : List Loc), lv_has ls 4 [(0, .ref (ad 8)), (1, .int v1), (2, .int z.1), (3, .int z.2)] → St D ad ca s w H locs → W p l e (RM 0 0) s m args below meth c H locs 0 0 Q (F0 m 4 ls [])) (XW := fun (o : Int32 × Int32) => ∀ (ls : Array Slot) (H : Heap) (locs : List Loc), lv_has ls 4 [(2, .int o.1)] → St D ad ca s w H locs → W p l e (RM 0 0) s m args below meth c H locs 0 0 Q (F0 m 45 ls [])) ?_
  intro z x h hN hX ls H locs hl S
  unfold f_X1_groupsOf_L4 at h
  refine lv_iload_n C.1 C.2.1 dX1_groupsOf_4 rfl (lv_at hl 3 rfl) ?_
  refine lv_aload_n C.1 C.2.1 dX1_groupsOf_5 rfl (lv_at hl 0 rfl) ?_
  refine r_geti C S o_8 cf_1 4 rfl (by decide) b_fl_RX1_24 dX1_groupsOf_6 ?_
  refine lv_icmp_ge (tgt := 45) C.1 C.2.1 dX1_groupsOf_9 (by decide) (fun q1 => ?_) (fun q1 => ?_)
  · replace h := (if_pos q1).symm.trans h
    exact hX _ (Option.some.inj h).symm _ _ _ (lv_sub hl [2] rfl) S
  · replace h := (if_neg q1).symm.trans h
    refine lv_aload_n C.1 C.2.1 dX1_groupsOf_12 rfl (lv_at hl 0 rfl) ?_
    refine r_getr C S o_8 cf_1 3 rfl (by decide) b_fl_RX1_21 dX1_groupsOf_13 ?_
    refine lv_iload_n C.1 C.2.1 dX1_groupsOf_16 rfl (lv_at hl 3 rfl) ?_
    obtain ⟨g2, h⟩ := gd_some h
    refine r_iald C S a_27 g2 dX1_groupsOf_17 ?_
    refine lv_iload_n C.1 C.2.1 dX1_groupsOf_18 rfl (lv_at hl 3 rfl) ?_
    refine lv_icmp_ne (tgt := 39) C.1 C.2.1 dX1_groupsOf_19 (by decide) (fun q3 => ?_) (fun q3 => ?_)
    · replace h := (if_neg q3).symm.trans h
      refine lv_iinc (v := z.2 + 1) (lv' := [(3, .int (z.2 + 1)), (0, .ref (ad 8)), (1, .int v1), (2, .int z.1)]) C.1 C.2.1 dX1_groupsOf_39 hl (k := 3) rfl rfl (by decide) rfl (fun ls hl => ?_)
      refine lv_goto (tgt := 4) C.1 C.2.1 dX1_groupsOf_42 (by decide) ?_
      exact hN _ (Option.some.inj h).symm _ _ _ (lv_sub hl [1, 2, 3, 0] rfl) S
    · replace h := (if_pos q3).symm.trans h
      refine lv_iload_n C.1 C.2.1 dX1_groupsOf_22 rfl (lv_at hl 1 rfl) ?_
      refine lv_if_eq (tgt := 36) C.1 C.2.1 dX1_groupsOf_23 (by decide) (fun q4 => ?_) (fun q4 => ?_)
      · replace h := (if_pos q4).symm.trans h
        refine lv_iinc (v := z.1 + 1) (lv' := [(2, .int (z.1 + 1)), (0, .ref (ad 8)), (1, .int v1), (3, .int z.2)]) C.1 C.2.1 dX1_groupsOf_36 hl (k := 2) rfl rfl (by decide) rfl (fun ls hl => ?_)
        refine lv_iinc (v := z.2 + 1) (lv' := [(3, .int (z.2 + 1)), (2, .int (z.1 + 1)), (0, .ref (ad 8)), (1, .int v1)]) C.1 C.2.1 dX1_groupsOf_39 hl (k := 3) rfl rfl (by decide) rfl (fun ls hl => ?_)
        refine lv_goto (tgt := 4) C.1 C.2.1 dX1_groupsOf_42 (by decide) ?_
        exact hN _ (Option.some.inj h).symm _ _ _ (lv_sub hl [2, 3, 1, 0] rfl) S
      · replace h := (if_neg q4).symm.trans h
        refine lv_aload_n C.1 C.2.1 dX1_groupsOf_26 rfl (lv_at hl 0 rfl) ?_
        refine r_getr C S o_8 cf_1 1 rfl (by decide) b_fl_RX1_15 dX1_groupsOf_27 ?_
        refine lv_iload_n C.1 C.2.1 dX1_groupsOf_30 rfl (lv_at hl 3 rfl) ?_
        obtain ⟨g5, h⟩ := gd_some h
        refine r_iald C S a_25 g5 dX1_groupsOf_31 ?_
        refine lv_iload_n C.1 C.2.1 dX1_groupsOf_32 rfl (lv_at hl 1 rfl) ?_
        refine lv_icmp_ne (tgt := 39) C.1 C.2.1 dX1_groupsOf_33 (by decide) (fun q6 => ?_) (fun q6 => ?_)
        · replace h := (if_neg q6).symm.trans h
          refine lv_iinc (v := z.2 + 1) (lv' := [(3, .int (z.2 + 1)), (0, .ref (ad 8)), (1, .int v1), (2, .int z.1)]) C.1 C.2.1 dX1_groupsOf_39 hl (k := 3) rfl rfl (by decide) rfl (fun ls hl => ?_)
          refine lv_goto (tgt := 4) C.1 C.2.1 dX1_groupsOf_42 (by decide) ?_
          exact hN _ (Option.some.inj h).symm _ _ _ (lv_sub hl [1, 2, 3, 0] rfl) S
        · replace h := (if_pos q6).symm.trans h
          refine lv_iinc (v := z.1 + 1) (lv' := [(2, .int (z.1 + 1)), (0, .ref (ad 8)), (1, .int v1), (3, .int z.2)]) C.1 C.2.1 dX1_groupsOf_36 hl (k := 2) rfl rfl (by decide) rfl (fun ls hl => ?_)
          refine lv_iinc (v := z.2 + 1) (lv' := [(3, .int (z.2 + 1)), (2, .int (z.1 + 1)), (0, .ref (ad 8)), (1, .int v1)]) C.1 C.2.1 dX1_groupsOf_39 hl (k := 3) rfl rfl (by decide) rfl (fun ls hl => ?_)
          refine lv_goto (tgt := 4) C.1 C.2.1 dX1_groupsOf_42 (by decide) ?_
          exact hN _ (Option.some.inj h).symm _ _ _ (lv_sub hl [2, 3, 1, 0] rfl) S
set_option maxHeartbeats 4000000 in
set_option maxRecDepth 100000 in
theorem k_X1_groupsOf {v1 : Int32}  {w : Wd} {rv : Int32} (h : f_X1_groupsOf v1 w = some rv) : CI yX1_groupsOf cX1_groupsOf 4 .int 0 0 (fun ad => [.ref (ad 8), .int v1]) w rv w := by
  refine CI.of (by decide) ?_
  intro l D ad sx ca p e s m below meth c C S hr hlocks
  have hl := lv_entry ([.ref (ad 8), .int v1]) (n := 4) (Nat.le_of_ble_eq_true rfl)
  rw [lg_entry_eq]
  generalize (lg_sl ([.ref (ad 8), .int v1]) ++ List.replicate (4 - (lg_sl ([.ref (ad 8), .int v1])).length) Slot.unset).toArray = ls at hl ⊢
  have hl : lv_has ls 4 [(0, .ref (ad 8)), (1, .int v1)] := hl
  generalize ha9 : ([.ref (ad 8), .int v1] : List Value).toArray = args at C ⊢
  generalize s.heap = H at S ⊢
  generalize ([] : List Loc) = locs at S ⊢
  unfold f_X1_groupsOf at h
  refine lv_iconst (v := 0) C.1 C.2.1 dX1_groupsOf_0 (by decide) ?_
  refine lv_istore_n (lv' := [(2, .int 0), (0, .ref (ad 8)), (1, .int v1)]) C.1 C.2.1 dX1_groupsOf_1 rfl hl (by decide) rfl (fun ls hl => ?_)
  refine lv_iconst (v := 0) C.1 C.2.1 dX1_groupsOf_2 (by decide) ?_
  refine lv_istore_n (lv' := [(3, .int 0), (2, .int 0), (0, .ref (ad 8)), (1, .int v1)]) C.1 C.2.1 dX1_groupsOf_3 rfl hl (by decide) rfl (fun ls hl => ?_)
  obtain ⟨o7, e8, h⟩ := Option.bind_eq_some_iff.mp h
  refine k_X1_groupsOf_L4 C  FU _ _ e8 (fun ls H locs hl S => ?_) ls H locs (lv_sub hl [2, 3, 1, 0] rfl) S
  refine lv_iload_n C.1 C.2.1 dX1_groupsOf_45 rfl (lv_at hl 0 rfl) ?_
  have h9 := Option.some.inj h
  subst h9
  exact r_iret C S hr hlocks dX1_groupsOf_46
set_option maxHeartbeats 4000000 in
set_option maxRecDepth 100000 in
theorem k_X10_groups {v1 : Int32}  {w : Wd} {rv : Int32 × Wd} (h : f_X10_groups v1 w = some rv) : CI yX10_groups cX10_groups 2 .int 2 44 (fun ad => [.ref (ad 0), .int v1]) w rv.1 rv.2 := by
  refine CI.of (by decide) ?_
  intro l D ad sx ca p e s m below meth c C S hr hlocks
  have hl := lv_entry ([.ref (ad 0), .int v1]) (n := 2) (Nat.le_of_ble_eq_true rfl)
  rw [lg_entry_eq]
  generalize (lg_sl ([.ref (ad 0), .int v1]) ++ List.replicate (2 - (lg_sl ([.ref (ad 0), .int v1])).length) Slot.unset).toArray = ls at hl ⊢
  have hl : lv_has ls 2 [(0, .ref (ad 0)), (1, .int v1)] := hl
  generalize ha9 : ([.ref (ad 0), .int v1] : List Value).toArray = args at C ⊢
  generalize s.heap = H at S ⊢
  generalize ([] : List Loc) = locs at S ⊢
  unfold f_X10_groups at h
  refine lv_iload_n C.1 C.2.1 dX10_groups_0 rfl (lv_at hl 1 rfl) ?_
  refine lv_iconst (v := 0) C.1 C.2.1 dX10_groups_1 (by decide) ?_
  refine lv_iconst (v := 2) C.1 C.2.1 dX10_groups_2 (by decide) ?_
  obtain ⟨o1, e2, h⟩ := Option.bind_eq_some_iff.mp h
  refine r_si C S hl (k_X10_within e2) b_sb_RX10_90 [.int v1, .int 0, .int 2] rfl [] rfl rfl (Nat.le_of_ble_eq_true rfl) ⟨Nat.le_of_ble_eq_true rfl, Nat.le_of_ble_eq_true rfl⟩ dX10_groups_3 (fun H locs S => ?_)
  refine lv_if_ne (tgt := 16) C.1 C.2.1 dX10_groups_6 (by decide) (fun q3 => ?_) (fun q3 => ?_)
  · replace h := (if_neg q3).symm.trans h
    refine lv_aload_n C.1 C.2.1 dX10_groups_16 rfl (lv_at hl 0 rfl) ?_
    refine r_getr C S o_0 cf_10 4 rfl (by decide) b_fl_RX10_32 dX10_groups_17 ?_
    refine lv_iload_n C.1 C.2.1 dX10_groups_20 rfl (lv_at hl 1 rfl) ?_
    obtain ⟨o4, e5, h⟩ := Option.bind_eq_some_iff.mp h
    refine r_vi C S hl o_8 cf_1 (k_X1_groupsOf e5) b_vb_RX10_276 [.int v1] rfl [] rfl rfl (Nat.le_of_ble_eq_true rfl) ⟨Nat.le_of_ble_eq_true rfl, Nat.le_of_ble_eq_true rfl⟩ dX10_groups_21 (fun H locs S => ?_)
    have h9 := Option.some.inj h
    subst h9
    exact r_iret C S hr hlocks dX10_groups_24
  · replace h := (if_pos q3).symm.trans h
    refine lv_aload_n C.1 C.2.1 dX10_groups_9 rfl (lv_at hl 0 rfl) ?_
    refine r_ldc C (-1000000001) b_cn_RX10_94 dX10_groups_10 ?_
    obtain ⟨o6, e7, h⟩ := Option.bind_eq_some_iff.mp h
    refine r_vi C S hl o_0 cf_10 (k_X10_finding e7) b_vb_RX10_95 [.int (-1000000001)] rfl [] rfl rfl (Nat.le_of_ble_eq_true rfl) ⟨Nat.le_of_ble_eq_true rfl, Nat.le_of_ble_eq_true rfl⟩ dX10_groups_12 (fun H locs S => ?_)
    have h9 := Option.some.inj h
    subst h9
    exact r_iret C S hr hlocks dX10_groups_15
set_option maxHeartbeats 4000000 in
set_option maxRecDepth 100000 in
theorem k_X10_isSheet {v0 : Int32}  {w : Wd} {rv : Int32} (h : f_X10_isSheet v0 = some rv) : CI yX10_isSheet cX10_isSheet 1 .boolean 1 22 (fun ad => [.int v0]) w rv w := by
  refine CI.of (by decide) ?_
  intro l D ad sx ca p e s m below meth c C S hr hlocks
  have hl := lv_entry ([.int v0]) (n := 1) (Nat.le_of_ble_eq_true rfl)
  rw [lg_entry_eq]
  generalize (lg_sl ([.int v0]) ++ List.replicate (1 - (lg_sl ([.int v0])).length) Slot.unset).toArray = ls at hl ⊢
  have hl : lv_has ls 1 [(0, .int v0)] := hl
  generalize ha9 : ([.int v0] : List Value).toArray = args at C ⊢
  generalize s.heap = H at S ⊢
  generalize ([] : List Loc) = locs at S ⊢
  unfold f_X10_isSheet at h
  refine lv_iload_n C.1 C.2.1 dX10_isSheet_0 rfl (lv_at hl 0 rfl) ?_
  refine lv_iconst (v := 0) C.1 C.2.1 dX10_isSheet_1 (by decide) ?_
  refine lv_iconst (v := 3) C.1 C.2.1 dX10_isSheet_2 (by decide) ?_
  obtain ⟨o1, e2, h⟩ := Option.bind_eq_some_iff.mp h
  refine r_si C S hl (k_X10_within e2) b_sb_RX10_90 [.int v0, .int 0, .int 3] rfl [] rfl rfl (Nat.le_of_ble_eq_true rfl) ⟨Nat.le_of_ble_eq_true rfl, Nat.le_of_ble_eq_true rfl⟩ dX10_isSheet_3 (fun H locs S => ?_)
  obtain ⟨g3, h⟩ := gd_some h
  have h9 := Option.some.inj h
  subst h9
  exact r_zret C S hr hlocks (zo_or g3) dX10_isSheet_6
set_option maxHeartbeats 4000000 in
set_option maxRecDepth 100000 in
theorem k_X6_lay_L25 {p : Program} {l : Launch} {e : Env} {s : State} {m : MethodId} {args : Array Value} {below : List Frame} {meth : Method} {c : Code} {D : va_G} {ad sx : Nat → Nat} {ca : Nat → ClassId} (C : Cx D ad sx ca p s m c args RX6 cX6_lay 5) {Q : State → Prop} {v1 : Int32}  : ∀ (n9 : Nat) (z : Int32 × Wd) (o : Int32 × Wd), lp (f_X6_lay_L25 v1) n9 z = some o → (∀ (ls : Array Slot) (H : Heap) (locs : List Loc), lv_has ls 5 [] → St D ad ca s o.2 H locs → W p l e (RM 0 0) s m args below meth c H locs 0 0 Q (F0 m 52 ls [])) → (∀ (ls : Array Slot) (H : Heap) (locs : List Loc), lv_has ls 5 [(0, .ref (ad 15)), (1, .int v1), (4, .int z.1)] → St D ad ca s z.2 H locs → W p l e (RM 0 0) s m args below meth c H locs 0 0 Q (F0 m 25 ls [])) := by
  refine lp_W (HW := fun (z : Int32 × Wd) => ∀ (ls : Array Slot) (H : Heap) (locs : List Loc), lv_has ls 5 [(0, .ref (ad 15)), (1, .int v1), (4, .int z.1)] → St D ad ca s z.2 H locs → W p l e (RM 0 0) s m args below meth c H locs 0 0 Q (F0 m 25 ls [])) (XW := fun (o : Int32 × Wd) => ∀ (ls : Array Slot) (H : Heap) (locs : List Loc), lv_has ls 5 [] → St D ad ca s o.2 H locs → W p l e (RM 0 0) s m args below meth c H locs 0 0 Q (F0 m 52 ls [])) ?_
  intro z x h hN hX ls H locs hl S
  unfold f_X6_lay_L25 at h
  refine lv_iload C.1 C.2.1 dX6_lay_25 (lv_at hl 2 rfl) ?_
  refine lv_aload_n C.1 C.2.1 dX6_lay_27 rfl (lv_at hl 0 rfl) ?_
  refine r_getr C S o_15 cf_6 2 rfl (by decide) b_fl_RX6_20 dX6_lay_28 ?_
  refine lv_iload_n C.1 C.2.1 dX6_lay_31 rfl (lv_at hl 1 rfl) ?_
  obtain ⟨g6, h⟩ := gd_some h
  refine r_iald C S a_75 g6 dX6_lay_32 ?_
  refine lv_icmp_ge (tgt := 52) C.1 C.2.1 dX6_lay_33 (by decide) (fun q7 => ?_) (fun q7 => ?_)
  · replace h := (if_pos q7).symm.trans h
    exact hX _ (Option.some.inj h).symm _ _ _ (lv_sub hl [] rfl) S
  · replace h := (if_neg q7).symm.trans h
    refine lv_aload_n C.1 C.2.1 dX6_lay_36 rfl (lv_at hl 0 rfl) ?_
    refine r_getr C S o_15 cf_6 0 rfl (by decide) b_fl_RX6_11 dX6_lay_37 ?_
    refine lv_iload_n C.1 C.2.1 dX6_lay_40 rfl (lv_at hl 1 rfl) ?_
    obtain ⟨g8, h⟩ := gd_some h
    refine r_aaldJ C S a_69 g8 dX6_lay_41 ?_
    refine lv_iload C.1 C.2.1 dX6_lay_42 (lv_at hl 2 rfl) ?_
    refine lv_lconst (v := 0) C.1 C.2.1 dX6_lay_44 (by decide) ?_
    obtain ⟨g9, h⟩ := gd_some h
    refine r_last C S (a_J (inB_lt g8)) g9 dX6_lay_45 (fun H locs S => ?_)
    obtain ⟨w10, h, S⟩ := lw_S (P := fun y => St D ad ca s y H locs) h S
    refine lv_iinc (v := z.1 + 1) (lv' := [(4, .int (z.1 + 1)), (0, .ref (ad 15)), (1, .int v1)]) C.1 C.2.1 dX6_lay_46 hl (k := 2) rfl rfl (by decide) rfl (fun ls hl => ?_)
    refine lv_goto (tgt := 25) C.1 C.2.1 dX6_lay_49 (by decide) ?_
    exact hN _ (Option.some.inj h).symm _ _ _ (lv_sub hl [1, 2, 0] rfl) S
set_option maxHeartbeats 4000000 in
set_option maxRecDepth 100000 in
theorem k_X6_lay_J21 {p : Program} {l : Launch} {e : Env} {s : State} {m : MethodId} {args : Array Value} {below : List Frame} {meth : Method} {c : Code} {D : va_G} {ad sx : Nat → Nat} {ca : Nat → ClassId} (C : Cx D ad sx ca p s m c args RX6 cX6_lay 5) (hr : meth.sig.returnType = none) (hlocks : meth.locks = false) {w : Wd} {v1 : Int32} {v101 : Int32} {v102 : Int32}  {rv : Wd} (h : f_X6_lay_J21 v1 v101 v102 w = some rv) {ls : Array Slot} {H : Heap} {locs : List Loc} (hl : lv_has ls 5 [(0, .ref (ad 15)), (1, .int v1)]) (S : St D ad ca s w H locs) : W p l e (RM 0 0) s m args below meth c H locs 0 0 (MQ below (Qv D ad ca rv) args s 0 0 (Aad ad)) (F0 m 21 ls [.int v102, .int v101, .ref (ad 75)]) := by
  unfold f_X6_lay_J21 at h
  obtain ⟨g4, h⟩ := gd_some h
  refine r_iast C S a_75 g4 dX6_lay_21 (fun H locs S => ?_)
  obtain ⟨w5, h, S⟩ := lw_S (P := fun y => St D ad ca s y H locs) h S
  refine lv_iconst (v := 0) C.1 C.2.1 dX6_lay_22 (by decide) ?_
  refine lv_istore (lv' := [(4, .int 0), (0, .ref (ad 15)), (1, .int v1)]) C.1 C.2.1 dX6_lay_23 hl (by decide) rfl (fun ls hl => ?_)
  obtain ⟨o11, e12, h⟩ := Option.bind_eq_some_iff.mp h
  refine k_X6_lay_L25 C  FU _ _ e12 (fun ls H locs hl S => ?_) ls H locs (lv_sub hl [1, 2, 0] rfl) S
  have h9 := Option.some.inj h
  subst h9
  exact r_vret C S hr hlocks dX6_lay_52
set_option maxHeartbeats 4000000 in
set_option maxRecDepth 100000 in
theorem k_X6_lay {v1 : Int32} {v2 : Int32} {v3 : Int32}  {w : Wd} {rv : Wd} (h : f_X6_lay v1 v2 v3 w = some rv) : CV yX6_lay cX6_lay 5 0 0 (fun ad => [.ref (ad 15), .int v1, .int v2, .int v3]) w rv := by
  refine CV.of (by decide) ?_
  intro l D ad sx ca p e s m below meth c C S hr hlocks
  have hl := lv_entry ([.ref (ad 15), .int v1, .int v2, .int v3]) (n := 5) (Nat.le_of_ble_eq_true rfl)
  rw [lg_entry_eq]
  generalize (lg_sl ([.ref (ad 15), .int v1, .int v2, .int v3]) ++ List.replicate (5 - (lg_sl ([.ref (ad 15), .int v1, .int v2, .int v3])).length) Slot.unset).toArray = ls at hl ⊢
  have hl : lv_has ls 5 [(0, .ref (ad 15)), (1, .int v1), (2, .int v2), (3, .int v3)] := hl
  generalize ha9 : ([.ref (ad 15), .int v1, .int v2, .int v3] : List Value).toArray = args at C ⊢
  generalize s.heap = H at S ⊢
  generalize ([] : List Loc) = locs at S ⊢
  unfold f_X6_lay at h
  refine lv_aload_n C.1 C.2.1 dX6_lay_0 rfl (lv_at hl 0 rfl) ?_
  refine r_getr C S o_15 cf_6 1 rfl (by decide) b_fl_RX6_16 dX6_lay_1 ?_
  refine lv_iload_n C.1 C.2.1 dX6_lay_4 rfl (lv_at hl 1 rfl) ?_
  refine lv_iload_n C.1 C.2.1 dX6_lay_5 rfl (lv_at hl 2 rfl) ?_
  obtain ⟨g1, h⟩ := gd_some h
  refine r_iast C S a_74 g1 dX6_lay_6 (fun H locs S => ?_)
  obtain ⟨w2, h, S⟩ := lw_S (P := fun y => St D ad ca s y H locs) h S
  refine lv_aload_n C.1 C.2.1 dX6_lay_7 rfl (lv_at hl 0 rfl) ?_
  refine r_getr C S o_15 cf_6 2 rfl (by decide) b_fl_RX6_20 dX6_lay_8 ?_
  refine lv_iload_n C.1 C.2.1 dX6_lay_11 rfl (lv_at hl 1 rfl) ?_
  refine lv_iload_n C.1 C.2.1 dX6_lay_12 rfl (lv_at hl 2 rfl) ?_
  refine lv_if_ne (tgt := 20) C.1 C.2.1 dX6_lay_13 (by decide) (fun q3 => ?_) (fun q3 => ?_)
  · replace h := (if_neg q3).symm.trans h
    refine lv_iload_n C.1 C.2.1 dX6_lay_20 rfl (lv_at hl 3 rfl) ?_
    exact k_X6_lay_J21 C hr hlocks  h (lv_sub hl [0, 1] rfl) S
  · replace h := (if_pos q3).symm.trans h
    refine lv_iconst (v := 0) C.1 C.2.1 dX6_lay_16 (by decide) ?_
    refine lv_goto (tgt := 21) C.1 C.2.1 dX6_lay_17 (by decide) ?_
    exact k_X6_lay_J21 C hr hlocks  h (lv_sub hl [0, 1] rfl) S
set_option maxHeartbeats 4000000 in
set_option maxRecDepth 100000 in
theorem k_X10_sheet_J36 {p : Program} {l : Launch} {e : Env} {s : State} {m : MethodId} {args : Array Value} {below : List Frame} {meth : Method} {c : Code} {D : va_G} {ad sx : Nat → Nat} {ca : Nat → ClassId} (C : Cx D ad sx ca p s m c args RX10 cX10_sheet 4) (hr : meth.sig.returnType = (some .int)) (hlocks : meth.locks = false) {w : Wd} {v1 : Int32} {v2 : Int32} {v3 : Int32}  {rv : Int32 × Wd} (h : f_X10_sheet_J36 v1 v2 v3 w = some rv) {ls : Array Slot} {H : Heap} {locs : List Loc} (hl : lv_has ls 4 [(0, .ref (ad 0)), (1, .int v1), (2, .int v2), (3, .int v3)]) (S : St D ad ca s w H locs) : W p l e (RM 2 44) s m args below meth c H locs 0 0 (MQ below (Qi D ad ca rv.1 rv.2) args s 0 0 (Aad ad)) (F0 m 36 ls []) := by
  unfold f_X10_sheet_J36 at h
  refine lv_iload_n C.1 C.2.1 dX10_sheet_36 rfl (lv_at hl 3 rfl) ?_
  refine lv_if_ge (tgt := 48) C.1 C.2.1 dX10_sheet_37 (by decide) (fun q7 => ?_) (fun q7 => ?_)
  · replace h := (if_pos q7).symm.trans h
    refine lv_iload_n C.1 C.2.1 dX10_sheet_48 rfl (lv_at hl 3 rfl) ?_
    refine lv_bipush (v := 40) C.1 C.2.1 dX10_sheet_49 (by decide) ?_
    refine lv_icmp_le (tgt := 61) C.1 C.2.1 dX10_sheet_51 (by decide) (fun q8 => ?_) (fun q8 => ?_)
    · replace h := (if_pos q8).symm.trans h
      refine lv_aload_n C.1 C.2.1 dX10_sheet_61 rfl (lv_at hl 0 rfl) ?_
      refine r_getr C S o_0 cf_10 12 rfl (by decide) b_fl_RX10_82 dX10_sheet_62 ?_
      refine lv_iload_n C.1 C.2.1 dX10_sheet_65 rfl (lv_at hl 1 rfl) ?_
      refine lv_iload_n C.1 C.2.1 dX10_sheet_66 rfl (lv_at hl 2 rfl) ?_
      refine lv_iload_n C.1 C.2.1 dX10_sheet_67 rfl (lv_at hl 3 rfl) ?_
      obtain ⟨o9, e10, h⟩ := Option.bind_eq_some_iff.mp h
      refine r_vv C S hl o_15 cf_6 (k_X6_lay e10) b_vb_RX10_283 [.int v1, .int v2, .int v3] rfl [] rfl rfl (Nat.le_of_ble_eq_true rfl) ⟨Nat.le_of_ble_eq_true rfl, Nat.le_of_ble_eq_true rfl⟩ dX10_sheet_68 (fun H locs S => ?_)
      refine lv_aload_n C.1 C.2.1 dX10_sheet_71 rfl (lv_at hl 0 rfl) ?_
      refine r_getr C S o_0 cf_10 12 rfl (by decide) b_fl_RX10_82 dX10_sheet_72 ?_
      refine r_getr C S o_15 cf_6 2 rfl (by decide) b_fl_RX10_287 dX10_sheet_75 ?_
      refine lv_iload_n C.1 C.2.1 dX10_sheet_78 rfl (lv_at hl 1 rfl) ?_
      obtain ⟨g11, h⟩ := gd_some h
      refine r_iald C S a_75 g11 dX10_sheet_79 ?_
      have h9 := Option.some.inj h
      subst h9
      exact r_iret C S hr hlocks dX10_sheet_80
    · replace h := (if_neg q8).symm.trans h
      refine lv_aload_n C.1 C.2.1 dX10_sheet_54 rfl (lv_at hl 0 rfl) ?_
      refine r_ldc C (-1000000001) b_cn_RX10_94 dX10_sheet_55 ?_
      obtain ⟨o12, e13, h⟩ := Option.bind_eq_some_iff.mp h
      refine r_vi C S hl o_0 cf_10 (k_X10_finding e13) b_vb_RX10_95 [.int (-1000000001)] rfl [] rfl rfl (Nat.le_of_ble_eq_true rfl) ⟨Nat.le_of_ble_eq_true rfl, Nat.le_of_ble_eq_true rfl⟩ dX10_sheet_57 (fun H locs S => ?_)
      have h9 := Option.some.inj h
      subst h9
      exact r_iret C S hr hlocks dX10_sheet_60
  · replace h := (if_neg q7).symm.trans h
    refine lv_aload_n C.1 C.2.1 dX10_sheet_40 rfl (lv_at hl 0 rfl) ?_
    refine r_ldcw C (-1000000007) b_cn_RX10_282 dX10_sheet_41 ?_
    obtain ⟨o14, e15, h⟩ := Option.bind_eq_some_iff.mp h
    refine r_vi C S hl o_0 cf_10 (k_X10_finding e15) b_vb_RX10_95 [.int (-1000000007)] rfl [] rfl rfl (Nat.le_of_ble_eq_true rfl) ⟨Nat.le_of_ble_eq_true rfl, Nat.le_of_ble_eq_true rfl⟩ dX10_sheet_44 (fun H locs S => ?_)
    have h9 := Option.some.inj h
    subst h9
    exact r_iret C S hr hlocks dX10_sheet_47
set_option maxHeartbeats 4000000 in
set_option maxRecDepth 100000 in
theorem k_X10_sheet {v1 : Int32} {v2 : Int32} {v3 : Int32}  {w : Wd} {rv : Int32 × Wd} (h : f_X10_sheet v1 v2 v3 w = some rv) : CI yX10_sheet cX10_sheet 4 .int 2 44 (fun ad => [.ref (ad 0), .int v1, .int v2, .int v3]) w rv.1 rv.2 := by
  refine CI.of (by decide) ?_
  intro l D ad sx ca p e s m below meth c C S hr hlocks
  have hl := lv_entry ([.ref (ad 0), .int v1, .int v2, .int v3]) (n := 4) (Nat.le_of_ble_eq_true rfl)
  rw [lg_entry_eq]
  generalize (lg_sl ([.ref (ad 0), .int v1, .int v2, .int v3]) ++ List.replicate (4 - (lg_sl ([.ref (ad 0), .int v1, .int v2, .int v3])).length) Slot.unset).toArray = ls at hl ⊢
  have hl : lv_has ls 4 [(0, .ref (ad 0)), (1, .int v1), (2, .int v2), (3, .int v3)] := hl
  generalize ha9 : ([.ref (ad 0), .int v1, .int v2, .int v3] : List Value).toArray = args at C ⊢
  generalize s.heap = H at S ⊢
  generalize ([] : List Loc) = locs at S ⊢
  unfold f_X10_sheet at h
  refine lv_iload_n C.1 C.2.1 dX10_sheet_0 rfl (lv_at hl 1 rfl) ?_
  obtain ⟨o1, e2, h⟩ := Option.bind_eq_some_iff.mp h
  refine r_si C S hl (k_X10_isSheet e2) b_sb_RX10_279 [.int v1] rfl [] rfl rfl (Nat.le_of_ble_eq_true rfl) ⟨Nat.le_of_ble_eq_true rfl, Nat.le_of_ble_eq_true rfl⟩ dX10_sheet_1 (fun H locs S => ?_)
  refine lv_if_eq (tgt := 29) C.1 C.2.1 dX10_sheet_4 (by decide) (fun q3 => ?_) (fun q3 => ?_)
  · replace h := (if_pos q3).symm.trans h
    refine lv_aload_n C.1 C.2.1 dX10_sheet_29 rfl (lv_at hl 0 rfl) ?_
    refine r_ldc C (-1000000001) b_cn_RX10_94 dX10_sheet_30 ?_
    obtain ⟨o4, e5, h⟩ := Option.bind_eq_some_iff.mp h
    refine r_vi C S hl o_0 cf_10 (k_X10_finding e5) b_vb_RX10_95 [.int (-1000000001)] rfl [] rfl rfl (Nat.le_of_ble_eq_true rfl) ⟨Nat.le_of_ble_eq_true rfl, Nat.le_of_ble_eq_true rfl⟩ dX10_sheet_32 (fun H locs S => ?_)
    have h9 := Option.some.inj h
    subst h9
    exact r_iret C S hr hlocks dX10_sheet_35
  · replace h := (if_neg q3).symm.trans h
    refine lv_iload_n C.1 C.2.1 dX10_sheet_7 rfl (lv_at hl 2 rfl) ?_
    refine lv_if_eq (tgt := 36) C.1 C.2.1 dX10_sheet_8 (by decide) (fun q6 => ?_) (fun q6 => ?_)
    · replace h := (if_pos q6).symm.trans h
      exact k_X10_sheet_J36 C hr hlocks  h (lv_sub hl [0, 1, 2, 3] rfl) S
    · replace h := (if_neg q6).symm.trans h
      refine lv_iload_n C.1 C.2.1 dX10_sheet_11 rfl (lv_at hl 2 rfl) ?_
      refine lv_bipush (v := 8) C.1 C.2.1 dX10_sheet_12 (by decide) ?_
      refine lv_icmp_eq (tgt := 36) C.1 C.2.1 dX10_sheet_14 (by decide) (fun q16 => ?_) (fun q16 => ?_)
      · replace h := (if_pos q16).symm.trans h
        exact k_X10_sheet_J36 C hr hlocks  h (lv_sub hl [0, 1, 2, 3] rfl) S
      · replace h := (if_neg q16).symm.trans h
        refine lv_iload_n C.1 C.2.1 dX10_sheet_17 rfl (lv_at hl 2 rfl) ?_
        refine lv_bipush (v := 16) C.1 C.2.1 dX10_sheet_18 (by decide) ?_
        refine lv_icmp_eq (tgt := 36) C.1 C.2.1 dX10_sheet_20 (by decide) (fun q17 => ?_) (fun q17 => ?_)
        · replace h := (if_pos q17).symm.trans h
          exact k_X10_sheet_J36 C hr hlocks  h (lv_sub hl [0, 1, 2, 3] rfl) S
        · replace h := (if_neg q17).symm.trans h
          refine lv_iload_n C.1 C.2.1 dX10_sheet_23 rfl (lv_at hl 2 rfl) ?_
          refine lv_bipush (v := 64) C.1 C.2.1 dX10_sheet_24 (by decide) ?_
          refine lv_icmp_eq (tgt := 36) C.1 C.2.1 dX10_sheet_26 (by decide) (fun q18 => ?_) (fun q18 => ?_)
          · replace h := (if_pos q18).symm.trans h
            exact k_X10_sheet_J36 C hr hlocks  h (lv_sub hl [0, 1, 2, 3] rfl) S
          · replace h := (if_neg q18).symm.trans h
            refine lv_aload_n C.1 C.2.1 dX10_sheet_29 rfl (lv_at hl 0 rfl) ?_
            refine r_ldc C (-1000000001) b_cn_RX10_94 dX10_sheet_30 ?_
            obtain ⟨o19, e20, h⟩ := Option.bind_eq_some_iff.mp h
            refine r_vi C S hl o_0 cf_10 (k_X10_finding e20) b_vb_RX10_95 [.int (-1000000001)] rfl [] rfl rfl (Nat.le_of_ble_eq_true rfl) ⟨Nat.le_of_ble_eq_true rfl, Nat.le_of_ble_eq_true rfl⟩ dX10_sheet_32 (fun H locs S => ?_)
            have h9 := Option.some.inj h
            subst h9
            exact r_iret C S hr hlocks dX10_sheet_35
set_option maxHeartbeats 4000000 in
set_option maxRecDepth 100000 in
theorem k_X6_isMissing {v1 : Int32}  {w : Wd} {rv : Int32} (h : f_X6_isMissing v1 w = some rv) : CI yX6_isMissing cX6_isMissing 2 .boolean 0 0 (fun ad => [.ref (ad 15), .int v1]) w rv w := by
  refine CI.of (by decide) ?_
  intro l D ad sx ca p e s m below meth c C S hr hlocks
  have hl := lv_entry ([.ref (ad 15), .int v1]) (n := 2) (Nat.le_of_ble_eq_true rfl)
  rw [lg_entry_eq]
  generalize (lg_sl ([.ref (ad 15), .int v1]) ++ List.replicate (2 - (lg_sl ([.ref (ad 15), .int v1])).length) Slot.unset).toArray = ls at hl ⊢
  have hl : lv_has ls 2 [(0, .ref (ad 15)), (1, .int v1)] := hl
  generalize ha9 : ([.ref (ad 15), .int v1] : List Value).toArray = args at C ⊢
  generalize s.heap = H at S ⊢
  generalize ([] : List Loc) = locs at S ⊢
  unfold f_X6_isMissing at h
  refine lv_aload_n C.1 C.2.1 dX6_isMissing_0 rfl (lv_at hl 0 rfl) ?_
  refine r_getr C S o_15 cf_6 1 rfl (by decide) b_fl_RX6_16 dX6_isMissing_1 ?_
  refine lv_iload_n C.1 C.2.1 dX6_isMissing_4 rfl (lv_at hl 1 rfl) ?_
  obtain ⟨g1, h⟩ := gd_some h
  refine r_iald C S a_74 g1 dX6_isMissing_5 ?_
  refine lv_if_ne (tgt := 13) C.1 C.2.1 dX6_isMissing_6 (by decide) (fun q2 => ?_) (fun q2 => ?_)
  · replace h := (if_neg q2).symm.trans h
    refine lv_iconst (v := 0) C.1 C.2.1 dX6_isMissing_13 (by decide) ?_
    have h9 := Option.some.inj h
    subst h9
    exact r_zret C S hr hlocks (Or.inl rfl) dX6_isMissing_14
  · replace h := (if_pos q2).symm.trans h
    refine lv_iconst (v := 1) C.1 C.2.1 dX6_isMissing_9 (by decide) ?_
    refine lv_goto (tgt := 14) C.1 C.2.1 dX6_isMissing_10 (by decide) ?_
    have h9 := Option.some.inj h
    subst h9
    exact r_zret C S hr hlocks (Or.inr rfl) dX6_isMissing_14
set_option maxHeartbeats 4000000 in
set_option maxRecDepth 100000 in
theorem k_X10_lowest {v0 : Int64} {v2 : Int32}  {w : Wd} {rv : Int64} (h : f_X10_lowest v0 v2 = some rv) : CL yX10_lowest cX10_lowest 3 0 0 (fun ad => [.long v0, .int v2]) w rv w := by
  refine CL.of (by decide) ?_
  intro l D ad sx ca p e s m below meth c C S hr hlocks
  have hl := lv_entry ([.long v0, .int v2]) (n := 3) (Nat.le_of_ble_eq_true rfl)
  rw [lg_entry_eq]
  generalize (lg_sl ([.long v0, .int v2]) ++ List.replicate (3 - (lg_sl ([.long v0, .int v2])).length) Slot.unset).toArray = ls at hl ⊢
  have hl : lv_has ls 3 [(0, .long v0), (2, .int v2)] := hl
  generalize ha9 : ([.long v0, .int v2] : List Value).toArray = args at C ⊢
  generalize s.heap = H at S ⊢
  generalize ([] : List Loc) = locs at S ⊢
  unfold f_X10_lowest at h
  refine lv_iload_n C.1 C.2.1 dX10_lowest_0 rfl (lv_at hl 1 rfl) ?_
  refine lv_bipush (v := 8) C.1 C.2.1 dX10_lowest_1 (by decide) ?_
  refine lv_icmp_ne (tgt := 11) C.1 C.2.1 dX10_lowest_3 (by decide) (fun q1 => ?_) (fun q1 => ?_)
  · replace h := (if_neg q1).symm.trans h
    refine lv_iload_n C.1 C.2.1 dX10_lowest_11 rfl (lv_at hl 1 rfl) ?_
    refine lv_bipush (v := 16) C.1 C.2.1 dX10_lowest_12 (by decide) ?_
    refine lv_icmp_ne (tgt := 24) C.1 C.2.1 dX10_lowest_14 (by decide) (fun q2 => ?_) (fun q2 => ?_)
    · replace h := (if_neg q2).symm.trans h
      refine lv_lload_n C.1 C.2.1 dX10_lowest_24 rfl (lv_at hl 0 rfl) ?_
      have h9 := Option.some.inj h
      subst h9
      exact r_lret C S hr hlocks dX10_lowest_25
    · replace h := (if_pos q2).symm.trans h
      refine lv_lload_n C.1 C.2.1 dX10_lowest_17 rfl (lv_at hl 0 rfl) ?_
      refine lv_l2i C.1 C.2.1 dX10_lowest_18 rfl ?_
      refine lv_i2s C.1 C.2.1 dX10_lowest_19 rfl ?_
      refine lv_i2l C.1 C.2.1 dX10_lowest_20 rfl ?_
      refine lv_goto (tgt := 25) C.1 C.2.1 dX10_lowest_21 (by decide) ?_
      have h9 := Option.some.inj h
      subst h9
      exact r_lret C S hr hlocks dX10_lowest_25
  · replace h := (if_pos q1).symm.trans h
    refine lv_lload_n C.1 C.2.1 dX10_lowest_6 rfl (lv_at hl 0 rfl) ?_
    refine lv_l2i C.1 C.2.1 dX10_lowest_7 rfl ?_
    refine lv_i2b C.1 C.2.1 dX10_lowest_8 rfl ?_
    refine lv_i2l C.1 C.2.1 dX10_lowest_9 rfl ?_
    have h9 := Option.some.inj h
    subst h9
    exact r_lret C S hr hlocks dX10_lowest_10
set_option maxHeartbeats 4000000 in
set_option maxRecDepth 100000 in
theorem k_X10_write {v1 : Int32} {v2 : Int32} {v3 : Int64}  {w : Wd} {rv : Int64 × Wd} (h : f_X10_write v1 v2 v3 w = some rv) : CL yX10_write cX10_write 7 2 44 (fun ad => [.ref (ad 0), .int v1, .int v2, .long v3]) w rv.1 rv.2 := by
  refine CL.of (by decide) ?_
  intro l D ad sx ca p e s m below meth c C S hr hlocks
  have hl := lv_entry ([.ref (ad 0), .int v1, .int v2, .long v3]) (n := 7) (Nat.le_of_ble_eq_true rfl)
  rw [lg_entry_eq]
  generalize (lg_sl ([.ref (ad 0), .int v1, .int v2, .long v3]) ++ List.replicate (7 - (lg_sl ([.ref (ad 0), .int v1, .int v2, .long v3])).length) Slot.unset).toArray = ls at hl ⊢
  have hl : lv_has ls 7 [(0, .ref (ad 0)), (1, .int v1), (2, .int v2), (3, .long v3)] := hl
  generalize ha9 : ([.ref (ad 0), .int v1, .int v2, .long v3] : List Value).toArray = args at C ⊢
  generalize s.heap = H at S ⊢
  generalize ([] : List Loc) = locs at S ⊢
  unfold f_X10_write at h
  refine lv_iload_n C.1 C.2.1 dX10_write_0 rfl (lv_at hl 1 rfl) ?_
  obtain ⟨o1, e2, h⟩ := Option.bind_eq_some_iff.mp h
  refine r_si C S hl (k_X10_isSheet e2) b_sb_RX10_279 [.int v1] rfl [] rfl rfl (Nat.le_of_ble_eq_true rfl) ⟨Nat.le_of_ble_eq_true rfl, Nat.le_of_ble_eq_true rfl⟩ dX10_write_1 (fun H locs S => ?_)
  refine lv_if_ne (tgt := 15) C.1 C.2.1 dX10_write_4 (by decide) (fun q3 => ?_) (fun q3 => ?_)
  · replace h := (if_neg q3).symm.trans h
    refine lv_aload_n C.1 C.2.1 dX10_write_15 rfl (lv_at hl 0 rfl) ?_
    refine r_getr C S o_0 cf_10 12 rfl (by decide) b_fl_RX10_82 dX10_write_16 ?_
    refine lv_iload_n C.1 C.2.1 dX10_write_19 rfl (lv_at hl 1 rfl) ?_
    obtain ⟨o4, e5, h⟩ := Option.bind_eq_some_iff.mp h
    refine r_vi C S hl o_15 cf_6 (k_X6_isMissing e5) b_vb_RX10_289 [.int v1] rfl [] rfl rfl (Nat.le_of_ble_eq_true rfl) ⟨Nat.le_of_ble_eq_true rfl, Nat.le_of_ble_eq_true rfl⟩ dX10_write_20 (fun H locs S => ?_)
    refine lv_if_eq (tgt := 35) C.1 C.2.1 dX10_write_23 (by decide) (fun q6 => ?_) (fun q6 => ?_)
    · replace h := (if_pos q6).symm.trans h
      refine lv_iload_n C.1 C.2.1 dX10_write_35 rfl (lv_at hl 2 rfl) ?_
      refine lv_iconst (v := 0) C.1 C.2.1 dX10_write_36 (by decide) ?_
      refine lv_aload_n C.1 C.2.1 dX10_write_37 rfl (lv_at hl 0 rfl) ?_
      refine r_getr C S o_0 cf_10 12 rfl (by decide) b_fl_RX10_82 dX10_write_38 ?_
      refine r_getr C S o_15 cf_6 2 rfl (by decide) b_fl_RX10_287 dX10_write_41 ?_
      refine lv_iload_n C.1 C.2.1 dX10_write_44 rfl (lv_at hl 1 rfl) ?_
      obtain ⟨g7, h⟩ := gd_some h
      refine r_iald C S a_75 g7 dX10_write_45 ?_
      refine lv_iconst (v := 1) C.1 C.2.1 dX10_write_46 (by decide) ?_
      refine lv_isub C.1 C.2.1 dX10_write_47 ?_
      obtain ⟨o8, e9, h⟩ := Option.bind_eq_some_iff.mp h
      refine r_si C S hl (k_X10_within e9) b_sb_RX10_90 [.int v2, .int 0, .int ((w.1 75 v1.toNatClampNeg) - 1)] rfl [] rfl rfl (Nat.le_of_ble_eq_true rfl) ⟨Nat.le_of_ble_eq_true rfl, Nat.le_of_ble_eq_true rfl⟩ dX10_write_48 (fun H locs S => ?_)
      refine lv_if_ne (tgt := 62) C.1 C.2.1 dX10_write_51 (by decide) (fun q10 => ?_) (fun q10 => ?_)
      · replace h := (if_neg q10).symm.trans h
        refine lv_aload_n C.1 C.2.1 dX10_write_62 rfl (lv_at hl 0 rfl) ?_
        refine r_getr C S o_0 cf_10 12 rfl (by decide) b_fl_RX10_82 dX10_write_63 ?_
        refine r_getr C S o_15 cf_6 0 rfl (by decide) b_fl_RX10_293 dX10_write_66 ?_
        refine lv_iload_n C.1 C.2.1 dX10_write_69 rfl (lv_at hl 1 rfl) ?_
        obtain ⟨g11, h⟩ := gd_some h
        refine r_aaldJ C S a_69 g11 dX10_write_70 ?_
        refine lv_iload_n C.1 C.2.1 dX10_write_71 rfl (lv_at hl 2 rfl) ?_
        obtain ⟨g12, h⟩ := gd_some h
        refine r_lald C S (a_J (inB_lt g11)) g12 dX10_write_72 ?_
        refine lv_lstore (lv' := [(5, .long (w.2 (70 + v1.toNatClampNeg) v2.toNatClampNeg)), (0, .ref (ad 0)), (1, .int v1), (2, .int v2), (3, .long v3)]) C.1 C.2.1 dX10_write_73 hl (by decide) rfl (fun ls hl => ?_)
        refine lv_aload_n C.1 C.2.1 dX10_write_75 rfl (lv_at hl 1 rfl) ?_
        refine r_getr C S o_0 cf_10 12 rfl (by decide) b_fl_RX10_82 dX10_write_76 ?_
        refine r_getr C S o_15 cf_6 0 rfl (by decide) b_fl_RX10_293 dX10_write_79 ?_
        refine lv_iload_n C.1 C.2.1 dX10_write_82 rfl (lv_at hl 2 rfl) ?_
        obtain ⟨g13, h⟩ := gd_some h
        refine r_aaldJ C S a_69 g13 dX10_write_83 ?_
        refine lv_iload_n C.1 C.2.1 dX10_write_84 rfl (lv_at hl 3 rfl) ?_
        refine lv_lload_n C.1 C.2.1 dX10_write_85 rfl (lv_at hl 4 rfl) ?_
        refine lv_aload_n C.1 C.2.1 dX10_write_86 rfl (lv_at hl 1 rfl) ?_
        refine r_getr C S o_0 cf_10 12 rfl (by decide) b_fl_RX10_82 dX10_write_87 ?_
        refine r_getr C S o_15 cf_6 1 rfl (by decide) b_fl_RX10_297 dX10_write_90 ?_
        refine lv_iload_n C.1 C.2.1 dX10_write_93 rfl (lv_at hl 2 rfl) ?_
        obtain ⟨g14, h⟩ := gd_some h
        refine r_iald C S a_74 g14 dX10_write_94 ?_
        obtain ⟨o15, e16, h⟩ := Option.bind_eq_some_iff.mp h
        refine r_sl C S hl (k_X10_lowest e16) b_sb_RX10_300 [.long v3, .int (w.1 74 v1.toNatClampNeg)] rfl [.int v2, .ref (ad (70 + v1.toNatClampNeg))] rfl rfl (Nat.le_of_ble_eq_true rfl) ⟨Nat.le_of_ble_eq_true rfl, Nat.le_of_ble_eq_true rfl⟩ dX10_write_95 (fun H locs S => ?_)
        obtain ⟨g17, h⟩ := gd_some h
        refine r_last C S (a_J (inB_lt g13)) g17 dX10_write_98 (fun H locs S => ?_)
        obtain ⟨w18, h, S⟩ := lw_S (P := fun y => St D ad ca s y H locs) h S
        refine lv_lload C.1 C.2.1 dX10_write_99 (lv_at hl 0 rfl) ?_
        have h9 := Option.some.inj h
        subst h9
        exact r_lret C S hr hlocks dX10_write_101
      · replace h := (if_pos q10).symm.trans h
        refine lv_aload_n C.1 C.2.1 dX10_write_54 rfl (lv_at hl 0 rfl) ?_
        refine r_ldc C (-1000000001) b_cn_RX10_94 dX10_write_55 ?_
        obtain ⟨o19, e20, h⟩ := Option.bind_eq_some_iff.mp h
        refine r_vi C S hl o_0 cf_10 (k_X10_finding e20) b_vb_RX10_95 [.int (-1000000001)] rfl [] rfl rfl (Nat.le_of_ble_eq_true rfl) ⟨Nat.le_of_ble_eq_true rfl, Nat.le_of_ble_eq_true rfl⟩ dX10_write_57 (fun H locs S => ?_)
        refine lv_i2l C.1 C.2.1 dX10_write_60 rfl ?_
        have h9 := Option.some.inj h
        subst h9
        exact r_lret C S hr hlocks dX10_write_61
    · replace h := (if_neg q6).symm.trans h
      refine lv_aload_n C.1 C.2.1 dX10_write_26 rfl (lv_at hl 0 rfl) ?_
      refine r_ldcw C (-1000000006) b_cn_RX10_292 dX10_write_27 ?_
      obtain ⟨o21, e22, h⟩ := Option.bind_eq_some_iff.mp h
      refine r_vi C S hl o_0 cf_10 (k_X10_finding e22) b_vb_RX10_95 [.int (-1000000006)] rfl [] rfl rfl (Nat.le_of_ble_eq_true rfl) ⟨Nat.le_of_ble_eq_true rfl, Nat.le_of_ble_eq_true rfl⟩ dX10_write_30 (fun H locs S => ?_)
      refine lv_i2l C.1 C.2.1 dX10_write_33 rfl ?_
      have h9 := Option.some.inj h
      subst h9
      exact r_lret C S hr hlocks dX10_write_34
  · replace h := (if_pos q3).symm.trans h
    refine lv_aload_n C.1 C.2.1 dX10_write_7 rfl (lv_at hl 0 rfl) ?_
    refine r_ldc C (-1000000001) b_cn_RX10_94 dX10_write_8 ?_
    obtain ⟨o23, e24, h⟩ := Option.bind_eq_some_iff.mp h
    refine r_vi C S hl o_0 cf_10 (k_X10_finding e24) b_vb_RX10_95 [.int (-1000000001)] rfl [] rfl rfl (Nat.le_of_ble_eq_true rfl) ⟨Nat.le_of_ble_eq_true rfl, Nat.le_of_ble_eq_true rfl⟩ dX10_write_10 (fun H locs S => ?_)
    refine lv_i2l C.1 C.2.1 dX10_write_13 rfl ?_
    have h9 := Option.some.inj h
    subst h9
    exact r_lret C S hr hlocks dX10_write_14
set_option maxHeartbeats 4000000 in
set_option maxRecDepth 100000 in
theorem k_X6_hasPart {v1 : Int32} {v2 : Int32} {v3 : Int32}  {w : Wd} {rv : Int32} (h : f_X6_hasPart v1 v2 v3 w = some rv) : CI yX6_hasPart cX6_hasPart 4 .boolean 0 0 (fun ad => [.ref (ad 15), .int v1, .int v2, .int v3]) w rv w := by
  refine CI.of (by decide) ?_
  intro l D ad sx ca p e s m below meth c C S hr hlocks
  have hl := lv_entry ([.ref (ad 15), .int v1, .int v2, .int v3]) (n := 4) (Nat.le_of_ble_eq_true rfl)
  rw [lg_entry_eq]
  generalize (lg_sl ([.ref (ad 15), .int v1, .int v2, .int v3]) ++ List.replicate (4 - (lg_sl ([.ref (ad 15), .int v1, .int v2, .int v3])).length) Slot.unset).toArray = ls at hl ⊢
  have hl : lv_has ls 4 [(0, .ref (ad 15)), (1, .int v1), (2, .int v2), (3, .int v3)] := hl
  generalize ha9 : ([.ref (ad 15), .int v1, .int v2, .int v3] : List Value).toArray = args at C ⊢
  generalize s.heap = H at S ⊢
  generalize ([] : List Loc) = locs at S ⊢
  unfold f_X6_hasPart at h
  refine lv_iload_n C.1 C.2.1 dX6_hasPart_0 rfl (lv_at hl 2 rfl) ?_
  refine lv_if_lt (tgt := 34) C.1 C.2.1 dX6_hasPart_1 (by decide) (fun q1 => ?_) (fun q1 => ?_)
  · replace h := (if_pos q1).symm.trans h
    refine lv_iconst (v := 0) C.1 C.2.1 dX6_hasPart_34 (by decide) ?_
    have h9 := Option.some.inj h
    subst h9
    exact r_zret C S hr hlocks (Or.inl rfl) dX6_hasPart_35
  · replace h := (if_neg q1).symm.trans h
    refine lv_iload_n C.1 C.2.1 dX6_hasPart_4 rfl (lv_at hl 3 rfl) ?_
    refine lv_if_lt (tgt := 34) C.1 C.2.1 dX6_hasPart_5 (by decide) (fun q2 => ?_) (fun q2 => ?_)
    · replace h := (if_pos q2).symm.trans h
      refine lv_iconst (v := 0) C.1 C.2.1 dX6_hasPart_34 (by decide) ?_
      have h9 := Option.some.inj h
      subst h9
      exact r_zret C S hr hlocks (Or.inl rfl) dX6_hasPart_35
    · replace h := (if_neg q2).symm.trans h
      refine lv_iload_n C.1 C.2.1 dX6_hasPart_8 rfl (lv_at hl 2 rfl) ?_
      refine lv_aload_n C.1 C.2.1 dX6_hasPart_9 rfl (lv_at hl 0 rfl) ?_
      refine r_getr C S o_15 cf_6 2 rfl (by decide) b_fl_RX6_20 dX6_hasPart_10 ?_
      refine lv_iload_n C.1 C.2.1 dX6_hasPart_13 rfl (lv_at hl 1 rfl) ?_
      obtain ⟨g3, h⟩ := gd_some h
      refine r_iald C S a_75 g3 dX6_hasPart_14 ?_
      refine lv_icmp_gt (tgt := 34) C.1 C.2.1 dX6_hasPart_15 (by decide) (fun q4 => ?_) (fun q4 => ?_)
      · replace h := (if_pos q4).symm.trans h
        refine lv_iconst (v := 0) C.1 C.2.1 dX6_hasPart_34 (by decide) ?_
        have h9 := Option.some.inj h
        subst h9
        exact r_zret C S hr hlocks (Or.inl rfl) dX6_hasPart_35
      · replace h := (if_neg q4).symm.trans h
        refine lv_iload_n C.1 C.2.1 dX6_hasPart_18 rfl (lv_at hl 3 rfl) ?_
        refine lv_aload_n C.1 C.2.1 dX6_hasPart_19 rfl (lv_at hl 0 rfl) ?_
        refine r_getr C S o_15 cf_6 2 rfl (by decide) b_fl_RX6_20 dX6_hasPart_20 ?_
        refine lv_iload_n C.1 C.2.1 dX6_hasPart_23 rfl (lv_at hl 1 rfl) ?_
        obtain ⟨g5, h⟩ := gd_some h
        refine r_iald C S a_75 g5 dX6_hasPart_24 ?_
        refine lv_iload_n C.1 C.2.1 dX6_hasPart_25 rfl (lv_at hl 2 rfl) ?_
        refine lv_isub C.1 C.2.1 dX6_hasPart_26 ?_
        refine lv_icmp_gt (tgt := 34) C.1 C.2.1 dX6_hasPart_27 (by decide) (fun q6 => ?_) (fun q6 => ?_)
        · replace h := (if_pos q6).symm.trans h
          refine lv_iconst (v := 0) C.1 C.2.1 dX6_hasPart_34 (by decide) ?_
          have h9 := Option.some.inj h
          subst h9
          exact r_zret C S hr hlocks (Or.inl rfl) dX6_hasPart_35
        · replace h := (if_neg q6).symm.trans h
          refine lv_iconst (v := 1) C.1 C.2.1 dX6_hasPart_30 (by decide) ?_
          refine lv_goto (tgt := 35) C.1 C.2.1 dX6_hasPart_31 (by decide) ?_
          have h9 := Option.some.inj h
          subst h9
          exact r_zret C S hr hlocks (Or.inr rfl) dX6_hasPart_35

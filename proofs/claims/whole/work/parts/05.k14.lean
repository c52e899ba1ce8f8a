set_option maxHeartbeats 4000000 in
set_option maxRecDepth 100000 in
theorem k_X11_turn {v1 : Int32} {v2 : Int32}  {w : Wd} {rv : Int32 × Wd} (h : f_X11_turn v1 v2 w = some rv) : CI yX11_turn cX11_turn 3 .int 2 46 (fun ad => [.ref (ad 76), .int v1, .int v2]) w rv.1 rv.2 := by
  refine CI.of (by decide) ?_
  intro l D ad sx ca p e s m below meth c C S hr hlocks
  have hl := lv_entry ([.ref (ad 76), .int v1, .int v2]) (n := 3) (Nat.le_of_ble_eq_true rfl)
  rw [lg_entry_eq]
  generalize (lg_sl ([.ref (ad 76), .int v1, .int v2]) ++ List.replicate (3 - (lg_sl ([.ref (ad 76), .int v1, .int v2])).length) Slot.unset).toArray = ls at hl ⊢
  have hl : lv_has ls 3 [(0, .ref (ad 76)), (1, .int v1), (2, .int v2)] := hl
  generalize ha9 : ([.ref (ad 76), .int v1, .int v2] : List Value).toArray = args at C ⊢
  generalize s.heap = H at S ⊢
  generalize ([] : List Loc) = locs at S ⊢
  unfold f_X11_turn at h
  refine lv_aload_n C.1 C.2.1 dX11_turn_0 rfl (lv_at hl 0 rfl) ?_
  refine lv_iload_n C.1 C.2.1 dX11_turn_1 rfl (lv_at hl 1 rfl) ?_
  obtain ⟨o1, e2, h⟩ := Option.bind_eq_some_iff.mp h
  refine r_vi C S hl o_76 cf_11 (k_X11_isFlat e2) b_vb_RX11_141 [.int v1] rfl [] rfl rfl (by decide) ⟨Nat.le_of_ble_eq_true rfl, Nat.le_of_ble_eq_true rfl⟩ dX11_turn_2 (fun H locs S => ?_)
  refine lv_if_eq (tgt := 18) C.1 C.2.1 dX11_turn_5 (by decide) (fun q3 => ?_) (fun q3 => ?_)
  · replace h := (if_pos q3).symm.trans h
    refine lv_aload_n C.1 C.2.1 dX11_turn_18 rfl (lv_at hl 0 rfl) ?_
    refine r_ldc C (-1000000001) b_cn_RX11_92 dX11_turn_19 ?_
    obtain ⟨o4, e5, h⟩ := Option.bind_eq_some_iff.mp h
    refine r_vi C S hl o_76 cf_11 (k_X11_finds e5) b_vb_RX11_109 [.int (-1000000001)] rfl [] rfl rfl (by decide) ⟨Nat.le_of_ble_eq_true rfl, Nat.le_of_ble_eq_true rfl⟩ dX11_turn_21 (fun H locs S => ?_)
    cases h
    exact r_iret C S hr hlocks dX11_turn_24
  · replace h := (if_neg q3).symm.trans h
    refine lv_iload_n C.1 C.2.1 dX11_turn_8 rfl (lv_at hl 2 rfl) ?_
    refine lv_iconst (v := 0) C.1 C.2.1 dX11_turn_9 (by decide) ?_
    refine lv_bipush (v := 8) C.1 C.2.1 dX11_turn_10 (by decide) ?_
    obtain ⟨o6, e7, h⟩ := Option.bind_eq_some_iff.mp h
    refine r_si C S hl (k_X11_in e7) b_sb_RX11_97 [.int v2, .int 0, .int 8] rfl [] rfl rfl (by decide) ⟨Nat.le_of_ble_eq_true rfl, Nat.le_of_ble_eq_true rfl⟩ dX11_turn_12 (fun H locs S => ?_)
    refine lv_if_ne (tgt := 25) C.1 C.2.1 dX11_turn_15 (by decide) (fun q8 => ?_) (fun q8 => ?_)
    · replace h := (if_neg q8).symm.trans h
      refine lv_aload_n C.1 C.2.1 dX11_turn_25 rfl (lv_at hl 0 rfl) ?_
      refine lv_iload_n C.1 C.2.1 dX11_turn_26 rfl (lv_at hl 1 rfl) ?_
      refine lv_iconst (v := 4) C.1 C.2.1 dX11_turn_27 (by decide) ?_
      obtain ⟨o9, e10, h⟩ := Option.bind_eq_some_iff.mp h
      refine r_vi C S hl o_76 cf_11 (k_X11_get e10) b_vb_RX11_101 [.int v1, .int 4] rfl [] rfl rfl (by decide) ⟨Nat.le_of_ble_eq_true rfl, Nat.le_of_ble_eq_true rfl⟩ dX11_turn_28 (fun H locs S => ?_)
      refine lv_iconst (v := 1) C.1 C.2.1 dX11_turn_31 (by decide) ?_
      refine lv_icmp_ne (tgt := 44) C.1 C.2.1 dX11_turn_32 (by decide) (fun q11 => ?_) (fun q11 => ?_)
      · replace h := (if_neg q11).symm.trans h
        refine lv_aload_n C.1 C.2.1 dX11_turn_44 rfl (lv_at hl 0 rfl) ?_
        refine lv_iload_n C.1 C.2.1 dX11_turn_45 rfl (lv_at hl 1 rfl) ?_
        refine lv_iconst (v := 3) C.1 C.2.1 dX11_turn_46 (by decide) ?_
        refine lv_iload_n C.1 C.2.1 dX11_turn_47 rfl (lv_at hl 2 rfl) ?_
        obtain ⟨o12, e13, h⟩ := Option.bind_eq_some_iff.mp h
        refine r_vi C S hl o_76 cf_11 (k_X11_becomes e13) b_vb_RX11_154 [.int v1, .int 3, .int v2] rfl [] rfl rfl (by decide) ⟨Nat.le_of_ble_eq_true rfl, Nat.le_of_ble_eq_true rfl⟩ dX11_turn_48 (fun H locs S => ?_)
        cases h
        exact r_iret C S hr hlocks dX11_turn_51
      · replace h := (if_pos q11).symm.trans h
        refine lv_aload_n C.1 C.2.1 dX11_turn_35 rfl (lv_at hl 0 rfl) ?_
        refine r_ldc C (-1000000005) b_cn_RX11_153 dX11_turn_36 ?_
        obtain ⟨o14, e15, h⟩ := Option.bind_eq_some_iff.mp h
        refine r_vi C S hl o_76 cf_11 (k_X11_finds e15) b_vb_RX11_109 [.int (-1000000005)] rfl [] rfl rfl (by decide) ⟨Nat.le_of_ble_eq_true rfl, Nat.le_of_ble_eq_true rfl⟩ dX11_turn_38 (fun H locs S => ?_)
        refine lv_goto (tgt := 51) C.1 C.2.1 dX11_turn_41 (by decide) ?_
        cases h
        exact r_iret C S hr hlocks dX11_turn_51
    · replace h := (if_pos q8).symm.trans h
      refine lv_aload_n C.1 C.2.1 dX11_turn_18 rfl (lv_at hl 0 rfl) ?_
      refine r_ldc C (-1000000001) b_cn_RX11_92 dX11_turn_19 ?_
      obtain ⟨o16, e17, h⟩ := Option.bind_eq_some_iff.mp h
      refine r_vi C S hl o_76 cf_11 (k_X11_finds e17) b_vb_RX11_109 [.int (-1000000001)] rfl [] rfl rfl (by decide) ⟨Nat.le_of_ble_eq_true rfl, Nat.le_of_ble_eq_true rfl⟩ dX11_turn_21 (fun H locs S => ?_)
      cases h
      exact r_iret C S hr hlocks dX11_turn_24
set_option maxHeartbeats 4000000 in
set_option maxRecDepth 100000 in
theorem k_X11_hold {v1 : Int32} {v2 : Int32}  {w : Wd} {rv : Int32 × Wd} (h : f_X11_hold v1 v2 w = some rv) : CI yX11_hold cX11_hold 3 .int 2 46 (fun ad => [.ref (ad 76), .int v1, .int v2]) w rv.1 rv.2 := by
  refine CI.of (by decide) ?_
  intro l D ad sx ca p e s m below meth c C S hr hlocks
  have hl := lv_entry ([.ref (ad 76), .int v1, .int v2]) (n := 3) (Nat.le_of_ble_eq_true rfl)
  rw [lg_entry_eq]
  generalize (lg_sl ([.ref (ad 76), .int v1, .int v2]) ++ List.replicate (3 - (lg_sl ([.ref (ad 76), .int v1, .int v2])).length) Slot.unset).toArray = ls at hl ⊢
  have hl : lv_has ls 3 [(0, .ref (ad 76)), (1, .int v1), (2, .int v2)] := hl
  generalize ha9 : ([.ref (ad 76), .int v1, .int v2] : List Value).toArray = args at C ⊢
  generalize s.heap = H at S ⊢
  generalize ([] : List Loc) = locs at S ⊢
  unfold f_X11_hold at h
  refine lv_aload_n C.1 C.2.1 dX11_hold_0 rfl (lv_at hl 0 rfl) ?_
  refine lv_iload_n C.1 C.2.1 dX11_hold_1 rfl (lv_at hl 1 rfl) ?_
  obtain ⟨o1, e2, h⟩ := Option.bind_eq_some_iff.mp h
  refine r_vi C S hl o_76 cf_11 (k_X11_isFlat e2) b_vb_RX11_141 [.int v1] rfl [] rfl rfl (by decide) ⟨Nat.le_of_ble_eq_true rfl, Nat.le_of_ble_eq_true rfl⟩ dX11_hold_2 (fun H locs S => ?_)
  refine lv_if_eq (tgt := 26) C.1 C.2.1 dX11_hold_5 (by decide) (fun q3 => ?_) (fun q3 => ?_)
  · replace h := (if_pos q3).symm.trans h
    refine lv_aload_n C.1 C.2.1 dX11_hold_26 rfl (lv_at hl 0 rfl) ?_
    refine r_ldc C (-1000000001) b_cn_RX11_92 dX11_hold_27 ?_
    obtain ⟨o4, e5, h⟩ := Option.bind_eq_some_iff.mp h
    refine r_vi C S hl o_76 cf_11 (k_X11_finds e5) b_vb_RX11_109 [.int (-1000000001)] rfl [] rfl rfl (by decide) ⟨Nat.le_of_ble_eq_true rfl, Nat.le_of_ble_eq_true rfl⟩ dX11_hold_29 (fun H locs S => ?_)
    cases h
    exact r_iret C S hr hlocks dX11_hold_32
  · replace h := (if_neg q3).symm.trans h
    refine lv_aload_n C.1 C.2.1 dX11_hold_8 rfl (lv_at hl 0 rfl) ?_
    refine lv_iload_n C.1 C.2.1 dX11_hold_9 rfl (lv_at hl 1 rfl) ?_
    refine lv_iconst (v := 4) C.1 C.2.1 dX11_hold_10 (by decide) ?_
    refine lv_iload_n C.1 C.2.1 dX11_hold_11 rfl (lv_at hl 2 rfl) ?_
    refine lv_if_eq (tgt := 19) C.1 C.2.1 dX11_hold_12 (by decide) (fun q6 => ?_) (fun q6 => ?_)
    · replace h := (if_pos q6).symm.trans h
      refine lv_iconst (v := 0) C.1 C.2.1 dX11_hold_19 (by decide) ?_
      obtain ⟨o7, e8, h⟩ := Option.bind_eq_some_iff.mp h
      refine r_vi C S hl o_76 cf_11 (k_X11_becomes e8) b_vb_RX11_154 [.int v1, .int 4, .int 0] rfl [] rfl rfl (by decide) ⟨Nat.le_of_ble_eq_true rfl, Nat.le_of_ble_eq_true rfl⟩ dX11_hold_20 (fun H locs S => ?_)
      refine lv_goto (tgt := 32) C.1 C.2.1 dX11_hold_23 (by decide) ?_
      cases h
      exact r_iret C S hr hlocks dX11_hold_32
    · replace h := (if_neg q6).symm.trans h
      refine lv_iconst (v := 1) C.1 C.2.1 dX11_hold_15 (by decide) ?_
      refine lv_goto (tgt := 20) C.1 C.2.1 dX11_hold_16 (by decide) ?_
      obtain ⟨o9, e10, h⟩ := Option.bind_eq_some_iff.mp h
      refine r_vi C S hl o_76 cf_11 (k_X11_becomes e10) b_vb_RX11_154 [.int v1, .int 4, .int 1] rfl [] rfl rfl (by decide) ⟨Nat.le_of_ble_eq_true rfl, Nat.le_of_ble_eq_true rfl⟩ dX11_hold_20 (fun H locs S => ?_)
      refine lv_goto (tgt := 32) C.1 C.2.1 dX11_hold_23 (by decide) ?_
      cases h
      exact r_iret C S hr hlocks dX11_hold_32
set_option maxHeartbeats 4000000 in
set_option maxRecDepth 100000 in
theorem k_X11_window {v1 : Int32} {v2 : Int32}  {w : Wd} {rv : Int32 × Wd} (h : f_X11_window v1 v2 w = some rv) : CI yX11_window cX11_window 3 .int 2 46 (fun ad => [.ref (ad 76), .int v1, .int v2]) w rv.1 rv.2 := by
  refine CI.of (by decide) ?_
  intro l D ad sx ca p e s m below meth c C S hr hlocks
  have hl := lv_entry ([.ref (ad 76), .int v1, .int v2]) (n := 3) (Nat.le_of_ble_eq_true rfl)
  rw [lg_entry_eq]
  generalize (lg_sl ([.ref (ad 76), .int v1, .int v2]) ++ List.replicate (3 - (lg_sl ([.ref (ad 76), .int v1, .int v2])).length) Slot.unset).toArray = ls at hl ⊢
  have hl : lv_has ls 3 [(0, .ref (ad 76)), (1, .int v1), (2, .int v2)] := hl
  generalize ha9 : ([.ref (ad 76), .int v1, .int v2] : List Value).toArray = args at C ⊢
  generalize s.heap = H at S ⊢
  generalize ([] : List Loc) = locs at S ⊢
  unfold f_X11_window at h
  refine lv_aload_n C.1 C.2.1 dX11_window_0 rfl (lv_at hl 0 rfl) ?_
  refine lv_iload_n C.1 C.2.1 dX11_window_1 rfl (lv_at hl 1 rfl) ?_
  obtain ⟨o1, e2, h⟩ := Option.bind_eq_some_iff.mp h
  refine r_vi C S hl o_76 cf_11 (k_X11_isFlat e2) b_vb_RX11_141 [.int v1] rfl [] rfl rfl (by decide) ⟨Nat.le_of_ble_eq_true rfl, Nat.le_of_ble_eq_true rfl⟩ dX11_window_2 (fun H locs S => ?_)
  refine lv_if_eq (tgt := 26) C.1 C.2.1 dX11_window_5 (by decide) (fun q3 => ?_) (fun q3 => ?_)
  · replace h := (if_pos q3).symm.trans h
    refine lv_aload_n C.1 C.2.1 dX11_window_26 rfl (lv_at hl 0 rfl) ?_
    refine r_ldc C (-1000000001) b_cn_RX11_92 dX11_window_27 ?_
    obtain ⟨o4, e5, h⟩ := Option.bind_eq_some_iff.mp h
    refine r_vi C S hl o_76 cf_11 (k_X11_finds e5) b_vb_RX11_109 [.int (-1000000001)] rfl [] rfl rfl (by decide) ⟨Nat.le_of_ble_eq_true rfl, Nat.le_of_ble_eq_true rfl⟩ dX11_window_29 (fun H locs S => ?_)
    cases h
    exact r_iret C S hr hlocks dX11_window_32
  · replace h := (if_neg q3).symm.trans h
    refine lv_aload_n C.1 C.2.1 dX11_window_8 rfl (lv_at hl 0 rfl) ?_
    refine lv_iload_n C.1 C.2.1 dX11_window_9 rfl (lv_at hl 1 rfl) ?_
    refine lv_iconst (v := 5) C.1 C.2.1 dX11_window_10 (by decide) ?_
    refine lv_iload_n C.1 C.2.1 dX11_window_11 rfl (lv_at hl 2 rfl) ?_
    refine lv_if_eq (tgt := 19) C.1 C.2.1 dX11_window_12 (by decide) (fun q6 => ?_) (fun q6 => ?_)
    · replace h := (if_pos q6).symm.trans h
      refine lv_iconst (v := 0) C.1 C.2.1 dX11_window_19 (by decide) ?_
      obtain ⟨o7, e8, h⟩ := Option.bind_eq_some_iff.mp h
      refine r_vi C S hl o_76 cf_11 (k_X11_becomes e8) b_vb_RX11_154 [.int v1, .int 5, .int 0] rfl [] rfl rfl (by decide) ⟨Nat.le_of_ble_eq_true rfl, Nat.le_of_ble_eq_true rfl⟩ dX11_window_20 (fun H locs S => ?_)
      refine lv_goto (tgt := 32) C.1 C.2.1 dX11_window_23 (by decide) ?_
      cases h
      exact r_iret C S hr hlocks dX11_window_32
    · replace h := (if_neg q6).symm.trans h
      refine lv_iconst (v := 1) C.1 C.2.1 dX11_window_15 (by decide) ?_
      refine lv_goto (tgt := 20) C.1 C.2.1 dX11_window_16 (by decide) ?_
      obtain ⟨o9, e10, h⟩ := Option.bind_eq_some_iff.mp h
      refine r_vi C S hl o_76 cf_11 (k_X11_becomes e10) b_vb_RX11_154 [.int v1, .int 5, .int 1] rfl [] rfl rfl (by decide) ⟨Nat.le_of_ble_eq_true rfl, Nat.le_of_ble_eq_true rfl⟩ dX11_window_20 (fun H locs S => ?_)
      refine lv_goto (tgt := 32) C.1 C.2.1 dX11_window_23 (by decide) ?_
      cases h
      exact r_iret C S hr hlocks dX11_window_32
set_option maxHeartbeats 4000000 in
set_option maxRecDepth 100000 in
theorem k_X11_drift {v1 : Int32} {v2 : Int32}  {w : Wd} {rv : Int32 × Wd} (h : f_X11_drift v1 v2 w = some rv) : CI yX11_drift cX11_drift 3 .int 2 46 (fun ad => [.ref (ad 76), .int v1, .int v2]) w rv.1 rv.2 := by
  refine CI.of (by decide) ?_
  intro l D ad sx ca p e s m below meth c C S hr hlocks
  have hl := lv_entry ([.ref (ad 76), .int v1, .int v2]) (n := 3) (Nat.le_of_ble_eq_true rfl)
  rw [lg_entry_eq]
  generalize (lg_sl ([.ref (ad 76), .int v1, .int v2]) ++ List.replicate (3 - (lg_sl ([.ref (ad 76), .int v1, .int v2])).length) Slot.unset).toArray = ls at hl ⊢
  have hl : lv_has ls 3 [(0, .ref (ad 76)), (1, .int v1), (2, .int v2)] := hl
  generalize ha9 : ([.ref (ad 76), .int v1, .int v2] : List Value).toArray = args at C ⊢
  generalize s.heap = H at S ⊢
  generalize ([] : List Loc) = locs at S ⊢
  unfold f_X11_drift at h
  refine lv_aload_n C.1 C.2.1 dX11_drift_0 rfl (lv_at hl 0 rfl) ?_
  refine lv_iload_n C.1 C.2.1 dX11_drift_1 rfl (lv_at hl 1 rfl) ?_
  obtain ⟨o1, e2, h⟩ := Option.bind_eq_some_iff.mp h
  refine r_vi C S hl o_76 cf_11 (k_X11_isFlat e2) b_vb_RX11_141 [.int v1] rfl [] rfl rfl (by decide) ⟨Nat.le_of_ble_eq_true rfl, Nat.le_of_ble_eq_true rfl⟩ dX11_drift_2 (fun H locs S => ?_)
  refine lv_if_eq (tgt := 30) C.1 C.2.1 dX11_drift_5 (by decide) (fun q3 => ?_) (fun q3 => ?_)
  · replace h := (if_pos q3).symm.trans h
    refine lv_aload_n C.1 C.2.1 dX11_drift_30 rfl (lv_at hl 0 rfl) ?_
    refine r_ldc C (-1000000001) b_cn_RX11_92 dX11_drift_31 ?_
    obtain ⟨o4, e5, h⟩ := Option.bind_eq_some_iff.mp h
    refine r_vi C S hl o_76 cf_11 (k_X11_finds e5) b_vb_RX11_109 [.int (-1000000001)] rfl [] rfl rfl (by decide) ⟨Nat.le_of_ble_eq_true rfl, Nat.le_of_ble_eq_true rfl⟩ dX11_drift_33 (fun H locs S => ?_)
    cases h
    exact r_iret C S hr hlocks dX11_drift_36
  · replace h := (if_neg q3).symm.trans h
    refine lv_iload_n C.1 C.2.1 dX11_drift_8 rfl (lv_at hl 2 rfl) ?_
    refine lv_iconst (v := 0) C.1 C.2.1 dX11_drift_9 (by decide) ?_
    refine lv_sipush (v := 200) C.1 C.2.1 dX11_drift_10 (by decide) ?_
    obtain ⟨o6, e7, h⟩ := Option.bind_eq_some_iff.mp h
    refine r_si C S hl (k_X11_in e7) b_sb_RX11_97 [.int v2, .int 0, .int 200] rfl [] rfl rfl (by decide) ⟨Nat.le_of_ble_eq_true rfl, Nat.le_of_ble_eq_true rfl⟩ dX11_drift_13 (fun H locs S => ?_)
    refine lv_if_eq (tgt := 30) C.1 C.2.1 dX11_drift_16 (by decide) (fun q8 => ?_) (fun q8 => ?_)
    · replace h := (if_pos q8).symm.trans h
      refine lv_aload_n C.1 C.2.1 dX11_drift_30 rfl (lv_at hl 0 rfl) ?_
      refine r_ldc C (-1000000001) b_cn_RX11_92 dX11_drift_31 ?_
      obtain ⟨o9, e10, h⟩ := Option.bind_eq_some_iff.mp h
      refine r_vi C S hl o_76 cf_11 (k_X11_finds e10) b_vb_RX11_109 [.int (-1000000001)] rfl [] rfl rfl (by decide) ⟨Nat.le_of_ble_eq_true rfl, Nat.le_of_ble_eq_true rfl⟩ dX11_drift_33 (fun H locs S => ?_)
      cases h
      exact r_iret C S hr hlocks dX11_drift_36
    · replace h := (if_neg q8).symm.trans h
      refine lv_aload_n C.1 C.2.1 dX11_drift_19 rfl (lv_at hl 0 rfl) ?_
      refine lv_iload_n C.1 C.2.1 dX11_drift_20 rfl (lv_at hl 1 rfl) ?_
      refine lv_bipush (v := 10) C.1 C.2.1 dX11_drift_21 (by decide) ?_
      refine lv_iload_n C.1 C.2.1 dX11_drift_23 rfl (lv_at hl 2 rfl) ?_
      obtain ⟨o11, e12, h⟩ := Option.bind_eq_some_iff.mp h
      refine r_vi C S hl o_76 cf_11 (k_X11_becomes e12) b_vb_RX11_154 [.int v1, .int 10, .int v2] rfl [] rfl rfl (by decide) ⟨Nat.le_of_ble_eq_true rfl, Nat.le_of_ble_eq_true rfl⟩ dX11_drift_24 (fun H locs S => ?_)
      refine lv_goto (tgt := 36) C.1 C.2.1 dX11_drift_27 (by decide) ?_
      cases h
      exact r_iret C S hr hlocks dX11_drift_36
set_option maxHeartbeats 4000000 in
set_option maxRecDepth 100000 in
theorem k_X11_anHour_L13 {p : Program} {l : Launch} {e : Env} {s : State} {m : MethodId} {args : Array Value} {below : List Frame} {meth : Method} {c : Code} {D : va_G} {ad sx : Nat → Nat} {ca : Nat → ClassId} (C : Cx D ad sx ca p s m c args RX11 cX11_anHour 3) {Q : State → Prop} {w : Wd}   : ∀ (n : Nat) (z : Int32 × Wd) (o : Int32 × Wd), lp (f_X11_anHour_L13) n z = some o → (∀ (ls : Array Slot) (H : Heap) (locs : List Loc), lv_has ls 3 [(0, .ref (ad 76))] → St D ad ca s o.2 H locs → W p l e (RM 2 46) s m args below meth c H locs 0 0 Q (F0 m 117 ls [])) → (∀ (ls : Array Slot) (H : Heap) (locs : List Loc), lv_has ls 3 [(0, .ref (ad 76)), (1, .int z.1)] → St D ad ca s z.2 H locs → W p l e (RM 2 46) s m args below meth c H locs 0 0 Q (F0 m 13 ls [])) := by
  refine lp_W (HW := fun z => ∀ (ls : Array Slot) (H : Heap) (locs : List Loc), lv_has ls 3 [(0, .ref (ad 76)), (1, .int z.1)] → St D ad ca s z.2 H locs → W p l e (RM 2 46) s m args below meth c H locs 0 0 Q (F0 m 13 ls [])) (XW := fun o => ∀ (ls : Array Slot) (H : Heap) (locs : List Loc), lv_has ls 3 [(0, .ref (ad 76))] → St D ad ca s o.2 H locs → W p l e (RM 2 46) s m args below meth c H locs 0 0 Q (F0 m 117 ls [])) ?_
  intro z x h hN hX ls H locs hl S
  unfold f_X11_anHour_L13 at h
  refine lv_iload_n C.1 C.2.1 dX11_anHour_13 rfl (lv_at hl 1 rfl) ?_
  refine lv_aload_n C.1 C.2.1 dX11_anHour_14 rfl (lv_at hl 0 rfl) ?_
  refine r_getr C S o_76 cf_11 0 rfl (by decide) b_fl_RX11_9 dX11_anHour_15 ?_
  refine lv_iconst (v := 4) C.1 C.2.1 dX11_anHour_18 (by decide) ?_
  refine r_iald C S a_77 (by decide) dX11_anHour_19 ?_
  refine lv_icmp_ge (tgt := 117) C.1 C.2.1 dX11_anHour_20 (by decide) (fun q3 => ?_) (fun q3 => ?_)
  · replace h := (if_pos q3).symm.trans h
    exact hX _ (Option.some.inj h).symm _ _ _ (lv_sub hl [0] rfl) S
  · replace h := (if_neg q3).symm.trans h
    refine lv_bipush (v := 7) C.1 C.2.1 dX11_anHour_23 (by decide) ?_
    refine lv_bipush (v := 11) C.1 C.2.1 dX11_anHour_25 (by decide) ?_
    refine lv_iload_n C.1 C.2.1 dX11_anHour_27 rfl (lv_at hl 1 rfl) ?_
    refine lv_imul C.1 C.2.1 dX11_anHour_28 ?_
    refine lv_iadd C.1 C.2.1 dX11_anHour_29 ?_
    refine lv_istore_n (lv' := [(2, .int (7 + (11 * z.1))), (0, .ref (ad 76)), (1, .int z.1)]) C.1 C.2.1 dX11_anHour_30 rfl hl (by decide) rfl (fun ls hl => ?_)
    refine lv_aload_n C.1 C.2.1 dX11_anHour_31 rfl (lv_at hl 1 rfl) ?_
    refine r_getr C S o_76 cf_11 0 rfl (by decide) b_fl_RX11_9 dX11_anHour_32 ?_
    refine lv_iload_n C.1 C.2.1 dX11_anHour_35 rfl (lv_at hl 0 rfl) ?_
    refine lv_bipush (v := 6) C.1 C.2.1 dX11_anHour_36 (by decide) ?_
    refine lv_iadd C.1 C.2.1 dX11_anHour_38 ?_
    refine lv_aload_n C.1 C.2.1 dX11_anHour_39 rfl (lv_at hl 1 rfl) ?_
    refine r_getr C S o_76 cf_11 13 rfl (by decide) b_fl_RX11_43 dX11_anHour_40 ?_
    refine lv_iload_n C.1 C.2.1 dX11_anHour_43 rfl (lv_at hl 2 rfl) ?_
    obtain ⟨g4, h⟩ := gd_some h
    refine r_iald C S a_88 g4 dX11_anHour_44 ?_
    obtain ⟨g5, h⟩ := gd_some h
    refine r_iast C S a_77 g5 dX11_anHour_45 (fun H locs S => ?_)
    refine lv_aload_n C.1 C.2.1 dX11_anHour_46 rfl (lv_at hl 1 rfl) ?_
    refine r_getr C S o_76 cf_11 0 rfl (by decide) b_fl_RX11_9 dX11_anHour_47 ?_
    refine lv_iload_n C.1 C.2.1 dX11_anHour_50 rfl (lv_at hl 0 rfl) ?_
    refine lv_bipush (v := 7) C.1 C.2.1 dX11_anHour_51 (by decide) ?_
    refine lv_iadd C.1 C.2.1 dX11_anHour_53 ?_
    refine lv_dup2_11 C.1 C.2.1 dX11_anHour_54 rfl rfl ?_
    obtain ⟨g6, h⟩ := gd_some h
    refine r_iald C S a_77 g6 dX11_anHour_55 ?_
    refine lv_aload_n C.1 C.2.1 dX11_anHour_56 rfl (lv_at hl 1 rfl) ?_
    refine r_getr C S o_76 cf_11 15 rfl (by decide) b_fl_RX11_49 dX11_anHour_57 ?_
    refine lv_iload_n C.1 C.2.1 dX11_anHour_60 rfl (lv_at hl 2 rfl) ?_
    obtain ⟨g7, h⟩ := gd_some h
    refine r_iald C S a_90 g7 dX11_anHour_61 ?_
    refine lv_aload_n C.1 C.2.1 dX11_anHour_62 rfl (lv_at hl 1 rfl) ?_
    refine lv_iload_n C.1 C.2.1 dX11_anHour_63 rfl (lv_at hl 2 rfl) ?_
    refine lv_bipush (v := 10) C.1 C.2.1 dX11_anHour_64 (by decide) ?_
    obtain ⟨o8, e9, h⟩ := Option.bind_eq_some_iff.mp h
    refine r_vi C S hl o_76 cf_11 (k_X11_get e9) b_vb_RX11_101 [.int z.1, .int 10] rfl [.int ((si z.2 77 ((7 + (11 * z.1)) + 6).toNatClampNeg (z.2.1 88 z.1.toNatClampNeg)).1 90 z.1.toNatClampNeg), .int ((si z.2 77 ((7 + (11 * z.1)) + 6).toNatClampNeg (z.2.1 88 z.1.toNatClampNeg)).1 77 (((7 + (11 * z.1)) + 7).toNatClampNeg)), .int ((7 + (11 * z.1)) + 7), .ref (ad 77)] rfl rfl (by decide) ⟨Nat.le_of_ble_eq_true rfl, Nat.le_of_ble_eq_true rfl⟩ dX11_anHour_66 (fun H locs S => ?_)
    refine lv_imul C.1 C.2.1 dX11_anHour_69 ?_
    refine lv_bipush (v := 100) C.1 C.2.1 dX11_anHour_70 (by decide) ?_
    refine lv_idiv C.1 C.2.1 dX11_anHour_72 (by decide) ?_
    refine lv_iadd C.1 C.2.1 dX11_anHour_73 ?_
    obtain ⟨g10, h⟩ := gd_some h
    refine r_iast C S a_77 g10 dX11_anHour_74 (fun H locs S => ?_)
    refine lv_aload_n C.1 C.2.1 dX11_anHour_75 rfl (lv_at hl 1 rfl) ?_
    refine r_getr C S o_76 cf_11 0 rfl (by decide) b_fl_RX11_9 dX11_anHour_76 ?_
    refine lv_iload_n C.1 C.2.1 dX11_anHour_79 rfl (lv_at hl 0 rfl) ?_
    refine lv_bipush (v := 8) C.1 C.2.1 dX11_anHour_80 (by decide) ?_
    refine lv_iadd C.1 C.2.1 dX11_anHour_82 ?_
    refine lv_dup2_11 C.1 C.2.1 dX11_anHour_83 rfl rfl ?_
    obtain ⟨g11, h⟩ := gd_some h
    refine r_iald C S a_77 g11 dX11_anHour_84 ?_
    refine lv_aload_n C.1 C.2.1 dX11_anHour_85 rfl (lv_at hl 1 rfl) ?_
    refine r_getr C S o_76 cf_11 15 rfl (by decide) b_fl_RX11_49 dX11_anHour_86 ?_
    refine lv_iload_n C.1 C.2.1 dX11_anHour_89 rfl (lv_at hl 2 rfl) ?_
    obtain ⟨g12, h⟩ := gd_some h
    refine r_iald C S a_90 g12 dX11_anHour_90 ?_
    refine lv_iadd C.1 C.2.1 dX11_anHour_91 ?_
    obtain ⟨g13, h⟩ := gd_some h
    refine r_iast C S a_77 g13 dX11_anHour_92 (fun H locs S => ?_)
    refine lv_aload_n C.1 C.2.1 dX11_anHour_93 rfl (lv_at hl 1 rfl) ?_
    refine r_getr C S o_76 cf_11 0 rfl (by decide) b_fl_RX11_9 dX11_anHour_94 ?_
    refine lv_iload_n C.1 C.2.1 dX11_anHour_97 rfl (lv_at hl 0 rfl) ?_
    refine lv_bipush (v := 9) C.1 C.2.1 dX11_anHour_98 (by decide) ?_
    refine lv_iadd C.1 C.2.1 dX11_anHour_100 ?_
    refine lv_dup2_11 C.1 C.2.1 dX11_anHour_101 rfl rfl ?_
    obtain ⟨g14, h⟩ := gd_some h
    refine r_iald C S a_77 g14 dX11_anHour_102 ?_
    refine lv_aload_n C.1 C.2.1 dX11_anHour_103 rfl (lv_at hl 1 rfl) ?_
    refine r_getr C S o_76 cf_11 16 rfl (by decide) b_fl_RX11_52 dX11_anHour_104 ?_
    refine lv_iload_n C.1 C.2.1 dX11_anHour_107 rfl (lv_at hl 2 rfl) ?_
    obtain ⟨g15, h⟩ := gd_some h
    refine r_iald C S a_91 g15 dX11_anHour_108 ?_
    refine lv_iadd C.1 C.2.1 dX11_anHour_109 ?_
    obtain ⟨g16, h⟩ := gd_some h
    refine r_iast C S a_77 g16 dX11_anHour_110 (fun H locs S => ?_)
    refine lv_iinc (v := z.1 + 1) (lv' := [(1, .int (z.1 + 1)), (2, .int (7 + (11 * z.1))), (0, .ref (ad 76))]) C.1 C.2.1 dX11_anHour_111 hl (k := 2) rfl rfl (by decide) rfl (fun ls hl => ?_)
    refine lv_goto (tgt := 13) C.1 C.2.1 dX11_anHour_114 (by decide) ?_
    exact hN _ (Option.some.inj h).symm _ _ _ (lv_sub hl [2, 0] rfl) S
set_option maxHeartbeats 4000000 in
set_option maxRecDepth 100000 in
theorem k_X11_anHour   {w : Wd} {rv : Wd} (h : f_X11_anHour w = some rv) : CV yX11_anHour cX11_anHour 3 2 46 (fun ad => [.ref (ad 76)]) w rv := by
  refine CV.of (by decide) ?_
  intro l D ad sx ca p e s m below meth c C S hr hlocks
  have hl := lv_entry ([.ref (ad 76)]) (n := 3) (Nat.le_of_ble_eq_true rfl)
  rw [lg_entry_eq]
  generalize (lg_sl ([.ref (ad 76)]) ++ List.replicate (3 - (lg_sl ([.ref (ad 76)])).length) Slot.unset).toArray = ls at hl ⊢
  have hl : lv_has ls 3 [(0, .ref (ad 76))] := hl
  generalize ha9 : ([.ref (ad 76)] : List Value).toArray = args at C ⊢
  generalize s.heap = H at S ⊢
  generalize ([] : List Loc) = locs at S ⊢
  unfold f_X11_anHour at h
  refine lv_aload_n C.1 C.2.1 dX11_anHour_0 rfl (lv_at hl 0 rfl) ?_
  refine lv_aload_n C.1 C.2.1 dX11_anHour_1 rfl (lv_at hl 0 rfl) ?_
  refine r_getr C S o_76 cf_11 0 rfl (by decide) b_fl_RX11_9 dX11_anHour_2 ?_
  refine lv_iconst (v := 3) C.1 C.2.1 dX11_anHour_5 (by decide) ?_
  refine r_iald C S a_77 (by decide) dX11_anHour_6 ?_
  obtain ⟨o1, e2, h⟩ := Option.bind_eq_some_iff.mp h
  refine r_vi C S hl o_76 cf_11 (k_X11_goes e2) b_vb_RX11_138 [.int (w.1 77 3.toNatClampNeg)] rfl [] rfl rfl (by decide) ⟨Nat.le_of_ble_eq_true rfl, Nat.le_of_ble_eq_true rfl⟩ dX11_anHour_7 (fun H locs S => ?_)
  refine lv_pop C.1 C.2.1 dX11_anHour_10 rfl ?_
  refine lv_iconst (v := 0) C.1 C.2.1 dX11_anHour_11 (by decide) ?_
  refine lv_istore_n (lv' := [(1, .int 0), (0, .ref (ad 76))]) C.1 C.2.1 dX11_anHour_12 rfl hl (by decide) rfl (fun ls hl => ?_)
  obtain ⟨o17, e18, h⟩ := Option.bind_eq_some_iff.mp h
  refine k_X11_anHour_L13 C  FU _ _ e18 (fun ls H locs hl S => ?_) ls H locs (lv_sub hl [1, 0] rfl) S
  refine lv_aload_n C.1 C.2.1 dX11_anHour_117 rfl (lv_at hl 0 rfl) ?_
  refine r_getr C S o_76 cf_11 0 rfl (by decide) b_fl_RX11_9 dX11_anHour_118 ?_
  refine lv_iconst (v := 0) C.1 C.2.1 dX11_anHour_121 (by decide) ?_
  refine lv_dup2_11 C.1 C.2.1 dX11_anHour_122 rfl rfl ?_
  refine r_iald C S a_77 (by decide) dX11_anHour_123 ?_
  refine lv_iconst (v := 1) C.1 C.2.1 dX11_anHour_124 (by decide) ?_
  refine lv_iadd C.1 C.2.1 dX11_anHour_125 ?_
  refine r_iast C S a_77 (by decide) dX11_anHour_126 (fun H locs S => ?_)
  refine lv_aload_n C.1 C.2.1 dX11_anHour_127 rfl (lv_at hl 0 rfl) ?_
  refine lv_iconst (v := 0) C.1 C.2.1 dX11_anHour_128 (by decide) ?_
  refine r_put C S o_76 cf_11 30 rfl (by decide) rfl (zo_nar (by decide)) b_fl_RX11_105 dX11_anHour_129 (fun H locs S => ?_)
  cases h
  exact r_vret C S hr hlocks dX11_anHour_132
set_option maxHeartbeats 4000000 in
set_option maxRecDepth 100000 in
theorem k_X11_hours_L44 {p : Program} {l : Launch} {e : Env} {s : State} {m : MethodId} {args : Array Value} {below : List Frame} {meth : Method} {c : Code} {D : va_G} {ad sx : Nat → Nat} {ca : Nat → ClassId} (C : Cx D ad sx ca p s m c args RX11 cX11_hours 3) {Q : State → Prop} {w : Wd} {v1 : Int32}  : ∀ (n : Nat) (z : Int32 × Wd) (o : Int32 × Wd), lp (f_X11_hours_L44 v1) n z = some o → (∀ (ls : Array Slot) (H : Heap) (locs : List Loc), lv_has ls 3 [(0, .ref (ad 76))] → St D ad ca s o.2 H locs → W p l e (RM 5 114) s m args below meth c H locs 0 0 Q (F0 m 59 ls [])) → (∀ (ls : Array Slot) (H : Heap) (locs : List Loc), lv_has ls 3 [(0, .ref (ad 76)), (1, .int v1), (2, .int z.1)] → St D ad ca s z.2 H locs → W p l e (RM 5 114) s m args below meth c H locs 0 0 Q (F0 m 44 ls [])) := by
  refine lp_W (HW := fun z => ∀ (ls : Array Slot) (H : Heap) (locs : List Loc), lv_has ls 3 [(0, .ref (ad 76)), (1, .int v1), (2, .int z.1)] → St D ad ca s z.2 H locs → W p l e (RM 5 114) s m args below meth c H locs 0 0 Q (F0 m 44 ls [])) (XW := fun o => ∀ (ls : Array Slot) (H : Heap) (locs : List Loc), lv_has ls 3 [(0, .ref (ad 76))] → St D ad ca s o.2 H locs → W p l e (RM 5 114) s m args below meth c H locs 0 0 Q (F0 m 59 ls [])) ?_
  intro z x h hN hX ls H locs hl S
  unfold f_X11_hours_L44 at h
  refine lv_iload_n C.1 C.2.1 dX11_hours_44 rfl (lv_at hl 2 rfl) ?_
  refine lv_iload_n C.1 C.2.1 dX11_hours_45 rfl (lv_at hl 1 rfl) ?_
  refine lv_icmp_ge (tgt := 59) C.1 C.2.1 dX11_hours_46 (by decide) (fun q7 => ?_) (fun q7 => ?_)
  · replace h := (if_pos q7).symm.trans h
    exact hX _ (Option.some.inj h).symm _ _ _ (lv_sub hl [0] rfl) S
  · replace h := (if_neg q7).symm.trans h
    refine lv_aload_n C.1 C.2.1 dX11_hours_49 rfl (lv_at hl 0 rfl) ?_
    obtain ⟨o8, e9, h⟩ := Option.bind_eq_some_iff.mp h
    refine r_vv C S hl o_76 cf_11 (k_X11_anHour e9) b_vb_RX11_158 [] rfl [] rfl rfl (by decide) ⟨Nat.le_of_ble_eq_true rfl, Nat.le_of_ble_eq_true rfl⟩ dX11_hours_50 (fun H locs S => ?_)
    refine lv_iinc (v := z.1 + 1) (lv' := [(2, .int (z.1 + 1)), (0, .ref (ad 76)), (1, .int v1)]) C.1 C.2.1 dX11_hours_53 hl (k := 2) rfl rfl (by decide) rfl (fun ls hl => ?_)
    refine lv_goto (tgt := 44) C.1 C.2.1 dX11_hours_56 (by decide) ?_
    exact hN _ (Option.some.inj h).symm _ _ _ (lv_sub hl [1, 2, 0] rfl) S
set_option maxHeartbeats 4000000 in
set_option maxRecDepth 100000 in
theorem k_X11_hours {v1 : Int32}  {w : Wd} {rv : Int32 × Wd} (h : f_X11_hours v1 w = some rv) : CI yX11_hours cX11_hours 3 .int 5 114 (fun ad => [.ref (ad 76), .int v1]) w rv.1 rv.2 := by
  refine CI.of (by decide) ?_
  intro l D ad sx ca p e s m below meth c C S hr hlocks
  have hl := lv_entry ([.ref (ad 76), .int v1]) (n := 3) (Nat.le_of_ble_eq_true rfl)
  rw [lg_entry_eq]
  generalize (lg_sl ([.ref (ad 76), .int v1]) ++ List.replicate (3 - (lg_sl ([.ref (ad 76), .int v1])).length) Slot.unset).toArray = ls at hl ⊢
  have hl : lv_has ls 3 [(0, .ref (ad 76)), (1, .int v1)] := hl
  generalize ha9 : ([.ref (ad 76), .int v1] : List Value).toArray = args at C ⊢
  generalize s.heap = H at S ⊢
  generalize ([] : List Loc) = locs at S ⊢
  unfold f_X11_hours at h
  refine lv_iload_n C.1 C.2.1 dX11_hours_0 rfl (lv_at hl 1 rfl) ?_
  refine lv_iconst (v := 1) C.1 C.2.1 dX11_hours_1 (by decide) ?_
  refine lv_bipush (v := 100) C.1 C.2.1 dX11_hours_2 (by decide) ?_
  obtain ⟨o1, e2, h⟩ := Option.bind_eq_some_iff.mp h
  refine r_si C S hl (k_X11_in e2) b_sb_RX11_97 [.int v1, .int 1, .int 100] rfl [] rfl rfl (by decide) ⟨Nat.le_of_ble_eq_true rfl, Nat.le_of_ble_eq_true rfl⟩ dX11_hours_4 (fun H locs S => ?_)
  refine lv_if_ne (tgt := 17) C.1 C.2.1 dX11_hours_7 (by decide) (fun q3 => ?_) (fun q3 => ?_)
  · replace h := (if_neg q3).symm.trans h
    refine lv_aload_n C.1 C.2.1 dX11_hours_17 rfl (lv_at hl 0 rfl) ?_
    refine r_getr C S o_76 cf_11 0 rfl (by decide) b_fl_RX11_9 dX11_hours_18 ?_
    refine lv_iconst (v := 0) C.1 C.2.1 dX11_hours_21 (by decide) ?_
    refine r_iald C S a_77 (by decide) dX11_hours_22 ?_
    refine lv_iload_n C.1 C.2.1 dX11_hours_23 rfl (lv_at hl 1 rfl) ?_
    refine lv_iadd C.1 C.2.1 dX11_hours_24 ?_
    refine lv_sipush (v := 2000) C.1 C.2.1 dX11_hours_25 (by decide) ?_
    refine lv_icmp_le (tgt := 38) C.1 C.2.1 dX11_hours_28 (by decide) (fun q4 => ?_) (fun q4 => ?_)
    · replace h := (if_pos q4).symm.trans h
      refine lv_aload_n C.1 C.2.1 dX11_hours_38 rfl (lv_at hl 0 rfl) ?_
      obtain ⟨o5, e6, h⟩ := Option.bind_eq_some_iff.mp h
      refine r_vv C S hl o_76 cf_11 (k_X11_setsAside e6) b_vb_RX11_145 [] rfl [] rfl rfl (by decide) ⟨Nat.le_of_ble_eq_true rfl, Nat.le_of_ble_eq_true rfl⟩ dX11_hours_39 (fun H locs S => ?_)
      refine lv_iconst (v := 0) C.1 C.2.1 dX11_hours_42 (by decide) ?_
      refine lv_istore_n (lv' := [(2, .int 0), (0, .ref (ad 76)), (1, .int v1)]) C.1 C.2.1 dX11_hours_43 rfl hl (by decide) rfl (fun ls hl => ?_)
      obtain ⟨o10, e11, h⟩ := Option.bind_eq_some_iff.mp h
      refine k_X11_hours_L44 C  FU _ _ e11 (fun ls H locs hl S => ?_) ls H locs (lv_sub hl [1, 2, 0] rfl) S
      refine lv_aload_n C.1 C.2.1 dX11_hours_59 rfl (lv_at hl 0 rfl) ?_
      refine r_getr C S o_76 cf_11 0 rfl (by decide) b_fl_RX11_9 dX11_hours_60 ?_
      refine lv_iconst (v := 0) C.1 C.2.1 dX11_hours_63 (by decide) ?_
      refine r_iald C S a_77 (by decide) dX11_hours_64 ?_
      cases h
      exact r_iret C S hr hlocks dX11_hours_65
    · replace h := (if_neg q4).symm.trans h
      refine lv_aload_n C.1 C.2.1 dX11_hours_31 rfl (lv_at hl 0 rfl) ?_
      refine r_ldc C (-1000000005) b_cn_RX11_153 dX11_hours_32 ?_
      obtain ⟨o12, e13, h⟩ := Option.bind_eq_some_iff.mp h
      refine r_vi C S hl o_76 cf_11 (k_X11_finds e13) b_vb_RX11_109 [.int (-1000000005)] rfl [] rfl rfl (by decide) ⟨Nat.le_of_ble_eq_true rfl, Nat.le_of_ble_eq_true rfl⟩ dX11_hours_34 (fun H locs S => ?_)
      cases h
      exact r_iret C S hr hlocks dX11_hours_37
  · replace h := (if_pos q3).symm.trans h
    refine lv_aload_n C.1 C.2.1 dX11_hours_10 rfl (lv_at hl 0 rfl) ?_
    refine r_ldc C (-1000000001) b_cn_RX11_92 dX11_hours_11 ?_
    obtain ⟨o14, e15, h⟩ := Option.bind_eq_some_iff.mp h
    refine r_vi C S hl o_76 cf_11 (k_X11_finds e15) b_vb_RX11_109 [.int (-1000000001)] rfl [] rfl rfl (by decide) ⟨Nat.le_of_ble_eq_true rfl, Nat.le_of_ble_eq_true rfl⟩ dX11_hours_13 (fun H locs S => ?_)
    cases h
    exact r_iret C S hr hlocks dX11_hours_16
set_option maxHeartbeats 4000000 in
set_option maxRecDepth 100000 in
theorem k_X11_riser_L20 {p : Program} {l : Launch} {e : Env} {s : State} {m : MethodId} {args : Array Value} {below : List Frame} {meth : Method} {c : Code} {D : va_G} {ad sx : Nat → Nat} {ca : Nat → ClassId} (C : Cx D ad sx ca p s m c args RX11 cX11_riser 4) {Q : State → Prop} {w : Wd} {v1 : Int32}  : ∀ (n : Nat) (z : Int32 × Int32) (o : Int32 × Int32), lp (f_X11_riser_L20 v1 w) n z = some o → (∀ (ls : Array Slot) (H : Heap) (locs : List Loc), lv_has ls 4 [(2, .int o.1)] → St D ad ca s w H locs → W p l e (RM 1 22) s m args below meth c H locs 0 0 Q (F0 m 56 ls [])) → (∀ (ls : Array Slot) (H : Heap) (locs : List Loc), lv_has ls 4 [(0, .ref (ad 76)), (1, .int v1), (2, .int z.1), (3, .int z.2)] → St D ad ca s w H locs → W p l e (RM 1 22) s m args below meth c H locs 0 0 Q (F0 m 20 ls [])) := by
  refine lp_W (HW := fun z => ∀ (ls : Array Slot) (H : Heap) (locs : List Loc), lv_has ls 4 [(0, .ref (ad 76)), (1, .int v1), (2, .int z.1), (3, .int z.2)] → St D ad ca s w H locs → W p l e (RM 1 22) s m args below meth c H locs 0 0 Q (F0 m 20 ls [])) (XW := fun o => ∀ (ls : Array Slot) (H : Heap) (locs : List Loc), lv_has ls 4 [(2, .int o.1)] → St D ad ca s w H locs → W p l e (RM 1 22) s m args below meth c H locs 0 0 Q (F0 m 56 ls [])) ?_
  intro z x h hN hX ls H locs hl S
  unfold f_X11_riser_L20 at h
  refine lv_iload_n C.1 C.2.1 dX11_riser_20 rfl (lv_at hl 3 rfl) ?_
  refine lv_aload_n C.1 C.2.1 dX11_riser_21 rfl (lv_at hl 0 rfl) ?_
  refine r_getr C S o_76 cf_11 0 rfl (by decide) b_fl_RX11_9 dX11_riser_22 ?_
  refine lv_iconst (v := 4) C.1 C.2.1 dX11_riser_25 (by decide) ?_
  refine r_iald C S a_77 (by decide) dX11_riser_26 ?_
  refine lv_icmp_ge (tgt := 56) C.1 C.2.1 dX11_riser_27 (by decide) (fun q4 => ?_) (fun q4 => ?_)
  · replace h := (if_pos q4).symm.trans h
    exact hX _ (Option.some.inj h).symm _ _ _ (lv_sub hl [2] rfl) S
  · replace h := (if_neg q4).symm.trans h
    refine lv_iload_n C.1 C.2.1 dX11_riser_30 rfl (lv_at hl 2 rfl) ?_
    refine lv_aload_n C.1 C.2.1 dX11_riser_31 rfl (lv_at hl 0 rfl) ?_
    refine lv_iload_n C.1 C.2.1 dX11_riser_32 rfl (lv_at hl 3 rfl) ?_
    refine lv_iconst (v := 1) C.1 C.2.1 dX11_riser_33 (by decide) ?_
    obtain ⟨o5, e6, h⟩ := Option.bind_eq_some_iff.mp h
    refine r_vi C S hl o_76 cf_11 (k_X11_get e6) b_vb_RX11_101 [.int z.2, .int 1] rfl [.int z.1] rfl rfl (by decide) ⟨Nat.le_of_ble_eq_true rfl, Nat.le_of_ble_eq_true rfl⟩ dX11_riser_34 (fun H locs S => ?_)
    refine lv_iload_n C.1 C.2.1 dX11_riser_37 rfl (lv_at hl 1 rfl) ?_
    refine lv_icmp_ne (tgt := 47) C.1 C.2.1 dX11_riser_38 (by decide) (fun q7 => ?_) (fun q7 => ?_)
    · replace h := (if_neg q7).symm.trans h
      refine lv_iconst (v := 0) C.1 C.2.1 dX11_riser_47 (by decide) ?_
      refine lv_ior C.1 C.2.1 dX11_riser_48 ?_
      refine lv_istore_n (lv' := [(2, .int (z.1 ||| 0)), (0, .ref (ad 76)), (1, .int v1), (3, .int z.2)]) C.1 C.2.1 dX11_riser_49 rfl hl (by decide) rfl (fun ls hl => ?_)
      refine lv_iinc (v := z.2 + 1) (lv' := [(3, .int (z.2 + 1)), (2, .int (z.1 ||| 0)), (0, .ref (ad 76)), (1, .int v1)]) C.1 C.2.1 dX11_riser_50 hl (k := 3) rfl rfl (by decide) rfl (fun ls hl => ?_)
      refine lv_goto (tgt := 20) C.1 C.2.1 dX11_riser_53 (by decide) ?_
      exact hN _ (Option.some.inj h).symm _ _ _ (lv_sub hl [2, 3, 1, 0] rfl) S
    · replace h := (if_pos q7).symm.trans h
      refine lv_iconst (v := 1) C.1 C.2.1 dX11_riser_41 (by decide) ?_
      refine lv_iload_n C.1 C.2.1 dX11_riser_42 rfl (lv_at hl 3 rfl) ?_
      refine lv_ishl C.1 C.2.1 dX11_riser_43 ?_
      refine lv_goto (tgt := 48) C.1 C.2.1 dX11_riser_44 (by decide) ?_
      refine lv_ior C.1 C.2.1 dX11_riser_48 ?_
      refine lv_istore_n (lv' := [(2, .int (z.1 ||| (1 <<< (z.2 &&& 31)))), (0, .ref (ad 76)), (1, .int v1), (3, .int z.2)]) C.1 C.2.1 dX11_riser_49 rfl hl (by decide) rfl (fun ls hl => ?_)
      refine lv_iinc (v := z.2 + 1) (lv' := [(3, .int (z.2 + 1)), (2, .int (z.1 ||| (1 <<< (z.2 &&& 31)))), (0, .ref (ad 76)), (1, .int v1)]) C.1 C.2.1 dX11_riser_50 hl (k := 3) rfl rfl (by decide) rfl (fun ls hl => ?_)
      refine lv_goto (tgt := 20) C.1 C.2.1 dX11_riser_53 (by decide) ?_
      exact hN _ (Option.some.inj h).symm _ _ _ (lv_sub hl [2, 3, 1, 0] rfl) S
set_option maxHeartbeats 4000000 in
set_option maxRecDepth 100000 in
theorem k_X11_riser {v1 : Int32}  {w : Wd} {rv : Int32 × Wd} (h : f_X11_riser v1 w = some rv) : CI yX11_riser cX11_riser 4 .int 1 22 (fun ad => [.ref (ad 76), .int v1]) w rv.1 rv.2 := by
  refine CI.of (by decide) ?_
  intro l D ad sx ca p e s m below meth c C S hr hlocks
  have hl := lv_entry ([.ref (ad 76), .int v1]) (n := 4) (Nat.le_of_ble_eq_true rfl)
  rw [lg_entry_eq]
  generalize (lg_sl ([.ref (ad 76), .int v1]) ++ List.replicate (4 - (lg_sl ([.ref (ad 76), .int v1])).length) Slot.unset).toArray = ls at hl ⊢
  have hl : lv_has ls 4 [(0, .ref (ad 76)), (1, .int v1)] := hl
  generalize ha9 : ([.ref (ad 76), .int v1] : List Value).toArray = args at C ⊢
  generalize s.heap = H at S ⊢
  generalize ([] : List Loc) = locs at S ⊢
  unfold f_X11_riser at h
  refine lv_iload_n C.1 C.2.1 dX11_riser_0 rfl (lv_at hl 1 rfl) ?_
  refine lv_iconst (v := 0) C.1 C.2.1 dX11_riser_1 (by decide) ?_
  refine lv_iconst (v := 3) C.1 C.2.1 dX11_riser_2 (by decide) ?_
  obtain ⟨o1, e2, h⟩ := Option.bind_eq_some_iff.mp h
  refine r_si C S hl (k_X11_in e2) b_sb_RX11_97 [.int v1, .int 0, .int 3] rfl [] rfl rfl (by decide) ⟨Nat.le_of_ble_eq_true rfl, Nat.le_of_ble_eq_true rfl⟩ dX11_riser_3 (fun H locs S => ?_)
  refine lv_if_ne (tgt := 16) C.1 C.2.1 dX11_riser_6 (by decide) (fun q3 => ?_) (fun q3 => ?_)
  · replace h := (if_neg q3).symm.trans h
    refine lv_iconst (v := 0) C.1 C.2.1 dX11_riser_16 (by decide) ?_
    refine lv_istore_n (lv' := [(2, .int 0), (0, .ref (ad 76)), (1, .int v1)]) C.1 C.2.1 dX11_riser_17 rfl hl (by decide) rfl (fun ls hl => ?_)
    refine lv_iconst (v := 0) C.1 C.2.1 dX11_riser_18 (by decide) ?_
    refine lv_istore_n (lv' := [(3, .int 0), (2, .int 0), (0, .ref (ad 76)), (1, .int v1)]) C.1 C.2.1 dX11_riser_19 rfl hl (by decide) rfl (fun ls hl => ?_)
    obtain ⟨o8, e9, h⟩ := Option.bind_eq_some_iff.mp h
    refine k_X11_riser_L20 C  FU _ _ e9 (fun ls H locs hl S => ?_) ls H locs (lv_sub hl [2, 3, 1, 0] rfl) S
    refine lv_iload_n C.1 C.2.1 dX11_riser_56 rfl (lv_at hl 0 rfl) ?_
    cases h
    exact r_iret C S hr hlocks dX11_riser_57
  · replace h := (if_pos q3).symm.trans h
    refine lv_aload_n C.1 C.2.1 dX11_riser_9 rfl (lv_at hl 0 rfl) ?_
    refine r_ldc C (-1000000001) b_cn_RX11_92 dX11_riser_10 ?_
    obtain ⟨o10, e11, h⟩ := Option.bind_eq_some_iff.mp h
    refine r_vi C S hl o_76 cf_11 (k_X11_finds e11) b_vb_RX11_109 [.int (-1000000001)] rfl [] rfl rfl (by decide) ⟨Nat.le_of_ble_eq_true rfl, Nat.le_of_ble_eq_true rfl⟩ dX11_riser_12 (fun H locs S => ?_)
    cases h
    exact r_iret C S hr hlocks dX11_riser_15
set_option maxHeartbeats 4000000 in
set_option maxRecDepth 100000 in
theorem k_X11_feed_L38 {p : Program} {l : Launch} {e : Env} {s : State} {m : MethodId} {args : Array Value} {below : List Frame} {meth : Method} {c : Code} {D : va_G} {ad sx : Nat → Nat} {ca : Nat → ClassId} (C : Cx D ad sx ca p s m c args RX11 cX11_feed 4) {Q : State → Prop} {w : Wd} {v1 : Int32}  : ∀ (n : Nat) (z : Int32 × Wd) (o : Int32 × Wd), lp (f_X11_feed_L38 v1) n z = some o → (∀ (ls : Array Slot) (H : Heap) (locs : List Loc), lv_has ls 4 [(0, .ref (ad 76))] → St D ad ca s o.2 H locs → W p l e (RM 1 22) s m args below meth c H locs 0 0 Q (F0 m 77 ls [])) → (∀ (ls : Array Slot) (H : Heap) (locs : List Loc), lv_has ls 4 [(0, .ref (ad 76)), (1, .int v1), (3, .int z.1)] → St D ad ca s z.2 H locs → W p l e (RM 1 22) s m args below meth c H locs 0 0 Q (F0 m 38 ls [])) := by
  refine lp_W (HW := fun z => ∀ (ls : Array Slot) (H : Heap) (locs : List Loc), lv_has ls 4 [(0, .ref (ad 76)), (1, .int v1), (3, .int z.1)] → St D ad ca s z.2 H locs → W p l e (RM 1 22) s m args below meth c H locs 0 0 Q (F0 m 38 ls [])) (XW := fun o => ∀ (ls : Array Slot) (H : Heap) (locs : List Loc), lv_has ls 4 [(0, .ref (ad 76))] → St D ad ca s o.2 H locs → W p l e (RM 1 22) s m args below meth c H locs 0 0 Q (F0 m 77 ls [])) ?_
  intro z x h hN hX ls H locs hl S
  unfold f_X11_feed_L38 at h
  refine lv_iload_n C.1 C.2.1 dX11_feed_38 rfl (lv_at hl 2 rfl) ?_
  refine lv_if_lt (tgt := 77) C.1 C.2.1 dX11_feed_39 (by decide) (fun q5 => ?_) (fun q5 => ?_)
  · replace h := (if_pos q5).symm.trans h
    exact hX _ (Option.some.inj h).symm _ _ _ (lv_sub hl [0] rfl) S
  · replace h := (if_neg q5).symm.trans h
    refine lv_aload_n C.1 C.2.1 dX11_feed_42 rfl (lv_at hl 0 rfl) ?_
    refine r_getr C S o_76 cf_11 17 rfl (by decide) b_fl_RX11_55 dX11_feed_43 ?_
    refine lv_aload_n C.1 C.2.1 dX11_feed_46 rfl (lv_at hl 0 rfl) ?_
    refine r_geti C S o_76 cf_11 18 rfl (by decide) b_fl_RX11_161 dX11_feed_47 ?_
    refine lv_iload_n C.1 C.2.1 dX11_feed_50 rfl (lv_at hl 1 rfl) ?_
    refine lv_bipush (v := 8) C.1 C.2.1 dX11_feed_51 (by decide) ?_
    refine lv_iload_n C.1 C.2.1 dX11_feed_53 rfl (lv_at hl 2 rfl) ?_
    refine lv_imul C.1 C.2.1 dX11_feed_54 ?_
    refine lv_ishr C.1 C.2.1 dX11_feed_55 ?_
    refine lv_sipush (v := 255) C.1 C.2.1 dX11_feed_56 (by decide) ?_
    refine lv_iand C.1 C.2.1 dX11_feed_59 ?_
    obtain ⟨g6, h⟩ := gd_some h
    refine r_iast C S a_92 g6 dX11_feed_60 (fun H locs S => ?_)
    refine lv_aload_n C.1 C.2.1 dX11_feed_61 rfl (lv_at hl 0 rfl) ?_
    refine lv_dup C.1 C.2.1 dX11_feed_62 rfl ?_
    refine r_geti C S o_76 cf_11 18 rfl (by decide) b_fl_RX11_161 dX11_feed_63 ?_
    refine lv_iconst (v := 1) C.1 C.2.1 dX11_feed_66 (by decide) ?_
    refine lv_iadd C.1 C.2.1 dX11_feed_67 ?_
    refine r_put C S o_76 cf_11 18 rfl (by decide) rfl (ni _) b_fl_RX11_161 dX11_feed_68 (fun H locs S => ?_)
    refine lv_iinc (v := z.1 + (-1)) (lv' := [(3, .int (z.1 + (-1))), (0, .ref (ad 76)), (1, .int v1)]) C.1 C.2.1 dX11_feed_71 hl (k := 2) rfl rfl (by decide) rfl (fun ls hl => ?_)
    refine lv_goto (tgt := 38) C.1 C.2.1 dX11_feed_74 (by decide) ?_
    exact hN _ (Option.some.inj h).symm _ _ _ (lv_sub hl [1, 2, 0] rfl) S
set_option maxHeartbeats 4000000 in
set_option maxRecDepth 100000 in
theorem k_X11_feed {v1 : Int32} {v2 : Int32}  {w : Wd} {rv : Int32 × Wd} (h : f_X11_feed v1 v2 w = some rv) : CI yX11_feed cX11_feed 4 .int 1 22 (fun ad => [.ref (ad 76), .int v1, .int v2]) w rv.1 rv.2 := by
  refine CI.of (by decide) ?_
  intro l D ad sx ca p e s m below meth c C S hr hlocks
  have hl := lv_entry ([.ref (ad 76), .int v1, .int v2]) (n := 4) (Nat.le_of_ble_eq_true rfl)
  rw [lg_entry_eq]
  generalize (lg_sl ([.ref (ad 76), .int v1, .int v2]) ++ List.replicate (4 - (lg_sl ([.ref (ad 76), .int v1, .int v2])).length) Slot.unset).toArray = ls at hl ⊢
  have hl : lv_has ls 4 [(0, .ref (ad 76)), (1, .int v1), (2, .int v2)] := hl
  generalize ha9 : ([.ref (ad 76), .int v1, .int v2] : List Value).toArray = args at C ⊢
  generalize s.heap = H at S ⊢
  generalize ([] : List Loc) = locs at S ⊢
  unfold f_X11_feed at h
  refine lv_iload_n C.1 C.2.1 dX11_feed_0 rfl (lv_at hl 2 rfl) ?_
  refine lv_iconst (v := 1) C.1 C.2.1 dX11_feed_1 (by decide) ?_
  refine lv_iconst (v := 4) C.1 C.2.1 dX11_feed_2 (by decide) ?_
  obtain ⟨o1, e2, h⟩ := Option.bind_eq_some_iff.mp h
  refine r_si C S hl (k_X11_in e2) b_sb_RX11_97 [.int v2, .int 1, .int 4] rfl [] rfl rfl (by decide) ⟨Nat.le_of_ble_eq_true rfl, Nat.le_of_ble_eq_true rfl⟩ dX11_feed_3 (fun H locs S => ?_)
  refine lv_if_ne (tgt := 16) C.1 C.2.1 dX11_feed_6 (by decide) (fun q3 => ?_) (fun q3 => ?_)
  · replace h := (if_neg q3).symm.trans h
    refine lv_aload_n C.1 C.2.1 dX11_feed_16 rfl (lv_at hl 0 rfl) ?_
    refine r_geti C S o_76 cf_11 18 rfl (by decide) b_fl_RX11_161 dX11_feed_17 ?_
    refine lv_iload_n C.1 C.2.1 dX11_feed_20 rfl (lv_at hl 2 rfl) ?_
    refine lv_iadd C.1 C.2.1 dX11_feed_21 ?_
    refine lv_bipush (v := 80) C.1 C.2.1 dX11_feed_22 (by decide) ?_
    refine lv_icmp_le (tgt := 34) C.1 C.2.1 dX11_feed_24 (by decide) (fun q4 => ?_) (fun q4 => ?_)
    · replace h := (if_pos q4).symm.trans h
      refine lv_iload_n C.1 C.2.1 dX11_feed_34 rfl (lv_at hl 2 rfl) ?_
      refine lv_iconst (v := 1) C.1 C.2.1 dX11_feed_35 (by decide) ?_
      refine lv_isub C.1 C.2.1 dX11_feed_36 ?_
      refine lv_istore_n (lv' := [(3, .int (v2 - 1)), (0, .ref (ad 76)), (1, .int v1), (2, .int v2)]) C.1 C.2.1 dX11_feed_37 rfl hl (by decide) rfl (fun ls hl => ?_)
      obtain ⟨o7, e8, h⟩ := Option.bind_eq_some_iff.mp h
      refine k_X11_feed_L38 C  FU _ _ e8 (fun ls H locs hl S => ?_) ls H locs (lv_sub hl [1, 2, 0] rfl) S
      refine lv_aload_n C.1 C.2.1 dX11_feed_77 rfl (lv_at hl 0 rfl) ?_
      refine r_geti C S o_76 cf_11 18 rfl (by decide) b_fl_RX11_161 dX11_feed_78 ?_
      cases h
      exact r_iret C S hr hlocks dX11_feed_81
    · replace h := (if_neg q4).symm.trans h
      refine lv_aload_n C.1 C.2.1 dX11_feed_27 rfl (lv_at hl 0 rfl) ?_
      refine r_ldc C (-1000000002) b_cn_RX11_113 dX11_feed_28 ?_
      obtain ⟨o9, e10, h⟩ := Option.bind_eq_some_iff.mp h
      refine r_vi C S hl o_76 cf_11 (k_X11_finds e10) b_vb_RX11_109 [.int (-1000000002)] rfl [] rfl rfl (by decide) ⟨Nat.le_of_ble_eq_true rfl, Nat.le_of_ble_eq_true rfl⟩ dX11_feed_30 (fun H locs S => ?_)
      cases h
      exact r_iret C S hr hlocks dX11_feed_33
  · replace h := (if_pos q3).symm.trans h
    refine lv_aload_n C.1 C.2.1 dX11_feed_9 rfl (lv_at hl 0 rfl) ?_
    refine r_ldc C (-1000000001) b_cn_RX11_92 dX11_feed_10 ?_
    obtain ⟨o11, e12, h⟩ := Option.bind_eq_some_iff.mp h
    refine r_vi C S hl o_76 cf_11 (k_X11_finds e12) b_vb_RX11_109 [.int (-1000000001)] rfl [] rfl rfl (by decide) ⟨Nat.le_of_ble_eq_true rfl, Nat.le_of_ble_eq_true rfl⟩ dX11_feed_12 (fun H locs S => ?_)
    cases h
    exact r_iret C S hr hlocks dX11_feed_15
set_option maxHeartbeats 4000000 in
set_option maxRecDepth 100000 in
theorem k_X11_wipe   {w : Wd} {rv : Int32 × Wd} (h : f_X11_wipe w = some rv) : CI yX11_wipe cX11_wipe 2 .int 0 0 (fun ad => [.ref (ad 76)]) w rv.1 rv.2 := by
  refine CI.of (by decide) ?_
  intro l D ad sx ca p e s m below meth c C S hr hlocks
  have hl := lv_entry ([.ref (ad 76)]) (n := 2) (Nat.le_of_ble_eq_true rfl)
  rw [lg_entry_eq]
  generalize (lg_sl ([.ref (ad 76)]) ++ List.replicate (2 - (lg_sl ([.ref (ad 76)])).length) Slot.unset).toArray = ls at hl ⊢
  have hl : lv_has ls 2 [(0, .ref (ad 76))] := hl
  generalize ha9 : ([.ref (ad 76)] : List Value).toArray = args at C ⊢
  generalize s.heap = H at S ⊢
  generalize ([] : List Loc) = locs at S ⊢
  unfold f_X11_wipe at h
  refine lv_aload_n C.1 C.2.1 dX11_wipe_0 rfl (lv_at hl 0 rfl) ?_
  refine r_geti C S o_76 cf_11 18 rfl (by decide) b_fl_RX11_161 dX11_wipe_1 ?_
  refine lv_istore_n (lv' := [(1, .int (w.1 76 18)), (0, .ref (ad 76))]) C.1 C.2.1 dX11_wipe_4 rfl hl (by decide) rfl (fun ls hl => ?_)
  refine lv_aload_n C.1 C.2.1 dX11_wipe_5 rfl (lv_at hl 1 rfl) ?_
  refine lv_iconst (v := 0) C.1 C.2.1 dX11_wipe_6 (by decide) ?_
  refine r_put C S o_76 cf_11 18 rfl (by decide) rfl (ni _) b_fl_RX11_161 dX11_wipe_7 (fun H locs S => ?_)
  refine lv_iload_n C.1 C.2.1 dX11_wipe_10 rfl (lv_at hl 0 rfl) ?_
  cases h
  exact r_iret C S hr hlocks dX11_wipe_11
set_option maxHeartbeats 4000000 in
set_option maxRecDepth 100000 in
theorem k_X11_emit {v1 : Int32}  {w : Wd} {rv : Wd} (h : f_X11_emit v1 w = some rv) : CV yX11_emit cX11_emit 2 0 0 (fun ad => [.ref (ad 76), .int v1]) w rv := by
  refine CV.of (by decide) ?_
  intro l D ad sx ca p e s m below meth c C S hr hlocks
  have hl := lv_entry ([.ref (ad 76), .int v1]) (n := 2) (Nat.le_of_ble_eq_true rfl)
  rw [lg_entry_eq]
  generalize (lg_sl ([.ref (ad 76), .int v1]) ++ List.replicate (2 - (lg_sl ([.ref (ad 76), .int v1])).length) Slot.unset).toArray = ls at hl ⊢
  have hl : lv_has ls 2 [(0, .ref (ad 76)), (1, .int v1)] := hl
  generalize ha9 : ([.ref (ad 76), .int v1] : List Value).toArray = args at C ⊢
  generalize s.heap = H at S ⊢
  generalize ([] : List Loc) = locs at S ⊢
  unfold f_X11_emit at h
  refine lv_aload_n C.1 C.2.1 dX11_emit_0 rfl (lv_at hl 0 rfl) ?_
  refine r_getr C S o_76 cf_11 19 rfl (by decide) b_fl_RX11_58 dX11_emit_1 ?_
  refine lv_aload_n C.1 C.2.1 dX11_emit_4 rfl (lv_at hl 0 rfl) ?_
  refine r_geti C S o_76 cf_11 20 rfl (by decide) b_fl_RX11_164 dX11_emit_5 ?_
  refine lv_iload_n C.1 C.2.1 dX11_emit_8 rfl (lv_at hl 1 rfl) ?_
  obtain ⟨g1, h⟩ := gd_some h
  refine r_iast C S a_93 g1 dX11_emit_9 (fun H locs S => ?_)
  refine lv_aload_n C.1 C.2.1 dX11_emit_10 rfl (lv_at hl 0 rfl) ?_
  refine lv_dup C.1 C.2.1 dX11_emit_11 rfl ?_
  refine r_geti C S o_76 cf_11 20 rfl (by decide) b_fl_RX11_164 dX11_emit_12 ?_
  refine lv_iconst (v := 1) C.1 C.2.1 dX11_emit_15 (by decide) ?_
  refine lv_iadd C.1 C.2.1 dX11_emit_16 ?_
  refine r_put C S o_76 cf_11 20 rfl (by decide) rfl (ni _) b_fl_RX11_164 dX11_emit_17 (fun H locs S => ?_)
  cases h
  exact r_vret C S hr hlocks dX11_emit_20
set_option maxHeartbeats 4000000 in
set_option maxRecDepth 100000 in
theorem k_X11_settles_J46 {p : Program} {l : Launch} {e : Env} {s : State} {m : MethodId} {args : Array Value} {below : List Frame} {meth : Method} {c : Code} {D : va_G} {ad sx : Nat → Nat} {ca : Nat → ClassId} (C : Cx D ad sx ca p s m c args RX11 cX11_settles 2) {Q : State → Prop} {w : Wd} {v1 : Int32}  {x : (Wd) ⊕ (Wd)} (h : f_X11_settles_J46 v1 w = some x) (hN : ∀ z, x = .inl z → ∀ (ls : Array Slot) (H : Heap) (locs : List Loc), lv_has ls 2 [(0, .ref (ad 76)), (1, .int v1)] → St D ad ca s z H locs → W p l e (RM 1 21) s m args below meth c H locs 0 0 Q (F0 m 0 ls [])) (hX : ∀ o, x = .inr o → ∀ (ls : Array Slot) (H : Heap) (locs : List Loc), lv_has ls 2 [] → St D ad ca s o H locs → W p l e (RM 1 21) s m args below meth c H locs 0 0 Q (F0 m 72 ls [])) {ls : Array Slot} {H : Heap} {locs : List Loc} (hl : lv_has ls 2 [(0, .ref (ad 76)), (1, .int v1)]) (S : St D ad ca s w H locs) : W p l e (RM 1 21) s m args below meth c H locs 0 0 Q (F0 m 46 ls []) := by
  unfold f_X11_settles_J46 at h
  refine lv_aload_n C.1 C.2.1 dX11_settles_46 rfl (lv_at hl 0 rfl) ?_
  refine lv_dup C.1 C.2.1 dX11_settles_47 rfl ?_
  refine r_geti C S o_76 cf_11 22 rfl (by decide) b_fl_RX11_167 dX11_settles_48 ?_
  refine lv_iconst (v := 1) C.1 C.2.1 dX11_settles_51 (by decide) ?_
  refine lv_isub C.1 C.2.1 dX11_settles_52 ?_
  refine r_put C S o_76 cf_11 22 rfl (by decide) rfl (ni _) b_fl_RX11_167 dX11_settles_53 (fun H locs S => ?_)
  refine lv_aload_n C.1 C.2.1 dX11_settles_56 rfl (lv_at hl 0 rfl) ?_
  refine lv_aload_n C.1 C.2.1 dX11_settles_57 rfl (lv_at hl 0 rfl) ?_
  refine r_getr C S o_76 cf_11 21 rfl (by decide) b_fl_RX11_61 dX11_settles_58 ?_
  refine lv_aload_n C.1 C.2.1 dX11_settles_61 rfl (lv_at hl 0 rfl) ?_
  refine r_geti C S o_76 cf_11 22 rfl (by decide) b_fl_RX11_167 dX11_settles_62 ?_
  obtain ⟨g5, h⟩ := gd_some h
  refine r_iald C S a_94 g5 dX11_settles_65 ?_
  obtain ⟨o6, e7, h⟩ := Option.bind_eq_some_iff.mp h
  refine r_vv C S hl o_76 cf_11 (k_X11_emit e7) b_vb_RX11_170 [.int ((si w 76 22 ((w.1 76 22) - 1)).1 94 (((si w 76 22 ((w.1 76 22) - 1)).1 76 22).toNatClampNeg))] rfl [] rfl rfl (by decide) ⟨Nat.le_of_ble_eq_true rfl, Nat.le_of_ble_eq_true rfl⟩ dX11_settles_66 (fun H locs S => ?_)
  refine lv_goto (tgt := 0) C.1 C.2.1 dX11_settles_69 (by decide) ?_
  exact hN _ (Option.some.inj h).symm _ _ _ (lv_sub hl [0, 1] rfl) S
set_option maxHeartbeats 4000000 in
set_option maxRecDepth 100000 in
theorem k_X11_settles_L0 {p : Program} {l : Launch} {e : Env} {s : State} {m : MethodId} {args : Array Value} {below : List Frame} {meth : Method} {c : Code} {D : va_G} {ad sx : Nat → Nat} {ca : Nat → ClassId} (C : Cx D ad sx ca p s m c args RX11 cX11_settles 2) {Q : State → Prop} {w : Wd} {v1 : Int32}  : ∀ (n : Nat) (z : Wd) (o : Wd), lp (f_X11_settles_L0 v1) n z = some o → (∀ (ls : Array Slot) (H : Heap) (locs : List Loc), lv_has ls 2 [] → St D ad ca s o H locs → W p l e (RM 1 21) s m args below meth c H locs 0 0 Q (F0 m 72 ls [])) → (∀ (ls : Array Slot) (H : Heap) (locs : List Loc), lv_has ls 2 [(0, .ref (ad 76)), (1, .int v1)] → St D ad ca s z H locs → W p l e (RM 1 21) s m args below meth c H locs 0 0 Q (F0 m 0 ls [])) := by
  refine lp_W (HW := fun z => ∀ (ls : Array Slot) (H : Heap) (locs : List Loc), lv_has ls 2 [(0, .ref (ad 76)), (1, .int v1)] → St D ad ca s z H locs → W p l e (RM 1 21) s m args below meth c H locs 0 0 Q (F0 m 0 ls [])) (XW := fun o => ∀ (ls : Array Slot) (H : Heap) (locs : List Loc), lv_has ls 2 [] → St D ad ca s o H locs → W p l e (RM 1 21) s m args below meth c H locs 0 0 Q (F0 m 72 ls [])) ?_
  intro z x h hN hX ls H locs hl S
  unfold f_X11_settles_L0 at h
  refine lv_aload_n C.1 C.2.1 dX11_settles_0 rfl (lv_at hl 0 rfl) ?_
  refine r_geti C S o_76 cf_11 22 rfl (by decide) b_fl_RX11_167 dX11_settles_1 ?_
  refine lv_if_le (tgt := 72) C.1 C.2.1 dX11_settles_4 (by decide) (fun q1 => ?_) (fun q1 => ?_)
  · replace h := (if_pos q1).symm.trans h
    exact hX _ (Option.some.inj h).symm _ _ _ (lv_sub hl [] rfl) S
  · replace h := (if_neg q1).symm.trans h
    refine lv_aload_n C.1 C.2.1 dX11_settles_7 rfl (lv_at hl 0 rfl) ?_
    refine r_getr C S o_76 cf_11 21 rfl (by decide) b_fl_RX11_61 dX11_settles_8 ?_
    refine lv_aload_n C.1 C.2.1 dX11_settles_11 rfl (lv_at hl 0 rfl) ?_
    refine r_geti C S o_76 cf_11 22 rfl (by decide) b_fl_RX11_167 dX11_settles_12 ?_
    refine lv_iconst (v := 1) C.1 C.2.1 dX11_settles_15 (by decide) ?_
    refine lv_isub C.1 C.2.1 dX11_settles_16 ?_
    obtain ⟨g2, h⟩ := gd_some h
    refine r_iald C S a_94 g2 dX11_settles_17 ?_
    refine lv_sipush (v := 10100) C.1 C.2.1 dX11_settles_18 (by decide) ?_
    refine lv_icmp_lt (tgt := 72) C.1 C.2.1 dX11_settles_21 (by decide) (fun q3 => ?_) (fun q3 => ?_)
    · replace h := (if_pos q3).symm.trans h
      exact hX _ (Option.some.inj h).symm _ _ _ (lv_sub hl [] rfl) S
    · replace h := (if_neg q3).symm.trans h
      refine lv_iload_n C.1 C.2.1 dX11_settles_24 rfl (lv_at hl 1 rfl) ?_
      refine lv_iconst (v := 1) C.1 C.2.1 dX11_settles_25 (by decide) ?_
      refine lv_icmp_eq (tgt := 46) C.1 C.2.1 dX11_settles_26 (by decide) (fun q4 => ?_) (fun q4 => ?_)
      · replace h := (if_pos q4).symm.trans h
        exact k_X11_settles_J46 C  h hN hX (lv_sub hl [0, 1] rfl) S
      · replace h := (if_neg q4).symm.trans h
        refine lv_aload_n C.1 C.2.1 dX11_settles_29 rfl (lv_at hl 0 rfl) ?_
        refine r_getr C S o_76 cf_11 21 rfl (by decide) b_fl_RX11_61 dX11_settles_30 ?_
        refine lv_aload_n C.1 C.2.1 dX11_settles_33 rfl (lv_at hl 0 rfl) ?_
        refine r_geti C S o_76 cf_11 22 rfl (by decide) b_fl_RX11_167 dX11_settles_34 ?_
        refine lv_iconst (v := 1) C.1 C.2.1 dX11_settles_37 (by decide) ?_
        refine lv_isub C.1 C.2.1 dX11_settles_38 ?_
        obtain ⟨g8, h⟩ := gd_some h
        refine r_iald C S a_94 g8 dX11_settles_39 ?_
        refine lv_sipush (v := 10102) C.1 C.2.1 dX11_settles_40 (by decide) ?_
        refine lv_icmp_lt (tgt := 72) C.1 C.2.1 dX11_settles_43 (by decide) (fun q9 => ?_) (fun q9 => ?_)
        · replace h := (if_pos q9).symm.trans h
          exact hX _ (Option.some.inj h).symm _ _ _ (lv_sub hl [] rfl) S
        · replace h := (if_neg q9).symm.trans h
          exact k_X11_settles_J46 C  h hN hX (lv_sub hl [0, 1] rfl) S
set_option maxHeartbeats 4000000 in
set_option maxRecDepth 100000 in
theorem k_X11_settles {v1 : Int32}  {w : Wd} {rv : Wd} (h : f_X11_settles v1 w = some rv) : CV yX11_settles cX11_settles 2 1 21 (fun ad => [.ref (ad 76), .int v1]) w rv := by
  refine CV.of (by decide) ?_
  intro l D ad sx ca p e s m below meth c C S hr hlocks
  have hl := lv_entry ([.ref (ad 76), .int v1]) (n := 2) (Nat.le_of_ble_eq_true rfl)
  rw [lg_entry_eq]
  generalize (lg_sl ([.ref (ad 76), .int v1]) ++ List.replicate (2 - (lg_sl ([.ref (ad 76), .int v1])).length) Slot.unset).toArray = ls at hl ⊢
  have hl : lv_has ls 2 [(0, .ref (ad 76)), (1, .int v1)] := hl
  generalize ha9 : ([.ref (ad 76), .int v1] : List Value).toArray = args at C ⊢
  generalize s.heap = H at S ⊢
  generalize ([] : List Loc) = locs at S ⊢
  unfold f_X11_settles at h
  obtain ⟨o10, e11, h⟩ := Option.bind_eq_some_iff.mp h
  refine k_X11_settles_L0 C  FU _ _ e11 (fun ls H locs hl S => ?_) ls H locs (lv_sub hl [0, 1] rfl) S
  cases h
  exact r_vret C S hr hlocks dX11_settles_72
set_option maxHeartbeats 4000000 in
set_option maxRecDepth 100000 in
theorem k_X11_waits {v1 : Int32}  {w : Wd} {rv : Wd} (h : f_X11_waits v1 w = some rv) : CV yX11_waits cX11_waits 2 0 0 (fun ad => [.ref (ad 76), .int v1]) w rv := by
  refine CV.of (by decide) ?_
  intro l D ad sx ca p e s m below meth c C S hr hlocks
  have hl := lv_entry ([.ref (ad 76), .int v1]) (n := 2) (Nat.le_of_ble_eq_true rfl)
  rw [lg_entry_eq]
  generalize (lg_sl ([.ref (ad 76), .int v1]) ++ List.replicate (2 - (lg_sl ([.ref (ad 76), .int v1])).length) Slot.unset).toArray = ls at hl ⊢
  have hl : lv_has ls 2 [(0, .ref (ad 76)), (1, .int v1)] := hl
  generalize ha9 : ([.ref (ad 76), .int v1] : List Value).toArray = args at C ⊢
  generalize s.heap = H at S ⊢
  generalize ([] : List Loc) = locs at S ⊢
  unfold f_X11_waits at h
  refine lv_aload_n C.1 C.2.1 dX11_waits_0 rfl (lv_at hl 0 rfl) ?_
  refine r_getr C S o_76 cf_11 21 rfl (by decide) b_fl_RX11_61 dX11_waits_1 ?_
  refine lv_aload_n C.1 C.2.1 dX11_waits_4 rfl (lv_at hl 0 rfl) ?_
  refine r_geti C S o_76 cf_11 22 rfl (by decide) b_fl_RX11_167 dX11_waits_5 ?_
  refine lv_iload_n C.1 C.2.1 dX11_waits_8 rfl (lv_at hl 1 rfl) ?_
  obtain ⟨g1, h⟩ := gd_some h
  refine r_iast C S a_94 g1 dX11_waits_9 (fun H locs S => ?_)
  refine lv_aload_n C.1 C.2.1 dX11_waits_10 rfl (lv_at hl 0 rfl) ?_
  refine lv_dup C.1 C.2.1 dX11_waits_11 rfl ?_
  refine r_geti C S o_76 cf_11 22 rfl (by decide) b_fl_RX11_167 dX11_waits_12 ?_
  refine lv_iconst (v := 1) C.1 C.2.1 dX11_waits_15 (by decide) ?_
  refine lv_iadd C.1 C.2.1 dX11_waits_16 ?_
  refine r_put C S o_76 cf_11 22 rfl (by decide) rfl (ni _) b_fl_RX11_167 dX11_waits_17 (fun H locs S => ?_)
  refine lv_aload_n C.1 C.2.1 dX11_waits_20 rfl (lv_at hl 0 rfl) ?_
  refine lv_dup C.1 C.2.1 dX11_waits_21 rfl ?_
  refine r_geti C S o_76 cf_11 24 rfl (by decide) b_fl_RX11_174 dX11_waits_22 ?_
  refine lv_iconst (v := 1) C.1 C.2.1 dX11_waits_25 (by decide) ?_
  refine lv_iadd C.1 C.2.1 dX11_waits_26 ?_
  refine r_put C S o_76 cf_11 24 rfl (by decide) rfl (ni _) b_fl_RX11_174 dX11_waits_27 (fun H locs S => ?_)
  cases h
  exact r_vret C S hr hlocks dX11_waits_30

set_option maxHeartbeats 4000000 in
set_option maxRecDepth 100000 in
theorem k_X11_status {v1 : Int32}  {w : Wd} {rv : Int32 × Wd} (h : f_X11_status v1 w = some rv) : CI yX11_status cX11_status 2 .int 1 22 (fun ad => [.ref (ad 76), .int v1]) w rv.1 rv.2 := by
  refine CI.of (by decide) ?_
  intro l D ad sx ca p e s m below meth c C S hr hlocks
  have hl := lv_entry ([.ref (ad 76), .int v1]) (n := 2) (Nat.le_of_ble_eq_true rfl)
  rw [lg_entry_eq]
  generalize (lg_sl ([.ref (ad 76), .int v1]) ++ List.replicate (2 - (lg_sl ([.ref (ad 76), .int v1])).length) Slot.unset).toArray = ls at hl ⊢
  have hl : lv_has ls 2 [(0, .ref (ad 76)), (1, .int v1)] := hl
  generalize ha9 : ([.ref (ad 76), .int v1] : List Value).toArray = args at C ⊢
  generalize s.heap = H at S ⊢
  generalize ([] : List Loc) = locs at S ⊢
  unfold f_X11_status at h
  refine lv_iload_n C.1 C.2.1 dX11_status_0 rfl (lv_at hl 1 rfl) ?_
  refine lv_iconst (v := (-1)) C.1 C.2.1 dX11_status_1 (by decide) ?_
  refine lv_bipush (v := 6) C.1 C.2.1 dX11_status_2 (by decide) ?_
  obtain ⟨o1, e2, h⟩ := Option.bind_eq_some_iff.mp h
  refine r_si C S hl (k_X11_in e2) b_sb_RX11_97 [.int v1, .int (-1), .int 6] rfl [] rfl rfl (Nat.le_of_ble_eq_true rfl) ⟨Nat.le_of_ble_eq_true rfl, Nat.le_of_ble_eq_true rfl⟩ dX11_status_4 (fun H locs S => ?_)
  refine lv_if_ne (tgt := 17) C.1 C.2.1 dX11_status_7 (by decide) (fun q3 => ?_) (fun q3 => ?_)
  · replace h := (if_neg q3).symm.trans h
    refine lv_iload_n C.1 C.2.1 dX11_status_17 rfl (lv_at hl 1 rfl) ?_
    refine lv_if_ge (tgt := 28) C.1 C.2.1 dX11_status_18 (by decide) (fun q4 => ?_) (fun q4 => ?_)
    · replace h := (if_pos q4).symm.trans h
      refine lv_aload_n C.1 C.2.1 dX11_status_28 rfl (lv_at hl 0 rfl) ?_
      refine r_getr C S o_76 cf_11 3 rfl (by decide) b_fl_RX11_16 dX11_status_29 ?_
      refine lv_iload_n C.1 C.2.1 dX11_status_32 rfl (lv_at hl 1 rfl) ?_
      obtain ⟨g5, h⟩ := gd_some h
      refine r_iald C S a_79 g5 dX11_status_33 ?_
      have h9 := Option.some.inj h
      subst h9
      exact r_iret C S hr hlocks dX11_status_34
    · replace h := (if_neg q4).symm.trans h
      refine lv_aload_n C.1 C.2.1 dX11_status_21 rfl (lv_at hl 0 rfl) ?_
      refine r_geti C S o_76 cf_11 4 rfl (by decide) b_fl_RX11_93 dX11_status_22 ?_
      refine lv_goto (tgt := 34) C.1 C.2.1 dX11_status_25 (by decide) ?_
      have h9 := Option.some.inj h
      subst h9
      exact r_iret C S hr hlocks dX11_status_34
  · replace h := (if_pos q3).symm.trans h
    refine lv_aload_n C.1 C.2.1 dX11_status_10 rfl (lv_at hl 0 rfl) ?_
    refine r_ldc C (-1000000001) b_cn_RX11_92 dX11_status_11 ?_
    obtain ⟨o6, e7, h⟩ := Option.bind_eq_some_iff.mp h
    refine r_vi C S hl o_76 cf_11 (k_X11_finds e7) b_vb_RX11_109 [.int (-1000000001)] rfl [] rfl rfl (Nat.le_of_ble_eq_true rfl) ⟨Nat.le_of_ble_eq_true rfl, Nat.le_of_ble_eq_true rfl⟩ dX11_status_13 (fun H locs S => ?_)
    have h9 := Option.some.inj h
    subst h9
    exact r_iret C S hr hlocks dX11_status_16

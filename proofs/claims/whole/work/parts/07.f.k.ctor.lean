set_option maxHeartbeats 4000000 in
set_option maxRecDepth 100000 in
theorem k_X8_init : MK yX8_init cX8_init 1 3 53 22 350 [] 8 [.null, .null, .null] (pX8) := by
  refine MK.of (by decide) ?_
  intro l D ca h0 A p e s m below meth c C S hr hlocks hin
  have hl := lv_entry ([.ref h0]) (n := 1) (Nat.le_of_ble_eq_true rfl)
  rw [lg_entry_eq]
  generalize (lg_sl ([.ref h0]) ++ List.replicate (1 - (lg_sl ([.ref h0])).length) Slot.unset).toArray = ls at hl ⊢
  have hl : lv_has ls 1 [(0, .ref h0)] := hl
  generalize ha9 : ([.ref h0] : List Value).toArray = args at C ⊢
  have C : Cn D ca A p s m c args RX8 cX8_init 1 := C
  have hin : meth.name = "<init>" := hin
  generalize s.heap = H at S ⊢
  generalize ([] : List Loc) = locs at S ⊢
  refine lv_aload_n C.1 C.2.1 dX8_init_0 rfl (lv_at hl 0 rfl) ?_
  refine W.objInit C.1 C.2.1 C.2.2.2.1 (C.2.2.2.2.1 _ w_0_33) (C.2.2.2.2.1 _ oi1) (C.2.2.2.2.1 _ oi2) rfl (by rw [C.2.2.1]; exact hl.1) rfl dX8_init_1 (Nat.le_of_ble_eq_true rfl) (Nat.le_of_ble_eq_true rfl) ?_
  refine W.eq (g2 := F0 m 4 ls []) rfl ?_
  refine lv_aload_n C.1 C.2.1 dX8_init_4 rfl (lv_at hl 0 rfl) ?_
  refine n_new [.null, .int 0, .null, .int 0, .int 0, .int 0, .int 0] C S cf_0 w_0_34 w_0_35 w_0_3 fs_0 (Nat.le_of_ble_eq_true rfl) (Nat.le_of_ble_eq_true rfl) dX8_init_5 (fun q5 H S => ?_)
  refine lv_dup C.1 C.2.1 dX8_init_8 rfl ?_
  refine n_mkP C S hl k_X0_init w_0_36 ⟨w_0_3, w_0_37, w_0_38⟩ rfl ds_0 [.ref q5, .ref h0] rfl rfl (Nat.le_of_ble_eq_true rfl) ⟨(Nat.le_of_ble_eq_true rfl), (Nat.le_of_ble_eq_true rfl)⟩ ⟨(Nat.le_of_ble_eq_true rfl), (Nat.le_of_ble_eq_true rfl)⟩ dX8_init_9 (fun u9 H locs S => ?_)
  have S : Sn D A s ((h0, .inr (8, [.null, .null, .null])) :: ([] ++ pX0 ca q5 u9)) H locs := S
  refine n_putF C cf_8 S hin 0 (by decide) w_0_199 ⟨rfl, rfl⟩ ⟨rfl, rfl⟩ (Nat.le_of_ble_eq_true rfl) dX8_init_12 (fun H locs S => ?_)
  have S : Sn D A s ((h0, .inr (8, [.ref q5, .null, .null])) :: ([] ++ pX0 ca q5 u9)) H locs := S
  refine lv_aload_n C.1 C.2.1 dX8_init_15 rfl (lv_at hl 0 rfl) ?_
  refine n_new [.null, .int 0] C S cf_9 w_0_156 w_0_157 w_0_5 fs_9 (Nat.le_of_ble_eq_true rfl) (Nat.le_of_ble_eq_true rfl) dX8_init_16 (fun q16 H S => ?_)
  refine lv_dup C.1 C.2.1 dX8_init_19 rfl ?_
  refine n_mkN (host := "WarmthShared") C S hl k_X9_init (by decide +kernel) ⟨w_0_5, w_0_159, w_0_160⟩ rfl ds_9 [.ref q16, .ref h0] rfl rfl (Nat.le_of_ble_eq_true rfl) ⟨(Nat.le_of_ble_eq_true rfl), (Nat.le_of_ble_eq_true rfl)⟩ ⟨(Nat.le_of_ble_eq_true rfl), (Nat.le_of_ble_eq_true rfl)⟩ dX8_init_20 (fun u20 H locs S => ?_)
  have S : Sn D A s ((h0, .inr (8, [.ref q5, .null, .null])) :: ([] ++ pX0 ca q5 u9 ++ pX9 ca q16 u20)) H locs := S
  refine n_putF C cf_8 S hin 1 (by decide) w_0_201 ⟨rfl, rfl⟩ ⟨rfl, rfl⟩ (Nat.le_of_ble_eq_true rfl) dX8_init_23 (fun H locs S => ?_)
  have S : Sn D A s ((h0, .inr (8, [.ref q5, .ref q16, .null])) :: ([] ++ pX0 ca q5 u9 ++ pX9 ca q16 u20)) H locs := S
  refine lv_aload_n C.1 C.2.1 dX8_init_26 rfl (lv_at hl 0 rfl) ?_
  refine n_new [.null, .null, .null, .null, .int 0] C S cf_1 w_0_172 w_0_173 w_0_6 fs_1 (Nat.le_of_ble_eq_true rfl) (Nat.le_of_ble_eq_true rfl) dX8_init_27 (fun q27 H S => ?_)
  refine lv_dup C.1 C.2.1 dX8_init_30 rfl ?_
  refine n_mkN (host := "WarmthShared") C S hl k_X1_init (by decide +kernel) ⟨w_0_6, w_0_175, w_0_176⟩ rfl ds_1 [.ref q27, .ref h0] rfl rfl (Nat.le_of_ble_eq_true rfl) ⟨(Nat.le_of_ble_eq_true rfl), (Nat.le_of_ble_eq_true rfl)⟩ ⟨(Nat.le_of_ble_eq_true rfl), (Nat.le_of_ble_eq_true rfl)⟩ dX8_init_31 (fun u31 H locs S => ?_)
  have S : Sn D A s ((h0, .inr (8, [.ref q5, .ref q16, .null])) :: ([] ++ pX0 ca q5 u9 ++ pX9 ca q16 u20 ++ pX1 ca q27 u31)) H locs := S
  refine n_putF C cf_8 S hin 2 (by decide) w_0_203 ⟨rfl, rfl⟩ ⟨rfl, rfl⟩ (Nat.le_of_ble_eq_true rfl) dX8_init_34 (fun H locs S => ?_)
  have S : Sn D A s ((h0, .inr (8, [.ref q5, .ref q16, .ref q27])) :: ([] ++ pX0 ca q5 u9 ++ pX9 ca q16 u20 ++ pX1 ca q27 u31)) H locs := S
  have eW : ((h0, .inr (8, [.ref q5, .ref q16, .ref q27])) :: ([] ++ pX0 ca q5 u9 ++ pX9 ca q16 u20 ++ pX1 ca q27 u31)) = pX8 ca h0 (((q5, u9), (q16, u20), (q27, u31))) := by
    simp only [List.append_assoc, List.cons_append, List.nil_append]
    rfl
  rw [eW] at S
  refine W.widen (k := 22) (n := 350) (Nat.le_of_ble_eq_true rfl) (Nat.le_of_ble_eq_true rfl) ?_
  exact W.vret C.1 C.2.1 hr (fun t ht hW => ⟨⟨(), rfl, trivial, (((q5, u9), (q16, u20), (q27, u31))), by rw [ht]; exact S.1, S.2.1⟩, S.2.2.F ht⟩) S.2.2.2.2 dX8_init_37 hlocks

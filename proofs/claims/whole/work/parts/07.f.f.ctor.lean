set_option maxHeartbeats 4000000 in
set_option maxRecDepth 100000 in
theorem k_X2_init : MK yX2_init cX2_init 1 1 12 9 180 [] 2 [.int 0, .int 0, .int 0, .int 0, .null, .null, .null, .null, .null, .null, .null, .null, .null, .int 0] (pX2) := by
  refine MK.of (by decide) ?_
  intro l D ca h0 A p e s m below meth c C S hr hlocks hin
  have hl := lv_entry ([.ref h0]) (n := 1) (Nat.le_of_ble_eq_true rfl)
  rw [lg_entry_eq]
  generalize (lg_sl ([.ref h0]) ++ List.replicate (1 - (lg_sl ([.ref h0])).length) Slot.unset).toArray = ls at hl ⊢
  have hl : lv_has ls 1 [(0, .ref h0)] := hl
  generalize ha9 : ([.ref h0] : List Value).toArray = args at C ⊢
  have C : Cn D ca A p s m c args RX2 cX2_init 1 := C
  have hin : meth.name = "<init>" := hin
  generalize s.heap = H at S ⊢
  generalize ([] : List Loc) = locs at S ⊢
  refine lv_aload_n C.1 C.2.1 dX2_init_0 rfl (lv_at hl 0 rfl) ?_
  refine W.objInit C.1 C.2.1 C.2.2.2.1 (C.2.2.2.2.1 _ w_1_17) (C.2.2.2.2.1 _ oi1) (C.2.2.2.2.1 _ oi2) rfl (by rw [C.2.2.1]; exact hl.1) rfl dX2_init_1 (Nat.le_of_ble_eq_true rfl) (Nat.le_of_ble_eq_true rfl) ?_
  refine W.eq (g2 := F0 m 4 ls []) rfl ?_
  refine lv_aload_n C.1 C.2.1 dX2_init_4 rfl (lv_at hl 0 rfl) ?_
  refine lv_bipush (v := 12) C.1 C.2.1 dX2_init_5 (by decide) ?_
  refine n_newi C S 12 (by decide) (by decide) (Nat.le_of_ble_eq_true rfl) (Nat.le_of_ble_eq_true rfl) (Nat.le_of_ble_eq_true rfl) dX2_init_7 (fun q7 H S => ?_)
  have S : Sn D A s ((h0, .inr (2, [.int 0, .int 0, .int 0, .int 0, .null, .null, .null, .null, .null, .null, .null, .null, .null, .int 0])) :: ([] ++ [(q7, .inl (ca 0, 12, .inl (fun _ => 0)))])) H locs := S
  refine n_putF C cf_2 S hin 4 (by decide) w_1_23 ⟨rfl, rfl⟩ ⟨rfl, rfl⟩ (Nat.le_of_ble_eq_true rfl) dX2_init_9 (fun H locs S => ?_)
  have S : Sn D A s ((h0, .inr (2, [.int 0, .int 0, .int 0, .int 0, .ref q7, .null, .null, .null, .null, .null, .null, .null, .null, .int 0])) :: ([] ++ [(q7, .inl (ca 0, 12, .inl (fun _ => 0)))])) H locs := S
  refine lv_aload_n C.1 C.2.1 dX2_init_12 rfl (lv_at hl 0 rfl) ?_
  refine lv_bipush (v := 12) C.1 C.2.1 dX2_init_13 (by decide) ?_
  refine n_newi C S 12 (by decide) (by decide) (Nat.le_of_ble_eq_true rfl) (Nat.le_of_ble_eq_true rfl) (Nat.le_of_ble_eq_true rfl) dX2_init_15 (fun q15 H S => ?_)
  have S : Sn D A s ((h0, .inr (2, [.int 0, .int 0, .int 0, .int 0, .ref q7, .null, .null, .null, .null, .null, .null, .null, .null, .int 0])) :: ([] ++ [(q7, .inl (ca 0, 12, .inl (fun _ => 0)))] ++ [(q15, .inl (ca 0, 12, .inl (fun _ => 0)))])) H locs := S
  refine n_putF C cf_2 S hin 5 (by decide) w_1_24 ⟨rfl, rfl⟩ ⟨rfl, rfl⟩ (Nat.le_of_ble_eq_true rfl) dX2_init_17 (fun H locs S => ?_)
  have S : Sn D A s ((h0, .inr (2, [.int 0, .int 0, .int 0, .int 0, .ref q7, .ref q15, .null, .null, .null, .null, .null, .null, .null, .int 0])) :: ([] ++ [(q7, .inl (ca 0, 12, .inl (fun _ => 0)))] ++ [(q15, .inl (ca 0, 12, .inl (fun _ => 0)))])) H locs := S
  refine lv_aload_n C.1 C.2.1 dX2_init_20 rfl (lv_at hl 0 rfl) ?_
  refine lv_bipush (v := 12) C.1 C.2.1 dX2_init_21 (by decide) ?_
  refine n_newi C S 12 (by decide) (by decide) (Nat.le_of_ble_eq_true rfl) (Nat.le_of_ble_eq_true rfl) (Nat.le_of_ble_eq_true rfl) dX2_init_23 (fun q23 H S => ?_)
  have S : Sn D A s ((h0, .inr (2, [.int 0, .int 0, .int 0, .int 0, .ref q7, .ref q15, .null, .null, .null, .null, .null, .null, .null, .int 0])) :: ([] ++ [(q7, .inl (ca 0, 12, .inl (fun _ => 0)))] ++ [(q15, .inl (ca 0, 12, .inl (fun _ => 0)))] ++ [(q23, .inl (ca 0, 12, .inl (fun _ => 0)))])) H locs := S
  refine n_putF C cf_2 S hin 6 (by decide) w_1_27 ⟨rfl, rfl⟩ ⟨rfl, rfl⟩ (Nat.le_of_ble_eq_true rfl) dX2_init_25 (fun H locs S => ?_)
  have S : Sn D A s ((h0, .inr (2, [.int 0, .int 0, .int 0, .int 0, .ref q7, .ref q15, .ref q23, .null, .null, .null, .null, .null, .null, .int 0])) :: ([] ++ [(q7, .inl (ca 0, 12, .inl (fun _ => 0)))] ++ [(q15, .inl (ca 0, 12, .inl (fun _ => 0)))] ++ [(q23, .inl (ca 0, 12, .inl (fun _ => 0)))])) H locs := S
  refine lv_aload_n C.1 C.2.1 dX2_init_28 rfl (lv_at hl 0 rfl) ?_
  refine lv_bipush (v := 12) C.1 C.2.1 dX2_init_29 (by decide) ?_
  refine n_newi C S 12 (by decide) (by decide) (Nat.le_of_ble_eq_true rfl) (Nat.le_of_ble_eq_true rfl) (Nat.le_of_ble_eq_true rfl) dX2_init_31 (fun q31 H S => ?_)
  have S : Sn D A s ((h0, .inr (2, [.int 0, .int 0, .int 0, .int 0, .ref q7, .ref q15, .ref q23, .null, .null, .null, .null, .null, .null, .int 0])) :: ([] ++ [(q7, .inl (ca 0, 12, .inl (fun _ => 0)))] ++ [(q15, .inl (ca 0, 12, .inl (fun _ => 0)))] ++ [(q23, .inl (ca 0, 12, .inl (fun _ => 0)))] ++ [(q31, .inl (ca 0, 12, .inl (fun _ => 0)))])) H locs := S
  refine n_putF C cf_2 S hin 7 (by decide) w_1_29 ⟨rfl, rfl⟩ ⟨rfl, rfl⟩ (Nat.le_of_ble_eq_true rfl) dX2_init_33 (fun H locs S => ?_)
  have S : Sn D A s ((h0, .inr (2, [.int 0, .int 0, .int 0, .int 0, .ref q7, .ref q15, .ref q23, .ref q31, .null, .null, .null, .null, .null, .int 0])) :: ([] ++ [(q7, .inl (ca 0, 12, .inl (fun _ => 0)))] ++ [(q15, .inl (ca 0, 12, .inl (fun _ => 0)))] ++ [(q23, .inl (ca 0, 12, .inl (fun _ => 0)))] ++ [(q31, .inl (ca 0, 12, .inl (fun _ => 0)))])) H locs := S
  refine lv_aload_n C.1 C.2.1 dX2_init_36 rfl (lv_at hl 0 rfl) ?_
  refine lv_bipush (v := 12) C.1 C.2.1 dX2_init_37 (by decide) ?_
  refine n_newi C S 12 (by decide) (by decide) (Nat.le_of_ble_eq_true rfl) (Nat.le_of_ble_eq_true rfl) (Nat.le_of_ble_eq_true rfl) dX2_init_39 (fun q39 H S => ?_)
  have S : Sn D A s ((h0, .inr (2, [.int 0, .int 0, .int 0, .int 0, .ref q7, .ref q15, .ref q23, .ref q31, .null, .null, .null, .null, .null, .int 0])) :: ([] ++ [(q7, .inl (ca 0, 12, .inl (fun _ => 0)))] ++ [(q15, .inl (ca 0, 12, .inl (fun _ => 0)))] ++ [(q23, .inl (ca 0, 12, .inl (fun _ => 0)))] ++ [(q31, .inl (ca 0, 12, .inl (fun _ => 0)))] ++ [(q39, .inl (ca 0, 12, .inl (fun _ => 0)))])) H locs := S
  refine n_putF C cf_2 S hin 8 (by decide) w_1_31 ⟨rfl, rfl⟩ ⟨rfl, rfl⟩ (Nat.le_of_ble_eq_true rfl) dX2_init_41 (fun H locs S => ?_)
  have S : Sn D A s ((h0, .inr (2, [.int 0, .int 0, .int 0, .int 0, .ref q7, .ref q15, .ref q23, .ref q31, .ref q39, .null, .null, .null, .null, .int 0])) :: ([] ++ [(q7, .inl (ca 0, 12, .inl (fun _ => 0)))] ++ [(q15, .inl (ca 0, 12, .inl (fun _ => 0)))] ++ [(q23, .inl (ca 0, 12, .inl (fun _ => 0)))] ++ [(q31, .inl (ca 0, 12, .inl (fun _ => 0)))] ++ [(q39, .inl (ca 0, 12, .inl (fun _ => 0)))])) H locs := S
  refine lv_aload_n C.1 C.2.1 dX2_init_44 rfl (lv_at hl 0 rfl) ?_
  refine lv_bipush (v := 12) C.1 C.2.1 dX2_init_45 (by decide) ?_
  refine n_newi C S 12 (by decide) (by decide) (Nat.le_of_ble_eq_true rfl) (Nat.le_of_ble_eq_true rfl) (Nat.le_of_ble_eq_true rfl) dX2_init_47 (fun q47 H S => ?_)
  have S : Sn D A s ((h0, .inr (2, [.int 0, .int 0, .int 0, .int 0, .ref q7, .ref q15, .ref q23, .ref q31, .ref q39, .null, .null, .null, .null, .int 0])) :: ([] ++ [(q7, .inl (ca 0, 12, .inl (fun _ => 0)))] ++ [(q15, .inl (ca 0, 12, .inl (fun _ => 0)))] ++ [(q23, .inl (ca 0, 12, .inl (fun _ => 0)))] ++ [(q31, .inl (ca 0, 12, .inl (fun _ => 0)))] ++ [(q39, .inl (ca 0, 12, .inl (fun _ => 0)))] ++ [(q47, .inl (ca 0, 12, .inl (fun _ => 0)))])) H locs := S
  refine n_putF C cf_2 S hin 9 (by decide) w_1_32 ⟨rfl, rfl⟩ ⟨rfl, rfl⟩ (Nat.le_of_ble_eq_true rfl) dX2_init_49 (fun H locs S => ?_)
  have S : Sn D A s ((h0, .inr (2, [.int 0, .int 0, .int 0, .int 0, .ref q7, .ref q15, .ref q23, .ref q31, .ref q39, .ref q47, .null, .null, .null, .int 0])) :: ([] ++ [(q7, .inl (ca 0, 12, .inl (fun _ => 0)))] ++ [(q15, .inl (ca 0, 12, .inl (fun _ => 0)))] ++ [(q23, .inl (ca 0, 12, .inl (fun _ => 0)))] ++ [(q31, .inl (ca 0, 12, .inl (fun _ => 0)))] ++ [(q39, .inl (ca 0, 12, .inl (fun _ => 0)))] ++ [(q47, .inl (ca 0, 12, .inl (fun _ => 0)))])) H locs := S
  refine lv_aload_n C.1 C.2.1 dX2_init_52 rfl (lv_at hl 0 rfl) ?_
  refine lv_bipush (v := 12) C.1 C.2.1 dX2_init_53 (by decide) ?_
  refine n_newi C S 12 (by decide) (by decide) (Nat.le_of_ble_eq_true rfl) (Nat.le_of_ble_eq_true rfl) (Nat.le_of_ble_eq_true rfl) dX2_init_55 (fun q55 H S => ?_)
  have S : Sn D A s ((h0, .inr (2, [.int 0, .int 0, .int 0, .int 0, .ref q7, .ref q15, .ref q23, .ref q31, .ref q39, .ref q47, .null, .null, .null, .int 0])) :: ([] ++ [(q7, .inl (ca 0, 12, .inl (fun _ => 0)))] ++ [(q15, .inl (ca 0, 12, .inl (fun _ => 0)))] ++ [(q23, .inl (ca 0, 12, .inl (fun _ => 0)))] ++ [(q31, .inl (ca 0, 12, .inl (fun _ => 0)))] ++ [(q39, .inl (ca 0, 12, .inl (fun _ => 0)))] ++ [(q47, .inl (ca 0, 12, .inl (fun _ => 0)))] ++ [(q55, .inl (ca 0, 12, .inl (fun _ => 0)))])) H locs := S
  refine n_putF C cf_2 S hin 10 (by decide) w_1_34 ⟨rfl, rfl⟩ ⟨rfl, rfl⟩ (Nat.le_of_ble_eq_true rfl) dX2_init_57 (fun H locs S => ?_)
  have S : Sn D A s ((h0, .inr (2, [.int 0, .int 0, .int 0, .int 0, .ref q7, .ref q15, .ref q23, .ref q31, .ref q39, .ref q47, .ref q55, .null, .null, .int 0])) :: ([] ++ [(q7, .inl (ca 0, 12, .inl (fun _ => 0)))] ++ [(q15, .inl (ca 0, 12, .inl (fun _ => 0)))] ++ [(q23, .inl (ca 0, 12, .inl (fun _ => 0)))] ++ [(q31, .inl (ca 0, 12, .inl (fun _ => 0)))] ++ [(q39, .inl (ca 0, 12, .inl (fun _ => 0)))] ++ [(q47, .inl (ca 0, 12, .inl (fun _ => 0)))] ++ [(q55, .inl (ca 0, 12, .inl (fun _ => 0)))])) H locs := S
  refine lv_aload_n C.1 C.2.1 dX2_init_60 rfl (lv_at hl 0 rfl) ?_
  refine lv_bipush (v := 48) C.1 C.2.1 dX2_init_61 (by decide) ?_
  refine n_newi C S 48 (by decide) (by decide) (Nat.le_of_ble_eq_true rfl) (Nat.le_of_ble_eq_true rfl) (Nat.le_of_ble_eq_true rfl) dX2_init_63 (fun q63 H S => ?_)
  have S : Sn D A s ((h0, .inr (2, [.int 0, .int 0, .int 0, .int 0, .ref q7, .ref q15, .ref q23, .ref q31, .ref q39, .ref q47, .ref q55, .null, .null, .int 0])) :: ([] ++ [(q7, .inl (ca 0, 12, .inl (fun _ => 0)))] ++ [(q15, .inl (ca 0, 12, .inl (fun _ => 0)))] ++ [(q23, .inl (ca 0, 12, .inl (fun _ => 0)))] ++ [(q31, .inl (ca 0, 12, .inl (fun _ => 0)))] ++ [(q39, .inl (ca 0, 12, .inl (fun _ => 0)))] ++ [(q47, .inl (ca 0, 12, .inl (fun _ => 0)))] ++ [(q55, .inl (ca 0, 12, .inl (fun _ => 0)))] ++ [(q63, .inl (ca 0, 48, .inl (fun _ => 0)))])) H locs := S
  refine n_putF C cf_2 S hin 11 (by decide) w_1_36 ⟨rfl, rfl⟩ ⟨rfl, rfl⟩ (Nat.le_of_ble_eq_true rfl) dX2_init_65 (fun H locs S => ?_)
  have S : Sn D A s ((h0, .inr (2, [.int 0, .int 0, .int 0, .int 0, .ref q7, .ref q15, .ref q23, .ref q31, .ref q39, .ref q47, .ref q55, .ref q63, .null, .int 0])) :: ([] ++ [(q7, .inl (ca 0, 12, .inl (fun _ => 0)))] ++ [(q15, .inl (ca 0, 12, .inl (fun _ => 0)))] ++ [(q23, .inl (ca 0, 12, .inl (fun _ => 0)))] ++ [(q31, .inl (ca 0, 12, .inl (fun _ => 0)))] ++ [(q39, .inl (ca 0, 12, .inl (fun _ => 0)))] ++ [(q47, .inl (ca 0, 12, .inl (fun _ => 0)))] ++ [(q55, .inl (ca 0, 12, .inl (fun _ => 0)))] ++ [(q63, .inl (ca 0, 48, .inl (fun _ => 0)))])) H locs := S
  refine lv_aload_n C.1 C.2.1 dX2_init_68 rfl (lv_at hl 0 rfl) ?_
  refine lv_bipush (v := 48) C.1 C.2.1 dX2_init_69 (by decide) ?_
  refine n_newi C S 48 (by decide) (by decide) (Nat.le_of_ble_eq_true rfl) (Nat.le_of_ble_eq_true rfl) (Nat.le_of_ble_eq_true rfl) dX2_init_71 (fun q71 H S => ?_)
  have S : Sn D A s ((h0, .inr (2, [.int 0, .int 0, .int 0, .int 0, .ref q7, .ref q15, .ref q23, .ref q31, .ref q39, .ref q47, .ref q55, .ref q63, .null, .int 0])) :: ([] ++ [(q7, .inl (ca 0, 12, .inl (fun _ => 0)))] ++ [(q15, .inl (ca 0, 12, .inl (fun _ => 0)))] ++ [(q23, .inl (ca 0, 12, .inl (fun _ => 0)))] ++ [(q31, .inl (ca 0, 12, .inl (fun _ => 0)))] ++ [(q39, .inl (ca 0, 12, .inl (fun _ => 0)))] ++ [(q47, .inl (ca 0, 12, .inl (fun _ => 0)))] ++ [(q55, .inl (ca 0, 12, .inl (fun _ => 0)))] ++ [(q63, .inl (ca 0, 48, .inl (fun _ => 0)))] ++ [(q71, .inl (ca 0, 48, .inl (fun _ => 0)))])) H locs := S
  refine n_putF C cf_2 S hin 12 (by decide) w_1_37 ⟨rfl, rfl⟩ ⟨rfl, rfl⟩ (Nat.le_of_ble_eq_true rfl) dX2_init_73 (fun H locs S => ?_)
  have S : Sn D A s ((h0, .inr (2, [.int 0, .int 0, .int 0, .int 0, .ref q7, .ref q15, .ref q23, .ref q31, .ref q39, .ref q47, .ref q55, .ref q63, .ref q71, .int 0])) :: ([] ++ [(q7, .inl (ca 0, 12, .inl (fun _ => 0)))] ++ [(q15, .inl (ca 0, 12, .inl (fun _ => 0)))] ++ [(q23, .inl (ca 0, 12, .inl (fun _ => 0)))] ++ [(q31, .inl (ca 0, 12, .inl (fun _ => 0)))] ++ [(q39, .inl (ca 0, 12, .inl (fun _ => 0)))] ++ [(q47, .inl (ca 0, 12, .inl (fun _ => 0)))] ++ [(q55, .inl (ca 0, 12, .inl (fun _ => 0)))] ++ [(q63, .inl (ca 0, 48, .inl (fun _ => 0)))] ++ [(q71, .inl (ca 0, 48, .inl (fun _ => 0)))])) H locs := S
  have eW : ((h0, .inr (2, [.int 0, .int 0, .int 0, .int 0, .ref q7, .ref q15, .ref q23, .ref q31, .ref q39, .ref q47, .ref q55, .ref q63, .ref q71, .int 0])) :: ([] ++ [(q7, .inl (ca 0, 12, .inl (fun _ => 0)))] ++ [(q15, .inl (ca 0, 12, .inl (fun _ => 0)))] ++ [(q23, .inl (ca 0, 12, .inl (fun _ => 0)))] ++ [(q31, .inl (ca 0, 12, .inl (fun _ => 0)))] ++ [(q39, .inl (ca 0, 12, .inl (fun _ => 0)))] ++ [(q47, .inl (ca 0, 12, .inl (fun _ => 0)))] ++ [(q55, .inl (ca 0, 12, .inl (fun _ => 0)))] ++ [(q63, .inl (ca 0, 48, .inl (fun _ => 0)))] ++ [(q71, .inl (ca 0, 48, .inl (fun _ => 0)))])) = pX2 ca h0 (fun k => ([q7, q15, q23, q31, q39, q47, q55, q63, q71] : List Nat).getD k 0) := by
    simp only [List.append_assoc, List.cons_append, List.nil_append]
    rfl
  rw [eW] at S
  refine W.widen (k := 9) (n := 180) (Nat.le_of_ble_eq_true rfl) (Nat.le_of_ble_eq_true rfl) ?_
  exact W.vret C.1 C.2.1 hr (fun t ht hW => ⟨⟨(), rfl, trivial, (fun k => ([q7, q15, q23, q31, q39, q47, q55, q63, q71] : List Nat).getD k 0), by rw [ht]; exact S.1, S.2.1⟩, S.2.2.F ht⟩) S.2.2.2.2 dX2_init_76 hlocks

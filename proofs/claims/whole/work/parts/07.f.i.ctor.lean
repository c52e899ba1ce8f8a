set_option maxHeartbeats 4000000 in
set_option maxRecDepth 100000 in
theorem k_X6_init : MK yX6_init cX6_init 1 1 12 7 172 [] 6 [.null, .null, .null] (pX6) := by
  refine MK.of (by decide) ?_
  intro l D ca h0 A p e s m below meth c C S hr hlocks hin
  have hl := lv_entry ([.ref h0]) (n := 1) (Nat.le_of_ble_eq_true rfl)
  rw [lg_entry_eq]
  generalize (lg_sl ([.ref h0]) ++ List.replicate (1 - (lg_sl ([.ref h0])).length) Slot.unset).toArray = ls at hl ⊢
  have hl : lv_has ls 1 [(0, .ref h0)] := hl
  generalize ha9 : ([.ref h0] : List Value).toArray = args at C ⊢
  have C : Cn D ca A p s m c args RX6 cX6_init 1 := C
  have hin : meth.name = "<init>" := hin
  generalize s.heap = H at S ⊢
  generalize ([] : List Loc) = locs at S ⊢
  refine lv_aload_n C.1 C.2.1 dX6_init_0 rfl (lv_at hl 0 rfl) ?_
  refine W.objInit C.1 C.2.1 C.2.2.2.1 (C.2.2.2.2.1 _ w_1_95) (C.2.2.2.2.1 _ oi1) (C.2.2.2.2.1 _ oi2) rfl (by rw [C.2.2.1]; exact hl.1) rfl dX6_init_1 (Nat.le_of_ble_eq_true rfl) (Nat.le_of_ble_eq_true rfl) ?_
  refine W.eq (g2 := F0 m 4 ls []) rfl ?_
  refine lv_aload_n C.1 C.2.1 dX6_init_4 rfl (lv_at hl 0 rfl) ?_
  refine lv_iconst (v := 4) C.1 C.2.1 dX6_init_5 (by decide) ?_
  refine lv_bipush (v := 40) C.1 C.2.1 dX6_init_6 (by decide) ?_
  refine n_multi C S w_1_96 (Nat.le_of_ble_eq_true rfl) (Nat.le_of_ble_eq_true rfl) dX6_init_8 (fun q8 H S => ?_)
  have S : Sn D A s ((h0, .inr (6, [.null, .null, .null])) :: ([] ++ [(q8, .inl (ca 3, 4, .inr (.inr (.inr (.inr (fun j => if j < 4 then some (q8 + 1 + j) else none)))))), (q8 + 1 + 0, .inl (ca 1, 40, .inr (.inl (fun _ => 0)))), (q8 + 1 + 1, .inl (ca 1, 40, .inr (.inl (fun _ => 0)))), (q8 + 1 + 2, .inl (ca 1, 40, .inr (.inl (fun _ => 0)))), (q8 + 1 + 3, .inl (ca 1, 40, .inr (.inl (fun _ => 0))))])) H locs := S
  refine n_putF C cf_6 S hin 0 (by decide) w_1_98 ⟨rfl, rfl⟩ ⟨rfl, rfl⟩ (Nat.le_of_ble_eq_true rfl) dX6_init_12 (fun H locs S => ?_)
  have S : Sn D A s ((h0, .inr (6, [.ref q8, .null, .null])) :: ([] ++ [(q8, .inl (ca 3, 4, .inr (.inr (.inr (.inr (fun j => if j < 4 then some (q8 + 1 + j) else none)))))), (q8 + 1 + 0, .inl (ca 1, 40, .inr (.inl (fun _ => 0)))), (q8 + 1 + 1, .inl (ca 1, 40, .inr (.inl (fun _ => 0)))), (q8 + 1 + 2, .inl (ca 1, 40, .inr (.inl (fun _ => 0)))), (q8 + 1 + 3, .inl (ca 1, 40, .inr (.inl (fun _ => 0))))])) H locs := S
  refine lv_aload_n C.1 C.2.1 dX6_init_15 rfl (lv_at hl 0 rfl) ?_
  refine lv_iconst (v := 4) C.1 C.2.1 dX6_init_16 (by decide) ?_
  refine n_newi C S 4 (by decide) (by decide) (Nat.le_of_ble_eq_true rfl) (Nat.le_of_ble_eq_true rfl) (Nat.le_of_ble_eq_true rfl) dX6_init_17 (fun q17 H S => ?_)
  have S : Sn D A s ((h0, .inr (6, [.ref q8, .null, .null])) :: ([] ++ [(q8, .inl (ca 3, 4, .inr (.inr (.inr (.inr (fun j => if j < 4 then some (q8 + 1 + j) else none)))))), (q8 + 1 + 0, .inl (ca 1, 40, .inr (.inl (fun _ => 0)))), (q8 + 1 + 1, .inl (ca 1, 40, .inr (.inl (fun _ => 0)))), (q8 + 1 + 2, .inl (ca 1, 40, .inr (.inl (fun _ => 0)))), (q8 + 1 + 3, .inl (ca 1, 40, .inr (.inl (fun _ => 0))))] ++ [(q17, .inl (ca 0, 4, .inl (fun _ => 0)))])) H locs := S
  refine n_putF C cf_6 S hin 1 (by decide) w_1_100 ⟨rfl, rfl⟩ ⟨rfl, rfl⟩ (Nat.le_of_ble_eq_true rfl) dX6_init_19 (fun H locs S => ?_)
  have S : Sn D A s ((h0, .inr (6, [.ref q8, .ref q17, .null])) :: ([] ++ [(q8, .inl (ca 3, 4, .inr (.inr (.inr (.inr (fun j => if j < 4 then some (q8 + 1 + j) else none)))))), (q8 + 1 + 0, .inl (ca 1, 40, .inr (.inl (fun _ => 0)))), (q8 + 1 + 1, .inl (ca 1, 40, .inr (.inl (fun _ => 0)))), (q8 + 1 + 2, .inl (ca 1, 40, .inr (.inl (fun _ => 0)))), (q8 + 1 + 3, .inl (ca 1, 40, .inr (.inl (fun _ => 0))))] ++ [(q17, .inl (ca 0, 4, .inl (fun _ => 0)))])) H locs := S
  refine lv_aload_n C.1 C.2.1 dX6_init_22 rfl (lv_at hl 0 rfl) ?_
  refine lv_iconst (v := 4) C.1 C.2.1 dX6_init_23 (by decide) ?_
  refine n_newi C S 4 (by decide) (by decide) (Nat.le_of_ble_eq_true rfl) (Nat.le_of_ble_eq_true rfl) (Nat.le_of_ble_eq_true rfl) dX6_init_24 (fun q24 H S => ?_)
  have S : Sn D A s ((h0, .inr (6, [.ref q8, .ref q17, .null])) :: ([] ++ [(q8, .inl (ca 3, 4, .inr (.inr (.inr (.inr (fun j => if j < 4 then some (q8 + 1 + j) else none)))))), (q8 + 1 + 0, .inl (ca 1, 40, .inr (.inl (fun _ => 0)))), (q8 + 1 + 1, .inl (ca 1, 40, .inr (.inl (fun _ => 0)))), (q8 + 1 + 2, .inl (ca 1, 40, .inr (.inl (fun _ => 0)))), (q8 + 1 + 3, .inl (ca 1, 40, .inr (.inl (fun _ => 0))))] ++ [(q17, .inl (ca 0, 4, .inl (fun _ => 0)))] ++ [(q24, .inl (ca 0, 4, .inl (fun _ => 0)))])) H locs := S
  refine n_putF C cf_6 S hin 2 (by decide) w_1_102 ⟨rfl, rfl⟩ ⟨rfl, rfl⟩ (Nat.le_of_ble_eq_true rfl) dX6_init_26 (fun H locs S => ?_)
  have S : Sn D A s ((h0, .inr (6, [.ref q8, .ref q17, .ref q24])) :: ([] ++ [(q8, .inl (ca 3, 4, .inr (.inr (.inr (.inr (fun j => if j < 4 then some (q8 + 1 + j) else none)))))), (q8 + 1 + 0, .inl (ca 1, 40, .inr (.inl (fun _ => 0)))), (q8 + 1 + 1, .inl (ca 1, 40, .inr (.inl (fun _ => 0)))), (q8 + 1 + 2, .inl (ca 1, 40, .inr (.inl (fun _ => 0)))), (q8 + 1 + 3, .inl (ca 1, 40, .inr (.inl (fun _ => 0))))] ++ [(q17, .inl (ca 0, 4, .inl (fun _ => 0)))] ++ [(q24, .inl (ca 0, 4, .inl (fun _ => 0)))])) H locs := S
  have eW : ((h0, .inr (6, [.ref q8, .ref q17, .ref q24])) :: ([] ++ [(q8, .inl (ca 3, 4, .inr (.inr (.inr (.inr (fun j => if j < 4 then some (q8 + 1 + j) else none)))))), (q8 + 1 + 0, .inl (ca 1, 40, .inr (.inl (fun _ => 0)))), (q8 + 1 + 1, .inl (ca 1, 40, .inr (.inl (fun _ => 0)))), (q8 + 1 + 2, .inl (ca 1, 40, .inr (.inl (fun _ => 0)))), (q8 + 1 + 3, .inl (ca 1, 40, .inr (.inl (fun _ => 0))))] ++ [(q17, .inl (ca 0, 4, .inl (fun _ => 0)))] ++ [(q24, .inl (ca 0, 4, .inl (fun _ => 0)))])) = pX6 ca h0 (fun k => ([q8, q17, q24] : List Nat).getD k 0) := by
    simp only [List.append_assoc, List.cons_append, List.nil_append]
    rfl
  rw [eW] at S
  refine W.widen (k := 7) (n := 172) (Nat.le_of_ble_eq_true rfl) (Nat.le_of_ble_eq_true rfl) ?_
  exact W.vret C.1 C.2.1 hr (fun t ht hW => ⟨⟨(), rfl, trivial, (fun k => ([q8, q17, q24] : List Nat).getD k 0), by rw [ht]; exact S.1, S.2.1⟩, S.2.2.F ht⟩) S.2.2.2.2 dX6_init_29 hlocks

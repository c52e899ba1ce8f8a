set_option maxHeartbeats 4000000 in
set_option maxRecDepth 100000 in
theorem k_X3_init {a1 : Nat} {a2 : Nat} : MK yX3_init cX3_init 3 1 12 1 12 [.ref a1, .ref a2] 3 [.null, .null, .null, .int 0, .int 0] (pX3 a1 a2) := by
  refine MK.of (by decide) ?_
  intro l D ca h0 A p e s m below meth c C S hr hlocks hin
  have hl := lv_entry ([.ref h0, .ref a1, .ref a2]) (n := 3) (Nat.le_of_ble_eq_true rfl)
  rw [lg_entry_eq]
  generalize (lg_sl ([.ref h0, .ref a1, .ref a2]) ++ List.replicate (3 - (lg_sl ([.ref h0, .ref a1, .ref a2])).length) Slot.unset).toArray = ls at hl ⊢
  have hl : lv_has ls 3 [(0, .ref h0), (1, .ref a1), (2, .ref a2)] := hl
  generalize ha9 : ([.ref h0, .ref a1, .ref a2] : List Value).toArray = args at C ⊢
  have C : Cn D ca A p s m c args RX3 cX3_init 3 := C
  have hin : meth.name = "<init>" := hin
  generalize s.heap = H at S ⊢
  generalize ([] : List Loc) = locs at S ⊢
  refine lv_aload_n C.1 C.2.1 dX3_init_0 rfl (lv_at hl 0 rfl) ?_
  refine W.objInit C.1 C.2.1 C.2.2.2.1 (C.2.2.2.2.1 _ w_1_73) (C.2.2.2.2.1 _ oi1) (C.2.2.2.2.1 _ oi2) rfl (by rw [C.2.2.1]; exact hl.1) rfl dX3_init_1 (Nat.le_of_ble_eq_true rfl) (Nat.le_of_ble_eq_true rfl) ?_
  refine W.eq (g2 := F0 m 4 ls []) rfl ?_
  refine lv_aload_n C.1 C.2.1 dX3_init_4 rfl (lv_at hl 0 rfl) ?_
  refine lv_bipush (v := 12) C.1 C.2.1 dX3_init_5 (by decide) ?_
  refine n_newi C S 12 (by decide) (by decide) (Nat.le_of_ble_eq_true rfl) (Nat.le_of_ble_eq_true rfl) (Nat.le_of_ble_eq_true rfl) dX3_init_7 (fun q7 H S => ?_)
  have S : Sn D A s ((h0, .inr (3, [.null, .null, .null, .int 0, .int 0])) :: ([] ++ [(q7, .inl (ca 0, 12, .inl (fun _ => 0)))])) H locs := S
  refine n_putF C cf_3 S hin 2 (by decide) w_1_76 ⟨rfl, rfl⟩ ⟨rfl, rfl⟩ (Nat.le_of_ble_eq_true rfl) dX3_init_9 (fun H locs S => ?_)
  have S : Sn D A s ((h0, .inr (3, [.null, .null, .ref q7, .int 0, .int 0])) :: ([] ++ [(q7, .inl (ca 0, 12, .inl (fun _ => 0)))])) H locs := S
  refine lv_aload_n C.1 C.2.1 dX3_init_12 rfl (lv_at hl 0 rfl) ?_
  refine lv_aload_n C.1 C.2.1 dX3_init_13 rfl (lv_at hl 1 rfl) ?_
  refine n_putF C cf_3 S hin 0 (by decide) w_1_74 ⟨rfl, rfl⟩ ⟨rfl, rfl⟩ (Nat.le_of_ble_eq_true rfl) dX3_init_14 (fun H locs S => ?_)
  have S : Sn D A s ((h0, .inr (3, [.ref a1, .null, .ref q7, .int 0, .int 0])) :: ([] ++ [(q7, .inl (ca 0, 12, .inl (fun _ => 0)))])) H locs := S
  refine lv_aload_n C.1 C.2.1 dX3_init_17 rfl (lv_at hl 0 rfl) ?_
  refine lv_aload_n C.1 C.2.1 dX3_init_18 rfl (lv_at hl 2 rfl) ?_
  refine n_putF C cf_3 S hin 1 (by decide) w_1_75 ⟨rfl, rfl⟩ ⟨rfl, rfl⟩ (Nat.le_of_ble_eq_true rfl) dX3_init_19 (fun H locs S => ?_)
  have S : Sn D A s ((h0, .inr (3, [.ref a1, .ref a2, .ref q7, .int 0, .int 0])) :: ([] ++ [(q7, .inl (ca 0, 12, .inl (fun _ => 0)))])) H locs := S
  have eW : ((h0, .inr (3, [.ref a1, .ref a2, .ref q7, .int 0, .int 0])) :: ([] ++ [(q7, .inl (ca 0, 12, .inl (fun _ => 0)))])) = pX3 a1 a2 ca h0 (fun k => ([q7] : List Nat).getD k 0) := by
    simp only [List.append_assoc, List.cons_append, List.nil_append]
    rfl
  rw [eW] at S
  refine W.widen (k := 1) (n := 12) (Nat.le_of_ble_eq_true rfl) (Nat.le_of_ble_eq_true rfl) ?_
  exact W.vret C.1 C.2.1 hr (fun t ht hW => ⟨⟨(), rfl, trivial, (fun k => ([q7] : List Nat).getD k 0), by rw [ht]; exact S.1, S.2.1⟩, S.2.2.F ht⟩) S.2.2.2.2 dX3_init_22 hlocks

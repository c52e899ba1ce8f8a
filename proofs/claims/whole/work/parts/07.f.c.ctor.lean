set_option maxHeartbeats 4000000 in
set_option maxRecDepth 100000 in
theorem k_X9_init : MK yX9_init cX9_init 1 1 12 1 80 [] 9 [.null, .int 0] (pX9) := by
  refine MK.of (by decide) ?_
  intro l D ca h0 A p e s m below meth c C S hr hlocks hin
  have hl := lv_entry ([.ref h0]) (n := 1) (Nat.le_of_ble_eq_true rfl)
  rw [lg_entry_eq]
  generalize (lg_sl ([.ref h0]) ++ List.replicate (1 - (lg_sl ([.ref h0])).length) Slot.unset).toArray = ls at hl ⊢
  have hl : lv_has ls 1 [(0, .ref h0)] := hl
  generalize ha9 : ([.ref h0] : List Value).toArray = args at C ⊢
  have C : Cn D ca A p s m c args RX9 cX9_init 1 := C
  have hin : meth.name = "<init>" := hin
  generalize s.heap = H at S ⊢
  generalize ([] : List Loc) = locs at S ⊢
  refine lv_aload_n C.1 C.2.1 dX9_init_0 rfl (lv_at hl 0 rfl) ?_
  refine W.objInit C.1 C.2.1 C.2.2.2.1 (C.2.2.2.2.1 _ w_0_161) (C.2.2.2.2.1 _ oi1) (C.2.2.2.2.1 _ oi2) rfl (by rw [C.2.2.1]; exact hl.1) rfl dX9_init_1 (Nat.le_of_ble_eq_true rfl) (Nat.le_of_ble_eq_true rfl) ?_
  refine W.eq (g2 := F0 m 4 ls []) rfl ?_
  refine lv_aload_n C.1 C.2.1 dX9_init_4 rfl (lv_at hl 0 rfl) ?_
  refine lv_bipush (v := 80) C.1 C.2.1 dX9_init_5 (by decide) ?_
  refine n_newi C S 80 (by decide) (by decide) (Nat.le_of_ble_eq_true rfl) (Nat.le_of_ble_eq_true rfl) (Nat.le_of_ble_eq_true rfl) dX9_init_7 (fun q7 H S => ?_)
  have S : Sn D A s ((h0, .inr (9, [.null, .int 0])) :: ([] ++ [(q7, .inl (ca 0, 80, .inl (fun _ => 0)))])) H locs := S
  refine n_putF C cf_9 S hin 0 (by decide) w_0_162 ⟨rfl, rfl⟩ ⟨rfl, rfl⟩ (Nat.le_of_ble_eq_true rfl) dX9_init_9 (fun H locs S => ?_)
  have S : Sn D A s ((h0, .inr (9, [.ref q7, .int 0])) :: ([] ++ [(q7, .inl (ca 0, 80, .inl (fun _ => 0)))])) H locs := S
  refine lv_aload_n C.1 C.2.1 dX9_init_12 rfl (lv_at hl 0 rfl) ?_
  refine lv_iconst (v := 0) C.1 C.2.1 dX9_init_13 (by decide) ?_
  refine n_put C cf_9 S 1 (by decide) w_0_164 ⟨rfl, rfl⟩ ⟨rfl, rfl⟩ (Nat.le_of_ble_eq_true rfl) dX9_init_14 (fun H locs S => ?_)
  have S : Sn D A s ((h0, .inr (9, [.ref q7, .int 0])) :: ([] ++ [(q7, .inl (ca 0, 80, .inl (fun _ => 0)))])) H locs := S
  have eW : ((h0, .inr (9, [.ref q7, .int 0])) :: ([] ++ [(q7, .inl (ca 0, 80, .inl (fun _ => 0)))])) = pX9 ca h0 (fun k => ([q7] : List Nat).getD k 0) := by
    simp only [List.append_assoc, List.cons_append, List.nil_append]
    rfl
  rw [eW] at S
  refine W.widen (k := 1) (n := 80) (Nat.le_of_ble_eq_true rfl) (Nat.le_of_ble_eq_true rfl) ?_
  exact W.vret C.1 C.2.1 hr (fun t ht hW => ⟨⟨(), rfl, trivial, (fun k => ([q7] : List Nat).getD k 0), by rw [ht]; exact S.1, S.2.1⟩, S.2.2.F ht⟩) S.2.2.2.2 dX9_init_17 hlocks

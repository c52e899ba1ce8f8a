set_option maxHeartbeats 4000000 in
set_option maxRecDepth 100000 in
/-- from the entry, for every script of at most 384 ints, the law comes to its end with true -/
theorem whole_start {p : Program} {e : Env} {s : State} {m : MethodId} {below : List Frame} {meth : Method} {c : Code} (l : Launch) {b L : Nat} {xs : Nat → Int32} (hL : L ≤ 384) (C0 : lw_At p s m meth c b L xs) : W p l e room_1 s m #[Value.ref b] below meth c s.heap [] 0 0 (lw_Z below #[Value.ref b] s) (entryFrame m ([Value.ref b] : List Value).toArray 4) := by
  obtain ⟨D, ca, hK⟩ := kn_of C0
  obtain ⟨a104, a105, a106, z1, z2, z3, z4, z5⟩ := st_of C0
  have hB := at_B C0
  obtain ⟨hx, hb, hr, hml, hown, hts, hX, hbl, hlocks, hgv⟩ := id C0
  have C : Cn D ca (fun q : Nat => s.heap.size ≤ q) p s m c #[Value.ref b] RL code 4 := ⟨hx, hb, hml, hown, hB, hK, fun _ h => h⟩
  have S : Sn D (fun q : Nat => s.heap.size ≤ q) s [] s.heap [] := ⟨fun k q h => by simp at h, ⟨fun i j x y h => by simp at h, fun k q h => by simp at h⟩, va_S.rf⟩
  have hl := lv_entry ([.ref b]) (n := 4) (Nat.le_of_ble_eq_true rfl)
  rw [lg_entry_eq]
  generalize (lg_sl ([.ref b]) ++ List.replicate (4 - (lg_sl ([.ref b])).length) Slot.unset).toArray = ls at hl ⊢
  have hl : lv_has ls 4 [(0, .ref b)] := hl
  refine n_new _ C S cf_10 s_0_20 s_0_21 v_0_1 fs_10 (Nat.le_of_ble_eq_true rfl) (Nat.le_of_ble_eq_true rfl) dL_0 (fun hx1 H S => ?_)
  refine lv_dup C.1 C.2.1 dL_3 rfl ?_
  refine n_mkP C S hl k_X10_init s_0_22 ⟨v_0_1, s_0_23, s_0_24⟩ rfl ds_10 [.ref hx1] rfl rfl (Nat.le_of_ble_eq_true rfl) ⟨Nat.le_of_ble_eq_true rfl, Nat.le_of_ble_eq_true rfl⟩ ⟨Nat.le_of_ble_eq_true rfl, Nat.le_of_ble_eq_true rfl⟩ dL_4 (fun ux H locs S => ?_)
  refine lv_astore_n (lv' := [(1, .ref hx1), (0, .ref b)]) C.1 C.2.1 dL_7 rfl hl (by decide) rfl (fun ls hl => ?_)
  refine n_new _ C S cf_11 s_4_4 s_4_5 v_0_12 fs_11 (Nat.le_of_ble_eq_true rfl) (Nat.le_of_ble_eq_true rfl) dL_8 (fun hm H S => ?_)
  refine lv_dup C.1 C.2.1 dL_11 rfl ?_
  refine n_mkP C S hl k_X11_init s_4_6 ⟨v_0_12, s_4_7, s_4_8⟩ rfl ds_11 [.ref hm] rfl rfl (Nat.le_of_ble_eq_true rfl) ⟨Nat.le_of_ble_eq_true rfl, Nat.le_of_ble_eq_true rfl⟩ ⟨Nat.le_of_ble_eq_true rfl, Nat.le_of_ble_eq_true rfl⟩ dL_12 (fun um H locs S => ?_)
  have S : Sn D (fun q : Nat => s.heap.size ≤ q) s (bigW ca hx1 ux hm um) H locs := S
  refine lv_astore_n (lv' := [(2, .ref hm), (1, .ref hx1), (0, .ref b)]) C.1 C.2.1 dL_15 rfl hl (by decide) rfl (fun ls hl => ?_)
  refine lv_iconst (v := 0) C.1 C.2.1 dL_16 (by decide) ?_
  refine lv_istore_n (lv' := [(3, .int 0), (2, .ref hm), (1, .ref hx1), (0, .ref b)]) C.1 C.2.1 dL_17 rfl hl (by decide) rfl (fun ls hl => ?_)
  refine va_forget (fun q hq => S.2.2.2.2 q hq) ?_
  refine W.widen (k := 600000) (n := 7302250) (Nat.le_of_ble_eq_true rfl) (Nat.le_of_ble_eq_true rfl) ?_
  have hAad : ∀ q, Aad (adF hx1 ux hm um a104 a105 a106) q → s.heap.size ≤ q := mw_A S.2.1
  have hInj : Inj (adF hx1 ux hm um a104 a105 a106) := mw_I S.2.1
  have X : Lw D (adF hx1 ux hm um a104 a105 a106) (fun _ => 0) ca p s m c b L xs := by
    refine ⟨⟨hx, hb, hml, hown, hB, hK.1, hK.2.1, z1.narrow hAad, z2.narrow hAad, z3, z4.narrow hAad, z5.narrow hAad, hInj⟩, hX, hbl, fun h => ?_, hL⟩
    have := hAad b h
    omega
  have T : St D (adF hx1 ux hm um a104 a105 a106) ca s w0 H [] := ⟨mw_P S.1, S.2.2.1, fun q h1 _ => S.2.2.2.1 q h1 (Nat.not_le.mpr h1), fun q hq => absurd hq List.not_mem_nil⟩
  exact lw_loop X hr hlocks hAad 400 0 w0 H [] ls (by omega) (by omega) T Inv_0 hl

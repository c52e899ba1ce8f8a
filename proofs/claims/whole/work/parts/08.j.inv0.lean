theorem Inv_0 : Inv w0 := by
  have no : ∀ {P : Prop} {i : Nat}, i < 0 → P := fun h => absurd h (Nat.not_lt_zero _)
  have hF : ∀ i, i < 12 → ∀ y, w0.1 (35 + i) y = 0 := fun i hi y => by
    unfold w0
    simp only
    rw [if_neg (by omega), if_neg (by omega), if_neg (by omega)]
  refine ⟨⟨fun i _ => rfl, by decide⟩, ⟨0, by decide, rfl, rfl, fun i hi => no hi⟩, fun s _ => ⟨rfl, rfl, 0, by decide, rfl, fun i hi => no hi⟩, ⟨0, 0, 0, ?_, ?_, ?_, ?_⟩, Or.inl ⟨rfl, rfl⟩, Or.inl rfl⟩
  · refine ⟨by decide, by decide, ⟨rfl, rfl, rfl, rfl, rfl, rfl, rfl⟩, ⟨?_, ?_, ?_⟩, fun i hi => no hi, fun r _ => rfl⟩
    · unfold rng; decide
    · unfold rng; decide
    · unfold rng; decide
  · exact ⟨by decide, rfl, rfl, fun k hk => no hk, fun a b ha => no ha⟩
  · exact ⟨0, 0, by decide, by decide, rfl, rfl, fun i hi => no hi, fun _ => rfl, fun h => no h⟩
  · exact fun i hi => ⟨Or.inl (hF i hi 5), Or.inl (hF i hi 6)⟩
section START
variable {p : Program} {s : State} {m : MethodId} {meth : Method} {c : Code} {b L : Nat} {xs : Nat → Int32}
theorem at_B (C0 : lw_At p s m meth c b L xs) : ∀ w ∈ BIG, w.before #[Value.ref b] s = true := fun w hw => C0.2.2.2.2.2.1 w (List.mem_filter.mp hw).1
theorem kn_of (C0 : lw_At p s m meth c b L xs) : ∃ (D : va_G) (ca : Nat → ClassId), Kn D ca s := by
  have hB := at_B C0
  have hts := C0.2.2.2.2.2.1
  obtain ⟨D, hD⟩ := cls_of hB
  obtain ⟨c0, k0, x0, i1, i2, i3⟩ := Cond.arrayClass_spec (hB _ acI)
  obtain ⟨c1, k1, x1, j1, j2, j3⟩ := Cond.arrayClass_spec (hB _ acL)
  obtain ⟨y2, c2, k2, f1, -, f3, f4, f5⟩ := Cond.arrayOver_spec (hts _ l_ao)
  obtain ⟨y3, c3, k3, g1, -, g3, g4, g5⟩ := arrayOverA_spec (hts _ l_al)
  have e3 : y3 = c1 := Option.some.inj (g1.symm.trans j1)
  subst e3
  refine ⟨D, fun k => if k = 0 then c0 else if k = 1 then y3 else if k = 2 then c2 else c3, ⟨hD, fun k q hk => ?_⟩, fun q hq => va_Nw.of rfl (hts _ (l_nq q hq)), va_AO.of (hts _ l_ao), ⟨k3, g3, g4⟩⟩
  have hk4 : k < 4 := (List.getElem?_eq_some_iff.mp hk).1
  rcases (by omega : k = 0 ∨ k = 1 ∨ k = 2 ∨ k = 3) with e | e | e | e <;> subst e <;> cases hk
  · exact ⟨fun n z => ⟨fun k h => (by cases h), k0, i2, x0, i3⟩, i1⟩
  · exact ⟨fun n z => ⟨fun k h => (by cases h), k1, j2, x1, j3⟩, j1⟩
  · exact ⟨fun n z => ⟨fun k h => (by cases h), k2, f3, y2, f4⟩, k2, y2, f3, f4, f1, f5⟩
  · exact ⟨fun n z => ⟨fun k h => (by cases h), k3, g3, _, g4⟩, g5⟩
set_option maxRecDepth 100000 in
theorem st_of (C0 : lw_At p s m meth c b L xs) : ∃ a104 a105 a106 : Nat, va_Z RX10 "UNDER" "[I" (.ref a104) (fun q : Nat => s.heap.size ≤ q) s s.heap ∧ va_T .int a104 6 (fun j => .int (underF j)) (fun q : Nat => s.heap.size ≤ q) s s.heap ∧ vk_R RX5 97 "utgwkfrp" a105 s ∧ vk_S 1 [8] [namesB] (fun _ => a105) (fun _ => a106) (fun q : Nat => s.heap.size ≤ q) s s.heap ∧ va_Z "java/lang/String" "COMPACT_STRINGS" "Z" (.int 1) (fun q : Nat => s.heap.size ≤ q) s s.heap := by
  have hts := C0.2.2.2.2.2.1
  have hs := flat_of_before _ C0.2.2.2.2.2.2.2.2.2
  have hA : ∀ a : Nat, a < s.heap.size → ¬ (fun q : Nat => s.heap.size ≤ q) a := fun a h => Nat.not_le.mpr h
  obtain ⟨a, e1, hT⟩ := va_Tof (tm := .static RX10 "UNDER" "[I") (ty := .int) (N := 6) (f := fun j => .int (underF j)) (A := fun q : Nat => s.heap.size ≤ q) (by decide) (hs _ (by decide +kernel)) (va_eqt (hs _ (by decide +kernel))) (fun j hj => by
    rcases (by omega : j = 0 ∨ j = 1 ∨ j = 2 ∨ j = 3 ∨ j = 4 ∨ j = 5) with e | e | e | e | e | e <;> subst e <;> exact va_eqt (hs _ (by decide +kernel))) hA
  obtain ⟨adK, adV, hV, hK⟩ := vk_Sof (args := #[Value.ref b]) (s := s) (N := 1) (tm := fun _ => .string RX5 97) (len := [8]) (byt := [namesB]) (A := fun q : Nat => s.heap.size ≤ q) (fun i hi => by
      have e : i = 0 := by omega
      subst e
      decide) (fun i _ => hs _ (by decide +kernel)) (fun i _ => hs _ (by decide +kernel)) (fun i _ => hs _ (by decide +kernel)) (fun i hi => by
      have e : i = 0 := by omega
      subst e
      exact hs _ (by decide +kernel)) (fun i hi j hj => by
      have e : i = 0 := by omega
      subst e
      have hj8 : j < 8 := hj
      rcases (by omega : j = 0 ∨ j = 1 ∨ j = 2 ∨ j = 3 ∨ j = 4 ∨ j = 5 ∨ j = 6 ∨ j = 7) with e | e | e | e | e | e | e | e <;> subst e <;> exact hs _ (by decide +kernel)) (fun i j hi hj hij => by omega) hA
  refine ⟨a, adK 0, adV 0, va_Zref (hts _ l_un) (hts _ l_i10) e1 hA, hT, vk_R.of (hts _ l_sr) (hK 0 (by decide)), ⟨fun i hi => ?_, fun i j hi hj _ => by omega⟩, va_Zof (hts _ l_cs) (hts _ l_is) (va_eqi (hs _ (by decide +kernel))) hA⟩
  have e : i = 0 := by omega
  subst e
  exact hV.1 0 (by decide)
end START

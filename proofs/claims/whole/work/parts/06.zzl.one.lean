/-! few turns: the reference's search -/
def OutR (w V : Wd) (L : List (Nat × Nat)) : Prop := (∀ y, ¬ Sc y → y ≠ 76 → V.1 y = w.1 y) ∧ V.2 = w.2 ∧ FRes (some L) (V.1 76) ∧ ∀ j, j < 33 ∨ 37 < j → V.1 76 j = w.1 76 j
section ONE
variable {w : Wd} {g : Nat → Int32} {n h : Nat} {b : Int32} {hrs : Nat}
theorem RFw_5 {V : Wd} {op : Nat → Int32} {f : Nat} {x : Int32} (hC : RFw w V g n op) : RFw w (si V 85 f x) g n (upf op f x) := by
  obtain ⟨c1, c2, c3, c4⟩ := hC
  refine ⟨fun y hy => (si_n (fun z => hy (by rw [z]; unfold Sc; omega))).trans (c1 y hy), c2, by rw [si_n (by decide)]; exact c3, fun i hi0 => ?_⟩
  rw [si_n (show (80 : Nat) ≠ 85 by decide), si_n (show (81 : Nat) ≠ 85 by decide), si_n (show (82 : Nat) ≠ 85 by decide), si_n (show (83 : Nat) ≠ 85 by decide), si_n (show (84 : Nat) ≠ 85 by decide), si_n (show (87 : Nat) ≠ 85 by decide), si_g]
  refine ⟨(c4 i hi0).1, (c4 i hi0).2.1, ?_, (c4 i hi0).2.2.2⟩
  by_cases q : i = f
  · rw [if_pos ⟨rfl, q⟩, q, upf_s]
  · rw [if_neg (fun z => q z.2), upf_o q]
    exact (c4 i hi0).2.2.1
theorem oneI {V : Wd} {f : Nat} {op : Nat → Int32} (hn : n ≤ 12) (hN : hrs ≤ 8) (hf : f < n) (h4 : g 4 = nI n) (hok : ∀ j, j < n → FlatOk g h j) (hC : RFw w V g n op) : ∃ r, lp (f_X11_findOne_L15 b (nI hrs) (nI f)) FU (0, V) = some r ∧ ((∃ z V', r = .inl (z, V') ∧ (if gx g f 4 = 0 then ff (fun v => fewA g n b hrs op f v) 9 else none) = none ∧ ∃ x, RFw w V' g n (upf op f x)) ∨ ∃ V' v, r = .inr (1, V') ∧ (if gx g f 4 = 0 then ff (fun v => fewA g n b hrs op f v) 9 else none) = some [(f, v)] ∧ OutR w V' [(f, v)]) := by
  by_cases hh : gx g f 4 = 0
  · rw [if_pos hh]
    refine lp_n (fun v z => z.1 = nI v ∧ ff (fun v => fewA g n b hrs op f v) v = none ∧ ∃ x, RFw w z.2 g n (upf op f x)) 9 _ ⟨rfl, rfl, op f, by rw [upf_i rfl]; exact hC⟩ (FU_lt (by omega)) ?_ ?_
    · rintro v ⟨a, U⟩ hv ⟨e1, e2, x, e3⟩
      simp only at e1 e3
      subst e1
      have hR : RFw w (si U 85 f (nI v)) g n (upf op f (nI v)) := by
        have := RFw_5 (f := f) (x := nI v) e3
        rw [upf_u] at this
        exact this
      have n9 : ¬ (9 : Int32) ≤ nI v := nle (n := 9) hv (by decide)
      unfold f_X11_findOne_L15
      simp only
      rw [if_neg n9, get_4 (by omega), bd1, e3.2.2.1, if_pos hh, gd_in (by omega) (by decide), cl_n (by omega), lw_e, get_3 (by omega), bd1, hR.2.2.1]
      by_cases q : nI v = gx g f 3
      · rw [if_pos q]
        exact Or.inl ⟨(nI (v + 1), si U 85 f (nI v)), by rw [nI_1], rfl, ff_0 e2 (by unfold fewA; rw [if_pos q]), nI v, hR⟩
      · rw [if_neg q]
        obtain ⟨V', t1, t2⟩ := goodM (b := b) hn hN h4 hok hR
        rw [t1, bd1]
        cases hQ : good g n b hrs (upf op f (nI v)) with
        | false =>
          refine Or.inl ⟨(nI (v + 1), V'), ?_, rfl, ff_0 e2 (by unfold fewA; rw [if_neg q, if_neg (by rw [hQ]; decide)]), nI v, t2⟩
          rw [← nI_1]
          rfl
        | true =>
          refine Or.inr ⟨.inr (1, si (si (si V' 76 33 1) 76 34 (nI f)) 76 36 (nI v)), ?_, Or.inr ⟨_, v, rfl, ?_, fun y y1 y2 => ?_, t2.2.1, ?_, fun j hj => ?_⟩⟩
          · rfl
          · have := ff_1 (x := [(f, v)]) e2 (by unfold fewA; rw [if_neg q, if_pos hQ]) (9 - (v + 1))
            rw [show v + 1 + (9 - (v + 1)) = 9 by omega] at this
            exact this
          · rw [si_n y2, si_n y2, si_n y2]
            exact t2.1 y y1
          · refine ⟨?_, ?_, ?_⟩
            · rw [si_o (by decide), si_o (by decide), si_s]
            · rw [si_o (by decide), si_s]
            · rw [si_s]
          · rw [si_o (by omega), si_o (by omega), si_o (by omega), t2.1 76 (by unfold Sc; omega)]
    · rintro ⟨a, U⟩ ⟨e1, e2, e3⟩
      simp only at e1 e3
      subst e1
      refine ⟨.inl (nI 9, U), ?_, Or.inl ⟨nI 9, U, rfl, e2, e3⟩⟩
      unfold f_X11_findOne_L15
      rw [if_pos (show (9 : Int32) ≤ nI 9 by decide)]
  · rw [if_neg hh]
    refine ⟨.inl (0, V), ?_, Or.inl ⟨0, V, rfl, rfl, op f, by rw [upf_i rfl]; exact hC⟩⟩
    show (f_X11_findOne_L15 b (nI hrs) (nI f) (0, V)).bind _ = _
    unfold f_X11_findOne_L15
    simp only
    rw [if_neg (by decide), get_4 (by omega), bd1, hC.2.2.1, if_neg hh]
    rfl
end ONE

section PAYM
variable {pr : Int32} {f : Nat → Int32} {n : Nat}
theorem sumM {W : Wd} {v : Int32} (hn : n ≤ 12) (h4 : W.1 77 4 = nI n) (h96 : ∀ i, i < n → W.1 96 i = f i) : lp (f_X11_findPays_L4 v W) FU (0, 0) = some (ws f n, nI n) := by
  refine lp_for (fun j => (ws f j, nI j)) n _ (FU_lt (by omega)) (fun j hj => ?_) ?_
  · unfold f_X11_findPays_L4
    simp only
    rw [h4, if_neg (nle hj (by omega)), gd_in (by omega) (by decide), cl_n (by omega), h96 j hj, nI_1]
    rfl
  · unfold f_X11_findPays_L4
    simp only
    rw [h4, if_pos (nle' n)]
theorem splM {W : Wd} (hn : n ≤ 12) (hp : rng pr 0 9999) (hf : ∀ i, i < n → rng (f i) 0 99999) (ht : 0 < (ws f n).toInt) (h4 : W.1 77 4 = nI n) (h96 : ∀ i, i < n → W.1 96 i = f i) : ∃ V, lp (f_X11_findPays_L40 pr (ws f n)) FU (pr, 0, W) = some (pr - ws (pyv pr (ws f n) f) n, nI n, V) ∧ (∀ y, y ≠ 97 → y ≠ 98 → V.1 y = W.1 y) ∧ V.2 = W.2 ∧ ∀ i, i < n → V.1 97 i = pyv pr (ws f n) f i ∧ V.1 98 i = rsv pr (ws f n) f i := by
  have k0 : (0 : Int32).toInt = 0 := by decide
  have P := pay_i hn hp hf ht
  have hz : ¬ (ws f n).toInt64 = 0 := fun z => by
    have e := Int32.toInt_toInt64 (ws f n)
    rw [z] at e
    rw [← e] at ht
    exact absurd ht (by decide)
  have H : ∃ r, lp (f_X11_findPays_L40 pr (ws f n)) FU (pr, 0, W) = some r ∧ (r.1 = pr - ws (pyv pr (ws f n) f) n ∧ r.2.1 = nI n ∧ (∀ y, y ≠ 97 → y ≠ 98 → r.2.2.1 y = W.1 y) ∧ r.2.2.2 = W.2 ∧ ∀ i, i < n → r.2.2.1 97 i = pyv pr (ws f n) f i ∧ r.2.2.1 98 i = rsv pr (ws f n) f i) := by
    refine lp_n (fun i z => z.1 = pr - ws (pyv pr (ws f n) f) i ∧ z.2.1 = nI i ∧ (∀ y, y ≠ 97 → y ≠ 98 → z.2.2.1 y = W.1 y) ∧ z.2.2.2 = W.2 ∧ ∀ j, j < i → z.2.2.1 97 j = pyv pr (ws f n) f j ∧ z.2.2.1 98 j = rsv pr (ws f n) f j) n _ ⟨?_, rfl, fun _ _ _ => rfl, rfl, fun j hj => absurd hj (Nat.not_lt_zero _)⟩ (FU_lt (by omega)) ?_ ?_
    · show pr = pr - 0
      rw [Int32.sub_zero]
    · rintro i ⟨a, c, V⟩ hi0 ⟨e1, e2, e3, e4, e5⟩
      simp only at e1 e2 e3 e4 e5
      subst e1 e2
      obtain ⟨p1, p2⟩ := hp
      obtain ⟨f1, f2⟩ := hf i hi0
      have m0 : 0 ≤ pr.toInt * (f i).toInt := Int.mul_nonneg p1 f1
      have m1 : pr.toInt * (f i).toInt ≤ 9999 * 99999 := Int.mul_le_mul p2 f2 f1 (by decide)
      obtain ⟨g1, g2⟩ := lgd (a := pr) (b := f i) (c := ws f n) m0 (by omega) ht
      have v96 : V.1 96 i = f i := by rw [e3 96 (by decide) (by decide)]; exact h96 i hi0
      refine Or.inl ⟨(pr - ws (pyv pr (ws f n) f) (i + 1), nI (i + 1), si (si V 97 i (pyv pr (ws f n) f i)) 98 i (rsv pr (ws f n) f i)), ?_, rfl, rfl, fun y y1 y2 => ?_, e4, fun j hj => ?_⟩
      · have ew : pr - ws (pyv pr (ws f n) f) i - pyv pr (ws f n) f i = pr - ws (pyv pr (ws f n) f) (i + 1) := by
          show _ = pr - (ws (pyv pr (ws f n) f) i + pyv pr (ws f n) f i)
          grind
        unfold f_X11_findPays_L40
        simp only
        rw [e3 77 (by decide) (by decide), h4, if_neg (nle hi0 (by omega)), gd_in (by omega) (by decide), gd_nzl hz, gd_in (by omega) (by decide), cl_n (by omega), v96, g1, g2]
        simp only [lw_e]
        rw [gd_nzl hz, gd_in (by omega) (by decide), gd_in (by omega) (by decide), show pr * f i / ws f n = pyv pr (ws f n) f i from rfl, show pr * f i - pyv pr (ws f n) f i * ws f n = rsv pr (ws f n) f i from rfl, si_n (show (97 : Nat) ≠ 98 by decide), si_s, ew, nI_1]
      · rw [si_n y2, si_n y1]
        exact e3 y y1 y2
      · rw [si_g, si_g, si_g, si_g]
        by_cases q : j = i
        · subst q
          simp
        · have := e5 j (by omega)
          simp [q, this]
    · rintro ⟨a, c, V⟩ ⟨e1, e2, e3, e4, e5⟩
      simp only at e1 e2 e3 e4 e5
      subst e1 e2
      refine ⟨(pr - ws (pyv pr (ws f n) f) n, nI n, V), ?_, rfl, rfl, e3, e4, e5⟩
      unfold f_X11_findPays_L40
      simp only
      rw [e3 77 (by decide) (by decide), h4, if_pos (nle' n)]
  obtain ⟨⟨a, c, V⟩, l1, e1, e2, e3⟩ := H
  simp only at e1 e2
  subst e1 e2
  exact ⟨V, l1, e3⟩
theorem bestM {W : Wd} {v : Int32} (n0 : 0 < n) (hn : n ≤ 12) (h4 : W.1 77 4 = nI n) : ∃ b, b < n ∧ lp (f_X11_findPays_L116 v W) FU (0, 1) = some (nI b, nI n) ∧ (∀ j, j < n → (W.1 98 j).toInt ≤ (W.1 98 b).toInt) ∧ ∀ j, j < b → (W.1 98 j).toInt < (W.1 98 b).toInt := by
  have H : ∃ r, lp (f_X11_findPays_L116 v W) FU (0, 1) = some r ∧ ∃ b, b < n ∧ r = (nI b, nI n) ∧ (∀ j, j < n → (W.1 98 j).toInt ≤ (W.1 98 b).toInt) ∧ ∀ j, j < b → (W.1 98 j).toInt < (W.1 98 b).toInt := by
    refine lp_n (fun i z => ∃ b, b < 1 + i ∧ z = (nI b, nI (1 + i)) ∧ (∀ j, j < 1 + i → (W.1 98 j).toInt ≤ (W.1 98 b).toInt) ∧ ∀ j, j < b → (W.1 98 j).toInt < (W.1 98 b).toInt) (n - 1) _ ⟨0, by decide, rfl, fun j hj => ?_, fun j hj => absurd hj (Nat.not_lt_zero _)⟩ (FU_lt (by omega)) ?_ ?_
    · have e : j = 0 := by omega
      rw [e]
      exact Int.le_refl _
    · rintro i z hi0 ⟨b, b1, e, b2, b3⟩
      subst e
      left
      unfold f_X11_findPays_L116
      simp only
      rw [h4, if_neg (nle (show 1 + i < n by omega) (by omega)), gd_in (by omega) (by decide), gd_in (by omega) (by decide), cl_n (by omega), cl_n (by omega), nI_1]
      by_cases q : W.1 98 (1 + i) ≤ W.1 98 b
      · rw [if_pos q]
        refine ⟨_, rfl, b, by omega, rfl, fun j hj => ?_, b3⟩
        rw [i_le] at q
        rcases Nat.lt_or_ge j (1 + i) with z | z
        · exact b2 j z
        · have e : j = 1 + i := by omega
          rw [e]
          exact q
      · rw [if_neg q]
        rw [i_le] at q
        refine ⟨_, rfl, 1 + i, by omega, rfl, fun j hj => ?_, fun j hj => ?_⟩
        · rcases Nat.lt_or_ge j (1 + i) with z | z
          · have := b2 j z
            omega
          · have e : j = 1 + i := by omega
            rw [e]
            exact Int.le_refl _
        · have := b2 j hj
          omega
    · rintro z ⟨b, b1, e, b2, b3⟩
      subst e
      have e : 1 + (n - 1) = n := by omega
      rw [e] at b1 b2 ⊢
      refine ⟨(nI b, nI n), ?_, b, b1, rfl, b2, b3⟩
      unfold f_X11_findPays_L116
      simp only
      rw [h4, if_pos (nle' n)]
  obtain ⟨r, l1, b, b1, e, b2⟩ := H
  subst e
  exact ⟨b, b1, l1, b2⟩
theorem giveM {W : Wd} {L : Nat} {py rr : Nat → Int32} (hn : n ≤ 12) (hL : L < n) (h4 : W.1 77 4 = nI n) (h97 : ∀ i, i < n → W.1 97 i = py i ∧ W.1 98 i = rr i) (hr : ∀ i, i < n → 0 ≤ (rr i).toInt) : ∃ V, lp f_X11_findPays_L106 FU (nI L, W) = some (nI 0, V) ∧ (∀ y, y ≠ 97 → y ≠ 98 → V.1 y = W.1 y) ∧ V.2 = W.2 ∧ ∀ i, i < n → V.1 97 i = py i + (if rk (fun j => (rr j).toInt) n i < L then 1 else 0) := by
  have H : ∃ r, lp f_X11_findPays_L106 FU (nI L, W) = some r ∧ (r.1 = nI 0 ∧ (∀ y, y ≠ 97 → y ≠ 98 → r.2.1 y = W.1 y) ∧ r.2.2 = W.2 ∧ ∃ ch : Nat → Bool, Dc (fun j => (rr j).toInt) n ch ∧ cB ch n = L ∧ ∀ i, i < n → r.2.1 97 i = py i + (if ch i = true then 1 else 0) ∧ r.2.1 98 i = if ch i = true then -1 else rr i) := by
    have c0 : ∀ n, cB (fun _ => false) n = 0 := fun n => by
      induction n with
      | zero => rfl
      | succ n ih =>
        show cB _ n + 0 = 0
        rw [ih]
    refine lp_n (fun m z => z.1 = nI (L - m) ∧ (∀ y, y ≠ 97 → y ≠ 98 → z.2.1 y = W.1 y) ∧ z.2.2 = W.2 ∧ ∃ ch : Nat → Bool, Dc (fun j => (rr j).toInt) n ch ∧ cB ch n = m ∧ ∀ i, i < n → z.2.1 97 i = py i + (if ch i = true then 1 else 0) ∧ z.2.1 98 i = if ch i = true then -1 else rr i) L _ ⟨rfl, fun _ _ _ => rfl, rfl, fun _ => false, (fun _ _ _ _ _ z => by cases z), c0 n, fun i hi0 => ?_⟩ (FU_lt (by omega)) ?_ ?_
    · rw [(h97 i hi0).1, (h97 i hi0).2]
      simp
    · rintro m ⟨a, V⟩ hm ⟨e1, e2, e3, ch, hD, hc, hv⟩
      simp only at e1 e2 e3 hv
      subst e1
      obtain ⟨b, b1, b2, b3, b4⟩ := bestM (W := V) (v := nI (L - m)) (n := n) (by omega) hn (by rw [e2 77 (by decide) (by decide)]; exact h4)
      have tv : ∀ j, j < n → (V.1 98 j).toInt = if ch j = true then -1 else (rr j).toInt := fun j hj => by
        rw [(hv j hj).2]
        by_cases q : ch j = true
        · rw [if_pos q, if_pos q]; decide
        · rw [if_neg q, if_neg q]
      obtain ⟨s1, s2, s3⟩ := ch_step (r := fun j => (rr j).toInt) (n := n) (ch := ch) hr hD (by omega) b1 (fun j hj => by
        have := b3 j hj
        rw [tv j hj, tv b b1] at this
        exact this) (fun j hj => by
        have := b4 j hj
        rw [tv j (by omega), tv b b1] at this
        exact this)
      refine Or.inl ⟨(nI (L - (m + 1)), si (si V 97 b (V.1 97 b + 1)) 98 b (-1)), ?_, rfl, fun y y1 y2 => ?_, e3, fun j => ch j || decide (j = b), s2, by rw [s3, hc], fun i hi0 => ?_⟩
      · unfold f_X11_findPays_L106
        simp only
        rw [if_neg (show ¬ nI (L - m) ≤ 0 from nle (i := 0) (by omega) (by omega)), b2, bd1]
        simp only
        rw [gd_in (by omega) (by decide), gd_in (by omega) (by decide), cl_n (by omega)]
        simp only [lw_e]
        rw [gd_in (by omega) (by decide), dec1 (by omega), Nat.sub_sub]
      · rw [si_n y2, si_n y1]
        exact e2 y y1 y2
      · rw [si_g, si_g, si_g, si_g]
        by_cases q : i = b
        · subst q
          simp [s1, (hv i hi0).1]
        · have := hv i hi0
          simp [q, this]
    · rintro ⟨a, V⟩ ⟨e1, e2, e3, e4⟩
      simp only at e1 e2 e3 e4
      rw [Nat.sub_self] at e1
      subst e1
      refine ⟨(nI 0, V), ?_, rfl, e2, e3, e4⟩
      unfold f_X11_findPays_L106
      rw [if_pos (show nI 0 ≤ 0 by decide)]
  obtain ⟨⟨a, V⟩, l1, e1, e2, e3, ch, hD, hc, hv⟩ := H
  simp only at e1 e2 e3 hv
  subst e1
  refine ⟨V, l1, e2, e3, fun i hi0 => ?_⟩
  rw [(hv i hi0).1]
  congr 1
  have := ch_rk hD hc hi0
  by_cases q : ch i = true
  · rw [if_pos q, if_pos (this.mp q)]
  · rw [if_neg q, if_neg (fun z => q (this.mpr z))]
end PAYM

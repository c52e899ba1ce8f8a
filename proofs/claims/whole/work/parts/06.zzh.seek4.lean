section SEEK4
variable {w : Wd} {g : Nat → Int32} {n h : Nat} {b : Int32} {hrs : Nat}
theorem few2_e : few2 g n b hrs = ff (fun k => ff (pFK g n b hrs k) k) n := rfl
theorem seek2X {V : Wd} {nw : Nat → Int32} (hn : n ≤ 12) (hN : hrs ≤ 8) (hB : BI (w.1 3) (fun i => w.1 (35 + i)) (w.1 19) g n h) (hl : ∀ i, i < n → rng (lkf g i) 0 268) (hC : CFw w V g n b hrs (fun j => gx g j 3)) (h68 : V.1 68 = nw) (hnw : ∀ j, j < n → nw j = -1) : ∃ r V', f_X3_seekTwo V = some (r, V') ∧ (few2 g n b hrs = none → r = 0 ∧ OutF w V' nw) ∧ ∀ L, few2 g n b hrs = some L → r = 1 ∧ ∃ f v k u, L = [(f, v), (k, u)] ∧ f < k ∧ k < n ∧ v < 9 ∧ u < 9 ∧ OutF w V' (upf (upf nw f (nI v)) k (nI u)) := by
  have H : ∃ r, lp f_X3_seekTwo_L2 FU (1, V) = some r ∧ ((∃ z V', r = .inl (z, V') ∧ few2 g n b hrs = none ∧ OutF w V' nw) ∨ ∃ V' f v k u, r = .inr (1, V') ∧ few2 g n b hrs = some [(f, v), (k, u)] ∧ f < k ∧ k < n ∧ v < 9 ∧ u < 9 ∧ OutF w V' (upf (upf nw f (nI v)) k (nI u))) := by
    refine lp_n (fun i z => z.1 = nI (1 + i) ∧ ff (fun k => ff (pFK g n b hrs k) k) (1 + i) = none ∧ CFw w z.2 g n b hrs (fun j => gx g j 3) ∧ z.2.1 68 = nw) (n - 1) _ ⟨rfl, rfl, hC, h68⟩ (FU_lt (by omega)) ?_ ?_
    · rintro i ⟨a, U⟩ hi0 ⟨e1, e2, e3, e4⟩
      simp only at e1 e3 e4
      subst e1
      have u3 : U.1 3 1 = nI n := by rw [e3.1 3 (by unfold Tc; omega) (by decide) (by decide)]; exact hB.2.2.1.1
      obtain ⟨r, l1, l2⟩ := seek2I (k := 1 + i) hn hN (by omega) hB hl e3 e4 hnw
      unfold f_X3_seekTwo_L2
      simp only
      rw [u3, if_neg (nle (show 1 + i < n by omega) (by omega)), l1, bd1]
      rcases l2 with ⟨z, V', rfl, x1, x2, x3⟩ | ⟨V', f, v, u, rfl, x1, x2, x3, x4, x5⟩
      · refine Or.inl ⟨(nI (1 + (i + 1)), V'), ?_, rfl, ff_0 e2 x1, x2, x3⟩
        show some (Sum.inl (nI (1 + i) + 1, V')) = _
        rw [nI_1]
        rfl
      · refine Or.inr ⟨.inr (1, V'), rfl, Or.inr ⟨V', f, v, 1 + i, u, rfl, ?_, x2, by omega, x3, x4, x5⟩⟩
        have := ff_1 e2 x1 (n - (1 + i + 1))
        rw [show 1 + i + 1 + (n - (1 + i + 1)) = n by omega] at this
        exact this
    · rintro ⟨a, U⟩ ⟨e1, e2, e3, e4⟩
      simp only at e1 e3 e4
      subst e1
      have u3 : U.1 3 1 = nI n := by rw [e3.1 3 (by unfold Tc; omega) (by decide) (by decide)]; exact hB.2.2.1.1
      refine ⟨.inl (nI (1 + (n - 1)), U), ?_, Or.inl ⟨_, U, rfl, ?_, e3.out e4⟩⟩
      · unfold f_X3_seekTwo_L2
        simp only
        rw [u3, if_pos (nI_le (by omega) (by omega))]
      · rcases Nat.eq_zero_or_pos n with z | z
        · rw [z]
          rfl
        · rw [show 1 + (n - 1) = n by omega] at e2
          exact e2
  obtain ⟨r, l1, l2⟩ := H
  unfold f_X3_seekTwo
  rw [l1, bd1]
  rcases l2 with ⟨z, V', rfl, e1, e2⟩ | ⟨V', f, v, k, u, rfl, e1, e2⟩
  · exact ⟨0, V', rfl, (fun _ => ⟨rfl, e2⟩), (fun L e => by rw [e1] at e; cases e)⟩
  · refine ⟨1, V', rfl, (fun e => by rw [e1] at e; cases e), fun L e => ?_⟩
    rw [e1] at e
    cases e
    exact ⟨rfl, f, v, k, u, rfl, e2⟩
end SEEK4

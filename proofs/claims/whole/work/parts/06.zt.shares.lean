/-! shares -/
def c5 (x : Int32) : Int32 := if 0 ≤ x then (if x ≤ 99999 then x else 99999) else 0
theorem c5_b (x : Int32) : rng (c5 x) 0 99999 := by
  have k0 : (0 : Int32).toInt = 0 := by decide
  have k1 : (99999 : Int32).toInt = 99999 := by decide
  unfold c5 rng
  by_cases h1 : 0 ≤ x
  · rw [if_pos h1]
    by_cases h2 : x ≤ 99999
    · rw [if_pos h2]
      rw [i_le] at h1 h2
      omega
    · rw [if_neg h2, k1]
      omega
  · rw [if_neg h1, k0]
    omega
theorem c5_c (x : Int32) : (if 0 < (if x < 99999 then x else 99999) then (if x < 99999 then x else 99999) else 0) = c5 x := by
  have k0 : (0 : Int32).toInt = 0 := by decide
  have k1 : (99999 : Int32).toInt = 99999 := by decide
  unfold c5
  by_cases h2 : x < 99999
  · rw [if_pos h2]
    by_cases h1 : 0 ≤ x
    · rw [if_pos h1, if_pos (show x ≤ 99999 by rw [i_le]; rw [i_lt] at h2; omega)]
      by_cases h3 : 0 < x
      · rw [if_pos h3]
      · rw [if_neg h3, i_eq]
        rw [i_le] at h1
        rw [i_lt] at h3
        omega
    · rw [if_neg h1, if_neg]
      rw [i_lt]
      rw [i_le] at h1
      omega
  · rw [if_neg h2, if_pos (show (0 : Int32) < 99999 by decide), if_pos (show 0 ≤ x by rw [i_le]; rw [i_lt] at h2; omega)]
    by_cases h3 : x ≤ 99999
    · rw [if_pos h3, i_eq]
      rw [i_lt] at h2
      rw [i_le] at h3
      omega
    · rw [if_neg h3]
theorem c5_m (x : Int32) : f_X11_within x 0 99999 = some (c5 x) := by
  unfold f_X11_within c5
  by_cases h1 : 0 ≤ x
  · rw [if_pos h1, if_pos h1]
    by_cases h2 : x ≤ 99999
    · rw [if_pos h2, if_pos h2]
    · rw [if_neg h2, if_neg h2]
  · rw [if_neg h1, if_neg h1]
def shv (b : Bool) (tb : Nat → Int32) (s : Nat) (g : Nat → Int32) (i : Nat) : Int32 := c5 (if b = true then (pS tb s (fvX g i) 5 0 (0, false)).1 else gx g i 7)
theorem plnX {w : Wd} {i : Nat} {g : Nat → Int32} {tb : Nat → Int32} {s : Nat} (hi0 : i < 12) (h : w.1 (35 + i) 8 = gx g i 7) (h0 : 0 ≤ (gx g i 7).toInt) : f_X10_plainShare (nI i) w = some (shv false tb s g i) := by
  have k0 : (0 : Int32).toInt = 0 := by decide
  have k1 : (99999 : Int32).toInt = 99999 := by decide
  unfold f_X10_plainShare shv c5
  rw [gd_in hi0 (by decide), cl_n (by omega), h, if_neg (show ¬ false = true by decide), if_pos (show 0 ≤ gx g i 7 by rw [i_le]; omega)]
  by_cases h2 : gx g i 7 < 99999
  · rw [if_pos h2, if_pos (show gx g i 7 ≤ 99999 by rw [i_le]; rw [i_lt] at h2; omega)]
  · rw [if_neg h2]
    by_cases h3 : gx g i 7 ≤ 99999
    · rw [if_pos h3]
      congr 1
      rw [i_eq]
      rw [i_lt] at h2
      rw [i_le] at h3
      omega
    · rw [if_neg h3]
theorem rldX {w : Wd} {s i : Nat} (hi0 : i < 12) (hs : s ≤ 80) (h1 : w.1 5 1 = nI s) (hb : ∀ i, i < s → ∃ b, b < 256 ∧ w.1 21 i = nI b) (hF : FlatEq (w.1 (35 + i)) (w.1 77) i) : ∃ W, f_X10_ruledShare (nI i) w = some (shv true (w.1 21) s (w.1 77) i, W) ∧ (∀ y, y ≠ 10 → y ≠ 32 → W.1 y = w.1 y) ∧ W.2 = w.2 := by
  obtain ⟨W, a1, a2, a3⟩ := valX hi0 hs h1 hb hF
  refine ⟨W, ?_, a2, a3⟩
  unfold f_X10_ruledShare
  rw [a1, bd1]
  simp only
  rw [c5_c]
  rfl
/-- what both need of the world -/
def ShH (w : Wd) (n s : Nat) : Prop := n ≤ 12 ∧ s ≤ 80 ∧ w.1 3 1 = nI n ∧ w.1 77 4 = nI n ∧ w.1 5 1 = nI s ∧ (∀ i, i < s → ∃ b, b < 256 ∧ w.1 21 i = nI b) ∧ (∀ i, i < n → FlatEq (w.1 (35 + i)) (w.1 77) i ∧ 0 ≤ (gx (w.1 77) i 7).toInt) ∧ ((s = 0 ∧ w.1 77 6 = nI 0) ∨ (0 < s ∧ ∃ t, t ≤ 80 ∧ 0 < t ∧ w.1 77 6 = nI t ∧ ∀ vals : Nat → Int32, rrun vals (codes (w.1 77) t) [] = some [(pS (w.1 21) s vals 5 0 (0, false)).1]))
theorem Inv.sh {w : Wd} (h : Inv w) : ∃ n s, ShH w n s := by
  obtain ⟨n, hh, c, hB, hC, s, t, r1, r2, r3, r4, r5, r6, r7⟩ := h.b
  obtain ⟨b1, b2, ⟨q1, q2, q3, q4, q5, q6, q7⟩, b4, b5, b6⟩ := id hB
  refine ⟨n, s, b1, r1, q1, q2, r3, r5, fun i hi0 => ⟨(b5 i hi0).1, (b5 i hi0).2.2.2.2.2.2.2.2.1.1⟩, ?_⟩
  rcases Nat.eq_zero_or_pos s with z | z
  · exact Or.inl ⟨z, by rw [← r6 z]; exact r4⟩
  · exact Or.inr ⟨z, t, r2, (r7 z).1, r4, fun vals => ((r7 z).2 vals).2⟩
theorem ShH_c {w W : Wd} {n s : Nat} (h : ShH w n s) (e : ∀ y, y = 3 ∨ y = 77 ∨ y = 5 ∨ y = 21 ∨ (35 ≤ y ∧ y < 47) → W.1 y = w.1 y) : ShH W n s := by
  obtain ⟨h1, h2, h3, h4, h5, h6, h7, h8⟩ := h
  have e77 := e 77 (by omega)
  have e21 := e 21 (by omega)
  refine ⟨h1, h2, by rw [e 3 (by omega)]; exact h3, by rw [e77]; exact h4, by rw [e 5 (by omega)]; exact h5, by rw [e21]; exact h6, fun i hi0 => by rw [e (35 + i) (by omega), e77]; exact h7 i hi0, by rw [e77, e21]; exact h8⟩
theorem splX {w : Wd} {n s : Nat} {v1 v2 : Int32} (H : ShH w n s) (b : Bool) (hv : if b = true then v2 ≠ 0 else v2 = 0) : ∃ W, f_X10_splitByShares v1 v2 w = some W ∧ (∀ y, y ≠ 10 → y ≠ 32 → y ≠ 12 → y ≠ 34 → W.1 y = w.1 y) ∧ W.2 = w.2 ∧ W.1 12 1 = nI n ∧ W.1 12 2 = v1 ∧ W.1 12 3 = ws (shv b (w.1 21) s (w.1 77)) n ∧ ∀ i, i < n → W.1 34 i = shv b (w.1 21) s (w.1 77) i := by
  have hn := H.1
  have L : ∃ r, lp (f_X10_splitByShares_L10 v2) FU (0, si (si (si w 12 2 v1) 12 1 0) 12 3 0) = some r ∧ ((∀ y, y ≠ 10 → y ≠ 32 → y ≠ 12 → y ≠ 34 → r.2.1 y = w.1 y) ∧ r.2.2 = w.2 ∧ r.2.1 12 1 = nI n ∧ r.2.1 12 2 = v1 ∧ r.2.1 12 3 = ws (shv b (w.1 21) s (w.1 77)) n ∧ ∀ i, i < n → r.2.1 34 i = shv b (w.1 21) s (w.1 77) i) := by
    refine lp_n (fun i z => z.1 = nI i ∧ (∀ y, y ≠ 10 → y ≠ 32 → y ≠ 12 → y ≠ 34 → z.2.1 y = w.1 y) ∧ z.2.2 = w.2 ∧ z.2.1 12 1 = nI i ∧ z.2.1 12 2 = v1 ∧ z.2.1 12 3 = ws (shv b (w.1 21) s (w.1 77)) i ∧ ∀ j, j < i → z.2.1 34 j = shv b (w.1 21) s (w.1 77) j) n _ ⟨rfl, fun y y1 y2 y3 y4 => by rw [si_n y3, si_n y3, si_n y3], rfl, ?_, ?_, si_s, fun j hj => absurd hj (Nat.not_lt_zero _)⟩ (FU_lt (by omega)) ?_ ?_
    · rw [si_o (by decide), si_s]; rfl
    · rw [si_o (by decide), si_o (by decide), si_s]
    · rintro i ⟨a, V⟩ hi0 ⟨e1, e2, e3, e4, e5, e6, e7⟩
      simp only at e1 e2 e3 e4 e5 e6 e7
      subst e1
      have HV : ShH V n s := ShH_c H fun y hy => e2 y (by omega) (by omega) (by omega) (by omega)
      have v21 : V.1 21 = w.1 21 := e2 21 (by decide) (by decide) (by decide) (by decide)
      have v77 : V.1 77 = w.1 77 := e2 77 (by decide) (by decide) (by decide) (by decide)
      have add : ∀ U : Wd, (∀ y, y ≠ 10 → y ≠ 32 → U.1 y = V.1 y) → U.2 = V.2 → ∃ U', f_X7_add (shv b (w.1 21) s (w.1 77) i) U = some U' ∧ (∀ y, y ≠ 10 → y ≠ 32 → y ≠ 12 → y ≠ 34 → U'.1 y = w.1 y) ∧ U'.2 = w.2 ∧ U'.1 12 1 = nI (i + 1) ∧ U'.1 12 2 = v1 ∧ U'.1 12 3 = ws (shv b (w.1 21) s (w.1 77)) (i + 1) ∧ ∀ j, j < i + 1 → U'.1 34 j = shv b (w.1 21) s (w.1 77) j := by
        intro U u1 u2
        have u12 := u1 12 (by decide) (by decide)
        have u34 := u1 34 (by decide) (by decide)
        have a1 : U.1 12 1 = nI i := by rw [u12]; exact e4
        refine ⟨si (si (si U 34 i (shv b (w.1 21) s (w.1 77) i)) 12 3 (ws (shv b (w.1 21) s (w.1 77)) i + shv b (w.1 21) s (w.1 77) i)) 12 1 (nI (i + 1)), ?_, fun y y1 y2 y3 y4 => ?_, u2.trans e3, si_s, ?_, ?_, fun j hj => ?_⟩
        · unfold f_X7_add
          rw [a1, if_neg (show ¬ (12 : Int32) ≤ nI i from nle (n := 12) (by omega) (by decide)), gd_in (by omega) (by decide), cl_n (by omega)]
          simp only [lw_e]
          rw [show (si U 34 i (shv b (w.1 21) s (w.1 77) i)).1 12 3 = ws (shv b (w.1 21) s (w.1 77)) i from (by rw [si_n (by decide), u12]; exact e6), si_o (show (1 : Nat) ≠ 3 by decide), si_n (show (12 : Nat) ≠ 34 by decide), a1, nI_1]
        · rw [si_n y3, si_n y3, si_n y4, u1 y y1 y2]
          exact e2 y y1 y2 y3 y4
        · rw [si_o (by decide), si_o (by decide), si_n (by decide), u12]
          exact e5
        · rw [si_o (by decide), si_s]
          rfl
        · rw [si_n (by decide), si_n (by decide), si_g, u34]
          by_cases q : j = i
          · rw [if_pos ⟨rfl, q⟩, q]
          · rw [if_neg (fun z => q z.2)]
            exact e7 j (by omega)
      refine Or.inl ?_
      unfold f_X10_splitByShares_L10
      simp only
      rw [HV.2.2.1, if_neg (nle hi0 (by omega))]
      cases b with
      | false =>
        rw [if_neg (by decide)] at hv
        obtain ⟨U', b1, b2⟩ := add V (fun _ _ _ => rfl) rfl
        rw [if_pos hv, plnX (g := w.1 77) (tb := w.1 21) (s := s) (by omega) (by rw [← v77]; exact (HV.2.2.2.2.2.2.1 i hi0).1.2.2.2 7 (by decide) (by decide)) (by rw [← v77]; exact (HV.2.2.2.2.2.2.1 i hi0).2), bd1, b1, bd1, nI_1]
        exact ⟨_, rfl, rfl, b2⟩
      | true =>
        rw [if_pos rfl] at hv
        obtain ⟨U, c1, c2, c3⟩ := rldX (w := V) (s := s) (i := i) (by omega) HV.2.1 HV.2.2.2.2.1 HV.2.2.2.2.2.1 (HV.2.2.2.2.2.2.1 i hi0).1
        obtain ⟨U', b1, b2⟩ := add U c2 c3
        rw [v21, v77] at c1
        rw [if_neg hv, c1, bd1, b1, bd1, nI_1]
        exact ⟨_, rfl, rfl, b2⟩
    · rintro ⟨a, V⟩ ⟨e1, e2, e3, e4, e5, e6, e7⟩
      simp only at e1 e2 e3 e4 e5 e6 e7
      subst e1
      refine ⟨(nI n, V), ?_, e2, e3, e4, e5, e6, e7⟩
      unfold f_X10_splitByShares_L10
      simp only
      rw [e2 3 (by decide) (by decide) (by decide) (by decide), H.2.2.1, if_pos (nle' n)]
  obtain ⟨⟨i, W⟩, l1, l2⟩ := L
  refine ⟨W, ?_, l2⟩
  unfold f_X10_splitByShares f_X7_begin
  simp only [lw_e]
  rw [bd1, l1, bd1]
theorem fshM {w : Wd} {n s : Nat} {v1 : Int32} (H : ShH w n s) (b : Bool) (hv : if b = true then v1 ≠ 0 ∧ 0 < s else v1 = 0 ∨ s = 0) : ∃ W, f_X11_findShares v1 w = some W ∧ (∀ y, y ≠ 95 → y ≠ 96 → W.1 y = w.1 y) ∧ W.2 = w.2 ∧ ∀ i, i < n → W.1 96 i = shv b (w.1 21) s (w.1 77) i := by
  have hn := H.1
  have L : ∃ r, lp (f_X11_findShares_L2 v1) FU (0, w) = some r ∧ ((∀ y, y ≠ 95 → y ≠ 96 → r.2.1 y = w.1 y) ∧ r.2.2 = w.2 ∧ ∀ i, i < n → r.2.1 96 i = shv b (w.1 21) s (w.1 77) i) := by
    refine lp_n (fun i z => z.1 = nI i ∧ (∀ y, y ≠ 95 → y ≠ 96 → z.2.1 y = w.1 y) ∧ z.2.2 = w.2 ∧ ∀ j, j < i → z.2.1 96 j = shv b (w.1 21) s (w.1 77) j) n _ ⟨rfl, fun _ _ _ => rfl, rfl, fun j hj => absurd hj (Nat.not_lt_zero _)⟩ (FU_lt (by omega)) ?_ ?_
    · rintro i ⟨a, V⟩ hi0 ⟨e1, e2, e3, e4⟩
      simp only at e1 e2 e3 e4
      subst e1
      have HV : ShH V n s := ShH_c H fun y hy => e2 y (by omega) (by omega)
      have v21 : V.1 21 = w.1 21 := e2 21 (by decide) (by decide)
      have v77 : V.1 77 = w.1 77 := e2 77 (by decide) (by decide)
      have put : ∀ (x : Int32) (U : Wd), shv b (w.1 21) s (w.1 77) i = c5 x → (∀ y, y ≠ 95 → U.1 y = V.1 y) → U.2 = V.2 → ∃ z, f_X11_findShares_J46 v1 (nI i) (nI i) x U = some (.inl z) ∧ (z.1 = nI (i + 1) ∧ (∀ y, y ≠ 95 → y ≠ 96 → z.2.1 y = w.1 y) ∧ z.2.2 = w.2 ∧ ∀ j, j < i + 1 → z.2.1 96 j = shv b (w.1 21) s (w.1 77) j) := by
        intro x U hx u1 u2
        refine ⟨(nI (i + 1), si U 96 i (shv b (w.1 21) s (w.1 77) i)), ?_, rfl, fun y y1 y2 => ?_, u2.trans e3, fun j hj => ?_⟩
        · unfold f_X11_findShares_J46
          rw [c5_m, bd1, gd_in (by omega) (by decide), cl_n (by omega), lw_e, nI_1, hx]
        · rw [si_n y2, u1 y y1]
          exact e2 y y1 y2
        · rw [si_g, u1 96 (by decide)]
          by_cases q : j = i
          · rw [if_pos ⟨rfl, q⟩, q]
          · rw [if_neg (fun z => q z.2)]
            exact e4 j (by omega)
      refine Or.inl ?_
      unfold f_X11_findShares_L2
      simp only
      rw [HV.2.2.2.1, if_neg (nle hi0 (by omega))]
      cases b with
      | false =>
        rw [if_neg (by decide)] at hv
        have J39 : ∃ z, f_X11_findShares_J39 v1 (nI i) (nI i) V = some (.inl z) ∧ (z.1 = nI (i + 1) ∧ (∀ y, y ≠ 95 → y ≠ 96 → z.2.1 y = w.1 y) ∧ z.2.2 = w.2 ∧ ∀ j, j < i + 1 → z.2.1 96 j = shv false (w.1 21) s (w.1 77) j) := by
          unfold f_X11_findShares_J39
          rw [get_7 (by omega), bd1, v77]
          exact put _ V (by unfold shv; rw [if_neg (by decide)]) (fun _ _ => rfl) rfl
        by_cases q : v1 = 0
        · rw [if_pos q]
          exact J39
        · have s0 := hv.resolve_left q
          have h6 : V.1 77 6 = nI 0 := by
            rcases HV.2.2.2.2.2.2.2 with z | z
            · exact z.2
            · exact absurd z.1 (by omega)
          rw [if_neg q, h6, if_pos (show nI 0 ≤ 0 by decide)]
          exact J39
      | true =>
        rw [if_pos rfl] at hv
        rcases HV.2.2.2.2.2.2.2 with z | ⟨-, t, t1, t2, t3, t4⟩
        · exact absurd z.1 (by omega)
        obtain ⟨U, c1, c2, c3⟩ := saysM (w := V) (v := i) (t := t) (by omega) t1 t3 (t4 _)
        rw [if_neg hv.1, t3, if_neg (show ¬ nI t ≤ 0 from nle (i := 0) t2 (by omega)), c1, bd1]
        exact put _ U (by unfold shv; rw [if_pos rfl, v21, v77]) c2 c3
    · rintro ⟨a, V⟩ ⟨e1, e2, e3, e4⟩
      simp only at e1 e2 e3 e4
      subst e1
      refine ⟨(nI n, V), ?_, e2, e3, e4⟩
      unfold f_X11_findShares_L2
      simp only
      rw [e2 77 (by decide) (by decide), H.2.2.2.1, if_pos (nle' n)]
  obtain ⟨⟨i, W⟩, l1, l2⟩ := L
  refine ⟨W, ?_, l2⟩
  unfold f_X11_findShares
  rw [l1, bd1]

/-! few turns: the class's try -/
def CFw (w V : Wd) (g : Nat → Int32) (n : Nat) (b : Int32) (hrs : Nat) (op : Nat → Int32) : Prop := (∀ y, ¬ Tc y → y ≠ 14 → y ≠ 68 → V.1 y = w.1 y) ∧ V.2 = w.2 ∧ (V.1 14 3 = b ∧ V.1 14 4 = nI hrs) ∧ (V.1 13 0 = nI n ∧ V.1 13 1 = g 3 ∧ V.1 13 2 = g 1 ∧ V.1 13 3 = g 2) ∧ CW V g n n 0 ∧ ∀ i, i < n → V.1 59 i = gx g i 6 ∧ V.1 61 i = lkf g i ∧ V.1 62 i = wt g n i (op i)
theorem allX {V : Wd} {n : Nat} {b : Int32} {wm : Nat → Int32} (hn : n ≤ 12) (h0 : V.1 13 0 = nI n) (h60 : ∀ i, i < n → V.1 60 i = wm i) : f_X2_isAllEven b V = some (@ite _ (∀ i, i < n → evn b (wm i)) (Classical.propDecidable _) 1 0) := by
  have H : ∃ r, lp (f_X2_isAllEven_L2 b V) FU 0 = some r ∧ ((∃ x, r = .inl x) ∧ (∀ i, i < n → evn b (wm i)) ∨ r = .inr 0 ∧ ¬ ∀ i, i < n → evn b (wm i)) := by
    refine lp_n (fun i z => z = nI i ∧ ∀ j, j < i → evn b (wm j)) n _ ⟨rfl, fun j hj => absurd hj (Nat.not_lt_zero _)⟩ (FU_lt (by omega)) ?_ ?_
    · rintro i z hi0 ⟨rfl, e⟩
      unfold f_X2_isAllEven_L2 f_X10_feeling
      rw [h0, if_neg (nle hi0 (by omega)), gd_in (by omega) (by decide), cl_n (by omega), h60 i hi0]
      by_cases q1 : b / 1000 ≤ wm i
      · by_cases q2 : wm i ≤ b - b / 1000 * 1000
        · rw [if_pos q1, if_pos q2]
          refine Or.inl ⟨nI (i + 1), by rw [← nI_1]; rfl, rfl, fun j hj => ?_⟩
          rcases Nat.lt_or_ge j i with z | z
          · exact e j z
          · have ej : j = i := by omega
            rw [ej]
            exact ⟨q1, q2⟩
        · rw [if_pos q1, if_neg q2]
          exact Or.inr ⟨.inr 0, rfl, Or.inr ⟨rfl, fun z => q2 (z i hi0).2⟩⟩
      · rw [if_neg q1]
        exact Or.inr ⟨.inr 0, rfl, Or.inr ⟨rfl, fun z => q1 (z i hi0).1⟩⟩
    · rintro z ⟨rfl, e⟩
      refine ⟨.inl (nI n), ?_, Or.inl ⟨⟨_, rfl⟩, e⟩⟩
      unfold f_X2_isAllEven_L2
      rw [h0, if_pos (nle' n)]
  obtain ⟨r, l1, l2⟩ := H
  unfold f_X2_isAllEven
  rw [l1, bd1]
  rcases l2 with ⟨⟨x, rfl⟩, e⟩ | ⟨rfl, e⟩
  · rw [if_pos e]
    rfl
  · rw [if_neg e]
    rfl
theorem goodX {w V : Wd} {g : Nat → Int32} {n h : Nat} {b : Int32} {hrs : Nat} {op : Nat → Int32} (hn : n ≤ 12) (hN : hrs ≤ 8) (hok : ∀ j, j < n → FlatOk g h j) (hg : rng (g 1) (-300) 400 ∧ rng (g 2) 0 999 ∧ rng (g 3) 0 900) (hw : ∀ j, j < n → rng (gx g j 6) (-300) 1500) (hl : ∀ i, i < n → rng (lkf g i) 0 268) (hop : ∀ j, j < n → rng (op j) 0 8) (hC : CFw w V g n b hrs op) : ∃ V', f_X3_isGood V = some (if good g n b hrs op = true then 1 else 0, V') ∧ CFw w V' g n b hrs op ∧ V'.1 68 = V.1 68 := by
  obtain ⟨c1, c2, c3, c4, c5, c6⟩ := hC
  obtain ⟨W0, p1, p2, p3, p4⟩ := restartX hn c4 c5 (fun i hi0 => c6 i hi0)
  have hf : ∀ i, i < n → rng (flo (g 2) (wt g n i (op i)) (ws (fun j => wt g n j (op j)) n)) 0 999 := fun i hi0 => flw_bd hn hi0 hg.2.1 hop
  have H : ∃ o, lp f_X3_isGood_L9 FU (0, W0) = some o ∧ ((∀ y, y ≠ 60 → y ≠ 63 → y ≠ 64 → y ≠ 65 → o.2.1 y = V.1 y) ∧ o.2.2 = V.2 ∧ CS o.2 g n (fun j => wt g n j (op j)) (fun i => flo (g 2) (wt g n i (op i)) (ws (fun j => wt g n j (op j)) n)) (lkf g) (fun j => gx g j 6) (hrun (adj g) n (fun i => flo (g 2) (wt g n i (op i)) (ws (fun j => wt g n j (op j)) n)) (lkf g) (g 3) (g 1) (fun j => gx g j 6) hrs) (g 3) (g 1) (g 2)) := by
    refine lp_n (fun t z => z.1 = nI t ∧ (∀ y, y ≠ 60 → y ≠ 63 → y ≠ 64 → y ≠ 65 → z.2.1 y = V.1 y) ∧ z.2.2 = V.2 ∧ CS z.2 g n (fun j => wt g n j (op j)) (fun i => flo (g 2) (wt g n i (op i)) (ws (fun j => wt g n j (op j)) n)) (lkf g) (fun j => gx g j 6) (hrun (adj g) n (fun i => flo (g 2) (wt g n i (op i)) (ws (fun j => wt g n j (op j)) n)) (lkf g) (g 3) (g 1) (fun j => gx g j 6) t) (g 3) (g 1) (g 2)) hrs _ ⟨rfl, fun y y1 y2 _ _ => p2 y y1 y2, p3, p4⟩ (FU_lt (by omega)) ?_ ?_
    · rintro t ⟨x, U⟩ ht ⟨e1, e2, e3, e4⟩
      simp only at e1 e2 e3 e4
      subst e1
      obtain ⟨X, r1, r2, r3, r4, r5⟩ := hourX hn e4 (fun i hi0 => by
        have := hrun_bd hn hok hw hf hl hg.2.2 hg.1 t i hi0
        unfold rng at this ⊢
        omega)
      refine Or.inl ⟨(nI (t + 1), X), ?_, rfl, fun y y1 y2 y3 y4 => (r2 y y1 y3 y4).trans (e2 y y1 y2 y3 y4), r3.trans e3, r4⟩
      unfold f_X3_isGood_L9
      simp only
      rw [e2 14 (by decide) (by decide) (by decide) (by decide), c3.2, if_neg (nle ht (by omega)), r1, bd1, nI_1]
    · rintro ⟨x, U⟩ ⟨e1, e2, e3, e4⟩
      simp only at e1 e2 e3 e4
      subst e1
      refine ⟨(nI hrs, U), ?_, e2, e3, e4⟩
      unfold f_X3_isGood_L9
      simp only
      rw [e2 14 (by decide) (by decide) (by decide) (by decide), c3.2, if_pos (nle' hrs)]
  obtain ⟨⟨x, U⟩, r1, r2, r3, r4⟩ := H
  simp only at r2 r3 r4
  have u14 := r2 14 (by decide) (by decide) (by decide) (by decide)
  refine ⟨U, ?_, ⟨fun y y1 y2 y3 => ?_, r3.trans c2, ?_, r4.1, r4.2.1, fun i hi0 => ⟨(r4.2.2 i hi0).1, (r4.2.2 i hi0).2.2.1, (r4.2.2 i hi0).2.2.2.1⟩⟩, r2 68 (by decide) (by decide) (by decide) (by decide)⟩
  · unfold f_X3_isGood
    rw [p1, bd1, r1, bd1]
    simp only
    rw [u14, c3.1, allX hn r4.1.1 (fun i hi0 => (r4.2.2 i hi0).2.1), bd1]
    unfold good flw
    by_cases q : ∀ i, i < n → evn b (hrun (adj g) n (fun i => flo (g 2) (wt g n i (op i)) (ws (fun j => wt g n j (op j)) n)) (lkf g) (g 3) (g 1) (fun j => gx g j 6) hrs i)
    · rw [if_pos q, if_pos (@decide_eq_true _ (Classical.propDecidable _) q), gd_z (Or.inr rfl)]
    · rw [if_neg q, if_neg (fun z => q (@of_decide_eq_true _ (Classical.propDecidable _) z)), gd_z (Or.inl rfl)]
  · unfold Tc at y1
    rw [r2 y (by omega) (by omega) (by omega) (by omega)]
    exact c1 y (by unfold Tc; omega) y2 y3
  · rw [u14]
    exact c3

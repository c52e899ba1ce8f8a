/-! images -/
theorem tkn_c {tb tb' : Nat → Int32} {s : Nat} (h : ∀ i, i < s → tb' i = tb i) : tkn tb' s = tkn tb s := funext fun st => by
  unfold tkn
  by_cases q : st.2 = false ∧ st.1 < s
  · rw [if_pos q, if_pos q, h _ q.2]
  · rw [if_neg q, if_neg q]
theorem pExp_c {tb tb' : Nat → Int32} {s : Nat} (h : tkn tb' s = tkn tb s) : pExp tb' s = pExp tb s := funext fun c => funext fun st => by
  unfold pExp
  rw [h]
theorem pNum_c {tb tb' : Nat → Int32} {s : Nat} (h : tkn tb' s = tkn tb s) : ∀ k r, pNum tb' s k r = pNum tb s k r
  | 0, _ => rfl
  | k + 1, r => by
    unfold pNum
    rw [h, pNum_c h k]
theorem pF_c {tb tb' : Nat → Int32} {s : Nat} {vals : Nat → Int32} {S : Nat → Nat × Bool → Int32 × (Nat × Bool)} (h : tkn tb' s = tkn tb s) : pF tb' s vals S = pF tb s vals S := funext fun d => funext fun st => by
  unfold pF
  rw [h, pExp_c h, pNum_c h]
theorem pP1_c {tb tb' : Nat → Int32} {s : Nat} {F : Nat × Bool → Int32 × (Nat × Bool)} (h : tkn tb' s = tkn tb s) : ∀ k r, pP1 tb' s F k r = pP1 tb s F k r
  | 0, _ => rfl
  | k + 1, r => by
    unfold pP1
    rw [h, pP1_c h k, pP1_c h k]
theorem pP_c {tb tb' : Nat → Int32} {s : Nat} {F : Nat × Bool → Int32 × (Nat × Bool)} (h : tkn tb' s = tkn tb s) : pP tb' s F = pP tb s F := funext fun st => pP1_c h 80 _
theorem pS1_c {tb tb' : Nat → Int32} {s : Nat} {F : Nat × Bool → Int32 × (Nat × Bool)} (h : tkn tb' s = tkn tb s) : ∀ k r, pS1 tb' s F k r = pS1 tb s F k r
  | 0, _ => rfl
  | k + 1, r => by
    unfold pS1
    rw [h, pS1_c h k, pS1_c h k]
theorem pS_c {tb tb' : Nat → Int32} {s : Nat} {vals : Nat → Int32} (h : tkn tb' s = tkn tb s) : ∀ n, pS tb' s vals n = pS tb s vals n
  | 0 => rfl
  | n + 1 => funext fun d => funext fun st => by
    show pS1 tb' s (pP tb' s (pF tb' s vals (pS tb' s vals n) d)) 80 (pP tb' s (pF tb' s vals (pS tb' s vals n) d) st) = pS1 tb s (pP tb s (pF tb s vals (pS tb s vals n) d)) 80 (pP tb s (pF tb s vals (pS tb s vals n) d) st)
    rw [pS_c h n, pF_c h, pP_c h, pS1_c h]
theorem SR_cp {B B' : Nat → Int32} {F F' : Nat → Nat → Int32} {Hh Hh' T T' tb tb' Cz Cz' cf cf' cs cs' ch ch' cg cg' g g' : Nat → Int32} (H : SR B F Hh T tb Cz cf cs ch cg g) (hB : B' 1 = B 1 ∧ B' 3 = B 3 ∧ B' 4 = B 4 ∧ B' 5 = B 5 ∧ B' 6 = B 6) (hF : ∀ i k, i < 12 → k < 12 → F' i k = F i k) (hH : ∀ r, r < 4 → Hh' r = Hh r) (hT : T' 1 = T 1) (ht : ∀ s, T 1 = nI s → s ≤ 80 → ∀ i, i < s → tb' i = tb i) (hC : Cz' 4 = Cz 4) (hc : ∀ c, Cz 4 = nI c → c ≤ 24 → ∀ k, k < c → cf' k = cf k ∧ cs' k = cs k ∧ ch' k = ch k ∧ cg' k = cg k) (hg : ∀ y, y < 291 → g' y = g y) : SR B' F' Hh' T' tb' Cz' cf' cs' ch' cg' g' := by
  obtain ⟨n, h, c, q1, q2, ⟨s, t, r1, r2, r3, r4, r5, r6, r7⟩, q4⟩ := H
  have hn := q1.1
  refine ⟨n, h, c, ?_, ?_, ⟨s, t, r1, r2, hT.trans r3, ?_, fun i hi0 => ?_, r6, fun p => ⟨(r7 p).1, fun vals => ?_⟩⟩, fun i hi0 => ?_⟩
  · have q1' := BI_c q1 (g' := g') fun y h1 _ _ => hg y (by omega)
    obtain ⟨b1, b2, ⟨x1, x2, x3, x4, x5, x6, x7⟩, b4, b5, b6⟩ := q1'
    refine ⟨b1, b2, ⟨hB.1.trans x1, x2, hB.2.1.trans x3, x4, hB.2.2.1.trans x5, hB.2.2.2.1.trans x6, hB.2.2.2.2.trans x7⟩, b4, fun i hi0 => ⟨⟨?_, ?_, ?_, fun k k1 k2 => ?_⟩, (b5 i hi0).2⟩, fun r hr => (hH r hr).trans (b6 r hr)⟩
    · rw [hF i 0 (by omega) (by decide)]; exact (b5 i hi0).1.1
    · rw [hF i 1 (by omega) (by decide)]; exact (b5 i hi0).1.2.1
    · rw [hF i 2 (by omega) (by decide)]; exact (b5 i hi0).1.2.2.1
    · rw [hF i (k + 1) (by omega) (by omega)]; exact (b5 i hi0).1.2.2.2 k k1 k2
  · have q2' := CC_c q2 (g' := g') hn (Nat.le_refl n) (hg 5 (by decide)) (fun k j a b => hg _ (by omega)) (fun j hj => hg _ (by omega))
    obtain ⟨h0, h1, h2, h3, h4⟩ := q2'
    refine ⟨h0, hC.trans h1, h2, fun k hk => ?_, fun a b ha hb q => ?_⟩
    · obtain ⟨e1, e2, e3, e4⟩ := hc c h1 h0 k hk
      rw [e1, e2, e3, e4]
      exact h3 k hk
    · rw [(hc c h1 h0 a ha).2.2.2, (hc c h1 h0 b hb).2.2.2]
      exact h4 a b ha hb q
  · rw [hg 6 (by decide)]; exact r4
  · rw [ht s r3 r1 i hi0]; exact r5 i hi0
  · rw [pS_c (tkn_c fun i hi0 => ht s r3 r1 i hi0) 5, codes_c (g := g) r2 fun k hk => hg _ (by omega)]
    exact (r7 p).2 vals
  · rw [hF i 5 hi0 (by decide), hF i 6 hi0 (by decide)]
    exact q4 i hi0
theorem flX (a b : Nat) (w : Wd) (hab : a ≠ b) (h5 : w.1 b 5 = 0 ∨ w.1 b 5 = 1) (h6 : w.1 b 6 = 0 ∨ w.1 b 6 = 1) : ∃ W, f_X4_become a b w = some W ∧ (∀ y, y ≠ a → W.1 y = w.1 y) ∧ W.2 = w.2 ∧ ∀ k, k < 12 → W.1 a k = w.1 b k := by
  obtain ⟨U, p1, p2, p3, p4⟩ := bn_e a (w.1 b 0) (w.1 b 1) (w.1 b 2) (w.1 b 3) w
  have ub : U.1 b = w.1 b := p2 b (fun e => hab e.symm)
  have sb : ∀ (X : Wd) (k : Nat) (v : Int32), (si X a k v).1 b = X.1 b := fun X k v => si_n (fun e => hab e.symm)
  refine ⟨si (si (si (si (si (si (si (si U a 4 (w.1 b 4)) a 5 (w.1 b 5)) a 6 (w.1 b 6)) a 7 (w.1 b 7)) a 8 (w.1 b 8)) a 9 (w.1 b 9)) a 10 (w.1 b 10)) a 11 (w.1 b 11), ?_, fun y hy => ?_, p3, fun k hk => ?_⟩
  · unfold f_X4_become
    rw [p1, bd1]
    simp only [lw_e, sb, ub]
    rw [gd_z h5, gd_z h6]
  · rw [si_n hy, si_n hy, si_n hy, si_n hy, si_n hy, si_n hy, si_n hy, si_n hy, p2 y hy]
  · obtain ⟨a0, a1, a2, a3, -⟩ := p4
    simp only [si_g, true_and]
    have : k = 0 ∨ k = 1 ∨ k = 2 ∨ k = 3 ∨ k = 4 ∨ k = 5 ∨ k = 6 ∨ k = 7 ∨ k = 8 ∨ k = 9 ∨ k = 10 ∨ k = 11 := by omega
    rcases this with rfl | rfl | rfl | rfl | rfl | rfl | rfl | rfl | rfl | rfl | rfl | rfl <;> simp [a0, a1, a2, a3]
theorem blkI {w : Wd} (hz : ∀ i, i < 12 → (w.1 (35 + i) 5 = 0 ∨ w.1 (35 + i) 5 = 1) ∧ (w.1 (35 + i) 6 = 0 ∨ w.1 (35 + i) 6 = 1)) : ∃ W, f_X0_become 4 3 w = some W ∧ (∀ y, y ≠ 4 → y ≠ 20 → ¬ (47 ≤ y ∧ y < 47 + 12) → W.1 y = w.1 y) ∧ W.2 = w.2 ∧ (W.1 4 1 = w.1 3 1 ∧ W.1 4 3 = w.1 3 3 ∧ W.1 4 4 = w.1 3 4 ∧ W.1 4 5 = w.1 3 5 ∧ W.1 4 6 = w.1 3 6) ∧ (∀ i k, i < 12 → k < 12 → W.1 (47 + i) k = w.1 (35 + i) k) ∧ ∀ r, r < 4 → W.1 20 r = w.1 19 r := by
  have r0 : rf (rf 4 0) 0 = 47 := rfl
  have r1 : rf (rf 3 0) 0 = 35 := rfl
  have r2 : rf 4 2 = 20 := rfl
  have r3 : rf 3 2 = 19 := rfl
  have H : ∃ o, lp (f_X0_become_L10 4 3) FU (0, si w 4 1 (w.1 3 1)) = some o ∧ ((∀ y, ¬ (47 ≤ y ∧ y < 47 + 12) → o.2.1 y = (si w 4 1 (w.1 3 1)).1 y) ∧ o.2.2 = w.2 ∧ ∀ j k, j < 12 → k < 12 → o.2.1 (47 + j) k = w.1 (35 + j) k) := by
    refine lp_n (fun i z => z.1 = nI i ∧ (∀ y, ¬ (47 ≤ y ∧ y < 47 + 12) → z.2.1 y = (si w 4 1 (w.1 3 1)).1 y) ∧ z.2.2 = w.2 ∧ ∀ j k, j < i → k < 12 → z.2.1 (47 + j) k = w.1 (35 + j) k) 12 _ ⟨rfl, fun _ _ => rfl, rfl, fun j k hj => absurd hj (Nat.not_lt_zero _)⟩ (FU_lt (by decide)) ?_ ?_
    · rintro i ⟨x, U⟩ hi0 ⟨e1, e2, e3, e4⟩
      simp only at e1 e2 e3 e4
      subst e1
      have us : ∀ j, j < 12 → U.1 (35 + j) = w.1 (35 + j) := fun j hj => by rw [e2 _ (by omega), si_n (by omega)]
      obtain ⟨V, v1, v2, v3, v4⟩ := flX (47 + i) (35 + i) U (by omega) (by rw [us i hi0]; exact (hz i hi0).1) (by rw [us i hi0]; exact (hz i hi0).2)
      refine Or.inl ⟨(nI (i + 1), V), ?_, rfl, fun y hy => by rw [v2 y (by omega), e2 y hy], v3.trans e3, fun j k hj hk => ?_⟩
      · unfold f_X0_become_L10
        simp only
        rw [if_neg (show ¬ (12 : Int32) ≤ nI i from nle (n := 12) hi0 (by decide)), gd_in hi0 (by decide), gd_in hi0 (by decide), cl_n (by omega), r0, r1, v1, bd1, nI_1]
      · by_cases q : j = i
        · subst q
          rw [v4 k hk, us j hi0]
        · rw [v2 _ (by omega), e4 j k (by omega) hk]
    · rintro ⟨x, U⟩ ⟨e1, e2, e3, e4⟩
      simp only at e1 e2 e3 e4
      subst e1
      refine ⟨(nI 12, U), ?_, e2, e3, e4⟩
      unfold f_X0_become_L10
      simp only
      rw [if_pos (show (12 : Int32) ≤ nI 12 from nle' 12)]
  obtain ⟨⟨x, U⟩, p1, p2, p3, p4⟩ := H
  simp only at p2 p3 p4
  obtain ⟨V, v1, v2, v3, v4⟩ := lp_fill (step := f_X0_become_L39 4 3) (w := U) (a := 20) (n := 4) (v := fun r => w.1 19 r) (by decide) (fun i V hi0 e1 e2 e3 => by
    unfold f_X0_become_L39
    simp only
    rw [if_neg (show ¬ (4 : Int32) ≤ nI i from nle (n := 4) hi0 (by decide)), gd_in hi0 (by decide), gd_in hi0 (by decide), cl_n (by omega), r2, r3, e1 19 (by decide), p2 19 (by omega), si_n (by decide)]
    rfl) (fun V e1 e2 => by
    unfold f_X0_become_L39
    simp only
    rw [if_pos (show (4 : Int32) ≤ nI 4 from nle' 4)])
  have VB : V.1 3 = w.1 3 := by rw [v2 3 (by decide), p2 3 (by omega), si_n (by decide)]
  have VD : V.1 4 1 = w.1 3 1 := by rw [v2 4 (by decide), p2 4 (by omega), si_s]
  have sb : ∀ (X : Wd) (k : Nat) (v : Int32), (si X 4 k v).1 3 = X.1 3 := fun X k v => si_n (by decide)
  refine ⟨si (si (si (si V 4 3 (w.1 3 3)) 4 4 (w.1 3 4)) 4 5 (w.1 3 5)) 4 6 (w.1 3 6), ?_, fun y y1 y2 y3 => ?_, v3.trans p3, ?_, fun i k hi0 hk => ?_, fun r hr => ?_⟩
  · unfold f_X0_become
    rw [lw_e, p1, bd1]
    simp only
    rw [v1, bd1]
    simp only [lw_e, sb, VB]
  · rw [si_n y1, si_n y1, si_n y1, si_n y1, v2 y y2, p2 y y3, si_n y1]
  · simp [si, VD]
  · rw [si_n (by omega), si_n (by omega), si_n (by omega), si_n (by omega), v2 _ (by omega)]
    exact p4 i k hi0 hk
  · rw [si_n (by decide), si_n (by decide), si_n (by decide), si_n (by decide), v4, if_pos hr]
theorem txtI {w : Wd} {s : Nat} (hs : s ≤ 80) (h1 : w.1 5 1 = nI s) : ∃ W, f_X9_become 6 5 w = some W ∧ (∀ y, y ≠ 6 → y ≠ 22 → W.1 y = w.1 y) ∧ W.2 = w.2 ∧ W.1 6 1 = nI s ∧ ∀ i, i < s → W.1 22 i = w.1 21 i := by
  have r0 : rf 6 0 = 22 := rfl
  have r1 : rf 5 0 = 21 := rfl
  obtain ⟨V, v1, v2, v3, v4⟩ := lp_fill (step := f_X9_become_L2 6 5) (w := w) (a := 22) (n := s) (v := fun r => w.1 21 r) (by omega) (fun i V hi0 e1 e2 e3 => by
    unfold f_X9_become_L2
    simp only
    rw [e1 5 (by decide), h1, if_neg (nle hi0 (by omega)), gd_in (by omega) (by decide), gd_in (by omega) (by decide), cl_n (by omega), r0, r1, e1 21 (by decide)]
    rfl) (fun V e1 e2 => by
    unfold f_X9_become_L2
    simp only
    rw [e1 5 (by decide), h1, if_pos (nle' s)])
  refine ⟨si V 6 1 (nI s), ?_, fun y y1 y2 => by rw [si_n y1, v2 y y2], v3, si_s, fun i hi0 => by rw [si_n (by decide), v4, if_pos hi0]⟩
  unfold f_X9_become
  rw [v1, bd1]
  simp only [lw_e]
  rw [v2 5 (by decide), h1]
theorem cmpI {w : Wd} {c : Nat} (hc : c ≤ 24) (h1 : w.1 8 4 = nI c) : ∃ W, f_X1_become 9 8 w = some W ∧ (∀ y, y ≠ 9 → ¬ (28 ≤ y ∧ y < 28 + 4) → W.1 y = w.1 y) ∧ W.2 = w.2 ∧ W.1 9 4 = nI c ∧ ∀ k, k < c → W.1 (28 + 0) k = w.1 (24 + 0) k ∧ W.1 (28 + 1) k = w.1 (24 + 1) k ∧ W.1 (28 + 2) k = w.1 (24 + 2) k ∧ W.1 (28 + 3) k = w.1 (24 + 3) k := by
  have a0 : rf 9 0 = 28 + 0 := rfl
  have a1 : rf 9 1 = 28 + 1 := rfl
  have a2 : rf 9 2 = 28 + 2 := rfl
  have a3 : rf 9 3 = 28 + 3 := rfl
  have b0 : rf 8 0 = 24 + 0 := rfl
  have b1 : rf 8 1 = 24 + 1 := rfl
  have b2 : rf 8 2 = 24 + 2 := rfl
  have b3 : rf 8 3 = 24 + 3 := rfl
  have H : ∃ o, lp (f_X1_become_L2 9 8) FU (0, w) = some o ∧ ((∀ y, ¬ (28 ≤ y ∧ y < 28 + 4) → o.2.1 y = w.1 y) ∧ o.2.2 = w.2 ∧ ∀ k, k < c → o.2.1 (28 + 0) k = w.1 (24 + 0) k ∧ o.2.1 (28 + 1) k = w.1 (24 + 1) k ∧ o.2.1 (28 + 2) k = w.1 (24 + 2) k ∧ o.2.1 (28 + 3) k = w.1 (24 + 3) k) := by
    refine lp_n (fun i z => z.1 = nI i ∧ (∀ y, ¬ (28 ≤ y ∧ y < 28 + 4) → z.2.1 y = w.1 y) ∧ z.2.2 = w.2 ∧ ∀ k, k < i → z.2.1 (28 + 0) k = w.1 (24 + 0) k ∧ z.2.1 (28 + 1) k = w.1 (24 + 1) k ∧ z.2.1 (28 + 2) k = w.1 (24 + 2) k ∧ z.2.1 (28 + 3) k = w.1 (24 + 3) k) c _ ⟨rfl, fun _ _ => rfl, rfl, fun k hk => absurd hk (Nat.not_lt_zero _)⟩ (FU_lt (by omega)) ?_ ?_
    · rintro i ⟨x, U⟩ hi0 ⟨e1, e2, e3, e4⟩
      simp only at e1 e2 e3 e4
      subst e1
      refine Or.inl ⟨(nI (i + 1), si (si (si (si U (28 + 0) i (w.1 (24 + 0) i)) (28 + 1) i (w.1 (24 + 1) i)) (28 + 2) i (w.1 (24 + 2) i)) (28 + 3) i (w.1 (24 + 3) i)), ?_, rfl, fun y hy => ?_, e3, fun k hk => ?_⟩
      · unfold f_X1_become_L2
        simp only
        rw [e2 8 (by omega), h1, if_neg (nle hi0 (by omega)), cl_n (by omega), a0, a1, a2, a3, b0, b1, b2, b3]
        simp only [lw_e]
        rw [gd_in (by omega) (by decide), gd_in (by omega) (by decide), gd_in (by omega) (by decide), gd_in (by omega) (by decide), gd_in (by omega) (by decide), gd_in (by omega) (by decide), gd_in (by omega) (by decide), gd_in (by omega) (by decide)]
        simp only [si_n (show 24 + 1 ≠ 28 + 0 by decide), si_n (show 24 + 2 ≠ 28 + 1 by decide), si_n (show 24 + 2 ≠ 28 + 0 by decide), si_n (show 24 + 3 ≠ 28 + 2 by decide), si_n (show 24 + 3 ≠ 28 + 1 by decide), si_n (show 24 + 3 ≠ 28 + 0 by decide)]
        rw [e2 (24 + 0) (by omega), e2 (24 + 1) (by omega), e2 (24 + 2) (by omega), e2 (24 + 3) (by omega), nI_1]
      · rw [si_n (by omega), si_n (by omega), si_n (by omega), si_n (by omega), e2 y hy]
      · by_cases q : k = i
        · subst q
          simp [si]
        · have := e4 k (by omega)
          simp [si, q]
          exact this
    · rintro ⟨x, U⟩ ⟨e1, e2, e3, e4⟩
      simp only at e1 e2 e3 e4
      subst e1
      refine ⟨(nI c, U), ?_, e2, e3, e4⟩
      unfold f_X1_become_L2
      simp only
      rw [e2 8 (by omega), h1, if_pos (nle' c)]
  obtain ⟨⟨x, V⟩, v1, v2, v3, v4⟩ := H
  simp only at v2 v3 v4
  refine ⟨si V 9 4 (nI c), ?_, fun y y1 y2 => by rw [si_n y1, v2 y y2], v3, si_s, fun k hk => ?_⟩
  · unfold f_X1_become
    rw [v1, bd1]
    simp only [lw_e]
    rw [v2 8 (by omega), h1]
  · rw [si_n (show 28 + 0 ≠ 9 by decide), si_n (show 28 + 1 ≠ 9 by decide), si_n (show 28 + 2 ≠ 9 by decide), si_n (show 28 + 3 ≠ 9 by decide)]
    exact v4 k hk
theorem blkU {w : Wd} (hz : ∀ i, i < 12 → (w.1 (47 + i) 5 = 0 ∨ w.1 (47 + i) 5 = 1) ∧ (w.1 (47 + i) 6 = 0 ∨ w.1 (47 + i) 6 = 1)) : ∃ W, f_X0_become 3 4 w = some W ∧ (∀ y, y ≠ 3 → y ≠ 19 → ¬ (35 ≤ y ∧ y < 35 + 12) → W.1 y = w.1 y) ∧ W.2 = w.2 ∧ (W.1 3 1 = w.1 4 1 ∧ W.1 3 3 = w.1 4 3 ∧ W.1 3 4 = w.1 4 4 ∧ W.1 3 5 = w.1 4 5 ∧ W.1 3 6 = w.1 4 6) ∧ (∀ i k, i < 12 → k < 12 → W.1 (35 + i) k = w.1 (47 + i) k) ∧ ∀ r, r < 4 → W.1 19 r = w.1 20 r := by
  have r0 : rf (rf 3 0) 0 = 35 := rfl
  have r1 : rf (rf 4 0) 0 = 47 := rfl
  have r2 : rf 3 2 = 19 := rfl
  have r3 : rf 4 2 = 20 := rfl
  have H : ∃ o, lp (f_X0_become_L10 3 4) FU (0, si w 3 1 (w.1 4 1)) = some o ∧ ((∀ y, ¬ (35 ≤ y ∧ y < 35 + 12) → o.2.1 y = (si w 3 1 (w.1 4 1)).1 y) ∧ o.2.2 = w.2 ∧ ∀ j k, j < 12 → k < 12 → o.2.1 (35 + j) k = w.1 (47 + j) k) := by
    refine lp_n (fun i z => z.1 = nI i ∧ (∀ y, ¬ (35 ≤ y ∧ y < 35 + 12) → z.2.1 y = (si w 3 1 (w.1 4 1)).1 y) ∧ z.2.2 = w.2 ∧ ∀ j k, j < i → k < 12 → z.2.1 (35 + j) k = w.1 (47 + j) k) 12 _ ⟨rfl, fun _ _ => rfl, rfl, fun j k hj => absurd hj (Nat.not_lt_zero _)⟩ (FU_lt (by decide)) ?_ ?_
    · rintro i ⟨x, U⟩ hi0 ⟨e1, e2, e3, e4⟩
      simp only at e1 e2 e3 e4
      subst e1
      have us : ∀ j, j < 12 → U.1 (47 + j) = w.1 (47 + j) := fun j hj => by rw [e2 _ (by omega), si_n (by omega)]
      obtain ⟨V, v1, v2, v3, v4⟩ := flX (35 + i) (47 + i) U (by omega) (by rw [us i hi0]; exact (hz i hi0).1) (by rw [us i hi0]; exact (hz i hi0).2)
      refine Or.inl ⟨(nI (i + 1), V), ?_, rfl, fun y hy => by rw [v2 y (by omega), e2 y hy], v3.trans e3, fun j k hj hk => ?_⟩
      · unfold f_X0_become_L10
        simp only
        rw [if_neg (show ¬ (12 : Int32) ≤ nI i from nle (n := 12) hi0 (by decide)), gd_in hi0 (by decide), gd_in hi0 (by decide), cl_n (by omega), r0, r1, v1, bd1, nI_1]
      · by_cases q : j = i
        · subst q
          rw [v4 k hk, us j hi0]
        · rw [v2 _ (by omega), e4 j k (by omega) hk]
    · rintro ⟨x, U⟩ ⟨e1, e2, e3, e4⟩
      simp only at e1 e2 e3 e4
      subst e1
      refine ⟨(nI 12, U), ?_, e2, e3, e4⟩
      unfold f_X0_become_L10
      simp only
      rw [if_pos (show (12 : Int32) ≤ nI 12 from nle' 12)]
  obtain ⟨⟨x, U⟩, p1, p2, p3, p4⟩ := H
  simp only at p2 p3 p4
  obtain ⟨V, v1, v2, v3, v4⟩ := lp_fill (step := f_X0_become_L39 3 4) (w := U) (a := 19) (n := 4) (v := fun r => w.1 20 r) (by decide) (fun i V hi0 e1 e2 e3 => by
    unfold f_X0_become_L39
    simp only
    rw [if_neg (show ¬ (4 : Int32) ≤ nI i from nle (n := 4) hi0 (by decide)), gd_in hi0 (by decide), gd_in hi0 (by decide), cl_n (by omega), r2, r3, e1 20 (by decide), p2 20 (by omega), si_n (by decide)]
    rfl) (fun V e1 e2 => by
    unfold f_X0_become_L39
    simp only
    rw [if_pos (show (4 : Int32) ≤ nI 4 from nle' 4)])
  have VB : V.1 4 = w.1 4 := by rw [v2 4 (by decide), p2 4 (by omega), si_n (by decide)]
  have VD : V.1 3 1 = w.1 4 1 := by rw [v2 3 (by decide), p2 3 (by omega), si_s]
  have sb : ∀ (X : Wd) (k : Nat) (v : Int32), (si X 3 k v).1 4 = X.1 4 := fun X k v => si_n (by decide)
  refine ⟨si (si (si (si V 3 3 (w.1 4 3)) 3 4 (w.1 4 4)) 3 5 (w.1 4 5)) 3 6 (w.1 4 6), ?_, fun y y1 y2 y3 => ?_, v3.trans p3, ?_, fun i k hi0 hk => ?_, fun r hr => ?_⟩
  · unfold f_X0_become
    rw [lw_e, p1, bd1]
    simp only
    rw [v1, bd1]
    simp only [lw_e, sb, VB]
  · rw [si_n y1, si_n y1, si_n y1, si_n y1, v2 y y2, p2 y y3, si_n y1]
  · simp [si, VD]
  · rw [si_n (by omega), si_n (by omega), si_n (by omega), si_n (by omega), v2 _ (by omega)]
    exact p4 i k hi0 hk
  · rw [si_n (by decide), si_n (by decide), si_n (by decide), si_n (by decide), v4, if_pos hr]
theorem txtU {w : Wd} {s : Nat} (hs : s ≤ 80) (h1 : w.1 6 1 = nI s) : ∃ W, f_X9_become 5 6 w = some W ∧ (∀ y, y ≠ 5 → y ≠ 21 → W.1 y = w.1 y) ∧ W.2 = w.2 ∧ W.1 5 1 = nI s ∧ ∀ i, i < s → W.1 21 i = w.1 22 i := by
  have r0 : rf 5 0 = 21 := rfl
  have r1 : rf 6 0 = 22 := rfl
  obtain ⟨V, v1, v2, v3, v4⟩ := lp_fill (step := f_X9_become_L2 5 6) (w := w) (a := 21) (n := s) (v := fun r => w.1 22 r) (by omega) (fun i V hi0 e1 e2 e3 => by
    unfold f_X9_become_L2
    simp only
    rw [e1 6 (by decide), h1, if_neg (nle hi0 (by omega)), gd_in (by omega) (by decide), gd_in (by omega) (by decide), cl_n (by omega), r0, r1, e1 22 (by decide)]
    rfl) (fun V e1 e2 => by
    unfold f_X9_become_L2
    simp only
    rw [e1 6 (by decide), h1, if_pos (nle' s)])
  refine ⟨si V 5 1 (nI s), ?_, fun y y1 y2 => by rw [si_n y1, v2 y y2], v3, si_s, fun i hi0 => by rw [si_n (by decide), v4, if_pos hi0]⟩
  unfold f_X9_become
  rw [v1, bd1]
  simp only [lw_e]
  rw [v2 6 (by decide), h1]
theorem cmpU {w : Wd} {c : Nat} (hc : c ≤ 24) (h1 : w.1 9 4 = nI c) : ∃ W, f_X1_become 8 9 w = some W ∧ (∀ y, y ≠ 8 → ¬ (24 ≤ y ∧ y < 24 + 4) → W.1 y = w.1 y) ∧ W.2 = w.2 ∧ W.1 8 4 = nI c ∧ ∀ k, k < c → W.1 (24 + 0) k = w.1 (28 + 0) k ∧ W.1 (24 + 1) k = w.1 (28 + 1) k ∧ W.1 (24 + 2) k = w.1 (28 + 2) k ∧ W.1 (24 + 3) k = w.1 (28 + 3) k := by
  have a0 : rf 8 0 = 24 + 0 := rfl
  have a1 : rf 8 1 = 24 + 1 := rfl
  have a2 : rf 8 2 = 24 + 2 := rfl
  have a3 : rf 8 3 = 24 + 3 := rfl
  have b0 : rf 9 0 = 28 + 0 := rfl
  have b1 : rf 9 1 = 28 + 1 := rfl
  have b2 : rf 9 2 = 28 + 2 := rfl
  have b3 : rf 9 3 = 28 + 3 := rfl
  have H : ∃ o, lp (f_X1_become_L2 8 9) FU (0, w) = some o ∧ ((∀ y, ¬ (24 ≤ y ∧ y < 24 + 4) → o.2.1 y = w.1 y) ∧ o.2.2 = w.2 ∧ ∀ k, k < c → o.2.1 (24 + 0) k = w.1 (28 + 0) k ∧ o.2.1 (24 + 1) k = w.1 (28 + 1) k ∧ o.2.1 (24 + 2) k = w.1 (28 + 2) k ∧ o.2.1 (24 + 3) k = w.1 (28 + 3) k) := by
    refine lp_n (fun i z => z.1 = nI i ∧ (∀ y, ¬ (24 ≤ y ∧ y < 24 + 4) → z.2.1 y = w.1 y) ∧ z.2.2 = w.2 ∧ ∀ k, k < i → z.2.1 (24 + 0) k = w.1 (28 + 0) k ∧ z.2.1 (24 + 1) k = w.1 (28 + 1) k ∧ z.2.1 (24 + 2) k = w.1 (28 + 2) k ∧ z.2.1 (24 + 3) k = w.1 (28 + 3) k) c _ ⟨rfl, fun _ _ => rfl, rfl, fun k hk => absurd hk (Nat.not_lt_zero _)⟩ (FU_lt (by omega)) ?_ ?_
    · rintro i ⟨x, U⟩ hi0 ⟨e1, e2, e3, e4⟩
      simp only at e1 e2 e3 e4
      subst e1
      refine Or.inl ⟨(nI (i + 1), si (si (si (si U (24 + 0) i (w.1 (28 + 0) i)) (24 + 1) i (w.1 (28 + 1) i)) (24 + 2) i (w.1 (28 + 2) i)) (24 + 3) i (w.1 (28 + 3) i)), ?_, rfl, fun y hy => ?_, e3, fun k hk => ?_⟩
      · unfold f_X1_become_L2
        simp only
        rw [e2 9 (by omega), h1, if_neg (nle hi0 (by omega)), cl_n (by omega), a0, a1, a2, a3, b0, b1, b2, b3]
        simp only [lw_e]
        rw [gd_in (by omega) (by decide), gd_in (by omega) (by decide), gd_in (by omega) (by decide), gd_in (by omega) (by decide), gd_in (by omega) (by decide), gd_in (by omega) (by decide), gd_in (by omega) (by decide), gd_in (by omega) (by decide)]
        simp only [si_n (show 28 + 1 ≠ 24 + 0 by decide), si_n (show 28 + 2 ≠ 24 + 1 by decide), si_n (show 28 + 2 ≠ 24 + 0 by decide), si_n (show 28 + 3 ≠ 24 + 2 by decide), si_n (show 28 + 3 ≠ 24 + 1 by decide), si_n (show 28 + 3 ≠ 24 + 0 by decide)]
        rw [e2 (28 + 0) (by omega), e2 (28 + 1) (by omega), e2 (28 + 2) (by omega), e2 (28 + 3) (by omega), nI_1]
      · rw [si_n (by omega), si_n (by omega), si_n (by omega), si_n (by omega), e2 y hy]
      · by_cases q : k = i
        · subst q
          simp [si]
        · have := e4 k (by omega)
          simp [si, q]
          exact this
    · rintro ⟨x, U⟩ ⟨e1, e2, e3, e4⟩
      simp only at e1 e2 e3 e4
      subst e1
      refine ⟨(nI c, U), ?_, e2, e3, e4⟩
      unfold f_X1_become_L2
      simp only
      rw [e2 9 (by omega), h1, if_pos (nle' c)]
  obtain ⟨⟨x, V⟩, v1, v2, v3, v4⟩ := H
  simp only at v2 v3 v4
  refine ⟨si V 8 4 (nI c), ?_, fun y y1 y2 => by rw [si_n y1, v2 y y2], v3, si_s, fun k hk => ?_⟩
  · unfold f_X1_become
    rw [v1, bd1]
    simp only [lw_e]
    rw [v2 9 (by omega), h1]
  · rw [si_n (show 24 + 0 ≠ 8 by decide), si_n (show 24 + 1 ≠ 8 by decide), si_n (show 24 + 2 ≠ 8 by decide), si_n (show 24 + 3 ≠ 8 by decide)]
    exact v4 k hk

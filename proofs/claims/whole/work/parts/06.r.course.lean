/-! the class's course: begin, restart, an hour -/
def CS (w : Wd) (g : Nat → Int32) (n : Nat) (wts fl lks wm0 wm : Nat → Int32) (bo ou pu : Int32) : Prop := (w.1 13 0 = nI n ∧ w.1 13 1 = bo ∧ w.1 13 2 = ou ∧ w.1 13 3 = pu) ∧ CW w g n n 0 ∧ ∀ i, i < n → w.1 59 i = wm0 i ∧ w.1 60 i = wm i ∧ w.1 61 i = lks i ∧ w.1 62 i = wts i ∧ w.1 63 i = fl i
def Tc (y : Nat) : Prop := y = 13 ∨ (59 ≤ y ∧ y ≤ 67)
theorem CW_c {w w' : Wd} {g : Nat → Int32} {n i k : Nat} (h : CW w g n i k) (h13 : w'.1 13 13 = w.1 13 13) (h66 : w'.1 66 = w.1 66) (h67 : w'.1 67 = w.1 67) : CW w' g n i k := by
  unfold CW at h ⊢
  rw [h13, h66, h67]
  exact h
theorem CW_s {w : Wd} {g : Nat → Int32} {n h i : Nat} (hi0 : i < n) (hok : ∀ j, j < n → FlatOk g h j) (hW : CW w g n i i) : CW w g n (i + 1) 0 := by
  obtain ⟨m, c1, c2, c3, c4⟩ := hW
  have := cb_adj hi0 (Nat.le_refl i) hok
  refine ⟨m, by show m ≤ 3 * (i + 1) + 0; omega, c2, c3, fun φ => ?_⟩
  rw [c4 φ]
  show _ = (ws (dsm g φ) i + dsm g φ i) + 0
  rw [Int32.add_zero]
  rfl
theorem restartX {w : Wd} {g : Nat → Int32} {n : Nat} {wts lks wm0 : Nat → Int32} {bo ou pu : Int32} (hn : n ≤ 12) (h0 : w.1 13 0 = nI n ∧ w.1 13 1 = bo ∧ w.1 13 2 = ou ∧ w.1 13 3 = pu) (hW : CW w g n n 0) (hi0 : ∀ i, i < n → w.1 59 i = wm0 i ∧ w.1 61 i = lks i ∧ w.1 62 i = wts i) : ∃ W, f_X2_restart w = some W ∧ (∀ y, y ≠ 60 → y ≠ 63 → W.1 y = w.1 y) ∧ W.2 = w.2 ∧ CS W g n wts (fun i => flo pu (wts i) (ws wts n)) lks wm0 wm0 bo ou pu := by
  have L : lp (f_X2_restart_L4 w) FU (0, 0) = some (0 + ws wts n, nI n) := by
    refine lp_add (n := n) (f := wts) (by omega) (fun i s hi1 => ?_) (fun s => ?_) 0
    · unfold f_X2_restart_L4
      simp only
      rw [h0.1, if_neg (nle hi1 (by omega)), gd_in (by omega) (by decide), cl_n (by omega), (hi0 i hi1).2.2]
    · unfold f_X2_restart_L4
      simp only
      rw [h0.1, if_pos (nle' n)]
  rw [z0] at L
  have H : ∃ o, lp (f_X2_restart_L29 (ws wts n)) FU (0, w) = some o ∧ ((∀ y, y ≠ 60 → y ≠ 63 → o.2.1 y = w.1 y) ∧ o.2.2 = w.2 ∧ ∀ j, j < n → o.2.1 60 j = wm0 j ∧ o.2.1 63 j = flo pu (wts j) (ws wts n)) := by
    refine lp_n (fun i z => z.1 = nI i ∧ (∀ y, y ≠ 60 → y ≠ 63 → z.2.1 y = w.1 y) ∧ z.2.2 = w.2 ∧ ∀ j, j < i → z.2.1 60 j = wm0 j ∧ z.2.1 63 j = flo pu (wts j) (ws wts n)) n _ ⟨rfl, fun _ _ _ => rfl, rfl, fun j hj => absurd hj (Nat.not_lt_zero _)⟩ (FU_lt (by omega)) ?_ ?_
    · rintro i ⟨x, W⟩ hi1 ⟨e1, e2, e3, e4⟩
      simp only at e1 e2 e3 e4
      subst e1
      obtain ⟨q1, q2, q3⟩ := hi0 i hi1
      refine Or.inl ⟨(nI (i + 1), si (si W 60 i (wm0 i)) 63 i (flo pu (wts i) (ws wts n))), ?_, rfl, fun y y1 y2 => ?_, e3, fun j hj => ?_⟩
      · unfold f_X2_restart_L29
        simp only
        rw [e2 13 (by decide) (by decide), h0.1, if_neg (nle hi1 (by omega)), gd_in (by omega) (by decide), gd_in (by omega) (by decide), cl_n (by omega), e2 59 (by decide) (by decide), q1]
        simp only [lw_e]
        rw [gd_in (by omega) (by decide), si_n (show (13 : Nat) ≠ 60 by decide), si_n (show (62 : Nat) ≠ 60 by decide), e2 13 (by decide) (by decide), e2 62 (by decide) (by decide), h0.2.2.2, q3, flowOf_e, bd1, gd_in (by omega) (by decide), nI_1]
      · rw [si_n y2, si_n y1, e2 y y1 y2]
      · simp only [si_g]
        by_cases q : j = i
        · subst q; simp
        · simp [q]; exact e4 j (by omega)
    · rintro ⟨x, W⟩ ⟨e1, e2, e3, e4⟩
      simp only at e1 e2 e3 e4
      subst e1
      refine ⟨(nI n, W), ?_, e2, e3, e4⟩
      unfold f_X2_restart_L29
      simp only
      rw [e2 13 (by decide) (by decide), h0.1, if_pos (nle' n)]
  obtain ⟨⟨x, W⟩, h1, e2, e3, e4⟩ := H
  simp only at e2 e3 e4
  refine ⟨W, ?_, e2, e3, ?_, CW_c hW (by rw [e2 13 (by decide) (by decide)]) (e2 66 (by decide) (by decide)) (e2 67 (by decide) (by decide)), fun i hi1 => ?_⟩
  · unfold f_X2_restart
    rw [L, bd1]
    simp only
    rw [h1]
    rfl
  · rw [e2 13 (by decide) (by decide)]; exact h0
  · obtain ⟨q1, q2, q3⟩ := hi0 i hi1
    rw [e2 59 (by decide) (by decide), e2 61 (by decide) (by decide), e2 62 (by decide) (by decide)]
    exact ⟨q1, (e4 i hi1).1, q2, q3, (e4 i hi1).2⟩
theorem beginX {w : Wd} {g : Nat → Int32} {n h : Nat} (hn : n ≤ 12) (c1 : w.1 3 1 = nI n) (c5 : w.1 3 4 = g 1) (c6 : w.1 3 5 = g 2) (c7 : w.1 3 6 = g 3) (b5 : ∀ i, i < n → w.1 (35 + i) 0 = gx g i 0 ∧ w.1 (35 + i) 1 = gx g i 1 ∧ w.1 (35 + i) 2 = nI (pl g i) ∧ (∀ k, 2 ≤ k → k ≤ 10 → w.1 (35 + i) (k + 1) = gx g i k) ∧ FlatOk g h i) (b6 : ∀ r, r < 4 → w.1 19 r = nI (cnt g (nI r) n)) : ∃ W, f_X2_begin w = some W ∧ (∀ y, ¬ Tc y → W.1 y = w.1 y) ∧ W.2 = w.2 ∧ CS W g n (fun i => wt g n i (gx g i 3)) (flw g n (fun j => gx g j 3)) (lkf g) (fun j => gx g j 6) (fun j => gx g j 6) (g 3) (g 1) (g 2) := by
  have hok : ∀ j, j < n → FlatOk g h j := fun j hj => (b5 j hj).2.2.2.2
  have hA : ∃ V : Wd, V = si (si (si (si (si w 13 0 (nI n)) 13 1 (g 3)) 13 2 (g 1)) 13 3 (g 2)) 13 13 0 := ⟨_, rfl⟩
  obtain ⟨V, hV⟩ := hA
  have v13 : V.1 13 0 = nI n ∧ V.1 13 1 = g 3 ∧ V.1 13 2 = g 1 ∧ V.1 13 3 = g 2 ∧ V.1 13 13 = 0 := by
    rw [hV]
    simp [si]
  have vy : ∀ y, y ≠ 13 → V.1 y = w.1 y := fun y hy => by rw [hV, si_n hy, si_n hy, si_n hy, si_n hy, si_n hy]
  have v2 : V.2 = w.2 := by rw [hV]; rfl
  have H : ∃ o, lp f_X2_begin_L39 FU (0, V) = some o ∧ ((∀ y, ¬ (y = 13 ∨ y = 59 ∨ y = 61 ∨ y = 62 ∨ y = 66 ∨ y = 67) → o.2.1 y = w.1 y) ∧ o.2.2 = w.2 ∧ (∀ j, j ≠ 13 → o.2.1 13 j = V.1 13 j) ∧ CW o.2 g n n 0 ∧ ∀ j, j < n → o.2.1 59 j = gx g j 6 ∧ o.2.1 61 j = lkf g j ∧ o.2.1 62 j = wt g n j (gx g j 3)) := by
    refine lp_n (fun i z => z.1 = nI i ∧ (∀ y, ¬ (y = 13 ∨ y = 59 ∨ y = 61 ∨ y = 62 ∨ y = 66 ∨ y = 67) → z.2.1 y = w.1 y) ∧ z.2.2 = w.2 ∧ (∀ j, j ≠ 13 → z.2.1 13 j = V.1 13 j) ∧ CW z.2 g n i 0 ∧ ∀ j, j < i → z.2.1 59 j = gx g j 6 ∧ z.2.1 61 j = lkf g j ∧ z.2.1 62 j = wt g n j (gx g j 3)) n _ ⟨rfl, fun y hy => vy y (by omega), v2, fun _ _ => rfl, ⟨0, Nat.zero_le _, v13.2.2.2.2, fun j hj => absurd hj (Nat.not_lt_zero _), fun φ => rfl⟩, fun j hj => absurd hj (Nat.not_lt_zero _)⟩ (FU_lt (by omega)) ?_ ?_
    · rintro i ⟨x, W⟩ hi1 ⟨e1, e2, e3, e4, e5, e6⟩
      simp only at e1 e2 e3 e4 e5 e6
      subst e1
      obtain ⟨q0, q1, q2, q3, q4⟩ := b5 i hi1
      have eF : ∀ j, j < n → W.1 (35 + j) = w.1 (35 + j) := fun j hj => e2 _ (by omega)
      have fl : ∀ X : Wd, (∀ j, j < n → X.1 (35 + j) = w.1 (35 + j)) → f_X4_leaks (35 + i) (X.1 (35 + i) 3) X = some (lkf g i) := fun X hX => by
        rw [leaksX (kind := gx g i 0) (win := gx g i 5) (by rw [hX i hi1]; exact q0) (by rw [hX i hi1]; exact q3 5 (by decide) (by decide)) q4.2.2.2.2.2.1, hX i hi1, q3 2 (by decide) (by decide)]
        rfl
      have fw : ∀ X : Wd, (∀ j, j < n → X.1 (35 + j) = w.1 (35 + j)) → X.1 19 = w.1 19 → f_X0_weight (nI i) (X.1 (35 + i) 4) X = some (wt g n i (gx g i 3)) := fun X hX h9 => by
        have := wtX (w := X) (g := g) (h := h) (o := X.1 (35 + i) 4) hn hi1 (by rw [hX i hi1]; exact q0) (by rw [hX i hi1]; exact q1) (by rw [hX i hi1]; exact q2) q4 (fun r hr => by rw [h9]; exact b6 r hr)
        rw [this, hX i hi1, q3 3 (by decide) (by decide)]
      have cw0 : CW (si (si (si W 59 i (gx g i 6)) 61 i (lkf g i)) 62 i (wt g n i (gx g i 3))) g n i 0 := CW_c e5 (by rw [si_n (by decide), si_n (by decide), si_n (by decide)]) (by rw [si_n (by decide), si_n (by decide), si_n (by decide)]) (by rw [si_n (by decide), si_n (by decide), si_n (by decide)])
      obtain ⟨zz, U, u1, u2, u3, u4, u5⟩ := l96 (w := si (si (si W 59 i (gx g i 6)) 61 i (lkf g i)) 62 i (wt g n i (gx g i 3))) hn hi1 (fun j hj => by rw [si_n (by omega), si_n (by omega), si_n (by omega), eF j hj]; exact ⟨(b5 j hj).2.1, (b5 j hj).2.2.1⟩) hok cw0
      refine Or.inl ⟨(nI (i + 1), U), ?_, rfl, fun y hy => ?_, u4.trans e3, fun j hj => ?_, CW_s hi1 hok u5, fun j hj => ?_⟩
      · unfold f_X2_begin_L39
        simp only
        rw [e4 0 (by decide), v13.1, if_neg (nle hi1 (by omega)), gd_in (by omega) (by decide), gd_in (by omega) (by decide), cl_n (by omega), eF i hi1, q3 6 (by decide) (by decide)]
        simp only [lw_e]
        rw [fl _ (fun j hj => by rw [si_n (by omega)]; exact eF j hj), bd1, gd_in (by omega) (by decide)]
        rw [fw _ (fun j hj => by rw [si_n (by omega), si_n (by omega)]; exact eF j hj) (by rw [si_n (by decide), si_n (by decide), e2 19 (by omega)]), bd1, gd_in (by omega) (by decide), u1, bd1, nI_1]
      · rw [u2 y (by omega) (by omega) (by omega), si_n (by omega), si_n (by omega), si_n (by omega), e2 y hy]
      · rw [u3 j hj, si_n (by decide), si_n (by decide), si_n (by decide), e4 j hj]
      · rw [u2 59 (by decide) (by decide) (by decide), u2 61 (by decide) (by decide) (by decide), u2 62 (by decide) (by decide) (by decide)]
        simp only [si_g]
        by_cases q : j = i
        · subst q; simp
        · simp [q]; exact e6 j (by omega)
    · rintro ⟨x, W⟩ ⟨e1, e2, e3, e4, e5, e6⟩
      simp only at e1 e2 e3 e4 e5 e6
      subst e1
      refine ⟨(nI n, W), ?_, e2, e3, e4, e5, e6⟩
      unfold f_X2_begin_L39
      simp only
      rw [e4 0 (by decide), v13.1, if_pos (nle' n)]
  obtain ⟨⟨x, W⟩, h1, e2, e3, e4, e5, e6⟩ := H
  simp only at e2 e3 e4 e5 e6
  obtain ⟨X, x1, x2, x3, x4⟩ := restartX (w := W) (wts := fun i => wt g n i (gx g i 3)) (lks := lkf g) (wm0 := fun j => gx g j 6) (bo := g 3) (ou := g 1) (pu := g 2) hn ⟨(e4 0 (by decide)).trans v13.1, (e4 1 (by decide)).trans v13.2.1, (e4 2 (by decide)).trans v13.2.2.1, (e4 3 (by decide)).trans v13.2.2.2.1⟩ e5 (fun i hi1 => e6 i hi1)
  refine ⟨X, ?_, fun y hy => ?_, x3.trans e3, x4⟩
  · unfold f_X2_begin
    simp only [lw_e]
    have s1 : ∀ X : Wd, ∀ v, (si X 13 0 v).1 3 = X.1 3 := fun X v => si_n (by decide)
    have s2 : ∀ X : Wd, ∀ v, (si X 13 1 v).1 3 = X.1 3 := fun X v => si_n (by decide)
    have s3 : ∀ X : Wd, ∀ v, (si X 13 2 v).1 3 = X.1 3 := fun X v => si_n (by decide)
    simp only [s1, s2, s3]
    rw [c1, c5, c6, c7, ← hV, h1, bd1]
    simp only
    rw [x1]
    rfl
  · unfold Tc at hy
    rw [x2 y (by omega) (by omega), e2 y (by omega)]
theorem div_neg {a b : Int32} (ha : rng a (-1000000) 1000000) (hb : rng b (-1000000) 1000000) : 0 - (a - b) / 20 = (b - a) / 20 := by
  unfold rng at ha hb
  have e1 : (a - b).toInt = a.toInt - b.toInt := i_sub (by omega) (by omega)
  have e2 : (b - a).toInt = b.toInt - a.toInt := i_sub (by omega) (by omega)
  have e20 : (20 : Int32).toInt = 20 := by decide
  have d1 : ((a - b) / 20).toInt = (a.toInt - b.toInt).tdiv 20 := by rw [i_div (by rw [e20]; decide), e1, e20]
  have d2 : ((b - a) / 20).toInt = (b.toInt - a.toInt).tdiv 20 := by rw [i_div (by rw [e20]; decide), e2, e20]
  have l := Int.natAbs_tdiv_le_natAbs (a.toInt - b.toInt) 20
  have z : (0 : Int32).toInt = 0 := by decide
  rw [i_eq, i_sub (by rw [d1, z]; omega) (by rw [d1, z]; omega), d1, d2, z, show b.toInt - a.toInt = -(a.toInt - b.toInt) by omega, Int.neg_tdiv]
  omega
def phi (wm : Nat → Int32) (f a b : Nat) : Int32 := (if a = f then (wm b - wm a) / 20 else 0) - (if b = f then (wm b - wm a) / 20 else 0)
theorem dsum {g : Nat → Int32} {n f : Nat} {wm : Nat → Int32} (hf : f < n) (hb : ∀ i, i < n → rng (wm i) (-1000000) 1000000) : ws (dsm g (phi wm f)) n = hth (adj g) n wm f := by
  have K : ∀ i, i ≤ n → ws (dsm g (phi wm f)) i = if i ≤ f then 0 else ws (fun k => if adj g f k = true then (wm k - wm f) / 20 else 0) i := by
    intro i
    induction i with
    | zero => intro _; rw [if_pos (Nat.zero_le f)]; rfl
    | succ i ih =>
      intro hi1
      show ws (dsm g (phi wm f)) i + dsm g (phi wm f) i = _
      rw [ih (by omega)]
      unfold dsm
      rcases Nat.lt_trichotomy i f with q | q | q
      · rw [if_pos (by omega), if_pos (by omega), ws_0 fun k hk => ?_]
        · rfl
        · unfold phi
          rw [if_neg (show ¬ k = f by omega), if_neg (show ¬ i = f by omega)]
          by_cases z : adj g k i = true
          · rw [if_pos z]; rfl
          · rw [if_neg z]
      · subst q
        rw [if_pos (Nat.le_refl i), if_neg (by omega)]
        show _ = ws _ i + (if adj g i i = true then _ else 0)
        rw [adj_ii, if_neg (by decide), Int32.add_zero, Int32.zero_add]
        apply ws_c
        intro k hk
        unfold phi
        rw [adj_sym, if_neg (show ¬ k = i by omega), if_pos rfl, div_neg (hb i (by omega)) (hb k (by omega))]
      · rw [if_neg (by omega), if_neg (by omega)]
        have e := ws_one (f := fun k => if adj g k i = true then phi wm f k i else 0) q fun k hk ne => by
          unfold phi
          rw [if_neg ne, if_neg (show ¬ i = f by omega)]
          by_cases z : adj g k i = true
          · rw [if_pos z]; rfl
          · rw [if_neg z]
        rw [e]
        show _ = ws _ i + (if adj g f i = true then (wm i - wm f) / 20 else 0)
        unfold phi
        rw [if_pos rfl, if_neg (show ¬ i = f by omega), Int32.sub_zero]
  rw [K n (Nat.le_refl n), if_neg (by omega)]
  rfl
theorem hourX {w : Wd} {g : Nat → Int32} {n : Nat} {wts fl lks wm0 wm : Nat → Int32} {bo ou pu : Int32} (hn : n ≤ 12) (hC : CS w g n wts fl lks wm0 wm bo ou pu) (hb : ∀ i, i < n → rng (wm i) (-1000000) 1000000) : ∃ W, f_X2_goHour w = some W ∧ (∀ y, y ≠ 60 → y ≠ 64 → y ≠ 65 → W.1 y = w.1 y) ∧ W.2 = w.2 ∧ CS W g n wts fl lks wm0 (hst (adj g) n fl lks bo ou wm) bo ou pu ∧ ∀ i, i < n → W.1 64 i = hin fl bo wm i ∧ W.1 65 i = hth (adj g) n wm i := by
  obtain ⟨h0, ⟨m, m1, m2, m3, m4⟩, hI⟩ := hC
  have H1 : ∃ o, lp f_X2_goHour_L2 FU (0, w) = some o ∧ ((∀ y, y ≠ 64 → y ≠ 65 → o.2.1 y = w.1 y) ∧ o.2.2 = w.2 ∧ ∀ j, j < n → o.2.1 64 j = hin fl bo wm j ∧ o.2.1 65 j = 0) := by
    refine lp_n (fun i z => z.1 = nI i ∧ (∀ y, y ≠ 64 → y ≠ 65 → z.2.1 y = w.1 y) ∧ z.2.2 = w.2 ∧ ∀ j, j < i → z.2.1 64 j = hin fl bo wm j ∧ z.2.1 65 j = 0) n _ ⟨rfl, fun _ _ _ => rfl, rfl, fun j hj => absurd hj (Nat.not_lt_zero _)⟩ (FU_lt (by omega)) ?_ ?_
    · rintro i ⟨x, W⟩ hi1 ⟨e1, e2, e3, e4⟩
      simp only at e1 e2 e3 e4
      subst e1
      obtain ⟨q1, q2, q3, q4, q5⟩ := hI i hi1
      refine Or.inl ⟨(nI (i + 1), si (si W 64 i (hin fl bo wm i)) 65 i 0), ?_, rfl, fun y y1 y2 => ?_, e3, fun j hj => ?_⟩
      · unfold f_X2_goHour_L2
        simp only
        rw [e2 13 (by decide) (by decide), e2 63 (by decide) (by decide), e2 60 (by decide) (by decide), h0.1, h0.2.1, if_neg (nle hi1 (by omega)), gd_in (by omega) (by decide), gd_in (by omega) (by decide), gd_in (by omega) (by decide)]
        simp only [lw_e]
        rw [gd_in (by omega) (by decide), cl_n (by omega), q5, q2, nI_1]
        rfl
      · rw [si_n y2, si_n y1, e2 y y1 y2]
      · simp only [si_g]
        by_cases q : j = i
        · subst q; simp
        · simp [q]; exact e4 j (by omega)
    · rintro ⟨x, W⟩ ⟨e1, e2, e3, e4⟩
      simp only at e1 e2 e3 e4
      subst e1
      refine ⟨(nI n, W), ?_, e2, e3, e4⟩
      unfold f_X2_goHour_L2
      simp only
      rw [e2 13 (by decide) (by decide), h0.1, if_pos (nle' n)]
  obtain ⟨⟨x1, W1⟩, p1, p2, p3, p4⟩ := H1
  simp only at p2 p3 p4
  have H2 : ∃ o, lp f_X2_goHour_L57 FU (0, W1) = some o ∧ ((∀ y, y ≠ 65 → o.2.1 y = W1.1 y) ∧ o.2.2 = w.2 ∧ ∀ f, f < n → o.2.1 65 f = ws (fun j => phi wm f (w.1 66 j).toNatClampNeg (w.1 67 j).toNatClampNeg) m) := by
    refine lp_n (fun t z => z.1 = nI t ∧ (∀ y, y ≠ 65 → z.2.1 y = W1.1 y) ∧ z.2.2 = w.2 ∧ ∀ f, f < n → z.2.1 65 f = ws (fun j => phi wm f (w.1 66 j).toNatClampNeg (w.1 67 j).toNatClampNeg) t) m _ ⟨rfl, fun _ _ => rfl, p3, fun f hf => (p4 f hf).2⟩ (FU_lt (by have : cb (fun k => adj g k n) 0 = 0 := rfl; omega)) ?_ ?_
    · rintro t ⟨x, W⟩ ht ⟨e1, e2, e3, e4⟩
      simp only at e1 e2 e3 e4
      subst e1
      have m48 : m ≤ 36 := by have : cb (fun k => adj g k n) 0 = 0 := rfl; omega
      obtain ⟨a, b, hab, hbn, ea, eb⟩ := m3 t ht
      have w66 : W.1 66 t = nI a := by rw [e2 66 (by decide), p2 66 (by decide) (by decide)]; exact ea
      have w67 : W.1 67 t = nI b := by rw [e2 67 (by decide), p2 67 (by decide) (by decide)]; exact eb
      have w60 : ∀ i, i < n → W.1 60 i = wm i := fun i hi1 => by rw [e2 60 (by decide), p2 60 (by decide) (by decide)]; exact (hI i hi1).2.1
      refine Or.inl ⟨(nI (t + 1), si (si W 65 a (W.1 65 a + (wm b - wm a) / 20)) 65 b (W.1 65 b - (wm b - wm a) / 20)), ?_, rfl, fun y y1 => ?_, e3, fun f hf => ?_⟩
      · unfold f_X2_goHour_L57
        simp only
        rw [e2 13 (by decide), p2 13 (by decide) (by decide), m2, if_neg (nle ht (by omega)), gd_in (by omega) (by decide), gd_in (by omega) (by decide), cl_n (by omega), w66, w67, gd_in (by omega) (by decide), gd_in (by omega) (by decide), gd_in (by omega) (by decide), gd_in (by omega) (by decide), cl_n (by omega), cl_n (by omega), w60 a (by omega), w60 b (by omega)]
        simp only [lw_e]
        rw [gd_in (by omega) (by decide), gd_in (by omega) (by decide), si_o (show b ≠ a by omega), nI_1]
      · rw [si_n y1, si_n y1, e2 y y1]
      · show _ = ws _ t + phi wm f (w.1 66 t).toNatClampNeg (w.1 67 t).toNatClampNeg
        rw [ea, eb, cl_n (by omega), cl_n (by omega), ← e4 f hf]
        simp only [si_g, true_and]
        unfold phi
        by_cases q1 : f = b
        · subst q1
          rw [if_pos rfl, if_neg (show ¬ a = f by omega), if_pos rfl]
          grind
        · rw [if_neg q1]
          by_cases q2 : f = a
          · subst q2
            rw [if_pos rfl, if_pos rfl, if_neg (show ¬ b = f by omega)]
            grind
          · rw [if_neg q2, if_neg (show ¬ a = f by omega), if_neg (show ¬ b = f by omega)]
            grind
    · rintro ⟨x, W⟩ ⟨e1, e2, e3, e4⟩
      simp only at e1 e2 e3 e4
      subst e1
      refine ⟨(nI m, W), ?_, e2, e3, e4⟩
      unfold f_X2_goHour_L57
      simp only
      rw [e2 13 (by decide), p2 13 (by decide) (by decide), m2, if_pos (nle' m)]
  obtain ⟨⟨x2, W2⟩, r1, r2, r3, r4⟩ := H2
  simp only at r2 r3 r4
  have h65 : ∀ f, f < n → W2.1 65 f = hth (adj g) n wm f := fun f hf => by
    rw [r4 f hf, m4 (phi wm f), dsum hf hb]
    exact Int32.add_zero _
  obtain ⟨V, g1, g2, g3, g5⟩ := lp_fill (step := f_X2_goHour_L127) (w := W2) (a := 60) (n := n) (v := fun i => hst (adj g) n fl lks bo ou wm i) (by omega) (fun i V hi1 f1 f2 f3 => by
    obtain ⟨q1, q2, q3, q4, q5⟩ := hI i hi1
    have y13 : V.1 13 = w.1 13 := by rw [f1 13 (by decide), r2 13 (by decide), p2 13 (by decide) (by decide)]
    have y60 : V.1 60 i = wm i := by rw [f3 i (Nat.le_refl i), r2 60 (by decide), p2 60 (by decide) (by decide)]; exact q2
    have y61 : V.1 61 i = lks i := by rw [f1 61 (by decide), r2 61 (by decide), p2 61 (by decide) (by decide)]; exact q3
    have y64 : V.1 64 i = hin fl bo wm i := by rw [f1 64 (by decide), r2 64 (by decide)]; exact (p4 i hi1).1
    have y65 : V.1 65 i = hth (adj g) n wm i := by rw [f1 65 (by decide)]; exact h65 i hi1
    unfold f_X2_goHour_L127
    simp only
    rw [y13, h0.1, if_neg (nle hi1 (by omega)), gd_in (by omega) (by decide), gd_in (by omega) (by decide), gd_in (by omega) (by decide), gd_in (by omega) (by decide), gd_in (by omega) (by decide), gd_in (by omega) (by decide), cl_n (by omega), y60, y61, y64, y65, h0.2.2.1]
    rfl) (fun V f1 f2 => by
    unfold f_X2_goHour_L127
    simp only
    rw [f1 13 (by decide), r2 13 (by decide), p2 13 (by decide) (by decide), h0.1, if_pos (nle' n)])
  have fy : ∀ y, y ≠ 60 → y ≠ 64 → y ≠ 65 → V.1 y = w.1 y := fun y y1 y2 y3 => by rw [g2 y y1, r2 y y3, p2 y y2 y3]
  refine ⟨V, ?_, fy, g3.trans r3, ⟨?_, CW_c ⟨m, m1, m2, m3, m4⟩ (by rw [fy 13 (by decide) (by decide) (by decide)]) (fy 66 (by decide) (by decide) (by decide)) (fy 67 (by decide) (by decide) (by decide)), fun i hi1 => ?_⟩, fun i hi1 => ⟨?_, ?_⟩⟩
  · unfold f_X2_goHour
    rw [p1, bd1]
    simp only
    rw [r1, bd1]
    simp only
    rw [g1]
    rfl
  · rw [fy 13 (by decide) (by decide) (by decide)]; exact h0
  · obtain ⟨q1, q2, q3, q4, q5⟩ := hI i hi1
    rw [fy 59 (by decide) (by decide) (by decide), fy 61 (by decide) (by decide) (by decide), fy 62 (by decide) (by decide) (by decide), fy 63 (by decide) (by decide) (by decide), g5, if_pos hi1]
    exact ⟨q1, rfl, q3, q4, q5⟩
  · rw [g2 64 (by decide), r2 64 (by decide)]; exact (p4 i hi1).1
  · rw [g2 65 (by decide)]; exact h65 i hi1

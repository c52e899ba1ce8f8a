/-! the reference's hours -/
theorem lp_fill {step : Int32 × Wd → Option ((Int32 × Wd) ⊕ (Int32 × Wd))} {w : Wd} {a n : Nat} {v : Nat → Int32} (hn : n ≤ 300000) (hs : ∀ i W, i < n → (∀ y, y ≠ a → W.1 y = w.1 y) → W.2 = w.2 → (∀ j, i ≤ j → W.1 a j = w.1 a j) → step (nI i, W) = some (.inl (nI i + 1, si W a i (v i)))) (hx : ∀ W, (∀ y, y ≠ a → W.1 y = w.1 y) → W.2 = w.2 → step (nI n, W) = some (.inr (nI n, W))) : ∃ W, lp step FU (0, w) = some (nI n, W) ∧ (∀ y, y ≠ a → W.1 y = w.1 y) ∧ W.2 = w.2 ∧ ∀ j, W.1 a j = if j < n then v j else w.1 a j := by
  have H : ∃ o, lp step FU (0, w) = some o ∧ (o.1 = nI n ∧ (∀ y, y ≠ a → o.2.1 y = w.1 y) ∧ o.2.2 = w.2 ∧ ∀ j, o.2.1 a j = if j < n then v j else w.1 a j) := by
    refine lp_n (fun i z => z.1 = nI i ∧ (∀ y, y ≠ a → z.2.1 y = w.1 y) ∧ z.2.2 = w.2 ∧ ∀ j, z.2.1 a j = if j < i then v j else w.1 a j) n _ ⟨rfl, fun _ _ => rfl, rfl, fun j => rfl⟩ (FU_lt hn) ?_ ?_
    · rintro i ⟨x, W⟩ hi0 ⟨e1, e2, e3, e4⟩
      simp only at e1 e2 e3 e4
      subst e1
      refine Or.inl ⟨(nI (i + 1), si W a i (v i)), ?_, rfl, fun y hy => ?_, e3, fun j => ?_⟩
      · rw [hs i W hi0 e2 e3 fun j hj => by rw [e4, if_neg (by omega)], nI_1]
      · rw [si_n hy, e2 y hy]
      · rw [si_g, e4]
        by_cases q : j = i
        · rw [if_pos ⟨rfl, q⟩, if_pos (by omega), q]
        · rw [if_neg (fun z => q z.2)]
          by_cases q2 : j < i
          · rw [if_pos q2, if_pos (by omega)]
          · rw [if_neg q2, if_neg (by omega)]
    · rintro ⟨x, W⟩ ⟨e1, e2, e3, e4⟩
      simp only at e1 e2 e3 e4
      subst e1
      exact ⟨(nI n, W), hx W e2 e3, rfl, e2, e3, e4⟩
  obtain ⟨⟨x, W⟩, h1, e1, e2, e3, e4⟩ := H
  simp only at e1
  subst e1
  exact ⟨W, h1, e2, e3, e4⟩
theorem warmM {w : Wd} {n : Nat} (hn : n ≤ 12) (h4 : w.1 77 4 = nI n) : ∃ W, f_X11_startsWarm w = some W ∧ (∀ y, y ≠ 88 → W.1 y = w.1 y) ∧ W.2 = w.2 ∧ ∀ j, W.1 88 j = if j < n then gx (w.1 77) j 6 else w.1 88 j := by
  obtain ⟨W, h1, h2, h3, h5⟩ := lp_fill (step := f_X11_startsWarm_L2) (w := w) (a := 88) (n := n) (v := fun j => gx (w.1 77) j 6) (by omega) (fun i W hi0 e1 e2 e3 => by
    unfold f_X11_startsWarm_L2
    simp only
    rw [e1 77 (by decide), h4, if_neg (nle hi0 (by omega)), get_6 (by omega), bd1, gd_in (by omega) (by decide), cl_n (by omega), e1 77 (by decide)]
    rfl) (fun W e1 e2 => by
    unfold f_X11_startsWarm_L2
    simp only
    rw [e1 77 (by decide), h4, if_pos (nle' n)])
  refine ⟨W, ?_, h2, h3, h5⟩
  unfold f_X11_startsWarm
  rw [h1]
  rfl
theorem weightM {w : Wd} {n i : Nat} {op : Nat → Int32} (hn : n ≤ 12) (hi0 : i < n) (h84 : w.1 84 i = nI (hi (w.1 77) n i)) (h85 : w.1 85 i = op i) : f_X11_weight (nI i) w = some (wt (w.1 77) n i (op i)) := by
  unfold f_X11_weight wt
  rw [gd_in (by omega) (by decide), cl_n (by omega), takesM (by omega), bd1, gd_in (by omega) (by decide), h84, h85]
  generalize 10 * tk (gx (w.1 77) i 0) (op i) - 2 * nI (hi (w.1 77) n i) = v
  by_cases q : 0 < v
  · rw [if_pos q, if_pos (by rw [i_le]; rw [i_lt] at q; omega)]
  · rw [if_neg q]
    by_cases q2 : 0 ≤ v
    · rw [if_pos q2]
      congr 1
      rw [i_eq]
      rw [i_le] at q2
      rw [i_lt] at q
      omega
    · rw [if_neg q2]
theorem flowsM {w : Wd} {n : Nat} {op : Nat → Int32} (hn : n ≤ 12) (h4 : w.1 77 4 = nI n) (h84 : ∀ i, i < n → w.1 84 i = nI (hi (w.1 77) n i)) (h85 : ∀ i, i < n → w.1 85 i = op i) : ∃ W, f_X11_findFlows w = some W ∧ (∀ y, y ≠ 86 → W.1 y = w.1 y) ∧ W.2 = w.2 ∧ ∀ i, i < n → W.1 86 i = flw (w.1 77) n op i := by
  have H : ∃ o, lp f_X11_findFlows_L4 FU (0, 0, w) = some o ∧ (o.1 = ws (fun j => wt (w.1 77) n j (op j)) n ∧ (∀ y, y ≠ 86 → o.2.2.1 y = w.1 y) ∧ o.2.2.2 = w.2 ∧ ∀ j, j < n → o.2.2.1 86 j = wt (w.1 77) n j (op j)) := by
    refine lp_n (fun i z => z.1 = ws (fun j => wt (w.1 77) n j (op j)) i ∧ z.2.1 = nI i ∧ (∀ y, y ≠ 86 → z.2.2.1 y = w.1 y) ∧ z.2.2.2 = w.2 ∧ ∀ j, j < i → z.2.2.1 86 j = wt (w.1 77) n j (op j)) n _ ⟨rfl, rfl, fun _ _ => rfl, rfl, fun j hj => absurd hj (Nat.not_lt_zero _)⟩ (FU_lt (by omega)) ?_ ?_
    · rintro i ⟨s, x, W⟩ hi0 ⟨e0, e1, e2, e3, e4⟩
      simp only at e0 e1 e2 e3 e4
      subst e0 e1
      refine Or.inl ⟨(ws (fun j => wt (w.1 77) n j (op j)) (i + 1), nI (i + 1), si W 86 i (wt (w.1 77) n i (op i))), ?_, rfl, rfl, fun y hy => ?_, e3, fun j hj => ?_⟩
      · unfold f_X11_findFlows_L4
        simp only
        have hw : f_X11_weight (nI i) W = some (wt (W.1 77) n i (op i)) := weightM hn hi0 (by rw [e2 84 (by decide), e2 77 (by decide)]; exact h84 i hi0) (by rw [e2 85 (by decide)]; exact h85 i hi0)
        rw [e2 77 (by decide)] at hw
        rw [e2 77 (by decide), h4, if_neg (nle hi0 (by omega)), hw, bd1, gd_in (by omega) (by decide), cl_n (by omega)]
        simp only [lw_e]
        rw [gd_in (by omega) (by decide), si_s, nI_1]
        rfl
      · rw [si_n hy, e2 y hy]
      · rw [si_g]
        by_cases q : j = i
        · rw [if_pos ⟨rfl, q⟩, q]
        · rw [if_neg (fun z => q z.2)]
          exact e4 j (by omega)
    · rintro ⟨s, x, W⟩ ⟨e0, e1, e2, e3, e4⟩
      simp only at e0 e1 e2 e3 e4
      subst e0 e1
      refine ⟨(_, nI n, W), ?_, rfl, e2, e3, e4⟩
      unfold f_X11_findFlows_L4
      simp only
      rw [e2 77 (by decide), h4, if_pos (nle' n)]
  obtain ⟨⟨s, x, W⟩, h1, e1, e2, e3, e4⟩ := H
  simp only at e1 e2 e3 e4
  subst e1
  obtain ⟨V, g1, g2, g3, g5⟩ := lp_fill (step := f_X11_findFlows_L42 (ws (fun j => wt (w.1 77) n j (op j)) n)) (w := W) (a := 86) (n := n) (v := fun j => flo (w.1 77 2) (W.1 86 j) (ws (fun j => wt (w.1 77) n j (op j)) n)) (by omega) (fun i V hi0 f1 f2 f3 => by
    unfold f_X11_findFlows_L42 flo
    simp only
    rw [f1 77 (by decide), e2 77 (by decide), h4, if_neg (nle hi0 (by omega)), cl_n (by omega), f3 i (Nat.le_refl i)]
    by_cases q : ws (fun j => wt (w.1 77) n j (op j)) n = 0
    · rw [if_pos q, if_pos q, gd_in (by omega) (by decide)]; rfl
    · rw [if_neg q, if_neg q, gd_in (by omega) (by decide), gd_nz q, gd_in (by omega) (by decide)]; rfl) (fun V f1 f2 => by
    unfold f_X11_findFlows_L42
    simp only
    rw [f1 77 (by decide), e2 77 (by decide), h4, if_pos (nle' n)])
  refine ⟨V, ?_, fun y hy => (g2 y hy).trans (e2 y hy), g3.trans e3, fun i hi0 => ?_⟩
  · unfold f_X11_findFlows
    rw [h1, bd1]
    simp only
    rw [g1]
    rfl
  · rw [g5, if_pos hi0, e4 i hi0]
    rfl
/-- the reference ready to go: n flats, flows, leaks, warmth; its row is g -/
def MS (w : Wd) (g : Nat → Int32) (n : Nat) (fl lks wm : Nat → Int32) : Prop := w.1 77 = g ∧ ∀ i, i < n → (w.1 80 i = nbA g n i ∧ w.1 81 i = nbB g n i ∧ w.1 82 i = nbC g n i ∧ w.1 83 i = nbD g n i) ∧ w.1 86 i = fl i ∧ w.1 87 i = lks i ∧ w.1 88 i = wm i
def Sc (y : Nat) : Prop := 80 ≤ y ∧ y ≤ 91
theorem asideM {w : Wd} {n : Nat} (hn : n ≤ 12) (h4 : w.1 77 4 = nI n) : ∃ W, f_X11_setsAside w = some W ∧ (∀ y, ¬ Sc y → W.1 y = w.1 y) ∧ W.2 = w.2 ∧ MS W (w.1 77) n (flw (w.1 77) n (fun j => gx (w.1 77) j 3)) (lkf (w.1 77)) (fun j => gx (w.1 77) j 6) ∧ ∀ i, i < n → W.1 84 i = nI (hi (w.1 77) n i) ∧ W.1 85 i = gx (w.1 77) i 3 := by
  obtain ⟨z, W1, p1, p2, p3, p4⟩ := l2aside hn h4
  have a77 : W1.1 77 = w.1 77 := p3 77 (by omega)
  obtain ⟨W2, q1, q2, q3, q4⟩ := warmM (w := W1) hn (by rw [a77]; exact h4)
  have b77 : W2.1 77 = w.1 77 := (q2 77 (by decide)).trans a77
  obtain ⟨W3, r1, r2, r3, r4⟩ := flowsM (w := W2) (op := fun j => gx (w.1 77) j 3) hn (by rw [b77]; exact h4) (fun i hi0 => by rw [q2 84 (by decide), b77]; exact (p4 i hi0).2.2.2.2.1) (fun i hi0 => by rw [q2 85 (by decide)]; exact (p4 i hi0).2.2.2.2.2.1)
  refine ⟨W3, ?_, fun y hy => ?_, r3.trans (q3.trans p2), ⟨(r2 77 (by decide)).trans b77, fun i hi0 => ⟨?_, ?_, ?_, ?_⟩⟩, fun i hi0 => ?_⟩
  · unfold f_X11_setsAside
    rw [p1, bd1]
    simp only
    rw [q1, bd1, r1]
    rfl
  · unfold Sc at hy
    rw [r2 y (by omega), q2 y (by omega), p3 y (by omega)]
  · obtain ⟨x1, x2, x3, x4, -⟩ := p4 i hi0
    rw [r2 80 (by decide), q2 80 (by decide), r2 81 (by decide), q2 81 (by decide), r2 82 (by decide), q2 82 (by decide), r2 83 (by decide), q2 83 (by decide)]
    exact ⟨x1, x2, x3, x4⟩
  · rw [r4 i hi0, b77]
  · rw [r2 87 (by decide), q2 87 (by decide)]
    exact (p4 i hi0).2.2.2.2.2.2
  · rw [r2 88 (by decide), q4, if_pos hi0, a77]
  · rw [r2 84 (by decide), q2 84 (by decide), r2 85 (by decide), q2 85 (by decide)]
    exact ⟨(p4 i hi0).2.2.2.2.1, (p4 i hi0).2.2.2.2.2.1⟩
theorem nb_lt {g : Nat → Int32} {n : Nat} {r p : Int32} (hn : n ≤ 12) : nb g n r p = -1 ∨ ∃ o, o < n ∧ nb g n r p = nI o := by
  unfold nb
  cases e : ff (fP g r p) n with
  | none => exact Or.inl rfl
  | some o => exact Or.inr ⟨o, (ff_some (Q := fun m => gx g m 1 = r ∧ nI (cnt g r m) = p) e).1, rfl⟩
theorem fromM {w : Wd} {n i : Nat} {o : Int32} {wm : Nat → Int32} (hn : n ≤ 12) (hi0 : i < n) (ho : o = -1 ∨ ∃ k, k < n ∧ o = nI k) (hw : ∀ k, k < n → w.1 88 k = wm k) : f_X11_from (nI i) o w = some (xo (fun k => (wm k - wm i) / 20) o) := by
  unfold f_X11_from xo
  rcases ho with rfl | ⟨k, hk, rfl⟩
  · rw [if_neg (by decide), if_neg (by decide)]
  · rw [if_pos (nI_pos' (by omega)), if_pos (nI_pos' (by omega)), gd_in (by omega) (by decide), gd_in (by omega) (by decide), cl_n (by omega), cl_n (by omega), hw k hk, hw i hi0]
theorem nbB_lt {g : Nat → Int32} {n i : Nat} (hn : n ≤ 12) : nbB g n i = -1 ∨ ∃ o, o < n ∧ nbB g n i = nI o := by
  unfold nbB
  by_cases q : nI (pl g i) = 0
  · rw [if_pos q]; exact Or.inl rfl
  · rw [if_neg q]; exact nb_lt hn
theorem goesM {w : Wd} {g : Nat → Int32} {n h : Nat} {fl lks wm : Nat → Int32} {bo : Int32} (hn : n ≤ 12) (h4 : g 4 = nI n) (hM : MS w g n fl lks wm) (hok : ∀ i, i < n → FlatOk g h i) : ∃ W, f_X11_goes bo w = some (ws (hin fl bo wm) n, W) ∧ (∀ y, y < 88 ∨ 91 < y → W.1 y = w.1 y) ∧ W.2 = w.2 ∧ MS W g n fl lks (hst (adj g) n fl lks bo (g 1) wm) ∧ ∀ i, i < n → W.1 90 i = hin fl bo wm i ∧ W.1 91 i = hth (adj g) n wm i := by
  obtain ⟨m1, m2⟩ := hM
  have H : ∃ o, lp (f_X11_goes_L4 bo) FU (0, 0, w) = some o ∧ (o.1 = ws (hin fl bo wm) n ∧ (∀ y, y ≠ 89 → y ≠ 90 → y ≠ 91 → o.2.2.1 y = w.1 y) ∧ o.2.2.2 = w.2 ∧ ∀ j, j < n → o.2.2.1 89 j = hst (adj g) n fl lks bo (g 1) wm j ∧ o.2.2.1 90 j = hin fl bo wm j ∧ o.2.2.1 91 j = hth (adj g) n wm j) := by
    refine lp_n (fun i z => z.1 = ws (hin fl bo wm) i ∧ z.2.1 = nI i ∧ (∀ y, y ≠ 89 → y ≠ 90 → y ≠ 91 → z.2.2.1 y = w.1 y) ∧ z.2.2.2 = w.2 ∧ ∀ j, j < i → z.2.2.1 89 j = hst (adj g) n fl lks bo (g 1) wm j ∧ z.2.2.1 90 j = hin fl bo wm j ∧ z.2.2.1 91 j = hth (adj g) n wm j) n _ ⟨rfl, rfl, fun _ _ _ _ => rfl, rfl, fun j hj => absurd hj (Nat.not_lt_zero _)⟩ (FU_lt (by omega)) ?_ ?_
    · rintro i ⟨s, x, W⟩ hi0 ⟨e0, e1, e2, e3, e4⟩
      simp only at e0 e1 e2 e3 e4
      subst e0 e1
      obtain ⟨⟨x1, x2, x3, x4⟩, x5, x6, x7⟩ := m2 i hi0
      have w77 : W.1 77 = g := (e2 77 (by decide) (by decide) (by decide)).trans m1
      have w88 : ∀ k, k < n → W.1 88 k = wm k := fun k hk => by rw [e2 88 (by decide) (by decide) (by decide)]; exact (m2 k hk).2.2.2
      have J : ∀ v, v = hin fl bo wm i → f_X11_goes_J51 bo (ws (hin fl bo wm) i) (nI i) (nI i) v W = some (.inl (ws (hin fl bo wm) (i + 1), nI (i + 1), si (si (si W 90 i v) 91 i (hth (adj g) n wm i)) 89 i (hst (adj g) n fl lks bo (g 1) wm i))) := by
        intro v hv
        unfold f_X11_goes_J51
        rw [gd_in (by omega) (by decide), cl_n (by omega)]
        simp only [lw_e]
        have k88 : ∀ k, k < n → (si W 90 i v).1 88 k = wm k := fun k hk => by rw [si_n (by decide)]; exact w88 k hk
        rw [gd_in (by omega) (by decide), fromM hn hi0 (by rw [si_n (by decide), e2 80 (by decide) (by decide) (by decide), x1]; exact nb_lt hn) k88, bd1]
        rw [gd_in (by omega) (by decide), fromM hn hi0 (by rw [si_n (by decide), e2 81 (by decide) (by decide) (by decide), x2]; exact nbB_lt hn) k88, bd1]
        rw [gd_in (by omega) (by decide), fromM hn hi0 (by rw [si_n (by decide), e2 82 (by decide) (by decide) (by decide), x3]; exact nb_lt hn) k88, bd1]
        rw [gd_in (by omega) (by decide), fromM hn hi0 (by rw [si_n (by decide), e2 83 (by decide) (by decide) (by decide), x4]; exact nb_lt hn) k88, bd1]
        rw [si_n (show (80 : Nat) ≠ 90 by decide), si_n (show (81 : Nat) ≠ 90 by decide), si_n (show (82 : Nat) ≠ 90 by decide), si_n (show (83 : Nat) ≠ 90 by decide), e2 80 (by decide) (by decide) (by decide), e2 81 (by decide) (by decide) (by decide), e2 82 (by decide) (by decide) (by decide), e2 83 (by decide) (by decide) (by decide), x1, x2, x3, x4, thr_e hn hi0 hok]
        rw [gd_in (by omega) (by decide), gd_in (by omega) (by decide), gd_in (by omega) (by decide), gd_in (by omega) (by decide), gd_in (by omega) (by decide), gd_in (by omega) (by decide), gd_in (by omega) (by decide), gd_in (by omega) (by decide)]
        have s90 : (si (si W 90 i v) 91 i (hth (adj g) n wm i)).1 90 i = v := by rw [si_n (by decide), si_s]
        have s91 : (si (si W 90 i v) 91 i (hth (adj g) n wm i)).1 91 i = hth (adj g) n wm i := si_s
        have s88 : (si (si W 90 i v) 91 i (hth (adj g) n wm i)).1 88 i = wm i := by rw [si_n (by decide), k88 i hi0]
        have s87 : (si (si W 90 i v) 91 i (hth (adj g) n wm i)).1 87 i = lks i := by rw [si_n (by decide), si_n (by decide), e2 87 (by decide) (by decide) (by decide)]; exact x6
        have s77 : (si (si W 90 i v) 91 i (hth (adj g) n wm i)).1 77 1 = g 1 := by rw [si_n (by decide), si_n (by decide), w77]
        rw [s90, s91, s88, s87, s77]
        have s90' : ∀ u, (si (si (si W 90 i v) 91 i (hth (adj g) n wm i)) 89 i u).1 90 i = v := fun u => by rw [si_n (by decide)]; exact s90
        rw [s90', nI_1]
        have eh : ((wm i + v) - lks i * (wm i - g 1) / 1000) + hth (adj g) n wm i = hst (adj g) n fl lks bo (g 1) wm i := by
          unfold hst
          rw [← hv]
          grind
        rw [eh, hv]
        rfl
      refine Or.inl ⟨(ws (hin fl bo wm) (i + 1), nI (i + 1), si (si (si W 90 i (hin fl bo wm i)) 91 i (hth (adj g) n wm i)) 89 i (hst (adj g) n fl lks bo (g 1) wm i)), ?_, rfl, rfl, fun y y1 y2 y3 => ?_, e3, fun j hj => ?_⟩
      · unfold f_X11_goes_L4
        simp only
        rw [w77, h4, if_neg (nle hi0 (by omega)), gd_in (by omega) (by decide), cl_n (by omega), w88 i hi0, e2 86 (by decide) (by decide) (by decide), x5]
        by_cases q : 0 < bo - wm i
        · rw [if_pos q, gd_in (by omega) (by decide)]
          rw [J _ (by unfold hin; rw [if_pos q])]
          unfold hin
          rw [if_pos q]
        · rw [if_neg q]
          have ez : (0 : Int32) = hin fl bo wm i := by
            unfold hin
            rw [if_neg q, Int32.mul_zero]
            decide
          rw [J _ ez, ← ez]
      · rw [si_n y1, si_n y3, si_n y2, e2 y y1 y2 y3]
      · simp only [si_g]
        by_cases q : j = i
        · subst q
          simp
        · simp [q]
          exact e4 j (by omega)
    · rintro ⟨s, x, W⟩ ⟨e0, e1, e2, e3, e4⟩
      simp only at e0 e1 e2 e3 e4
      subst e0 e1
      have w77 : W.1 77 = g := (e2 77 (by decide) (by decide) (by decide)).trans m1
      refine ⟨(_, nI n, W), ?_, rfl, e2, e3, e4⟩
      unfold f_X11_goes_L4
      simp only
      rw [w77, h4, if_pos (nle' n)]
  obtain ⟨⟨s, x, W⟩, h1, e1, e2, e3, e4⟩ := H
  simp only at e1 e2 e3 e4
  subst e1
  have w77 : W.1 77 = g := (e2 77 (by decide) (by decide) (by decide)).trans m1
  obtain ⟨V, g1, g2, g3, g5⟩ := lp_fill (step := f_X11_goes_L173 (ws (hin fl bo wm) n)) (w := W) (a := 88) (n := n) (v := fun j => W.1 89 j) (by omega) (fun i V hi0 f1 f2 f3 => by
    unfold f_X11_goes_L173
    simp only
    rw [f1 77 (by decide), w77, h4, if_neg (nle hi0 (by omega)), gd_in (by omega) (by decide), gd_in (by omega) (by decide), cl_n (by omega), f1 89 (by decide)]
    rfl) (fun V f1 f2 => by
    unfold f_X11_goes_L173
    simp only
    rw [f1 77 (by decide), w77, h4, if_pos (nle' n)])
  refine ⟨V, ?_, fun y hy => (g2 y (by omega)).trans (e2 y (by omega) (by omega) (by omega)), g3.trans e3, ⟨(g2 77 (by decide)).trans w77, fun i hi0 => ?_⟩, fun i hi0 => ?_⟩
  · unfold f_X11_goes
    rw [h1, bd1]
    simp only
    rw [g1]
    rfl
  · obtain ⟨x1, x5, x6, x7⟩ := m2 i hi0
    rw [g2 80 (by decide), g2 81 (by decide), g2 82 (by decide), g2 83 (by decide), g2 86 (by decide), g2 87 (by decide), g5, if_pos hi0, e2 80 (by decide) (by decide) (by decide), e2 81 (by decide) (by decide) (by decide), e2 82 (by decide) (by decide) (by decide), e2 83 (by decide) (by decide) (by decide), e2 86 (by decide) (by decide) (by decide), e2 87 (by decide) (by decide) (by decide)]
    exact ⟨x1, x5, x6, (e4 i hi0).1⟩
  · rw [g2 90 (by decide), g2 91 (by decide)]
    exact (e4 i hi0).2

theorem CW_g {w : Wd} {g g' : Nat → Int32} {n : Nat} (h : CW w g n n 0) (hA : ∀ i k, i < n → k < n → adj g' i k = adj g i k) : CW w g' n n 0 := by
  obtain ⟨m, c1, c2, c3, c4⟩ := h
  have e0 : ∀ f : Nat → Int32, ws f 0 = 0 := fun _ => rfl
  have e1 : ∀ P : Nat → Bool, cb P 0 = 0 := fun _ => rfl
  rw [e1] at c1
  refine ⟨m, by rw [e1]; exact c1, c2, c3, fun φ => ?_⟩
  rw [c4 φ, e0, e0]
  congr 1
  apply ws_c
  intro i hi0
  unfold dsm
  apply ws_c
  intro k hk
  rw [hA k i (by omega) hi0]
/-- the course stands where the row g stands -/
def CG (w : Wd) (g : Nat → Int32) (n : Nat) : Prop := (w.1 13 0 = nI n ∧ w.1 13 1 = g 3 ∧ w.1 13 2 = g 1) ∧ CW w g n n 0 ∧ ∀ i, i < n → w.1 60 i = wmg g i ∧ w.1 61 i = lkf g i ∧ w.1 63 i = flw g n (opg g) i
theorem hst_e {A A' : Nat → Nat → Bool} {n : Nat} {fl fl' lks lks' wm wm' : Nat → Int32} {bo ou : Int32} (hA : ∀ i k, i < n → k < n → A' i k = A i k) (hf : ∀ i, i < n → fl' i = fl i) (hl : ∀ i, i < n → lks' i = lks i) (hw : ∀ k, k < n → wm' k = wm k) {i : Nat} (hi0 : i < n) : hst A' n fl' lks' bo ou wm' i = hst A n fl lks bo ou wm i := hst_c (fun k hk => hA i k hi0 hk) (hf i hi0) (hl i hi0) hw hi0
theorem liveX {w : Wd} {g : Nat → Int32} {n h : Nat} (hh : h < 2000) (hB : BI (w.1 3) (fun i => w.1 (35 + i)) (w.1 19) g n h) (hC : CG w g n) : ∃ V, f_X0_live w = some V ∧ (∀ y, y ≠ 3 → ¬ (35 ≤ y ∧ y < 47) → y ≠ 60 → y ≠ 64 → y ≠ 65 → V.1 y = w.1 y) ∧ V.2 = w.2 ∧ BI (V.1 3) (fun i => V.1 (35 + i)) (V.1 19) (hG g n) n (h + 1) ∧ CG V (hG g n) n ∧ ∀ j k, j < 12 → (k = 5 ∨ k = 6) → V.1 (35 + j) k = w.1 (35 + j) k := by
  obtain ⟨b1, b2, ⟨q1, q2, q3, q4, q5, q6, q7⟩, b4, b5, b6⟩ := id hB
  obtain ⟨⟨k0, k1, k2⟩, kW, kI⟩ := hC
  have hok : ∀ j, j < n → FlatOk g h j := fun j hj => (b5 j hj).2
  have hwm : ∀ j, j < n → rng (wmg g j) (-1000000) 1000000 := fun j hj => by
    have := (hok j hj).2.2.2.2.2.2.1
    unfold rng at this ⊢
    unfold wmg
    omega
  obtain ⟨W, w1, w2, w3, w4, w5⟩ := hourX (w := w) (g := g) (wts := fun i => w.1 62 i) (fl := flw g n (opg g)) (lks := lkf g) (wm0 := fun i => w.1 59 i) (wm := wmg g) (bo := g 3) (ou := g 1) (pu := w.1 13 3) b1 ⟨⟨k0, k1, k2, rfl⟩, kW, fun i hi0 => ⟨rfl, (kI i hi0).1, (kI i hi0).2.1, rfl, (kI i hi0).2.2⟩⟩ hwm
  have W3 : W.1 3 = w.1 3 := w2 3 (by decide) (by decide) (by decide)
  have H : ∃ o, lp f_X0_live_L6 FU (0, W) = some o ∧ ((∀ y, ¬ (35 ≤ y ∧ y < 47) → o.2.1 y = W.1 y) ∧ o.2.2 = W.2 ∧ ∀ j, j < 12 → ∀ k, o.2.1 (35 + j) k = if j < n then (if k = 7 then hst (adj g) n (flw g n (opg g)) (lkf g) (g 3) (g 1) (wmg g) j else if k = 8 then gx g j 7 + hin (flw g n (opg g)) (g 3) (wmg g) j * gx g j 10 / 100 else if k = 9 then gx g j 8 + hin (flw g n (opg g)) (g 3) (wmg g) j else if k = 10 then gx g j 9 + hth (adj g) n (wmg g) j else w.1 (35 + j) k) else w.1 (35 + j) k) := by
    refine lp_n (fun i z => z.1 = nI i ∧ (∀ y, ¬ (35 ≤ y ∧ y < 47) → z.2.1 y = W.1 y) ∧ z.2.2 = W.2 ∧ ∀ j, j < 12 → ∀ k, z.2.1 (35 + j) k = if j < i then (if k = 7 then hst (adj g) n (flw g n (opg g)) (lkf g) (g 3) (g 1) (wmg g) j else if k = 8 then gx g j 7 + hin (flw g n (opg g)) (g 3) (wmg g) j * gx g j 10 / 100 else if k = 9 then gx g j 8 + hin (flw g n (opg g)) (g 3) (wmg g) j else if k = 10 then gx g j 9 + hth (adj g) n (wmg g) j else w.1 (35 + j) k) else w.1 (35 + j) k) n _ ⟨rfl, fun _ _ => rfl, rfl, fun j hj k => ?_⟩ (FU_lt (by omega)) ?_ ?_
    · rw [if_neg (Nat.not_lt_zero j), w2 _ (by omega) (by omega) (by omega)]
    · rintro i ⟨x, U⟩ hi0 ⟨e1, e2, e3, e4⟩
      simp only at e1 e2 e3 e4
      subst e1
      obtain ⟨⟨f0, f1, f2, f3⟩, -⟩ := b5 i hi0
      have u60 : U.1 60 i = hst (adj g) n (flw g n (opg g)) (lkf g) (g 3) (g 1) (wmg g) i := by rw [e2 60 (by omega)]; exact (w4.2.2 i hi0).2.1
      have u64 : U.1 64 i = hin (flw g n (opg g)) (g 3) (wmg g) i := by rw [e2 64 (by omega)]; exact (w5 i hi0).1
      have u65 : U.1 65 i = hth (adj g) n (wmg g) i := by rw [e2 65 (by omega)]; exact (w5 i hi0).2
      have uF : ∀ k, U.1 (35 + i) k = w.1 (35 + i) k := fun k => by rw [e4 i (by omega) k, if_neg (Nat.lt_irrefl i)]
      have f8 : w.1 (35 + i) 8 = gx g i 7 := f3 7 (by decide) (by decide)
      have f9 : w.1 (35 + i) 9 = gx g i 8 := f3 8 (by decide) (by decide)
      have f10 : w.1 (35 + i) 10 = gx g i 9 := f3 9 (by decide) (by decide)
      have f11 : w.1 (35 + i) 11 = gx g i 10 := f3 10 (by decide) (by decide)
      refine Or.inl ⟨(nI (i + 1), si (si (si (si U (35 + i) 7 (hst (adj g) n (flw g n (opg g)) (lkf g) (g 3) (g 1) (wmg g) i)) (35 + i) 8 (gx g i 7 + hin (flw g n (opg g)) (g 3) (wmg g) i * gx g i 10 / 100)) (35 + i) 9 (gx g i 8 + hin (flw g n (opg g)) (g 3) (wmg g) i)) (35 + i) 10 (gx g i 9 + hth (adj g) n (wmg g) i)), ?_, rfl, fun y hy => ?_, e3, fun j hj k => ?_⟩
      · unfold f_X0_live_L6
        simp only
        rw [e2 3 (by omega), W3, q1, if_neg (nle hi0 (by omega)), gd_in (by omega) (by decide), gd_in (by omega) (by decide), cl_n (by omega), u60]
        simp only [lw_e]
        rw [gd_in (by omega) (by decide), gd_in (by omega) (by decide), gd_in (by omega) (by decide)]
        have n64 : ∀ (X : Wd) (k : Nat) (v : Int32), (si X (35 + i) k v).1 64 = X.1 64 := fun X k v => si_n (by omega)
        have n65 : ∀ (X : Wd) (k : Nat) (v : Int32), (si X (35 + i) k v).1 65 = X.1 65 := fun X k v => si_n (by omega)
        simp only [n64, n65, u64, u65]
        simp only [si_g, uF, f8, f9, f10, f11, true_and, if_false, show ¬ (8 : Nat) = 7 by decide, show ¬ (11 : Nat) = 7 by decide, show ¬ (9 : Nat) = 8 by decide, show ¬ (9 : Nat) = 7 by decide, show ¬ (10 : Nat) = 9 by decide, show ¬ (10 : Nat) = 8 by decide, show ¬ (10 : Nat) = 7 by decide]
        rw [nI_1]
      · rw [si_n (by omega), si_n (by omega), si_n (by omega), si_n (by omega), e2 y hy]
      · rw [si_g, si_g, si_g, si_g, e4 j hj k]
        by_cases q : j = i
        · subst q
          rw [if_pos (show j < j + 1 by omega), if_neg (Nat.lt_irrefl j)]
          simp only [true_and]
          by_cases k7 : k = 7
          · subst k7; simp
          · by_cases k8 : k = 8
            · subst k8; simp
            · by_cases k9 : k = 9
              · subst k9; simp
              · by_cases k10 : k = 10
                · subst k10; simp
                · simp [k7, k8, k9, k10]
        · rw [if_neg (show ¬ (35 + j = 35 + i ∧ k = 10) by omega), if_neg (show ¬ (35 + j = 35 + i ∧ k = 9) by omega), if_neg (show ¬ (35 + j = 35 + i ∧ k = 8) by omega), if_neg (show ¬ (35 + j = 35 + i ∧ k = 7) by omega)]
          by_cases q2 : j < i
          · rw [if_pos q2, if_pos (show j < i + 1 by omega)]
          · rw [if_neg q2, if_neg (show ¬ j < i + 1 by omega)]
    · rintro ⟨x, U⟩ ⟨e1, e2, e3, e4⟩
      simp only at e1 e2 e3 e4
      subst e1
      refine ⟨(nI n, U), ?_, e2, e3, e4⟩
      unfold f_X0_live_L6
      simp only
      rw [e2 3 (by omega), W3, q1, if_pos (nle' n)]
  obtain ⟨⟨x, U⟩, p1, p2, p3, p4⟩ := H
  simp only at p2 p3 p4
  have U3 : U.1 3 = w.1 3 := (p2 3 (by omega)).trans W3
  have vF : ∀ j, (si U 3 3 (nI (h + 1))).1 (35 + j) = U.1 (35 + j) := fun j => si_n (by omega)
  have v3 : ∀ k, (si U 3 3 (nI (h + 1))).1 3 k = if k = 3 then nI (h + 1) else w.1 3 k := fun k => by rw [si_g, U3]; simp
  have vy : ∀ y, y ≠ 3 → ¬ (35 ≤ y ∧ y < 47) → y ≠ 60 → y ≠ 64 → y ≠ 65 → (si U 3 3 (nI (h + 1))).1 y = w.1 y := fun y y1 y2 y3 y4 y5 => by rw [si_n y1, p2 y y2, w2 y y3 y4 y5]
  refine ⟨si U 3 3 (nI (h + 1)), ?_, vy, p3.trans w3, ⟨b1, by omega, ⟨?_, ?_, ?_, ?_, ?_, ?_, ?_⟩, ?_, fun i hi0 => ⟨⟨?_, ?_, ?_, fun m m1 m2 => ?_⟩, hG_ok b1 hh hi0 hok b4⟩, fun r hr => ?_⟩, ⟨⟨?_, ?_, ?_⟩, ?_, fun i hi0 => ⟨?_, ?_, ?_⟩⟩, fun j k hj hk => ?_⟩
  · unfold f_X0_live
    rw [w1, bd1, p1, bd1]
    simp only [lw_e]
    rw [U3, q3, nI_1]
  · rw [v3, if_neg (by decide)]; exact q1
  · rw [hG_o b1 (by decide) (by omega)]; exact q2
  · rw [v3, if_pos rfl]
  · rw [hG_0, q4, nI_1]
  · rw [v3, if_neg (by decide), hG_o b1 (by decide) (by omega)]; exact q5
  · rw [v3, if_neg (by decide), hG_o b1 (by decide) (by omega)]; exact q6
  · rw [v3, if_neg (by decide), hG_o b1 (by decide) (by omega)]; exact q7
  · rw [hG_o b1 (by decide) (by omega), hG_o b1 (by decide) (by omega), hG_o b1 (by decide) (by omega)]; exact b4
  · obtain ⟨⟨f0, f1, f2, f3⟩, -⟩ := b5 i hi0
    show (si U 3 3 _).1 (35 + i) 0 = _
    rw [vF, p4 i (by omega), if_pos hi0, hG_k (by omega) hi0]
    simp
    exact f0
  · obtain ⟨⟨f0, f1, f2, f3⟩, -⟩ := b5 i hi0
    show (si U 3 3 _).1 (35 + i) 1 = _
    rw [vF, p4 i (by omega), if_pos hi0, hG_k (by omega) hi0]
    simp
    exact f1
  · obtain ⟨⟨f0, f1, f2, f3⟩, -⟩ := b5 i hi0
    show (si U 3 3 _).1 (35 + i) 2 = _
    rw [vF, p4 i (by omega), if_pos hi0, pl_c hG_r hi0]
    simp
    exact f2
  · obtain ⟨⟨f0, f1, f2, f3⟩, -⟩ := b5 i hi0
    show (si U 3 3 _).1 (35 + i) (m + 1) = _
    rw [vF, p4 i (by omega), if_pos hi0, hG_x (by omega) hi0]
    by_cases k6 : m = 6
    · subst k6; simp
    · by_cases k7 : m = 7
      · subst k7; simp
      · by_cases k8 : m = 8
        · subst k8; simp
        · by_cases k9 : m = 9
          · subst k9; simp
          · simp [k6, k7, k8, k9]
            exact f3 m m1 m2
  · rw [si_n (by decide), p2 19 (by omega), w2 19 (by decide) (by decide) (by decide), cnt_c hG_r]
    exact b6 r hr
  · rw [vy 13 (by decide) (by omega) (by decide) (by decide) (by decide)]; exact k0
  · rw [vy 13 (by decide) (by omega) (by decide) (by decide) (by decide), hG_o b1 (by decide) (by omega)]; exact k1
  · rw [vy 13 (by decide) (by omega) (by decide) (by decide) (by decide), hG_o b1 (by decide) (by omega)]; exact k2
  · exact CW_g (CW_c kW (by rw [vy 13 (by decide) (by omega) (by decide) (by decide) (by decide)]) (vy 66 (by decide) (by omega) (by decide) (by decide) (by decide)) (vy 67 (by decide) (by omega) (by decide) (by decide) (by decide))) fun i k a b => adj_c hG_r a b
  · rw [si_n (by decide), p2 60 (by omega), (w4.2.2 i hi0).2.1]
    unfold wmg
    rw [hG_x (by decide) hi0, if_pos rfl]
    rfl
  · rw [vy 61 (by decide) (by omega) (by decide) (by decide) (by decide), (kI i hi0).2.1, hG_lk hi0]
  · rw [vy 63 (by decide) (by omega) (by decide) (by decide) (by decide), (kI i hi0).2.2, hG_fl b1 hi0]
  · rw [vF, p4 j hj]
    by_cases q : j < n
    · rw [if_pos q, if_neg (by omega), if_neg (by omega), if_neg (by omega), if_neg (by omega)]
    · rw [if_neg q]
/-! the reference's hour -/
theorem fP_c {g g' : Nat → Int32} {n : Nat} {r p : Int32} (hr : ∀ j, j < n → gx g' j 1 = gx g j 1) : ∀ m, m < n → fP g' r p m = fP g r p m := fun m hm => by
  unfold fP
  rw [hr m hm, cnt_c fun j hj => hr j (by omega)]
theorem nb_c {g g' : Nat → Int32} {n : Nat} {r p : Int32} (hr : ∀ j, j < n → gx g' j 1 = gx g j 1) : nb g' n r p = nb g n r p := by
  unfold nb
  rw [ff_c (fP_c hr)]
theorem nbs_c {g g' : Nat → Int32} {n i : Nat} (hr : ∀ j, j < n → gx g' j 1 = gx g j 1) (hi0 : i < n) : nbA g' n i = nbA g n i ∧ nbB g' n i = nbB g n i ∧ nbC g' n i = nbC g n i ∧ nbD g' n i = nbD g n i := by
  unfold nbA nbB nbC nbD
  rw [hr i hi0, pl_c hr hi0, nb_c hr, nb_c hr, nb_c hr, nb_c hr]
  exact ⟨rfl, rfl, rfl, rfl⟩
/-- the reference stands where its row stands -/
def MG (w : Wd) (n : Nat) : Prop := MS w (w.1 77) n (flw (w.1 77) n (opg (w.1 77))) (lkf (w.1 77)) (wmg (w.1 77))
theorem anHourM {w : Wd} {n h : Nat} (hn : n ≤ 12) (h4 : w.1 77 4 = nI n) (hM : MG w n) (hok : ∀ i, i < n → FlatOk (w.1 77) h i) : ∃ V, f_X11_anHour w = some V ∧ (∀ y, y ≠ 77 → y ≠ 76 → ¬ Sc y → V.1 y = w.1 y) ∧ V.2 = w.2 ∧ (∀ j, V.1 76 j = if j = 30 then 0 else w.1 76 j) ∧ V.1 77 = hG (w.1 77) n ∧ MG V n := by
  obtain ⟨W, w1, w2, w3, w4, w5⟩ := goesM (w := w) (g := w.1 77) (bo := w.1 77 3) hn h4 hM hok
  have W77 : W.1 77 = w.1 77 := w4.1
  have H : ∃ o, lp f_X11_anHour_L13 FU (0, W) = some o ∧ ((∀ y, y ≠ 77 → o.2.1 y = W.1 y) ∧ o.2.2 = W.2 ∧ ∀ y, o.2.1 77 y = if 7 ≤ y ∧ (y - 7) / 11 < n then hG (w.1 77) n y else w.1 77 y) := by
    refine lp_n (fun i z => z.1 = nI i ∧ (∀ y, y ≠ 77 → z.2.1 y = W.1 y) ∧ z.2.2 = W.2 ∧ ∀ y, z.2.1 77 y = if 7 ≤ y ∧ (y - 7) / 11 < i then hG (w.1 77) n y else w.1 77 y) n _ ⟨rfl, fun _ _ => rfl, rfl, fun y => ?_⟩ (FU_lt (by omega)) ?_ ?_
    · rw [if_neg (by omega), W77]
    · rintro i ⟨x, U⟩ hi0 ⟨e1, e2, e3, e4⟩
      simp only at e1 e2 e3 e4
      subst e1
      have hg : ∀ k, k < 11 → U.1 77 (7 + 11 * i + k) = w.1 77 (7 + 11 * i + k) := fun k hk => by rw [e4, if_neg (by omega)]
      have u88 : U.1 88 i = hst (adj (w.1 77)) n (flw (w.1 77) n (opg (w.1 77))) (lkf (w.1 77)) (w.1 77 3) (w.1 77 1) (wmg (w.1 77)) i := by rw [e2 88 (by decide)]; exact (w4.2 i hi0).2.2.2
      have u90 : U.1 90 i = hin (flw (w.1 77) n (opg (w.1 77))) (w.1 77 3) (wmg (w.1 77)) i := by rw [e2 90 (by decide)]; exact (w5 i hi0).1
      have u91 : U.1 91 i = hth (adj (w.1 77)) n (wmg (w.1 77)) i := by rw [e2 91 (by decide)]; exact (w5 i hi0).2
      have x6 := hG_x (g := w.1 77) (n := n) (i := i) (k := 6) (by decide) hi0
      have x7 := hG_x (g := w.1 77) (n := n) (i := i) (k := 7) (by decide) hi0
      have x8 := hG_x (g := w.1 77) (n := n) (i := i) (k := 8) (by decide) hi0
      have x9 := hG_x (g := w.1 77) (n := n) (i := i) (k := 9) (by decide) hi0
      simp only [if_true, if_false, show ¬ (7 : Nat) = 6 by decide, show ¬ (8 : Nat) = 6 by decide, show ¬ (8 : Nat) = 7 by decide, show ¬ (9 : Nat) = 6 by decide, show ¬ (9 : Nat) = 7 by decide, show ¬ (9 : Nat) = 8 by decide] at x6 x7 x8 x9
      refine Or.inl ⟨(nI (i + 1), si (si (si (si U 77 (7 + 11 * i + 6) (gx (hG (w.1 77) n) i 6)) 77 (7 + 11 * i + 7) (gx (hG (w.1 77) n) i 7)) 77 (7 + 11 * i + 8) (gx (hG (w.1 77) n) i 8)) 77 (7 + 11 * i + 9) (gx (hG (w.1 77) n) i 9)), ?_, rfl, fun y hy => ?_, e3, fun y => ?_⟩
      · unfold f_X11_anHour_L13
        simp only
        have i6 : (7 + 11 * nI i) + 6 = nI (7 + 11 * i + 6) := ix_e i 6
        have i7 : (7 + 11 * nI i) + 7 = nI (7 + 11 * i + 7) := ix_e i 7
        have i8 : (7 + 11 * nI i) + 8 = nI (7 + 11 * i + 8) := ix_e i 8
        have i9 : (7 + 11 * nI i) + 9 = nI (7 + 11 * i + 9) := ix_e i 9
        have u4 : U.1 77 4 = nI n := by rw [e4, if_neg (by omega)]; exact h4
        rw [u4, if_neg (nle hi0 (by omega)), i6, i7, i8, i9, gd_in (by omega) (by decide), gd_in (by omega) (by decide), cl_n (by omega), cl_n (by omega), cl_n (by omega), cl_n (by omega), cl_n (by omega), u88]
        simp only [lw_e]
        rw [gd_in (by omega) (by decide), gd_in (by omega) (by decide), get_10 (by omega), bd1, gd_in (by omega) (by decide), gd_in (by omega) (by decide), gd_in (by omega) (by decide), gd_in (by omega) (by decide), gd_in (by omega) (by decide), gd_in (by omega) (by decide), gd_in (by omega) (by decide)]
        have n90 : ∀ (X : Wd) (k : Nat) (v : Int32), (si X 77 k v).1 90 = X.1 90 := fun X k v => si_n (by decide)
        have n91 : ∀ (X : Wd) (k : Nat) (v : Int32), (si X 77 k v).1 91 = X.1 91 := fun X k v => si_n (by decide)
        simp only [n90, n91, u90, u91]
        unfold gx at x6 x7 x8 x9 ⊢
        simp only [si_g, hg 7 (by decide), hg 8 (by decide), hg 9 (by decide), hg 10 (by decide), true_and, if_false, show ¬ 7 + 11 * i + 7 = 7 + 11 * i + 6 by omega, show ¬ 7 + 11 * i + 10 = 7 + 11 * i + 6 by omega, show ¬ 7 + 11 * i + 8 = 7 + 11 * i + 7 by omega, show ¬ 7 + 11 * i + 8 = 7 + 11 * i + 6 by omega, show ¬ 7 + 11 * i + 9 = 7 + 11 * i + 8 by omega, show ¬ 7 + 11 * i + 9 = 7 + 11 * i + 7 by omega, show ¬ 7 + 11 * i + 9 = 7 + 11 * i + 6 by omega, nI_1]
        rw [x6, x7, x8, x9]
      · rw [si_n hy, si_n hy, si_n hy, si_n hy, e2 y hy]
      · rw [si_g, si_g, si_g, si_g, e4 y]
        simp only [true_and]
        by_cases y9 : y = 7 + 11 * i + 9
        · rw [if_pos y9, if_pos (by omega), y9]; rfl
        · rw [if_neg y9]
          by_cases y8 : y = 7 + 11 * i + 8
          · rw [if_pos y8, if_pos (by omega), y8]; rfl
          · rw [if_neg y8]
            by_cases y7 : y = 7 + 11 * i + 7
            · rw [if_pos y7, if_pos (by omega), y7]; rfl
            · rw [if_neg y7]
              by_cases y6 : y = 7 + 11 * i + 6
              · rw [if_pos y6, if_pos (by omega), y6]; rfl
              · rw [if_neg y6]
                by_cases q : 7 ≤ y ∧ (y - 7) / 11 < i
                · rw [if_pos q, if_pos (show 7 ≤ y ∧ (y - 7) / 11 < i + 1 by omega)]
                · rw [if_neg q]
                  by_cases q2 : 7 ≤ y ∧ (y - 7) / 11 < i + 1
                  · rw [if_pos q2]
                    have ek : y = 7 + 11 * i + (y - 7) % 11 := by omega
                    have := hG_x (g := w.1 77) (n := n) (i := i) (k := (y - 7) % 11) (by omega) hi0
                    rw [if_neg (by omega), if_neg (by omega), if_neg (by omega), if_neg (by omega)] at this
                    unfold gx at this
                    rw [← ek] at this
                    exact this.symm
                  · rw [if_neg q2]
    · rintro ⟨x, U⟩ ⟨e1, e2, e3, e4⟩
      simp only at e1 e2 e3 e4
      subst e1
      refine ⟨(nI n, U), ?_, e2, e3, e4⟩
      unfold f_X11_anHour_L13
      simp only
      have u4 : U.1 77 4 = nI n := by rw [e4, if_neg (by omega)]; exact h4
      rw [u4, if_pos (nle' n)]
  obtain ⟨⟨x, U⟩, p1, p2, p3, p4⟩ := H
  simp only at p2 p3 p4
  have v77 : (si (si U 77 0 (w.1 77 0 + 1)) 76 30 0).1 77 = hG (w.1 77) n := by
    rw [si_n (by decide)]
    funext y
    rw [si_g, p4]
    by_cases q0 : y = 0
    · rw [if_pos ⟨rfl, q0⟩, q0]; rfl
    · rw [if_neg (fun z => q0 z.2)]
      by_cases q : 7 ≤ y ∧ (y - 7) / 11 < n
      · rw [if_pos q]
      · rw [if_neg q]
        unfold hG
        rw [if_neg q0, if_neg q]
  have vy : ∀ y, y ≠ 77 → y ≠ 76 → (si (si U 77 0 (w.1 77 0 + 1)) 76 30 0).1 y = W.1 y := fun y y1 y2 => by rw [si_n y2, si_n y1, p2 y y1]
  refine ⟨si (si U 77 0 (w.1 77 0 + 1)) 76 30 0, ?_, fun y y1 y2 y3 => ?_, p3.trans w3, fun j => ?_, v77, ?_⟩
  · unfold f_X11_anHour
    rw [w1, bd1]
    simp only
    rw [p1, bd1]
    simp only [lw_e]
    rw [p4, if_neg (by omega)]
  · unfold Sc at y3
    rw [vy y y1 y2, w2 y (by omega)]
  · rw [si_g, si_n (by decide), p2 76 (by decide), w2 76 (by omega)]
    simp
  · unfold MG
    rw [v77]
    refine ⟨v77, fun i hi0 => ?_⟩
    obtain ⟨x1, x2, x3, x4⟩ := w4.2 i hi0
    obtain ⟨c1, c2, c3, c4⟩ := nbs_c (g := w.1 77) (g' := hG (w.1 77) n) hG_r hi0
    rw [vy 80 (by decide) (by decide), vy 81 (by decide) (by decide), vy 82 (by decide) (by decide), vy 83 (by decide) (by decide), vy 86 (by decide) (by decide), vy 87 (by decide) (by decide), vy 88 (by decide) (by decide), c1, c2, c3, c4, hG_fl hn hi0, hG_lk hi0]
    refine ⟨x1, x2, x3, ?_⟩
    rw [x4]
    unfold wmg
    rw [hG_x (by decide) hi0, if_pos rfl]
    rfl

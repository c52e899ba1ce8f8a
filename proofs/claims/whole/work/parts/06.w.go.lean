theorem hrun_bd {g : Nat → Int32} {n h : Nat} {fl lks wm : Nat → Int32} {bo ou : Int32} (hn : n ≤ 12) (hok : ∀ j, j < n → FlatOk g h j) (hw : ∀ j, j < n → rng (wm j) (-300) 1500) (hf : ∀ i, i < n → rng (fl i) 0 999) (hl : ∀ i, i < n → rng (lks i) 0 268) (hb : rng bo 0 900) (ho : rng ou (-300) 400) : ∀ t i, i < n → rng (hrun (adj g) n fl lks bo ou wm t i) (-300) 1500
  | 0, i, hi0 => hw i hi0
  | t + 1, i, hi0 => hst_bd hn hi0 hok (hrun_bd hn hok hw hf hl hb ho t) (hf i hi0) (hl i hi0) hb ho
theorem goX {w : Wd} {g : Nat → Int32} {n h N : Nat} {wts lks wm0 : Nat → Int32} {bo ou pu : Int32} (hn : n ≤ 12) (hN : N ≤ 1000) (hok : ∀ j, j < n → FlatOk g h j) (h0 : w.1 13 0 = nI n ∧ w.1 13 1 = bo ∧ w.1 13 2 = ou ∧ w.1 13 3 = pu) (hW : CW w g n n 0) (hI : ∀ i, i < n → w.1 59 i = wm0 i ∧ w.1 61 i = lks i ∧ w.1 62 i = wts i) (hw : ∀ j, j < n → rng (wm0 j) (-300) 1500) (hf : ∀ i, i < n → rng (flo pu (wts i) (ws wts n)) 0 999) (hl : ∀ i, i < n → rng (lks i) 0 268) (hb : rng bo 0 900) (ho : rng ou (-300) 400) : ∃ W, f_X2_go (nI N) w = some (hsum (adj g) n (fun i => flo pu (wts i) (ws wts n)) lks bo ou wm0 N, W) ∧ (∀ y, y ≠ 60 → y ≠ 63 → y ≠ 64 → y ≠ 65 → W.1 y = w.1 y) ∧ W.2 = w.2 ∧ CS W g n wts (fun i => flo pu (wts i) (ws wts n)) lks wm0 (hrun (adj g) n (fun i => flo pu (wts i) (ws wts n)) lks bo ou wm0 N) bo ou pu := by
  obtain ⟨W0, p1, p2, p3, p4⟩ := restartX hn h0 hW hI
  have H : ∃ o, lp (f_X2_go_L8 (nI N)) FU (0, 0, W0) = some o ∧ (o.1 = hsum (adj g) n (fun i => flo pu (wts i) (ws wts n)) lks bo ou wm0 N ∧ (∀ y, y ≠ 60 → y ≠ 63 → y ≠ 64 → y ≠ 65 → o.2.2.1 y = w.1 y) ∧ o.2.2.2 = w.2 ∧ CS o.2.2 g n wts (fun i => flo pu (wts i) (ws wts n)) lks wm0 (hrun (adj g) n (fun i => flo pu (wts i) (ws wts n)) lks bo ou wm0 N) bo ou pu) := by
    refine lp_n (fun t z => z.1 = hsum (adj g) n (fun i => flo pu (wts i) (ws wts n)) lks bo ou wm0 t ∧ z.2.1 = nI t ∧ (∀ y, y ≠ 60 → y ≠ 63 → y ≠ 64 → y ≠ 65 → z.2.2.1 y = w.1 y) ∧ z.2.2.2 = w.2 ∧ CS z.2.2 g n wts (fun i => flo pu (wts i) (ws wts n)) lks wm0 (hrun (adj g) n (fun i => flo pu (wts i) (ws wts n)) lks bo ou wm0 t) bo ou pu) N _ ⟨rfl, rfl, fun y y1 y2 _ _ => p2 y y1 y2, p3, p4⟩ (FU_lt (by omega)) ?_ ?_
    · rintro t ⟨s, x, U⟩ ht ⟨e0, e1, e2, e3, e4⟩
      simp only at e0 e1 e2 e3 e4
      subst e0 e1
      obtain ⟨V, r1, r2, r3, r4, r5⟩ := hourX hn e4 (fun i hi0 => by
        have := hrun_bd hn hok hw hf hl hb ho t i hi0
        unfold rng at this ⊢
        omega)
      refine Or.inl ⟨(_, nI (t + 1), V), ?_, rfl, rfl, fun y y1 y2 y3 y4 => (r2 y y1 y3 y4).trans (e2 y y1 y2 y3 y4), r3.trans e3, r4⟩
      unfold f_X2_go_L8
      simp only
      rw [if_neg (nle ht (by omega)), r1, bd1, lp_add (n := n) (f := hin (fun i => flo pu (wts i) (ws wts n)) bo (hrun (adj g) n (fun i => flo pu (wts i) (ws wts n)) lks bo ou wm0 t)) (by omega) (fun i s hi0 => ?_) (fun s => ?_), bd1, nI_1]
      · unfold f_X2_go_L20
        simp only
        rw [r4.1.1, if_neg (nle hi0 (by omega)), gd_in (by omega) (by decide), cl_n (by omega), (r5 i hi0).1]
      · unfold f_X2_go_L20
        simp only
        rw [r4.1.1, if_pos (nle' n)]
    · rintro ⟨s, x, U⟩ ⟨e0, e1, e2, e3, e4⟩
      simp only at e0 e1 e2 e3 e4
      subst e0 e1
      refine ⟨(_, nI N, U), ?_, rfl, e2, e3, e4⟩
      unfold f_X2_go_L8
      simp only
      rw [if_pos (nle' N)]
  obtain ⟨⟨s, x, U⟩, r1, r2, r3, r4, r5⟩ := H
  simp only at r2 r3 r4 r5
  subst r2
  refine ⟨U, ?_, r3, r4, r5⟩
  unfold f_X2_go
  rw [p1, bd1, r1]
  rfl
theorem goAllM {w : Wd} {g : Nat → Int32} {n h N : Nat} {fl lks wm : Nat → Int32} {bo : Int32} (hn : n ≤ 12) (hN : N ≤ 1000) (h4 : g 4 = nI n) (hM : MS w g n fl lks wm) (hok : ∀ i, i < n → FlatOk g h i) : ∃ W, f_X11_goesAll bo (nI N) w = some (hsum (adj g) n fl lks bo (g 1) wm N, W) ∧ (∀ y, y < 88 ∨ 91 < y → W.1 y = w.1 y) ∧ W.2 = w.2 ∧ MS W g n fl lks (hrun (adj g) n fl lks bo (g 1) wm N) := by
  have H : ∃ o, lp (f_X11_goesAll_L5 bo (nI N)) FU (0, 0, w) = some o ∧ (o.1 = hsum (adj g) n fl lks bo (g 1) wm N ∧ (∀ y, y < 88 ∨ 91 < y → o.2.2.1 y = w.1 y) ∧ o.2.2.2 = w.2 ∧ MS o.2.2 g n fl lks (hrun (adj g) n fl lks bo (g 1) wm N)) := by
    refine lp_n (fun t z => z.1 = hsum (adj g) n fl lks bo (g 1) wm t ∧ z.2.1 = nI t ∧ (∀ y, y < 88 ∨ 91 < y → z.2.2.1 y = w.1 y) ∧ z.2.2.2 = w.2 ∧ MS z.2.2 g n fl lks (hrun (adj g) n fl lks bo (g 1) wm t)) N _ ⟨rfl, rfl, fun _ _ => rfl, rfl, hM⟩ (FU_lt (by omega)) ?_ ?_
    · rintro t ⟨s, x, U⟩ ht ⟨e0, e1, e2, e3, e4⟩
      simp only at e0 e1 e2 e3 e4
      subst e0 e1
      obtain ⟨V, r1, r2, r3, r4, r5⟩ := goesM (bo := bo) hn h4 e4 hok
      refine Or.inl ⟨(_, nI (t + 1), V), ?_, rfl, rfl, fun y hy => (r2 y hy).trans (e2 y hy), r3.trans e3, r4⟩
      unfold f_X11_goesAll_L5
      simp only
      rw [if_neg (nle ht (by omega)), r1, bd1, nI_1]
    · rintro ⟨s, x, U⟩ ⟨e0, e1, e2, e3, e4⟩
      simp only at e0 e1 e2 e3 e4
      subst e0 e1
      refine ⟨(_, nI N, U), ?_, rfl, e2, e3, e4⟩
      unfold f_X11_goesAll_L5
      simp only
      rw [if_pos (nle' N)]
  obtain ⟨⟨s, x, U⟩, r1, r2, r3, r4, r5⟩ := H
  simp only at r2 r3 r4 r5
  subst r2
  refine ⟨U, ?_, r3, r4, r5⟩
  unfold f_X11_goesAll
  rw [r1]
  rfl
theorem Ess_no {k : Nat} (h : Ess k = true) : ¬ Tc k ∧ ¬ Sc k ∧ k ≠ 76 ∧ k ≠ 14 ∧ k ≠ 68 := by
  unfold Ess at h
  simp only [Bool.or_eq_true, Bool.and_eq_true, beq_iff_eq, Nat.ble_eq] at h
  unfold Tc Sc
  omega
theorem Inv_scr {w V : Wd} (h : Inv w) (e : ∀ y, ¬ Tc y → ¬ Sc y → V.1 y = w.1 y) (e2 : V.2 = w.2) : Inv V := Inv_a h (fun k hk => e k (Ess_no hk).1 (Ess_no hk).2.1) (fun j _ => by rw [e 76 (by unfold Tc; omega) (by unfold Sc; omega)]) e2
/-- ready to go, both of them, from one and the same row -/
theorem ready {w : Wd} (h : Inv w) : ∃ n hh, n ≤ 12 ∧ w.1 3 1 = nI n ∧ w.1 77 4 = nI n ∧ (∀ j, j < n → FlatOk (w.1 77) hh j) ∧ (rng (w.1 77 1) (-300) 400 ∧ rng (w.1 77 2) 0 999 ∧ rng (w.1 77 3) 0 900) ∧ (∀ j, j < n → rng (gx (w.1 77) j 6) (-300) 1500) ∧ (∀ i, i < n → rng (flw (w.1 77) n (fun j => gx (w.1 77) j 3) i) 0 999) ∧ (∀ i, i < n → rng (lkf (w.1 77) i) 0 268) ∧ ∃ W, f_X2_begin w = some W ∧ (∀ y, ¬ Tc y → W.1 y = w.1 y) ∧ W.2 = w.2 ∧ CS W (w.1 77) n (fun i => wt (w.1 77) n i (gx (w.1 77) i 3)) (flw (w.1 77) n (fun j => gx (w.1 77) j 3)) (lkf (w.1 77)) (fun j => gx (w.1 77) j 6) (fun j => gx (w.1 77) j 6) (w.1 77 3) (w.1 77 1) (w.1 77 2) := by
  obtain ⟨n, hh, c, hB, hC, hR⟩ := h.b
  obtain ⟨b1, b2, ⟨q1, q2, q3, q4, q5, q6, q7⟩, b4, b5, b6⟩ := id hB
  have hok : ∀ j, j < n → FlatOk (w.1 77) hh j := fun j hj => (b5 j hj).2
  exact ⟨n, hh, b1, q1, q2, hok, b4, fun j hj => (hok j hj).2.2.2.2.2.2.1, fun i hi0 => flw_bd b1 hi0 b4.2.1 fun j hj => (hok j hj).2.2.2.1, fun i hi0 => lkf_bd (hok i hi0), begX hB⟩
theorem evX {w : Wd} {n : Nat} {b : Int32} {wm : Nat → Int32} (hn : n ≤ 12) (h3 : w.1 3 1 = nI n) (h60 : ∀ i, i < n → w.1 60 i = wm i) {D : ∀ i, Decidable (evn b (wm i))} : lp (f_X10_even_L49 b w) FU (0, 0) = some (bts (fun i => @decide _ (D i)) n, nI n) := by
  refine lp_for (step := f_X10_even_L49 b w) (fun i => (bts (fun i => @decide _ (D i)) i, nI i)) n _ (FU_lt (by omega)) (fun i hi0 => ?_) ?_
  · unfold f_X10_even_L49 f_X10_feeling
    simp only
    rw [h3, if_neg (nle hi0 (by omega)), gd_in (by omega) (by decide), cl_n (by omega), h60 i hi0, nI_1, bts_s]
    by_cases q1 : b / 1000 ≤ wm i
    · by_cases q2 : wm i ≤ b - b / 1000 * 1000
      · rw [if_pos q1, if_pos q2, if_pos (decide_eq_true ⟨q1, q2⟩)]
        rfl
      · rw [if_pos q1, if_neg q2, if_neg (by rw [decide_eq_true_eq]; exact fun z => q2 z.2)]
        rfl
    · rw [if_neg q1, if_neg (by rw [decide_eq_true_eq]; exact fun z => q1 z.1)]
      rfl
  · unfold f_X10_even_L49
    simp only
    rw [h3, if_pos (nle' n)]
theorem isEvM {w : Wd} {n i : Nat} {b : Int32} {wm : Nat → Int32} (hn : n ≤ 12) (hi0 : i < n) (h88 : w.1 88 i = wm i) {D : Decidable (evn b (wm i))} : f_X11_isEven (nI i) b w = some (@ite _ (evn b (wm i)) D 1 0) := by
  unfold f_X11_isEven
  rw [gd_in (by omega) (by decide), gd_in (by omega) (by decide), cl_n (by omega), h88]
  by_cases q1 : wm i < b / 1000
  · rw [if_pos q1, if_neg (fun z => by have := z.1; rw [i_le] at this; rw [i_lt] at q1; omega)]
  · rw [if_neg q1]
    by_cases q2 : b - b / 1000 * 1000 < wm i
    · rw [if_pos q2, if_neg (fun z => by have := z.2; rw [i_le] at this; rw [i_lt] at q2; omega)]
    · rw [if_neg q2, if_pos ⟨by rw [i_le]; rw [i_lt] at q1; omega, by rw [i_le]; rw [i_lt] at q2; omega⟩]
theorem evM {w : Wd} {n : Nat} {b : Int32} {wm : Nat → Int32} (hn : n ≤ 12) (h4 : w.1 77 4 = nI n) (h88 : ∀ i, i < n → w.1 88 i = wm i) {D : ∀ i, Decidable (evn b (wm i))} : lp (f_X11_even_L45 b w) FU (0, 0) = some (bts (fun i => @decide _ (D i)) n, nI n) := by
  refine lp_for (step := f_X11_even_L45 b w) (fun i => (bts (fun i => @decide _ (D i)) i, nI i)) n _ (FU_lt (by omega)) (fun i hi0 => ?_) ?_
  · unfold f_X11_even_L45
    simp only
    rw [h4, if_neg (nle hi0 (by omega)), isEvM hn hi0 (h88 i hi0) (D := D i), bd1, nI_1, bts_s]
    by_cases q : evn b (wm i)
    · rw [if_pos q, if_neg (by decide), if_pos (decide_eq_true q)]
    · rw [if_neg q, if_pos rfl, if_neg (by rw [decide_eq_true_eq]; exact q), Int32.or_zero]
  · unfold f_X11_even_L45
    simp only
    rw [h4, if_pos (nle' n)]
theorem win_nI {v a b : Int32} {A B : Nat} (q : f_X10_within v a b = some 1) (ha : a.toInt = A) (hb : b.toInt = B) (hB : B < 2 ^ 31) : ∃ N, A ≤ N ∧ N ≤ B ∧ v = nI N := by
  have hq := win_yes q
  obtain ⟨N, hN, e⟩ := nI_rng (v := v) (a := B) hB (by omega) (by omega)
  refine ⟨N, ?_, hN, e⟩
  rw [e, nI_toInt (by omega)] at hq
  omega
theorem op_even {w : Wd} (h : Inv w) (v1 v2 : Int32) : Op (f_X10_even v1 v2) (f_X11_even v1 v2) w := by
  obtain ⟨n, hh, b1, q1, q2, hok, b4, hw, hf, hl, W, p1, p2, p3, p4⟩ := ready h
  rcases win_01 v1 0 999999 with z | z
  · refine op_no h (k := 0) (by decide) fc0 ?_ fun v => ?_
    · simp [f_X10_even, ab_e, z, bd_e]
    · simp [f_X11_even, ab_m, z, bd_e]
  rcases win_01 v2 0 50 with y | y
  · refine op_no h (k := 0) (by decide) fc0 ?_ fun v => ?_
    · simp [f_X10_even, ab_e, z, y, bd_e]
    · simp [f_X11_even, ab_m, in_e, z, y, bd_e]
  obtain ⟨N, -, hN, rfl⟩ := win_nI y (A := 0) (B := 50) (by decide) (by decide) (by decide)
  obtain ⟨X, r1, r2, r3, r4⟩ := goX (N := N) b1 (by omega) hok p4.1 p4.2.1 (fun i hi0 => ⟨(p4.2.2 i hi0).1, (p4.2.2 i hi0).2.2.1, (p4.2.2 i hi0).2.2.2.1⟩) hw hf hl b4.2.2 b4.1
  have X3 : X.1 3 1 = nI n := by rw [r2 3 (by decide) (by decide) (by decide) (by decide), p2 3 (by unfold Tc; omega)]; exact q1
  have X77 : X.1 77 = w.1 77 := by rw [r2 77 (by decide) (by decide) (by decide) (by decide), p2 77 (by unfold Tc; omega)]
  obtain ⟨M0, m1, m2, m3, m4, -⟩ := asideM (w := X) b1 (by rw [X77]; exact q2)
  rw [X77] at m4
  have M77 : M0.1 77 3 = w.1 77 3 := by rw [m2 77 (by unfold Sc; omega), X77]
  obtain ⟨M1, s1, s2, s3, s4⟩ := goAllM (N := N) (bo := w.1 77 3) b1 (by omega) q2 m4 hok
  refine ⟨bts (fun i => @decide _ (Classical.propDecidable (evn v1 (hrun (adj (w.1 77)) n (flw (w.1 77) n (fun j => gx (w.1 77) j 3)) (lkf (w.1 77)) (w.1 77 3) (w.1 77 1) (fun j => gx (w.1 77) j 6) N i)))) n, X, M1, ?_, ?_, Inv_scr h (fun y y1 y2 => ?_) (s3.trans (m3.trans (r3.trans p3)))⟩
  · unfold f_X10_even
    rw [ab_e, z, bd1, if_neg (by decide), y, bd1, if_neg (by decide), p1, bd1, r1, bd1]
    simp only
    rw [evX b1 X3 (fun i hi0 => (r4.2.2 i hi0).2.1) (D := fun i => Classical.propDecidable _)]
    rfl
  · unfold f_X11_even
    rw [ab_m, z, bd1, if_neg (by decide), in_e, y, bd1, if_neg (by decide), m1, bd1, M77, s1, bd1]
    simp only
    rw [evM b1 (by rw [s4.1]; exact q2) (fun i hi0 => (s4.2 i hi0).2.2.2) (D := fun i => Classical.propDecidable _)]
    rfl
  · unfold Tc at y1
    unfold Sc at y2
    rw [s2 y (by omega), m2 y (by unfold Sc; omega), r2 y (by omega) (by omega) (by omega) (by omega), p2 y (by unfold Tc; omega)]

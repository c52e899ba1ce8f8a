theorem bn_e (t : Nat) (a b c d : Int32) (w : Wd) : ∃ W : Wd, f_X4_becomeNew t a b c d w = some W ∧ (∀ y, y ≠ t → W.1 y = w.1 y) ∧ W.2 = w.2 ∧ (W.1 t 0 = a ∧ W.1 t 1 = b ∧ W.1 t 2 = c ∧ W.1 t 3 = d ∧ W.1 t 4 = 4 ∧ W.1 t 5 = 0 ∧ W.1 t 6 = 0 ∧ W.1 t 7 = 200 ∧ W.1 t 8 = 0 ∧ W.1 t 9 = 0 ∧ W.1 t 10 = 0 ∧ W.1 t 11 = 100) := by
  refine ⟨_, rfl, fun y hy => ?_, rfl, ?_⟩
  · rw [si_n hy, si_n hy, si_n hy, si_n hy, si_n hy, si_n hy, si_n hy, si_n hy, si_n hy, si_n hy, si_n hy, si_n hy]
  · simp [si]
theorem add_e {w : Wd} {n r : Nat} {a d : Int32} (hn : n < 12) (hr : r < 4) (h1 : w.1 3 1 = nI n) : ∃ W : Wd, f_X0_add a (nI r) d w = some (nI n, W) ∧ (∀ y, y ≠ 35 + n → y ≠ 19 → y ≠ 3 → W.1 y = w.1 y) ∧ W.2 = w.2 ∧ (W.1 (35 + n) 0 = a ∧ W.1 (35 + n) 1 = nI r ∧ W.1 (35 + n) 2 = w.1 19 r ∧ W.1 (35 + n) 3 = d ∧ W.1 (35 + n) 4 = 4 ∧ W.1 (35 + n) 5 = 0 ∧ W.1 (35 + n) 6 = 0 ∧ W.1 (35 + n) 7 = 200 ∧ W.1 (35 + n) 8 = 0 ∧ W.1 (35 + n) 9 = 0 ∧ W.1 (35 + n) 10 = 0 ∧ W.1 (35 + n) 11 = 100) ∧ (∀ y, W.1 19 y = if y = r then w.1 19 r + 1 else w.1 19 y) ∧ (∀ y, W.1 3 y = if y = 1 then nI (n + 1) else w.1 3 y) := by
  obtain ⟨W, e, q1, q2, q3⟩ := bn_e (35 + n) a (nI r) (w.1 19 r) d w
  have e19 : W.1 19 = w.1 19 := q1 19 (by omega)
  have e3 : W.1 3 = w.1 3 := q1 3 (by omega)
  have x : nI n + 1 = nI (n + 1) := nI_1 n
  refine ⟨si (si W 19 r (W.1 19 r + 1)) 3 1 (nI (n + 1)), ?_, fun y y1 y2 y3 => ?_, q2, ?_, fun y => ?_, fun y => ?_⟩
  · unfold f_X0_add
    rw [h1, gd_in hn (by decide), gd_in hr (by decide), cl_n (by omega), cl_n (by omega), e, bd1, gd_in hr (by decide), gd_in hr (by decide)]
    simp only [lw_e]
    rw [si_n (show (3 : Nat) ≠ 19 by decide), e3, h1, x, si_s, show nI (n + 1) - 1 = nI n from nI_pred n]
  · rw [si_n y3, si_n y2, q1 y y1]
  · rw [si_n (show 35 + n ≠ 3 by omega), si_n (show 35 + n ≠ 19 by omega)]
    exact q3
  · rw [si_n (by decide), si_g, e19]
    simp
  · rw [si_g, si_n (by decide), e3]
    simp
theorem fl64 {w : Wd} {n : Nat} {v1 v2 v3 : Int32} (hn : n < 12) : ∃ W : Wd, lp (f_X11_flat_L64 v1 v2 v3 (nI n)) FU (0, w) = some (nI 11, W) ∧ (∀ y, y ≠ 77 → W.1 y = w.1 y) ∧ W.2 = w.2 ∧ ∀ y, W.1 77 y = if 7 + 11 * n ≤ y ∧ y < 7 + 11 * n + 11 then 0 else w.1 77 y := by
  have H : ∃ r, lp (f_X11_flat_L64 v1 v2 v3 (nI n)) FU (0, w) = some r ∧ (r.1 = nI 11 ∧ (∀ y, y ≠ 77 → r.2.1 y = w.1 y) ∧ r.2.2 = w.2 ∧ ∀ y, r.2.1 77 y = if 7 + 11 * n ≤ y ∧ y < 7 + 11 * n + 11 then 0 else w.1 77 y) := by
    refine lp_n (step := f_X11_flat_L64 v1 v2 v3 (nI n)) (fun i z => z.1 = nI i ∧ (∀ y, y ≠ 77 → z.2.1 y = w.1 y) ∧ z.2.2 = w.2 ∧ ∀ y, z.2.1 77 y = if 7 + 11 * n ≤ y ∧ y < 7 + 11 * n + i then 0 else w.1 77 y) 11 _ (s0 := (0, w)) ⟨rfl, fun _ _ => rfl, rfl, fun y => (if_neg (by omega)).symm⟩ (FU_lt (by decide)) ?_ ?_
    · rintro i ⟨a, W⟩ hi ⟨e1, e2, e3, e4⟩
      simp only at e1 e2 e3 e4
      subst e1
      refine Or.inl ⟨(nI (i + 1), si W 77 (7 + 11 * n + i) 0), ?_, rfl, fun y hy => ?_, e3, fun y => ?_⟩
      · unfold f_X11_flat_L64
        simp only
        rw [if_neg (show ¬ (11 : Int32) ≤ nI i from nle hi (by decide)), ix_e, gd_in (by omega) (by decide), cl_n (by omega), nI_1]
        rfl
      · rw [si_n hy, e2 y hy]
      · rw [si_g, e4]
        by_cases z : y = 7 + 11 * n + i
        · rw [if_pos ⟨rfl, z⟩, if_pos (by omega)]
        · rw [if_neg (fun q => z q.2)]
          by_cases z2 : 7 + 11 * n ≤ y ∧ y < 7 + 11 * n + i
          · rw [if_pos z2, if_pos (by omega)]
          · rw [if_neg z2, if_neg (by omega)]
    · rintro ⟨a, W⟩ ⟨e1, e2, e3, e4⟩
      simp only at e1
      subst e1
      refine ⟨(nI 11, W), ?_, rfl, e2, e3, e4⟩
      unfold f_X11_flat_L64
      simp only
      rw [if_pos (show (11 : Int32) ≤ nI 11 from nle' 11)]
  obtain ⟨⟨a, W⟩, h1, e1, e2, e3, e4⟩ := H
  simp only at e1
  subst e1
  exact ⟨W, h1, e2, e3, e4⟩
def newG (g : Nat → Int32) (n : Nat) (a b c : Int32) (y : Nat) : Int32 := if y = 4 then nI (n + 1) else if y = 7 + 11 * n + 10 then 100 else if y = 7 + 11 * n + 6 then 200 else if y = 7 + 11 * n + 3 then 4 else if y = 7 + 11 * n + 2 then c else if y = 7 + 11 * n + 1 then b else if y = 7 + 11 * n then a else if 7 + 11 * n ≤ y ∧ y < 7 + 11 * n + 11 then 0 else g y
theorem mflat_e {w : Wd} {n : Nat} {a b c : Int32} (hn : n < 12) (h4 : w.1 77 4 = nI n) (ha : f_X10_within a 0 5 = some 1) (hb : f_X10_within b 0 3 = some 1) (hc : f_X10_within c 1 99 = some 1) : ∃ W : Wd, f_X11_flat a b c w = some (nI n, W) ∧ (∀ y, y ≠ 77 → y ≠ 76 → W.1 y = w.1 y) ∧ W.2 = w.2 ∧ (∀ j, W.1 76 j = if j = 30 then 0 else w.1 76 j) ∧ W.1 77 = newG (w.1 77) n a b c := by
  obtain ⟨W, e, q1, q2, q3⟩ := fl64 (w := w) (v1 := a) (v2 := b) (v3 := c) hn
  refine ⟨si (si (si (si (si (si (si (si W 77 (7 + 11 * n) a) 77 (7 + 11 * n + 1) b) 77 (7 + 11 * n + 2) c) 77 (7 + 11 * n + 3) 4) 77 (7 + 11 * n + 6) 200) 77 (7 + 11 * n + 10) 100) 77 4 (nI (n + 1))) 76 30 0, ?_, fun y y1 y2 => ?_, q2, fun j => ?_, ?_⟩
  · unfold f_X11_flat
    rw [in_e, in_e, in_e, ha, hb, hc, bd1, if_neg (by decide), bd1, if_neg (by decide), bd1, if_neg (by decide), h4, if_neg (by
      intro z
      have := (nI_eq (a := n) (b := 12) (by omega) (by decide)).mp z
      omega), e, bd1]
    have i0 : (7 + 11 * nI n) = nI (7 + 11 * n) := ix_0 n
    have i1 : nI (7 + 11 * n) + 1 = nI (7 + 11 * n + 1) := nI_1 _
    have i2 : nI (7 + 11 * n) + 2 = nI (7 + 11 * n + 2) := nI_add _ 2
    have i3 : nI (7 + 11 * n) + 3 = nI (7 + 11 * n + 3) := nI_add _ 3
    have i6 : nI (7 + 11 * n) + 6 = nI (7 + 11 * n + 6) := nI_add _ 6
    have i10 : nI (7 + 11 * n) + 10 = nI (7 + 11 * n + 10) := nI_add _ 10
    rw [i0, i1, i2, i3, i6, i10, cl_n (by omega), cl_n (by omega), cl_n (by omega), cl_n (by omega), cl_n (by omega), cl_n (by omega)]
    simp only [lw_e]
    rw [gd_in (by omega) (by decide), gd_in (by omega) (by decide), gd_in (by omega) (by decide), gd_in (by omega) (by decide), gd_in (by omega) (by decide), gd_in (by omega) (by decide)]
    have e4 : (si (si (si (si (si (si W 77 (7 + 11 * n) a) 77 (7 + 11 * n + 1) b) 77 (7 + 11 * n + 2) c) 77 (7 + 11 * n + 3) 4) 77 (7 + 11 * n + 6) 200) 77 (7 + 11 * n + 10) 100).1 77 4 = nI n := by
      rw [si_o (by omega), si_o (by omega), si_o (by omega), si_o (by omega), si_o (by omega), si_o (by omega), q3, if_neg (by omega), h4]
    rw [e4, nI_1]
  · rw [si_n y2, si_n y1, si_n y1, si_n y1, si_n y1, si_n y1, si_n y1, si_n y1, q1 y y1]
  · rw [si_g, si_n (by decide), si_n (by decide), si_n (by decide), si_n (by decide), si_n (by decide), si_n (by decide), si_n (by decide), q1 76 (by decide)]
    simp
  · funext y
    rw [si_n (by decide)]
    simp only [si_g, q3, true_and]
    rfl
theorem newG_o {g : Nat → Int32} {n : Nat} {a b c : Int32} {y : Nat} (h : y ≠ 4) (h2 : y < 7 + 11 * n ∨ 7 + 11 * n + 11 ≤ y) : newG g n a b c y = g y := by
  unfold newG
  rw [if_neg h, if_neg (by omega), if_neg (by omega), if_neg (by omega), if_neg (by omega), if_neg (by omega), if_neg (by omega), if_neg (by omega)]
theorem newG_n {g : Nat → Int32} {n : Nat} {a b c : Int32} : gx (newG g n a b c) n 0 = a ∧ gx (newG g n a b c) n 1 = b ∧ gx (newG g n a b c) n 2 = c ∧ gx (newG g n a b c) n 3 = 4 ∧ gx (newG g n a b c) n 4 = 0 ∧ gx (newG g n a b c) n 5 = 0 ∧ gx (newG g n a b c) n 6 = 200 ∧ gx (newG g n a b c) n 7 = 0 ∧ gx (newG g n a b c) n 8 = 0 ∧ gx (newG g n a b c) n 9 = 0 ∧ gx (newG g n a b c) n 10 = 100 := by
  unfold gx newG
  refine ⟨?_, ?_, ?_, ?_, ?_, ?_, ?_, ?_, ?_, ?_, ?_⟩
  · rw [if_neg (by omega), if_neg (by omega), if_neg (by omega), if_neg (by omega), if_neg (by omega), if_neg (by omega), if_pos (by omega)]
  · rw [if_neg (by omega), if_neg (by omega), if_neg (by omega), if_neg (by omega), if_neg (by omega), if_pos (by omega)]
  · rw [if_neg (by omega), if_neg (by omega), if_neg (by omega), if_neg (by omega), if_pos (by omega)]
  · rw [if_neg (by omega), if_neg (by omega), if_neg (by omega), if_pos (by omega)]
  · rw [if_neg (by omega), if_neg (by omega), if_neg (by omega), if_neg (by omega), if_neg (by omega), if_neg (by omega), if_neg (by omega), if_pos (by omega)]
  · rw [if_neg (by omega), if_neg (by omega), if_neg (by omega), if_neg (by omega), if_neg (by omega), if_neg (by omega), if_neg (by omega), if_pos (by omega)]
  · rw [if_neg (by omega), if_neg (by omega), if_pos (by omega)]
  · rw [if_neg (by omega), if_neg (by omega), if_neg (by omega), if_neg (by omega), if_neg (by omega), if_neg (by omega), if_neg (by omega), if_pos (by omega)]
  · rw [if_neg (by omega), if_neg (by omega), if_neg (by omega), if_neg (by omega), if_neg (by omega), if_neg (by omega), if_neg (by omega), if_pos (by omega)]
  · rw [if_neg (by omega), if_neg (by omega), if_neg (by omega), if_neg (by omega), if_neg (by omega), if_neg (by omega), if_neg (by omega), if_pos (by omega)]
  · rw [if_neg (by omega), if_pos (by omega)]
theorem op_flat {w : Wd} (h : Inv w) (v1 v2 v3 : Int32) : Op (f_X10_flat v1 v2 v3) (f_X11_flat v1 v2 v3) w := by
  obtain ⟨n, hh, b1, b2, c1, c2, c3, c4, c5, c6, c7, b4, b5, b6⟩ := h.n
  rcases win_01 v1 0 5 with qa | qa
  · refine op_no h (k := 0) (by decide) fc0 ?_ fun v => ?_
    · simp [f_X10_flat, qa, bd_e]
    · simp [f_X11_flat, in_e, qa, bd_e]
  rcases win_01 v2 0 3 with qb | qb
  · refine op_no h (k := 0) (by decide) fc0 ?_ fun v => ?_
    · simp [f_X10_flat, qa, qb, bd_e]
    · simp [f_X11_flat, in_e, qa, qb, bd_e]
  rcases win_01 v3 1 99 with qc | qc
  · refine op_no h (k := 0) (by decide) fc0 ?_ fun v => ?_
    · simp [f_X10_flat, qa, qb, qc, bd_e]
    · simp [f_X11_flat, in_e, qa, qb, qc, bd_e]
  rcases Nat.lt_or_ge n 12 with hn | hn
  · obtain ⟨r, hr, rfl⟩ := nI_rng (v := v2) (a := 3) (by decide) (win_yes qb).1 (win_yes qb).2
    obtain ⟨W, e1, p1, p2, p3, p4, p5⟩ := add_e (a := v1) (d := v3) hn (show r < 4 by omega) c1
    have w77 : W.1 77 = w.1 77 := p1 77 (by omega) (by decide) (by decide)
    have w76 : W.1 76 = w.1 76 := p1 76 (by omega) (by decide) (by decide)
    obtain ⟨V, e2, r1, r2, r3, r4⟩ := mflat_e (w := W) hn (by rw [w77]; exact c2) qa qb qc
    refine ⟨nI n, W, V, ?_, e2, ?_⟩
    · unfold f_X10_flat
      rw [qa, qb, qc, bd1, if_neg (by decide), bd1, if_neg (by decide), bd1, if_neg (by decide), c1, if_pos (show nI n < 12 from nI_lt hn (by decide)), e1]
      rfl
    · rw [w77] at r4
      have hy : ∀ y, y ≠ 35 + n → y ≠ 19 → y ≠ 3 → y ≠ 77 → y ≠ 76 → V.1 y = w.1 y := fun y a b c d e => (r1 y d e).trans (p1 y a b c)
      have hj : ∀ j, j ≠ 30 → V.1 76 j = w.1 76 j := fun j q => by rw [r3, if_neg q, w76]
      have hZ := h.z
      obtain ⟨a, b, c, d, e, f⟩ := h
      obtain ⟨n', hh', cc, ⟨_, _, ⟨t1, _, t3, _⟩, _⟩, hC, hR, -⟩ := d
      have en : n' = n := (nI_eq (by omega) (by omega)).mp (t1.symm.trans c1)
      subst en
      have hg : ∀ i m, i < n' → m ≤ 10 → gx (newG (w.1 77) n' v1 (nI r) v3) i m = gx (w.1 77) i m := fun i m h1 h2 => newG_o (by omega) (by omega)
      have hcn : ∀ q m, m ≤ n' → cnt (newG (w.1 77) n' v1 (nI r) v3) q m = cnt (w.1 77) q m := fun q m hm => cnt_c fun j hj => hg j 1 (by omega) (by decide)
      obtain ⟨g0, g1, g2, g3, g4, g5, g6, g7, g8, g9, g10⟩ := newG_n (g := w.1 77) (n := n') (a := v1) (b := nI r) (c := v3)
      refine ⟨IF_l a (fun y hq => ?_) (hj 4 (by decide)), IT_l b (fun y hq => ?_) (hj 18 (by decide)), IS_l c (fun y hq => ?_) (r2.trans p2), ?_, IK_l e ?_ (hj 2 (by decide)) (fun y hq => ?_), FC_0 (by rw [r3, if_pos rfl])⟩
      · have := (by decide : ∀ y ∈ [16, 79], y ≠ 19 ∧ y ≠ 3 ∧ y ≠ 77 ∧ y ≠ 76 ∧ (y < 35 ∨ 47 ≤ y)) y hq
        exact hy y (by omega) this.1 this.2.1 this.2.2.1 this.2.2.2.1
      · have := (by decide : ∀ y ∈ [7, 23, 92], y ≠ 19 ∧ y ≠ 3 ∧ y ≠ 77 ∧ y ≠ 76 ∧ (y < 35 ∨ 47 ≤ y)) y hq
        exact hy y (by omega) this.1 this.2.1 this.2.2.1 this.2.2.2.1
      · have := (by decide : ∀ y ∈ [74, 75, 100, 101], y ≠ 19 ∧ y ≠ 3 ∧ y ≠ 77 ∧ y ≠ 76 ∧ (y < 35 ∨ 47 ≤ y)) y hq
        exact hy y (by omega) this.1 this.2.1 this.2.2.1 this.2.2.2.1
      · unfold SRm
        have hz : ∀ y, y ∈ [5, 21, 8, 24, 25, 26, 27] → V.1 y = w.1 y := fun y hq => by
          have := (by decide : ∀ y ∈ [5, 21, 8, 24, 25, 26, 27], y ≠ 19 ∧ y ≠ 3 ∧ y ≠ 77 ∧ y ≠ 76 ∧ (y < 35 ∨ 47 ≤ y)) y hq
          exact hy y (by omega) this.1 this.2.1 this.2.2.1 this.2.2.2.1
        have v3 : ∀ y, V.1 3 y = if y = 1 then nI (n' + 1) else w.1 3 y := fun y => by rw [r1 3 (by decide) (by decide)]; exact p5 y
        rw [hz 5 (by decide), hz 21 (by decide), hz 8 (by decide), hz 24 (by decide), hz 25 (by decide), hz 26 (by decide), hz 27 (by decide), r4]
        refine SR_mk (n := n' + 1) (h := hh) (c := cc) ⟨by omega, b2, ⟨?_, rfl, ?_, ?_, ?_, ?_, ?_⟩, ?_, fun i hi => ?_, fun q hq => ?_⟩ (CC_c hC b1 (by omega) (newG_o (by decide) (by omega)) (fun k j h1 h2 => newG_o (by omega) (by omega)) (fun j hj => hg j 1 hj (by decide))) (RI_c hR (newG_o (by decide) (by omega)) fun k hk => newG_o (by omega) (by omega)) (fun j h1 h2 => hy _ (by omega) (by omega) (by omega) (by omega) (by omega)) hZ
        · rw [v3, if_pos rfl]
        · rw [v3, if_neg (by decide)]; exact c3
        · rw [newG_o (by decide) (by omega)]; exact c4
        · rw [v3, if_neg (by decide), newG_o (by decide) (by omega)]; exact c5
        · rw [v3, if_neg (by decide), newG_o (by decide) (by omega)]; exact c6
        · rw [v3, if_neg (by decide), newG_o (by decide) (by omega)]; exact c7
        · rw [newG_o (by decide) (by omega), newG_o (by decide) (by omega), newG_o (by decide) (by omega)]; exact b4
        · rcases Nat.lt_or_ge i n' with hi2 | hi2
          · obtain ⟨s0, s1, s2, s3, s4⟩ := b5 i hi2
            have eF : V.1 (35 + i) = w.1 (35 + i) := hy _ (by omega) (by omega) (by omega) (by omega) (by omega)
            refine ⟨⟨?_, ?_, ?_, fun m m1 m2 => ?_⟩, ?_⟩
            · show V.1 (35 + i) 0 = _
              rw [eF, hg i 0 hi2 (by decide)]; exact s0
            · show V.1 (35 + i) 1 = _
              rw [eF, hg i 1 hi2 (by decide)]; exact s1
            · show V.1 (35 + i) 2 = _
              rw [eF, pl_c (fun j hj => hg j 1 hj (by decide)) hi2]; exact s2
            · show V.1 (35 + i) (m + 1) = _
              rw [eF, hg i m hi2 m2]; exact s3 m m1 m2
            · unfold FlatOk at s4 ⊢
              rw [hg i 0 hi2 (by decide), hg i 1 hi2 (by decide), hg i 2 hi2 (by decide), hg i 3 hi2 (by decide), hg i 4 hi2 (by decide), hg i 5 hi2 (by decide), hg i 6 hi2 (by decide), hg i 7 hi2 (by decide), hg i 8 hi2 (by decide), hg i 10 hi2 (by decide)]
              exact s4
          · have ei : i = n' := by omega
            subst ei
            have eF : V.1 (35 + i) = W.1 (35 + i) := r1 _ (by omega) (by omega)
            obtain ⟨f0, f1, f2, f3, f4, f5, f6, f7, f8, f9, f10, f11⟩ := p3
            refine ⟨⟨?_, ?_, ?_, fun m m1 m2 => ?_⟩, ?_⟩
            · show V.1 (35 + i) 0 = _
              rw [eF, f0, g0]
            · show V.1 (35 + i) 1 = _
              rw [eF, f1, g1]
            · show V.1 (35 + i) 2 = _
              rw [eF, f2, b6 r (by omega)]
              unfold pl
              rw [g1, hcn _ i (Nat.le_refl i)]
            · show V.1 (35 + i) (m + 1) = _
              rw [eF]
              have : m = 2 ∨ m = 3 ∨ m = 4 ∨ m = 5 ∨ m = 6 ∨ m = 7 ∨ m = 8 ∨ m = 9 ∨ m = 10 := by omega
              rcases this with rfl | rfl | rfl | rfl | rfl | rfl | rfl | rfl | rfl
              · rw [f3, g2]
              · rw [f4, g3]
              · rw [f5, g4]
              · rw [f6, g5]
              · rw [f7, g6]
              · rw [f8, g7]
              · rw [f9, g8]
              · rw [f10, g9]
              · rw [f11, g10]
            · unfold FlatOk
              rw [g0, g1, g2, g3, g4, g5, g6, g7, g8, g10]
              refine ⟨win_yes qa, win_yes qb, win_yes qc, by unfold rng; decide, Or.inl rfl, Or.inl rfl, by unfold rng; decide, ?_, ?_, by unfold rng; decide⟩
              · show (0 : Int) ≤ 0 ∧ (0 : Int) ≤ 2400 * hh
                omega
              · show (0 : Int) ≤ 0 ∧ (0 : Int) ≤ 1200 * hh
                omega
        · have e19 : V.1 19 = W.1 19 := r1 19 (by decide) (by decide)
          rw [e19, p4]
          show _ = nI (cnt _ (nI q) n' + (if gx _ n' 1 = nI q then 1 else 0))
          rw [g1, hcn _ n' (Nat.le_refl _)]
          by_cases z : q = r
          · subst z
            rw [if_pos rfl, if_pos rfl, b6 q (by omega), nI_1]
          · rw [if_neg z, if_neg (fun y => z ((nI_eq (by omega) (by omega)).mp y.symm)), b6 q hq]
            rfl
      · rw [hy 0 (by omega) (by decide) (by decide) (by decide) (by decide)]
      · have := (by decide : ∀ y ∈ kIds, y ≠ 19 ∧ y ≠ 3 ∧ y ≠ 77 ∧ y ≠ 76 ∧ (y < 35 ∨ 47 ≤ y)) y hq
        exact hy y (by omega) this.1 this.2.1 this.2.2.1 this.2.2.2.1
  · have en : n = 12 := by omega
    subst en
    refine op_no h (k := 1) (by decide) fc1 ?_ fun v => ?_
    · unfold f_X10_flat
      rw [qa, qb, qc, bd1, if_neg (by decide), bd1, if_neg (by decide), bd1, if_neg (by decide), c1, if_neg (show ¬ nI 12 < 12 by decide)]
      exact bd_e
    · unfold f_X11_flat
      rw [in_e, in_e, in_e, qa, qb, qc, bd1, if_neg (by decide), bd1, if_neg (by decide), bd1, if_neg (by decide), s16 (by decide), c2, if_pos (show nI 12 = 12 by decide)]
      exact bd_e

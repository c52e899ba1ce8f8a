def OpL (fc fr : Wd → Option (Int64 × Wd)) (w : Wd) : Prop := ∃ r w1 w2, fc w = some (r, w1) ∧ fr w1 = some (r, w2) ∧ Inv w2
theorem opL_no {fc fr : Wd → Option (Int64 × Wd)} {w : Wd} {k : Nat} {x : Int32} (h : Inv w) (hk : k < 7) (ex : x = fcode k) (h1 : fc w = (f_X10_finding x w).bind fun o => some (o.1.toInt64, o.2)) (h2 : ∀ v, fr (si w 16 k v) = (f_X11_finds x (si w 16 k v)).bind fun o => some (o.1.toInt64, o.2)) : OpL fc fr w := by
  subst ex
  have a := h2 (w.1 16 k + 1)
  rw [fnd hk w] at h1
  rw [fds hk] at a
  exact ⟨(fcode k).toInt64, _, _, h1, a, refuse h hk⟩
/-- a loop that fills a row of longs with 0 -/
theorem lp_zero {step : Int32 × Wd → Option ((Int32 × Wd) ⊕ (Int32 × Wd))} {w : Wd} {a o n : Nat} (hn : n ≤ 300000) (hs : ∀ i W, i < n → W.1 = w.1 → step (nI i, W) = some (.inl (nI i + 1, sj W a (o + i) 0))) (hx : ∀ W, W.1 = w.1 → step (nI n, W) = some (.inr (nI n, W))) : ∃ W, lp step FU (0, w) = some (nI n, W) ∧ W.1 = w.1 ∧ ∀ x y, W.2 x y = if x = a ∧ o ≤ y ∧ y < o + n then 0 else w.2 x y := by
  have H : ∃ r, lp step FU (0, w) = some r ∧ (r.1 = nI n ∧ r.2.1 = w.1 ∧ ∀ x y, r.2.2 x y = if x = a ∧ o ≤ y ∧ y < o + n then 0 else w.2 x y) := by
    refine lp_n (fun i z => z.1 = nI i ∧ z.2.1 = w.1 ∧ ∀ x y, z.2.2 x y = if x = a ∧ o ≤ y ∧ y < o + i then 0 else w.2 x y) n _ ⟨rfl, rfl, fun x y => (if_neg (by omega)).symm⟩ (FU_lt hn) ?_ ?_
    · rintro i ⟨x0, W⟩ hi0 ⟨e1, e2, e3⟩
      simp only at e1 e2 e3
      subst e1
      refine Or.inl ⟨(nI (i + 1), sj W a (o + i) 0), by rw [hs i W hi0 e2, nI_1], rfl, e2, fun x y => ?_⟩
      rw [sj_g, e3]
      by_cases q : x = a ∧ y = o + i
      · rw [if_pos q, if_pos (by omega)]
      · rw [if_neg q]
        by_cases q2 : x = a ∧ o ≤ y ∧ y < o + i
        · rw [if_pos q2, if_pos (by omega)]
        · rw [if_neg q2, if_neg (by omega)]
    · rintro ⟨x0, W⟩ ⟨e1, e2, e3⟩
      simp only at e1 e2 e3
      subst e1
      exact ⟨(nI n, W), hx W e2, rfl, e2, e3⟩
  obtain ⟨⟨x0, W⟩, h1, e1, e2, e3⟩ := H
  simp only at e1 e2 e3
  subst e1
  exact ⟨W, h1, e2, e3⟩
theorem layX {w : Wd} {s n : Nat} {b : Int32} (hs : s < 4) (hn : n ≤ 40) : ∃ W, f_X6_lay (nI s) b (nI n) w = some W ∧ (∀ y, y ≠ 74 → y ≠ 75 → W.1 y = w.1 y) ∧ (∀ k, W.1 74 k = if k = s then b else w.1 74 k) ∧ (∀ k, W.1 75 k = if k = s then (if b = 0 then nI 0 else nI n) else w.1 75 k) ∧ ∀ x y, W.2 x y = if x = 70 + s ∧ y < (if b = 0 then 0 else n) then 0 else w.2 x y := by
  have key : ∀ m, m ≤ 40 → ∃ W, f_X6_lay_J21 (nI s) (nI s) (nI m) (si w 74 s b) = some W ∧ (∀ y, y ≠ 74 → y ≠ 75 → W.1 y = w.1 y) ∧ (∀ k, W.1 74 k = if k = s then b else w.1 74 k) ∧ (∀ k, W.1 75 k = if k = s then nI m else w.1 75 k) ∧ ∀ x y, W.2 x y = if x = 70 + s ∧ y < m then 0 else w.2 x y := by
    intro m hm
    have e75 : (si (si w 74 s b) 75 s (nI m)).1 75 s = nI m := si_s
    obtain ⟨W, p1, p2, p3⟩ := lp_zero (step := f_X6_lay_L25 (nI s)) (w := si (si w 74 s b) 75 s (nI m)) (a := 70 + s) (o := 0) (n := m) (by omega) (fun i W hi0 e => by
      unfold f_X6_lay_L25
      simp only
      rw [gd_in hs (by decide), cl_n (by omega), e, e75, if_neg (nle hi0 (by omega)), gd_in hs (by decide), gd_in (by omega) (by decide), cl_n (by omega), Nat.zero_add]
      rfl) (fun W e => by
      unfold f_X6_lay_L25
      simp only
      rw [gd_in hs (by decide), cl_n (by omega), e, e75, if_pos (nle' m)])
    refine ⟨W, ?_, fun y y1 y2 => ?_, fun k => ?_, fun k => ?_, fun x y => ?_⟩
    · unfold f_X6_lay_J21
      rw [gd_in hs (by decide), cl_n (by omega), lw_e, p1]
      rfl
    · rw [p2, si_n y2, si_n y1]
    · rw [p2, si_n (by decide), si_g]; simp
    · rw [p2, si_g, si_n (by decide)]; simp
    · rw [p3]
      by_cases q : x = 70 + s ∧ y < m
      · rw [if_pos q, if_pos (by omega)]
      · rw [if_neg q, if_neg (by omega)]; rfl
  unfold f_X6_lay
  rw [gd_in hs (by decide), cl_n (by omega), lw_e]
  by_cases q : b = 0
  · rw [if_pos q]
    simp only [if_pos q]
    exact key 0 (by decide)
  · rw [if_neg q]
    simp only [if_neg q]
    exact key n hn
theorem layM {w : Wd} {s n : Nat} {b : Int32} (hs : s < 4) (hn : n ≤ 40) : ∃ W, f_X11_sheet_J36 (nI s) b (nI n) w = some (if b = 0 then nI 0 else nI n, W) ∧ (∀ y, y ≠ 100 → y ≠ 101 → W.1 y = w.1 y) ∧ (∀ k, W.1 100 k = if k = s then b else w.1 100 k) ∧ (∀ k, W.1 101 k = if k = s then (if b = 0 then nI 0 else nI n) else w.1 101 k) ∧ ∀ x y, W.2 x y = if x = 102 ∧ 40 * s ≤ y ∧ y < 40 * s + 40 then 0 else w.2 x y := by
  have key : ∀ m, m ≤ 40 → ∃ W, f_X11_sheet_J82 (nI s) (nI s) (nI m) (si w 100 s b) = some (nI m, W) ∧ (∀ y, y ≠ 100 → y ≠ 101 → W.1 y = w.1 y) ∧ (∀ k, W.1 100 k = if k = s then b else w.1 100 k) ∧ (∀ k, W.1 101 k = if k = s then nI m else w.1 101 k) ∧ ∀ x y, W.2 x y = if x = 102 ∧ 40 * s ≤ y ∧ y < 40 * s + 40 then 0 else w.2 x y := by
    intro m hm
    obtain ⟨W, p1, p2, p3⟩ := lp_zero (step := f_X11_sheet_L86 (nI s)) (w := si (si w 100 s b) 101 s (nI m)) (a := 102) (o := 40 * s) (n := 40) (by omega) (fun i W hi0 e => by
      unfold f_X11_sheet_L86
      simp only
      rw [if_neg (show ¬ (40 : Int32) ≤ nI i from nle (n := 40) hi0 (by decide)), ix40, gd_in (by omega) (by decide), cl_n (by omega)]
      rfl) (fun W e => by
      unfold f_X11_sheet_L86
      simp only
      rw [if_pos (show (40 : Int32) ≤ nI 40 from nle' 40)])
    refine ⟨W, ?_, fun y y1 y2 => ?_, fun k => ?_, fun k => ?_, fun x y => ?_⟩
    · unfold f_X11_sheet_J82
      rw [gd_in hs (by decide), cl_n (by omega), lw_e, p1, bd1, gd_in hs (by decide)]
      simp only
      rw [p2, si_s]
    · rw [p2, si_n y2, si_n y1]
    · rw [p2, si_n (by decide), si_g]; simp
    · rw [p2, si_g, si_n (by decide)]; simp
    · rw [p3]
      rfl
  unfold f_X11_sheet_J36
  rw [if_pos (nI_pos' (by omega)), if_pos (show nI n ≤ (40 : Int32) from nI_le (b := 40) hn (by decide)), gd_in hs (by decide), cl_n (by omega), lw_e]
  by_cases q : b = 0
  · rw [if_pos q]
    simp only [if_pos q]
    exact key 0 (by decide)
  · rw [if_neg q]
    simp only [if_neg q]
    exact key n hn
theorem op_sheet {w : Wd} (h : Inv w) (v1 v2 v3 : Int32) : Op (f_X10_sheet v1 v2 v3) (f_X11_sheet v1 v2 v3) w := by
  rcases win_01 v1 0 3 with q | q
  · refine op_no h (k := 0) (by decide) fc0 ?_ fun v => ?_
    · simp [f_X10_sheet, sh_e, q, bd_e]
    · simp [f_X11_sheet, sh_m, q, bd_e]
  obtain ⟨s, -, hs, rfl⟩ := win_nI q (A := 0) (B := 3) (by decide) (by decide) (by decide)
  have hs4 : s < 4 := by omega
  by_cases hb : v2 = 0 ∨ v2 = 8 ∨ v2 = 16 ∨ v2 = 64
  · have eX : ∀ V, f_X10_sheet (nI s) v2 v3 V = f_X10_sheet_J36 (nI s) v2 v3 V := fun V => by
      rcases hb with e | e | e | e <;> subst e <;> simp [f_X10_sheet, sh_e, q]
    have eM : ∀ V, f_X11_sheet (nI s) v2 v3 V = f_X11_sheet_J36 (nI s) v2 v3 V := fun V => by
      rcases hb with e | e | e | e <;> subst e <;> simp [f_X11_sheet, sh_m, q]
    have z : (0 : Int32).toInt = 0 := by decide
    have f : (40 : Int32).toInt = 40 := by decide
    by_cases n0 : 0 ≤ v3
    · by_cases n4 : v3 ≤ 40
      · rw [i_le, z] at n0
        rw [i_le, f] at n4
        obtain ⟨n, hn, rfl⟩ := nI_rng (v := v3) (a := 40) (by decide) n0 n4
        obtain ⟨W, p1, p2, p3, p4, p5⟩ := layX (w := w) (b := v2) hs4 hn
        obtain ⟨V, r1, r2, r3, r4, r5⟩ := layM (w := W) (b := v2) hs4 hn
        refine ⟨if v2 = 0 then nI 0 else nI n, W, V, ?_, (eM W).trans r1, Inv_S h (fun y a b c d => (r2 y c d).trans (p2 y a b)) fun k hk => ?_⟩
        · rw [eX]
          unfold f_X10_sheet_J36
          rw [if_pos (nI_pos' (by omega)), if_pos (show nI n ≤ (40 : Int32) from nI_le (b := 40) hn (by decide)), p1, bd1, gd_in hs4 (by decide), cl_n (by omega), p4, if_pos rfl]
        · obtain ⟨j1, j2, zz, j3, j4, j5⟩ := h.2.2.1 k hk
          rw [r2 74 (by decide) (by decide), r2 75 (by decide) (by decide), r3, r4, p3, p4]
          by_cases ek : k = s
          · subst ek
            rw [if_pos rfl, if_pos rfl, if_pos rfl, if_pos rfl]
            refine ⟨rfl, rfl, if v2 = 0 then 0 else n, ?_, ?_, fun i hi0 => ?_⟩
            · by_cases e : v2 = 0
              · rw [if_pos e]; omega
              · rw [if_neg e]; omega
            · by_cases e : v2 = 0
              · rw [if_pos e, if_pos e]
              · rw [if_neg e, if_neg e]
            · have li : i < 40 := by
                by_cases e : v2 = 0
                · rw [if_pos e] at hi0; omega
                · rw [if_neg e] at hi0; omega
              rw [r5, if_neg (by omega), p5, if_pos ⟨rfl, hi0⟩, r5, if_pos (by omega)]
          · rw [if_neg ek, if_neg ek, if_neg ek, if_neg ek, p2 100 (by decide) (by decide), p2 101 (by decide) (by decide)]
            refine ⟨j1, j2, zz, j3, j4, fun i hi0 => ?_⟩
            rw [r5, if_neg (by omega), p5, if_neg (by omega), r5, if_neg (by omega), p5, if_neg (by omega)]
            exact j5 i hi0
      · refine op_no h (k := 0) (by decide) fc0 ?_ fun v => ?_
        · rw [eX]; unfold f_X10_sheet_J36; rw [if_pos n0, if_neg n4]; exact bd_e
        · rw [eM]; unfold f_X11_sheet_J36; rw [if_pos n0, if_neg n4]; exact bd_e
    · refine op_no h (k := 6) (by decide) fc6 ?_ fun v => ?_
      · rw [eX]; unfold f_X10_sheet_J36; rw [if_neg n0]; exact bd_e
      · rw [eM]; unfold f_X11_sheet_J36; rw [if_neg n0]; exact bd_e
  · have a0 : ¬ v2 = 0 := fun e => hb (Or.inl e)
    have a1 : ¬ v2 = 8 := fun e => hb (Or.inr (Or.inl e))
    have a2 : ¬ v2 = 16 := fun e => hb (Or.inr (Or.inr (Or.inl e)))
    have a3 : ¬ v2 = 64 := fun e => hb (Or.inr (Or.inr (Or.inr e)))
    refine op_no h (k := 0) (by decide) fc0 ?_ fun v => ?_
    · simp [f_X10_sheet, sh_e, q, a0, a1, a2, a3, bd_e]
    · simp [f_X11_sheet, sh_m, q, a0, a1, a2, a3, bd_e]
theorem in_z {z : Nat} {v : Int32} (hz : z ≤ 40) (q : f_X10_within v 0 (nI z - 1) = some 1) : ∃ i, i < z ∧ v = nI i := by
  rcases Nat.eq_zero_or_pos z with e | e
  · subst e
    have := win_yes q
    have e1 : (nI 0 - 1 : Int32).toInt = -1 := by decide
    have e0 : (0 : Int32).toInt = 0 := by decide
    omega
  · rw [nI_m1 e] at q
    have := win_yes q
    have e0 : (0 : Int32).toInt = 0 := by decide
    rw [nI_toInt (by omega)] at this
    obtain ⟨i, hi0, ei⟩ := nI_rng (v := v) (a := z - 1) (by omega) (by omega) (by omega)
    exact ⟨i, by omega, ei⟩
theorem op_write {w : Wd} (h : Inv w) (v1 v2 : Int32) (v3 : Int64) : OpL (f_X10_write v1 v2 v3) (f_X11_write v1 v2 v3) w := by
  rcases win_01 v1 0 3 with q | q
  · refine opL_no h (k := 0) (by decide) fc0 ?_ fun v => ?_
    · simp [f_X10_write, sh_e, q]
    · simp [f_X11_write, sh_m, q]
  obtain ⟨s, -, hs, rfl⟩ := win_nI q (A := 0) (B := 3) (by decide) (by decide) (by decide)
  have hs4 : s < 4 := by omega
  obtain ⟨i1, i2, z, hz, i3, i4⟩ := id (h.2.2.1 s hs4)
  by_cases m0 : w.1 74 s = 0
  · refine opL_no h (k := 5) (by decide) fc5 ?_ fun v => ?_
    · unfold f_X10_write f_X6_isMissing
      rw [sh_e, q, bd1, if_neg (by decide), gd_in hs4 (by decide), cl_n (by omega), if_pos m0, bd1, if_neg (by decide)]
    · unfold f_X11_write
      rw [sh_m, q, bd1, if_neg (by decide), gd_in hs4 (by decide), cl_n (by omega), s16 (by decide), ← i1, if_pos m0]
  rcases win_01 v2 0 (nI z - 1) with y | y
  · refine opL_no h (k := 0) (by decide) fc0 ?_ fun v => ?_
    · unfold f_X10_write f_X6_isMissing
      rw [sh_e, q, bd1, if_neg (by decide), gd_in hs4 (by decide), cl_n (by omega), if_neg m0, bd1, if_pos rfl, gd_in hs4 (by decide), i3, y, bd1, if_pos rfl]
    · unfold f_X11_write
      rw [sh_m, q, bd1, if_neg (by decide), gd_in hs4 (by decide), cl_n (by omega), s16 (by decide), ← i1, if_neg m0, gd_in hs4 (by decide), s16 (by decide), ← i2, i3, in_e, y, bd1, if_pos rfl]
  obtain ⟨i, hi0, rfl⟩ := in_z hz y
  have low : ∃ u, f_X10_lowest v3 (w.1 74 s) = some u ∧ f_X11_write (nI s) (nI i) v3 (sj w (70 + s) i u) = some (w.2 102 (40 * s + i), sj (sj w (70 + s) i u) 102 (40 * s + i) u) := by
    have com : ∀ V : Wd, V.1 = w.1 → f_X11_write (nI s) (nI i) v3 V = if w.1 100 s = 8 then some (V.2 102 (40 * s + i), sj V 102 (40 * s + i) v3.toInt32.toInt8.toInt32.toInt64) else if w.1 100 s = 16 then some (V.2 102 (40 * s + i), sj V 102 (40 * s + i) v3.toInt32.toInt16.toInt32.toInt64) else some (V.2 102 (40 * s + i), sj V 102 (40 * s + i) v3) := fun V eV => by
      unfold f_X11_write
      rw [sh_m, q, bd1, if_neg (by decide), gd_in hs4 (by decide), cl_n (by omega), eV, ← i1, if_neg m0, gd_in hs4 (by decide), ← i2, i3, in_e, y, bd1, if_neg (by decide), ix40, gd_in (by omega) (by decide), gd_in hs4 (by decide), cl_n (by omega), gd_in (by omega) (by decide), gd_in hs4 (by decide), gd_in (by omega) (by decide), gd_in (by omega) (by decide)]
      rfl
    have e102 : ∀ u, (sj w (70 + s) i u).2 102 (40 * s + i) = w.2 102 (40 * s + i) := fun u => by rw [sj_n (by omega)]
    unfold f_X10_lowest
    by_cases a8 : w.1 74 s = 8
    · refine ⟨_, by rw [if_pos a8], ?_⟩
      rw [com _ (sj_1 (w := w)), if_pos (by rw [← i1]; exact a8), e102]
    · by_cases a16 : w.1 74 s = 16
      · refine ⟨_, by rw [if_neg a8, if_pos a16], ?_⟩
        rw [com _ (sj_1 (w := w)), if_neg (by rw [← i1]; exact a8), if_pos (by rw [← i1]; exact a16), e102]
      · refine ⟨_, by rw [if_neg a8, if_neg a16], ?_⟩
        rw [com _ (sj_1 (w := w)), if_neg (by rw [← i1]; exact a8), if_neg (by rw [← i1]; exact a16), e102]
  obtain ⟨u, l1, l2⟩ := low
  refine ⟨w.2 102 (40 * s + i), sj w (70 + s) i u, sj (sj w (70 + s) i u) 102 (40 * s + i) u, ?_, l2, Inv_S h (fun _ _ _ _ _ => rfl) fun k hk => ?_⟩
  · unfold f_X10_write f_X6_isMissing
    rw [sh_e, q, bd1, if_neg (by decide), gd_in hs4 (by decide), cl_n (by omega), if_neg m0, bd1, if_pos rfl, gd_in hs4 (by decide), i3, y, bd1, if_neg (by decide), gd_in hs4 (by decide), gd_in (by omega) (by decide), gd_in hs4 (by decide), gd_in hs4 (by decide), l1, bd1, gd_in (by omega) (by decide), cl_n (by omega), i4 i hi0]
    rfl
  · obtain ⟨j1, j2, zz, j3, j4, j5⟩ := h.2.2.1 k hk
    refine ⟨j1, j2, zz, j3, j4, fun x hx => ?_⟩
    rw [sj_n (show 70 + k ≠ 102 by omega), sj_g, sj_g, sj_n (show (102 : Nat) ≠ 70 + s by omega)]
    by_cases e : k = s ∧ x = i
    · rw [if_pos (by omega), if_pos (by omega)]
    · rw [if_neg (by omega), if_neg (by omega)]
      exact j5 x hx

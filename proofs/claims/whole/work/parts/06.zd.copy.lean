theorem partX {w : Wd} {s z : Nat} {a b : Int32} (hs : s < 4) (hz : z ≤ 40) (e : w.1 75 s = nI z) : (f_X6_hasPart (nI s) a b w = some 0 ∧ ¬ (0 ≤ a.toInt ∧ 0 ≤ b.toInt ∧ a.toInt + b.toInt ≤ z)) ∨ (f_X6_hasPart (nI s) a b w = some 1 ∧ (0 ≤ a.toInt ∧ 0 ≤ b.toInt ∧ a.toInt + b.toInt ≤ z)) := by
  have z0 : (0 : Int32).toInt = 0 := by decide
  have hza : (nI z).toInt = z := nI_toInt (by omega)
  have ra := Int32.toInt_lt a
  have rb := Int32.toInt_lt b
  unfold f_X6_hasPart
  rw [gd_in hs (by decide), gd_in hs (by decide), cl_n (by omega), e]
  by_cases q1 : a < 0
  · rw [if_pos q1]; rw [i_lt, z0] at q1; exact Or.inl ⟨rfl, by omega⟩
  · rw [if_neg q1]; rw [i_lt, z0] at q1
    by_cases q2 : b < 0
    · rw [if_pos q2]; rw [i_lt, z0] at q2; exact Or.inl ⟨rfl, by omega⟩
    · rw [if_neg q2]; rw [i_lt, z0] at q2
      by_cases q3 : nI z < a
      · rw [if_pos q3]; rw [i_lt, hza] at q3; exact Or.inl ⟨rfl, by omega⟩
      · rw [if_neg q3]; rw [i_lt, hza] at q3
        have es : (nI z - a).toInt = z - a.toInt := by rw [i_sub (by rw [hza]; omega) (by rw [hza]; omega), hza]
        by_cases q4 : nI z - a < b
        · rw [if_pos q4]; rw [i_lt, es] at q4; exact Or.inl ⟨rfl, by omega⟩
        · rw [if_neg q4]; rw [i_lt, es] at q4; exact Or.inr ⟨rfl, by omega⟩
theorem partM {w : Wd} {s z : Nat} {a b : Int32} (hs : s < 4) (hz : z ≤ 40) (e : w.1 101 s = nI z) : (f_X11_has (nI s) a b w = some 0 ∧ ¬ (0 ≤ a.toInt ∧ 0 ≤ b.toInt ∧ a.toInt + b.toInt ≤ z)) ∨ (f_X11_has (nI s) a b w = some 1 ∧ (0 ≤ a.toInt ∧ 0 ≤ b.toInt ∧ a.toInt + b.toInt ≤ z)) := by
  have z0 : (0 : Int32).toInt = 0 := by decide
  have hza : (nI z).toInt = z := nI_toInt (by omega)
  have ra := Int32.toInt_lt a
  have rb := Int32.toInt_lt b
  unfold f_X11_has
  rw [gd_in hs (by decide), cl_n (by omega), e]
  by_cases q1 : a < 0
  · rw [if_pos q1]; rw [i_lt, z0] at q1; exact Or.inl ⟨rfl, by omega⟩
  · rw [if_neg q1]; rw [i_lt, z0] at q1
    by_cases q2 : b < 0
    · rw [if_pos q2]; rw [i_lt, z0] at q2; exact Or.inl ⟨rfl, by omega⟩
    · rw [if_neg q2]; rw [i_lt, z0] at q2
      have es : (nI z - b).toInt = z - b.toInt := by rw [i_sub (by rw [hza]; omega) (by rw [hza]; omega), hza]
      by_cases q4 : nI z - b < a
      · rw [if_pos q4]; rw [i_lt, es] at q4; exact Or.inl ⟨rfl, by omega⟩
      · rw [if_neg q4]; rw [i_lt, es] at q4; exact Or.inr ⟨rfl, by omega⟩
/-- a loop that writes a row of longs out of another -/
theorem lp_long {step : Int32 × Wd → Option ((Int32 × Wd) ⊕ (Int32 × Wd))} {w : Wd} {a o n : Nat} {v : Nat → Int64} (hn : n ≤ 300000) (hs : ∀ i W, i < n → W.1 = w.1 → (∀ x, x ≠ a → W.2 x = w.2 x) → step (nI i, W) = some (.inl (nI i + 1, sj W a (o + i) (v i)))) (hx : ∀ W, W.1 = w.1 → step (nI n, W) = some (.inr (nI n, W))) : ∃ W, lp step FU (0, w) = some (nI n, W) ∧ W.1 = w.1 ∧ (∀ x, x ≠ a → W.2 x = w.2 x) ∧ ∀ y, W.2 a y = if o ≤ y ∧ y < o + n then v (y - o) else w.2 a y := by
  have H : ∃ r, lp step FU (0, w) = some r ∧ (r.1 = nI n ∧ r.2.1 = w.1 ∧ (∀ x, x ≠ a → r.2.2 x = w.2 x) ∧ ∀ y, r.2.2 a y = if o ≤ y ∧ y < o + n then v (y - o) else w.2 a y) := by
    refine lp_n (fun i z => z.1 = nI i ∧ z.2.1 = w.1 ∧ (∀ x, x ≠ a → z.2.2 x = w.2 x) ∧ ∀ y, z.2.2 a y = if o ≤ y ∧ y < o + i then v (y - o) else w.2 a y) n _ ⟨rfl, rfl, fun _ _ => rfl, fun y => (if_neg (by omega)).symm⟩ (FU_lt hn) ?_ ?_
    · rintro i ⟨x0, W⟩ hi0 ⟨e1, e2, e3, e4⟩
      simp only at e1 e2 e3 e4
      subst e1
      refine Or.inl ⟨(nI (i + 1), sj W a (o + i) (v i)), by rw [hs i W hi0 e2 e3, nI_1], rfl, e2, fun x hx => ?_, fun y => ?_⟩
      · rw [sj_n hx, e3 x hx]
      · rw [sj_g, e4]
        by_cases q : y = o + i
        · rw [if_pos ⟨rfl, q⟩, if_pos (by omega), q]
          congr 1
          omega
        · rw [if_neg (fun z => q z.2)]
          by_cases q2 : o ≤ y ∧ y < o + i
          · rw [if_pos q2, if_pos (by omega)]
          · rw [if_neg q2, if_neg (by omega)]
    · rintro ⟨x0, W⟩ ⟨e1, e2, e3, e4⟩
      simp only at e1 e2 e3 e4
      subst e1
      exact ⟨(nI n, W), hx W e2, rfl, e2, e3, e4⟩
  obtain ⟨⟨x0, W⟩, h1, e1, e2, e3, e4⟩ := H
  simp only at e1 e2 e3 e4
  subst e1
  exact ⟨W, h1, e2, e3, e4⟩
theorem op_copy {w : Wd} (h : Inv w) (v1 v2 v3 v4 v5 : Int32) : Op (f_X10_copy v1 v2 v3 v4 v5) (f_X11_copy v1 v2 v3 v4 v5) w := by
  rcases win_01 v1 0 3 with q | q
  · refine op_no h (k := 0) (by decide) fc0 ?_ fun v => ?_
    · simp [f_X10_copy, sh_e, q, bd_e]
    · simp [f_X11_copy, sh_m, q, bd_e]
  rcases win_01 v3 0 3 with q' | q'
  · refine op_no h (k := 0) (by decide) fc0 ?_ fun v => ?_
    · simp [f_X10_copy, sh_e, q, q', bd_e]
    · simp [f_X11_copy, sh_m, q, q', bd_e]
  obtain ⟨s, -, hs, rfl⟩ := win_nI q (A := 0) (B := 3) (by decide) (by decide) (by decide)
  obtain ⟨t, -, ht, rfl⟩ := win_nI q' (A := 0) (B := 3) (by decide) (by decide) (by decide)
  have hs4 : s < 4 := by omega
  have ht4 : t < 4 := by omega
  obtain ⟨i1, i2, z, hz, i3, i4⟩ := id (h.2.2.1 s hs4)
  obtain ⟨k1, k2, y, hy, k3, k4⟩ := id (h.2.2.1 t ht4)
  have EX : ∀ V : Wd, V.1 = w.1 → f_X10_copy (nI s) v2 (nI t) v4 v5 V = if w.1 74 s = 0 then f_X10_finding (-1000000006) V else if w.1 74 t = 0 then f_X10_finding (-1000000006) V else if w.1 74 s = w.1 74 t then (f_X6_hasPart (nI s) v2 v5 V).bind (fun o20 => if o20 = 0 then f_X10_finding (-1000000001) V else (f_X6_hasPart (nI t) v4 v5 V).bind fun o25 => if o25 = 0 then f_X10_finding (-1000000001) V else gd (cpB v2 v4 v5 40 40) (some (v5, sc V (70 + s) v2.toNatClampNeg (70 + t) v4.toNatClampNeg v5.toNatClampNeg))) else f_X10_finding (-1000000003) V := fun V eV => by
    unfold f_X10_copy f_X6_isMissing
    rw [sh_e, q, bd1, if_neg (by decide), sh_e, q', bd1, if_neg (by decide), gd_in hs4 (by decide), cl_n (by omega), gd_in ht4 (by decide), cl_n (by omega), eV]
    by_cases a : w.1 74 s = 0
    · rw [if_pos a, if_pos a, bd1, if_neg (by decide)]; exact bd_e
    · rw [if_neg a, if_neg a, bd1, if_pos rfl]
      by_cases b : w.1 74 t = 0
      · rw [if_pos b, if_pos b, bd1, if_neg (by decide)]; exact bd_e
      · rw [if_neg b, if_neg b, bd1, if_pos rfl, gd_in hs4 (by decide), gd_in ht4 (by decide)]
        by_cases c : w.1 74 s = w.1 74 t
        · rw [if_pos c, if_pos c]
          congr 1
          funext o
          by_cases d : o = 0
          · rw [if_pos d, if_pos d]; exact bd_e
          · rw [if_neg d, if_neg d]
            congr 1
            funext o2
            by_cases d2 : o2 = 0
            · rw [if_pos d2, if_pos d2]; exact bd_e
            · rw [if_neg d2, if_neg d2, gd_in hs4 (by decide), gd_in ht4 (by decide)]; rfl
        · rw [if_neg c, if_neg c]; exact bd_e
  have EM : ∀ V : Wd, V.1 100 = w.1 100 → f_X11_copy (nI s) v2 (nI t) v4 v5 V = if w.1 74 s = 0 then f_X11_finds (-1000000006) V else if w.1 74 t = 0 then f_X11_finds (-1000000006) V else if w.1 74 s = w.1 74 t then (f_X11_has (nI s) v2 v5 V).bind (fun o20 => if o20 = 0 then f_X11_finds (-1000000001) V else (f_X11_has (nI t) v4 v5 V).bind fun o25 => if o25 = 0 then f_X11_finds (-1000000001) V else (lp (f_X11_copy_L102 (nI s) v2 (nI t) v4 v5) FU (0, V)).bind fun o30 => (lp (f_X11_copy_L139 (nI t) v4 v5) FU (0, o30.2)).bind fun o36 => some (v5, o36.2)) else f_X11_finds (-1000000003) V := fun V eV => by
    unfold f_X11_copy
    rw [sh_m, q, bd1, if_neg (by decide), sh_m, q', bd1, if_neg (by decide), gd_in hs4 (by decide), cl_n (by omega), cl_n (by omega), eV, ← i1, ← k1]
    by_cases a : w.1 74 s = 0
    · rw [if_pos a, if_pos a]; exact bd_e
    · rw [if_neg a, if_neg a, gd_in ht4 (by decide)]
      by_cases b : w.1 74 t = 0
      · rw [if_pos b, if_pos b]; exact bd_e
      · rw [if_neg b, if_neg b, gd_in hs4 (by decide), gd_in ht4 (by decide)]
        by_cases c : w.1 74 s = w.1 74 t
        · rw [if_pos c, if_pos c]
          simp only [bd_e]
        · rw [if_neg c, if_neg c]; exact bd_e
  by_cases a : w.1 74 s = 0
  · refine op_no h (k := 5) (by decide) fc5 ?_ fun v => ?_
    · rw [EX w rfl, if_pos a]
    · rw [EM _ (s16 (by decide)), if_pos a]
  by_cases b : w.1 74 t = 0
  · refine op_no h (k := 5) (by decide) fc5 ?_ fun v => ?_
    · rw [EX w rfl, if_neg a, if_pos b]
    · rw [EM _ (s16 (by decide)), if_neg a, if_pos b]
  by_cases c : w.1 74 s = w.1 74 t
  · have e101 : ∀ v : Int32, (si w 16 0 v).1 101 s = nI z := fun v => by rw [s16 (by decide), ← i2]; exact i3
    have e101t : ∀ v : Int32, (si w 16 0 v).1 101 t = nI y := fun v => by rw [s16 (by decide), ← k2]; exact k3
    rcases partX (w := w) (a := v2) (b := v5) hs4 hz i3 with ⟨x1, x2⟩ | ⟨x1, x2⟩
    · refine op_no h (k := 0) (by decide) fc0 ?_ fun v => ?_
      · rw [EX w rfl, if_neg a, if_neg b, if_pos c, x1, bd1, if_pos rfl]
      · rcases partM (w := si w 16 0 v) (a := v2) (b := v5) hs4 hz (e101 v) with ⟨m1, -⟩ | ⟨-, m2⟩
        · rw [EM _ (s16 (by decide)), if_neg a, if_neg b, if_pos c, m1, bd1, if_pos rfl]
        · exact absurd m2 x2
    rcases partX (w := w) (a := v4) (b := v5) ht4 hy k3 with ⟨x3, x4⟩ | ⟨x3, x4⟩
    · refine op_no h (k := 0) (by decide) fc0 ?_ fun v => ?_
      · rw [EX w rfl, if_neg a, if_neg b, if_pos c, x1, bd1, if_neg (by decide), x3, bd1, if_pos rfl]
      · rcases partM (w := si w 16 0 v) (a := v2) (b := v5) hs4 hz (e101 v) with ⟨-, m2⟩ | ⟨m1, -⟩
        · exact absurd x2 m2
        · rcases partM (w := si w 16 0 v) (a := v4) (b := v5) ht4 hy (e101t v) with ⟨n1, -⟩ | ⟨-, n2⟩
          · rw [EM _ (s16 (by decide)), if_neg a, if_neg b, if_pos c, m1, bd1, if_neg (by decide), n1, bd1, if_pos rfl]
          · exact absurd n2 x4
    obtain ⟨fr, hfr, rfl⟩ := nI_rng (v := v2) (a := 40) (by decide) (by omega) (by omega)
    obtain ⟨to, hto, rfl⟩ := nI_rng (v := v4) (a := 40) (by decide) (by omega) (by omega)
    obtain ⟨m, hm, rfl⟩ := nI_rng (v := v5) (a := 40) (by decide) (by omega) (by omega)
    rw [nI_toInt (by omega), nI_toInt (by omega)] at x2 x4
    have cp : ∀ x : Option (Int32 × Wd), gd (cpB (nI fr) (nI to) (nI m) 40 40) x = x := fun x => gd_t (decide_eq_true ⟨nI_pos (by omega), nI_pos (by omega), nI_pos (by omega), by rw [cl_n (by omega), cl_n (by omega)]; omega, by rw [cl_n (by omega), cl_n (by omega)]; omega⟩)
    have cX : f_X10_copy (nI s) (nI fr) (nI t) (nI to) (nI m) w = some (nI m, sc w (70 + s) fr (70 + t) to m) := by
      rw [EX w rfl, if_neg a, if_neg b, if_pos c, x1, bd1, if_neg (by decide), x3, bd1, if_neg (by decide), cp, cl_n (by omega), cl_n (by omega), cl_n (by omega)]
    have ix3 : ∀ u f i : Nat, 40 * nI u + nI f + nI i = nI (40 * u + f + i) := fun u f i => by rw [ix40, nI_add]
    have W102 : (sc w (70 + s) fr (70 + t) to m).2 102 = w.2 102 := funext fun y => by
      show (if 102 = 70 + t then _ else _) = _
      rw [if_neg (by omega)]
    obtain ⟨A, a1, a2, a3, a4⟩ := lp_long (step := f_X11_copy_L102 (nI s) (nI fr) (nI t) (nI to) (nI m)) (w := sc w (70 + s) fr (70 + t) to m) (a := 103) (o := 0) (n := m) (v := fun i => w.2 102 (40 * s + fr + i)) (by omega) (fun i W hi0 e e3 => by
      unfold f_X11_copy_L102
      simp only
      rw [if_neg (nle hi0 (by omega)), ix3, gd_in (by omega) (by decide), gd_in (by omega) (by decide), cl_n (by omega), cl_n (by omega), e3 102 (by decide), W102, Nat.zero_add]
      rfl) (fun W e => by
      unfold f_X11_copy_L102
      simp only
      rw [if_pos (nle' m)])
    obtain ⟨B, b1, b2, b3, b4⟩ := lp_long (step := f_X11_copy_L139 (nI t) (nI to) (nI m)) (w := A) (a := 102) (o := 40 * t + to) (n := m) (v := fun i => A.2 103 i) (by omega) (fun i W hi0 e e3 => by
      unfold f_X11_copy_L139
      simp only
      rw [if_neg (nle hi0 (by omega)), ix3, gd_in (by omega) (by decide), gd_in (by omega) (by decide), cl_n (by omega), cl_n (by omega), e3 103 (by decide)]
      rfl) (fun W e => by
      unfold f_X11_copy_L139
      simp only
      rw [if_pos (nle' m)])
    have B1 : B.1 = w.1 := b2.trans a2
    refine ⟨nI m, sc w (70 + s) fr (70 + t) to m, B, cX, ?_, Inv_S h (fun y _ _ _ _ => by rw [B1]) fun k hk => ?_⟩
    · rcases partM (w := sc w (70 + s) fr (70 + t) to m) (a := nI fr) (b := nI m) hs4 hz (by show w.1 101 s = _; rw [← i2]; exact i3) with ⟨-, m2⟩ | ⟨m1, -⟩
      · rw [nI_toInt (by omega), nI_toInt (by omega)] at m2
        exact absurd x2 m2
      · rcases partM (w := sc w (70 + s) fr (70 + t) to m) (a := nI to) (b := nI m) ht4 hy (by show w.1 101 t = _; rw [← k2]; exact k3) with ⟨-, n2⟩ | ⟨n1, -⟩
        · rw [nI_toInt (by omega), nI_toInt (by omega)] at n2
          exact absurd x4 n2
        · rw [EM (sc w (70 + s) fr (70 + t) to m) rfl, if_neg a, if_neg b, if_pos c, m1, bd1, if_neg (by decide), n1, bd1, if_neg (by decide), a1, bd1]
          simp only
          rw [b1]
          rfl
    · obtain ⟨j1, j2, zz, j3, j4, j5⟩ := h.2.2.1 k hk
      rw [B1]
      refine ⟨j1, j2, zz, j3, j4, fun i hi0 => ?_⟩
      have Bk : B.2 (70 + k) i = (sc w (70 + s) fr (70 + t) to m).2 (70 + k) i := by rw [b3 _ (by omega), a3 _ (by omega)]
      have B102 : B.2 102 (40 * k + i) = if 40 * t + to ≤ 40 * k + i ∧ 40 * k + i < 40 * t + to + m then w.2 102 (40 * s + fr + (40 * k + i - (40 * t + to))) else w.2 102 (40 * k + i) := by
        rw [b4]
        by_cases e : 40 * t + to ≤ 40 * k + i ∧ 40 * k + i < 40 * t + to + m
        · rw [if_pos e, if_pos e, a4, if_pos (by omega)]
          rfl
        · rw [if_neg e, if_neg e, a3 102 (by decide), W102]
      rw [Bk, B102]
      show (if 70 + k = 70 + t then va_cpy (w.2 (70 + s)) (w.2 (70 + t)) fr to m i else w.2 (70 + k) i) = _
      by_cases ek : k = t
      · subst ek
        rw [if_pos rfl]
        unfold va_cpy
        by_cases e : to ≤ i ∧ i < to + m
        · rw [if_pos e, if_pos (by omega), i4 _ (by omega), show 40 * s + (fr + (i - to)) = 40 * s + fr + (40 * k + i - (40 * k + to)) by omega]
        · rw [if_neg e, if_neg (by omega)]
          exact j5 i hi0
      · rw [if_neg (by omega), if_neg (by omega)]
        exact j5 i hi0
  · refine op_no h (k := 2) (by decide) fc2 ?_ fun v => ?_
    · rw [EX w rfl, if_neg a, if_neg b, if_neg c]
    · rw [EM _ (s16 (by decide)), if_neg a, if_neg b, if_neg c]

def cG (g : Nat → Int32) (c : Nat) (f s : Int32) (y : Nat) : Int32 := if y = 5 then nI (c + 1) else if y = 139 + 3 * c + 2 then g 0 else if y = 139 + 3 * c + 1 then s else if y = 139 + 3 * c then f else g y
theorem cG_o {g : Nat → Int32} {c y : Nat} {f s : Int32} (h5 : y ≠ 5) (h : y < 139 + 3 * c ∨ 139 + 3 * c + 3 ≤ y) : cG g c f s y = g y := by
  unfold cG
  rw [if_neg h5, if_neg (by omega), if_neg (by omega), if_neg (by omega)]
theorem cG_x {g : Nat → Int32} {c k j : Nat} {f s : Int32} (hk : k < c) (hj : j < 3) : cx (cG g c f s) k j = cx g k j := cG_o (by omega) (by omega)
theorem cG_n {g : Nat → Int32} {c : Nat} {f s : Int32} : cx (cG g c f s) c 0 = f ∧ cx (cG g c f s) c 1 = s ∧ cx (cG g c f s) c 2 = g 0 := by
  unfold cx cG
  refine ⟨?_, ?_, ?_⟩
  · rw [if_neg (by omega), if_neg (by omega), if_neg (by omega), if_pos (by omega)]
  · rw [if_neg (by omega), if_neg (by omega), if_pos (by omega)]
  · rw [if_neg (by omega), if_pos (by omega)]
theorem cG_g {g : Nat → Int32} {c i k : Nat} {f s : Int32} (hi0 : i < 12) (hk : k ≤ 10) : gx (cG g c f s) i k = gx g i k := cG_o (by omega) (by omega)
theorem mergeX {w : Wd} {c a b : Nat} (hc : c ≤ 24) (ha : a < 24) (hb : b < 24) (h4 : w.1 8 4 = nI c) : ∃ W, f_X1_merge (nI a) (nI b) w = some W ∧ (∀ y, y ≠ 27 → W.1 y = w.1 y) ∧ W.2 = w.2 ∧ ∀ k, k < c → W.1 27 k = if w.1 27 k = nI a ∨ w.1 27 k = nI b then nI (min a b) else w.1 27 k := by
  have hm : (if nI b < nI a then nI b else nI a) = nI (min a b) := by
    by_cases q : nI b < nI a
    · have := (nI_ltI (a := b) (b := a) (by omega) (by omega)).mp q
      rw [if_pos q]
      congr 1
      omega
    · have : ¬ b < a := fun z => q ((nI_ltI (a := b) (b := a) (by omega) (by omega)).mpr z)
      rw [if_neg q]
      congr 1
      omega
  have H : ∃ o, lp (f_X1_merge_L9 (nI a) (nI b) (nI (min a b))) FU (0, w) = some o ∧ ((∀ y, y ≠ 27 → o.2.1 y = w.1 y) ∧ o.2.2 = w.2 ∧ ∀ k, k < c → o.2.1 27 k = if w.1 27 k = nI a ∨ w.1 27 k = nI b then nI (min a b) else w.1 27 k) := by
    refine lp_n (fun i z => z.1 = nI i ∧ (∀ y, y ≠ 27 → z.2.1 y = w.1 y) ∧ z.2.2 = w.2 ∧ ∀ k, z.2.1 27 k = if k < i ∧ (w.1 27 k = nI a ∨ w.1 27 k = nI b) then nI (min a b) else w.1 27 k) c _ ⟨rfl, fun _ _ => rfl, rfl, fun k => (if_neg (by omega)).symm⟩ (FU_lt (by omega)) ?_ ?_
    · rintro i ⟨x, U⟩ hi0 ⟨e1, e2, e3, e4⟩
      simp only at e1 e2 e3 e4
      subst e1
      have ui : U.1 27 i = w.1 27 i := by rw [e4, if_neg (by omega)]
      have yes : (w.1 27 i = nI a ∨ w.1 27 i = nI b) → ∃ s', f_X1_merge_J40 (nI a) (nI b) (nI (min a b)) (nI i) U = some (.inl s') ∧ (s'.1 = nI (i + 1) ∧ (∀ y, y ≠ 27 → s'.2.1 y = w.1 y) ∧ s'.2.2 = w.2 ∧ ∀ k, s'.2.1 27 k = if k < i + 1 ∧ (w.1 27 k = nI a ∨ w.1 27 k = nI b) then nI (min a b) else w.1 27 k) := by
        intro hq
        unfold f_X1_merge_J40
        rw [gd_in (by omega) (by decide), lw_e, cl_n (by omega), nI_1]
        refine ⟨_, rfl, rfl, fun y hy => ?_, e3, fun k => ?_⟩
        · show (si _ _ _ _).1 y = _
          rw [si_n hy, e2 y hy]
        · show (si _ _ _ _).1 27 k = _
          rw [si_g, e4]
          by_cases z : k = i
          · rw [if_pos ⟨rfl, z⟩, if_pos ⟨by omega, by rw [z]; exact hq⟩]
          · rw [if_neg (fun y => z y.2)]
            by_cases z2 : k < i ∧ (w.1 27 k = nI a ∨ w.1 27 k = nI b)
            · rw [if_pos z2, if_pos ⟨by omega, z2.2⟩]
            · rw [if_neg z2, if_neg (fun y => z2 ⟨by omega, y.2⟩)]
      unfold f_X1_merge_L9
      simp only
      rw [e2 8 (by decide), h4, if_neg (nle hi0 (by omega)), gd_in (by omega) (by decide), gd_in (by omega) (by decide), cl_n (by omega), ui]
      left
      by_cases q1 : w.1 27 i = nI a
      · rw [if_pos q1]; exact yes (Or.inl q1)
      · rw [if_neg q1]
        by_cases q2 : w.1 27 i = nI b
        · rw [if_pos q2]; exact yes (Or.inr q2)
        · rw [if_neg q2, nI_1]
          refine ⟨_, rfl, rfl, e2, e3, fun k => ?_⟩
          show U.1 27 k = _
          rw [e4]
          by_cases z2 : k < i ∧ (w.1 27 k = nI a ∨ w.1 27 k = nI b)
          · rw [if_pos z2, if_pos ⟨by omega, z2.2⟩]
          · rw [if_neg z2]
            by_cases z : k = i
            · subst z
              rw [if_neg (fun y => by rcases y.2 with y | y; exact q1 y; exact q2 y)]
            · rw [if_neg (fun y => z2 ⟨by omega, y.2⟩)]
    · rintro ⟨x, U⟩ ⟨e1, e2, e3, e4⟩
      simp only at e1 e2 e3 e4
      subst e1
      refine ⟨(nI c, U), ?_, e2, e3, fun k hk => ?_⟩
      · unfold f_X1_merge_L9
        simp only
        rw [e2 8 (by decide), h4, if_pos (nle' c)]
      · show U.1 27 k = _
        rw [e4]
        by_cases z : w.1 27 k = nI a ∨ w.1 27 k = nI b
        · rw [if_pos ⟨hk, z⟩, if_pos z]
        · rw [if_neg (fun y => z y.2), if_neg z]
  obtain ⟨⟨x, U⟩, r1, r2, r3, r4⟩ := H
  refine ⟨U, ?_, r2, r3, r4⟩
  unfold f_X1_merge
  rw [hm, r1]
  rfl
/-- the class takes a complaint in -/
theorem addX {w : Wd} {g : Nat → Int32} {n h c f s : Nat} (hn : n ≤ 12) (hc : c < 24) (hf : f < n) (hs : s = 1 ∨ s = 2) (hok : ∀ i, i < n → FlatOk g h i) (hF : ∀ j, j < n → w.1 (35 + j) 1 = gx g j 1 ∧ w.1 (35 + j) 2 = nI (pl g j)) (hh : rng (g 0) 0 2000) (h33 : w.1 3 3 = g 0) (hC : CC (w.1 8) (w.1 24) (w.1 25) (w.1 26) (w.1 27) g n c) : ∃ W, f_X1_add (nI f) (nI s) w = some (nI c, W) ∧ (∀ y, y ≠ 8 → ¬ (24 ≤ y ∧ y < 28) → W.1 y = w.1 y) ∧ W.2 = w.2 ∧ CC (W.1 8) (W.1 24) (W.1 25) (W.1 26) (W.1 27) (cG g c (nI f) (nI s)) n (c + 1) := by
  obtain ⟨c0, c1, c2, c3, c4⟩ := id hC
  obtain ⟨n0, n1, n2⟩ := cG_n (g := g) (c := c) (f := nI f) (s := nI s)
  have hO : CO (cG g c (nI f) (nI s)) n (c + 1) := fun k hk => by
    rcases Nat.lt_or_ge k c with q | q
    · rw [cG_x q (by decide), cG_x q (by decide), cG_x q (by decide)]
      exact ⟨(c3 k q).2.2.2.1, (c3 k q).2.2.2.2.1, (c3 k q).2.2.2.2.2.1⟩
    · have e : k = c := by omega
      subst e
      rw [n0, n1, n2]
      refine ⟨⟨f, hf, rfl⟩, ?_, hh⟩
      rcases hs with e | e <;> subst e
      · exact Or.inl rfl
      · exact Or.inr rfl
  have hr : ∀ j, j < n → gx (cG g c (nI f) (nI s)) j 1 = gx g j 1 := fun j hj => cG_g (by omega) (by decide)
  have hok' : ∀ i, i < n → FlatOk (cG g c (nI f) (nI s)) h i := fun i hi0 => by
    have := hok i hi0
    unfold FlatOk at this ⊢
    rw [cG_g (by omega) (by decide), cG_g (by omega) (by decide), cG_g (by omega) (by decide), cG_g (by omega) (by decide), cG_g (by omega) (by decide), cG_g (by omega) (by decide), cG_g (by omega) (by decide), cG_g (by omega) (by decide), cG_g (by omega) (by decide), cG_g (by omega) (by decide)]
    exact this
  have hN : ∀ a b, a < c → b < c → (near (cG g c (nI f) (nI s)) a b ↔ near g a b) := fun a b ha hb => near_c hn hr (fun j hj => cG_x ha hj) (fun j hj => cG_x hb hj) (c3 a ha).2.2.2.1 (c3 b hb).2.2.2.1
  have hRe : ∀ k m, Reach g c k m → Reach (cG g c (nI f) (nI s)) (c + 1) k m := fun k m hk X hX => hk X fun a b ha hb q => hX a b (by omega) (by omega) ((hN a b ha hb).mpr q)
  obtain ⟨V, hV⟩ : ∃ V : Wd, V = si (si (si (si (si w 24 c (nI f)) 25 c (nI s)) 26 c (g 0)) 27 c (nI c)) 8 4 (nI (c + 1)) := ⟨_, rfl⟩
  have v24 : ∀ k, V.1 24 k = if k = c then nI f else w.1 24 k := fun k => by rw [hV]; simp [si]
  have v25 : ∀ k, V.1 25 k = if k = c then nI s else w.1 25 k := fun k => by rw [hV]; simp [si]
  have v26 : ∀ k, V.1 26 k = if k = c then g 0 else w.1 26 k := fun k => by rw [hV]; simp [si]
  have v27 : ∀ k, V.1 27 k = if k = c then nI c else w.1 27 k := fun k => by rw [hV]; simp [si]
  have v8 : V.1 8 4 = nI (c + 1) := by rw [hV]; simp [si]
  have vy : ∀ y, y ≠ 8 → ¬ (24 ≤ y ∧ y < 28) → V.1 y = w.1 y := fun y y1 y2 => by rw [hV, si_n y1, si_n (by omega), si_n (by omega), si_n (by omega), si_n (by omega)]
  have vA : ∀ k, k < c + 1 → V.1 24 k = cx (cG g c (nI f) (nI s)) k 0 ∧ V.1 25 k = cx (cG g c (nI f) (nI s)) k 1 ∧ V.1 26 k = cx (cG g c (nI f) (nI s)) k 2 := fun k hk => by
    rw [v24, v25, v26]
    by_cases q : k = c
    · subst q
      rw [if_pos rfl, if_pos rfl, if_pos rfl, n0, n1, n2]
      exact ⟨rfl, rfl, rfl⟩
    · rw [if_neg q, if_neg q, if_neg q, cG_x (by omega) (by decide), cG_x (by omega) (by decide), cG_x (by omega) (by decide)]
      exact ⟨(c3 k (by omega)).1, (c3 k (by omega)).2.1, (c3 k (by omega)).2.2.1⟩
  have H : ∃ o, lp (f_X1_add_L55 (nI c)) FU (0, V) = some o ∧ ((∀ y, y ≠ 27 → o.2.1 y = V.1 y) ∧ o.2.2 = w.2 ∧ Lab (cG g c (nI f) (nI s)) (c + 1) (o.2.1 27) ∧ Clo (cG g c (nI f) (nI s)) (c + 1) (o.2.1 27)) := by
    refine lp_n (fun i z => z.1 = nI i ∧ (∀ y, y ≠ 27 → z.2.1 y = V.1 y) ∧ z.2.2 = w.2 ∧ Lab (cG g c (nI f) (nI s)) (c + 1) (z.2.1 27) ∧ (∀ a b, a < c → b < c → near g a b → z.2.1 27 a = z.2.1 27 b) ∧ ∀ j, j < i → near (cG g c (nI f) (nI s)) j c → z.2.1 27 j = z.2.1 27 c) c _ ⟨rfl, fun _ _ => rfl, by rw [hV]; rfl, fun k hk => ?_, fun a b ha hb q => ?_, fun j hj => absurd hj (Nat.not_lt_zero _)⟩ (FU_lt (by omega)) ?_ ?_
    · show ∃ m, m ≤ k ∧ V.1 27 k = nI m ∧ _
      rw [v27]
      by_cases q : k = c
      · rw [if_pos q, q]; exact ⟨c, Nat.le_refl _, rfl, Reach_r⟩
      · rw [if_neg q]
        obtain ⟨m, m1, m2, m3⟩ := (c3 k (by omega)).2.2.2.2.2.2
        exact ⟨m, m1, m2, hRe k m m3⟩
    · show V.1 27 a = V.1 27 b
      rw [v27, v27, if_neg (by omega), if_neg (by omega)]
      exact c4 a b ha hb q
    · rintro i ⟨x, U⟩ hi0 ⟨e1, e2, e3, e4, e5, e6⟩
      simp only at e1 e2 e3 e4 e5 e6
      subst e1
      obtain ⟨N1, N0⟩ := nearX (w := U) (g := cG g c (nI f) (nI s)) (h := h) (a := i) (b := c) hn (show c + 1 ≤ 24 by omega) (by omega) (by omega) hO (fun k hk => by rw [e2 24 (by decide), e2 25 (by decide), e2 26 (by decide)]; exact vA k hk) (fun j hj => by rw [e2 _ (by omega), vy _ (by omega) (by omega), hr j hj, pl_c hr hj]; exact hF j hj) hok'
      unfold f_X1_add_L55
      simp only
      rw [if_neg (nle hi0 (by omega))]
      left
      by_cases nr : near (cG g c (nI f) (nI s)) i c
      · rw [N1 nr, bd1, if_neg (by decide), gd_in (by omega) (by decide), gd_in (by omega) (by decide), cl_n (by omega), cl_n (by omega)]
        obtain ⟨a, a1, a2, a3⟩ := e4 i (by omega)
        obtain ⟨b, b1, b2, b3⟩ := e4 c (by omega)
        obtain ⟨W, m1, m2, m3, m4⟩ := mergeX (w := U) (c := c + 1) (a := a) (b := b) (by omega) (by omega) (by omega) (by rw [e2 8 (by decide)]; exact v8)
        rw [a2, b2, m1, bd1, nI_1]
        have ric : Reach (cG g c (nI f) (nI s)) (c + 1) i c := Reach_n (by omega) (by omega) nr
        have rab : Reach (cG g c (nI f) (nI s)) (c + 1) a b := Reach_t (Reach_s a3) (Reach_t ric b3)
        have cong : ∀ x y, x < c + 1 → y < c + 1 → U.1 27 x = U.1 27 y → W.1 27 x = W.1 27 y := fun x y hx hy e => by rw [m4 x hx, m4 y hy, e]
        refine ⟨_, rfl, rfl, fun y hy => (m2 y hy).trans (e2 y hy), m3.trans e3, fun k hk => ?_, fun x y hx hy q => cong x y (by omega) (by omega) (e5 x y hx hy q), fun j hj q => ?_⟩
        · show ∃ m, m ≤ k ∧ W.1 27 k = nI m ∧ _
          obtain ⟨p, p1, p2, p3⟩ := e4 k hk
          rw [m4 k hk]
          by_cases z : U.1 27 k = nI a ∨ U.1 27 k = nI b
          · rw [if_pos z]
            rw [p2] at z
            have hpz : p = a ∨ p = b := by
              rcases z with z | z
              · exact Or.inl ((nI_eq (by omega) (by omega)).mp z)
              · exact Or.inr ((nI_eq (by omega) (by omega)).mp z)
            refine ⟨min a b, by omega, rfl, ?_⟩
            rcases (by omega : min a b = a ∨ min a b = b) with y | y
            · rw [y]
              rcases hpz with u | u
              · rw [← u]; exact p3
              · rw [u] at p3; exact Reach_t p3 (Reach_s rab)
            · rw [y]
              rcases hpz with u | u
              · rw [u] at p3; exact Reach_t p3 rab
              · rw [← u]; exact p3
          · rw [if_neg z]; exact ⟨p, p1, p2, p3⟩
        · show W.1 27 j = W.1 27 c
          rcases Nat.lt_or_ge j i with z | z
          · exact cong j c (by omega) (by omega) (e6 j z q)
          · have ej : j = i := by omega
            subst ej
            rw [m4 j (by omega), m4 c (by omega), if_pos (Or.inl a2), if_pos (Or.inr b2)]
      · rw [N0 nr, bd1, if_pos rfl, nI_1]
        refine ⟨_, rfl, rfl, e2, e3, e4, e5, fun j hj q => ?_⟩
        rcases Nat.lt_or_ge j i with z | z
        · exact e6 j z q
        · have ej : j = i := by omega
          subst ej
          exact absurd q nr
    · rintro ⟨x, U⟩ ⟨e1, e2, e3, e4, e5, e6⟩
      simp only at e1 e2 e3 e4 e5 e6
      subst e1
      refine ⟨(nI c, U), ?_, e2, e3, e4, fun a b ha hb q => ?_⟩
      · unfold f_X1_add_L55
        simp only
        rw [if_pos (nle' c)]
      · show U.1 27 a = U.1 27 b
        rcases Nat.lt_or_ge a c with za | za
        · rcases Nat.lt_or_ge b c with zb | zb
          · exact e5 a b za zb ((hN a b za zb).mp q)
          · have eb : b = c := by omega
            subst eb
            exact e6 a za q
        · have ea : a = c := by omega
          subst ea
          rcases Nat.lt_or_ge b a with zb | zb
          · exact (e6 b zb (near_sym q)).symm
          · have eb : b = a := by omega
            rw [eb]
  obtain ⟨⟨x, W⟩, r1, r2, r3, r4, r5⟩ := H
  simp only at r2 r3 r4 r5
  refine ⟨W, ?_, fun y y1 y2 => (r2 y (by omega)).trans (vy y y1 y2), r3, by omega, ?_, rfl, fun k hk => ?_, r5⟩
  · unfold f_X1_add
    rw [c1]
    simp only [lw_e]
    rw [gd_in hc (by decide), gd_in hc (by decide), gd_in hc (by decide), gd_in hc (by decide), cl_n (by omega)]
    have s33 : (si (si w 24 c (nI f)) 25 c (nI s)).1 3 3 = g 0 := by rw [si_n (by decide), si_n (by decide)]; exact h33
    have s84 : (si (si (si (si w 24 c (nI f)) 25 c (nI s)) 26 c (g 0)) 27 c (nI c)).1 8 4 = nI c := by rw [si_n (by decide), si_n (by decide), si_n (by decide), si_n (by decide)]; exact c1
    rw [s33, s84, nI_1, ← hV, r1]
    rfl
  · rw [r2 8 (by decide)]; exact v8
  · rw [r2 24 (by decide), r2 25 (by decide), r2 26 (by decide)]
    obtain ⟨x1, x2, x3⟩ := vA k hk
    obtain ⟨o1, o2, o3⟩ := hO k hk
    exact ⟨x1, x2, x3, o1, o2, o3, r4 k hk⟩

section RULE
variable {w0 : Wd} {s : Nat}
theorem ruleL (h18 : w0.1 76 18 = nI s) (hs : s ≤ 80) : ∀ (k : Nat) (a c : Mc) (W : Wd) (F : Nat), Rt (w0.1 92) s k a c → ms (w0.1 92) s c = none → RpM w0 W a → Bn s a → mu s a < F → ∃ W', lp f_X11_rule_L27 F (bz a.1, W) = some (bz c.1, W') ∧ RpM w0 W' c ∧ Bn s c
  | _, _, _, _, 0, _, _, _, _, hF => absurd hF (Nat.not_lt_zero _)
  | 0, (z, p, S, o, E, f), c, W, F + 1, hR, hc, h, hb, _ => by
    have e : (z, p, S, o, E, f) = c := hR
    subst e
    refine ⟨W, ?_, h, hb⟩
    show (f_X11_rule_L27 _).bind _ = _
    unfold f_X11_rule_L27
    simp only
    have h25 : W.1 76 25 = if f = true then 1 else 0 := h.2.2.2.2.2.2.2.1
    have h24 : W.1 76 24 = nI p := h.2.2.2.1
    have e18 : W.1 76 18 = nI s := (h.2.2.1 18 (by decide)).trans h18
    rw [h25, h24, e18]
    cases f with
    | true => rfl
    | false =>
      cases z with
      | true => cases hc
      | false =>
        have hge : s ≤ p := by
          rcases Nat.lt_or_ge p s with x | x
          · rw [ms_B x] at hc
            cases hc
          · exact x
        rw [if_pos (if_neg (by decide)), if_pos (show bz false = 0 from rfl), if_pos (nI_le hge (by have := hb.2; simp only at this; omega))]
        rfl
  | k + 1, (z, p, S, o, E, f), c, W, F + 1, ⟨b, hb1, hR⟩, hc, h, hb, hF => by
    have h25 : W.1 76 25 = if f = true then 1 else 0 := h.2.2.2.2.2.2.2.1
    have h24 : W.1 76 24 = nI p := h.2.2.2.1
    have e18 : W.1 76 18 = nI s := (h.2.2.1 18 (by decide)).trans h18
    cases f with
    | true => cases hb1
    | false =>
      cases z with
      | true =>
        have eb : mA (w0.1 92) s p S o E = b := Option.some.inj hb1
        obtain ⟨W1, l1, l2, l3, l4⟩ := opdX h18 hs h hb.1 hb.2
        rw [eb] at l1 l2 l3 l4
        simp only at l4
        obtain ⟨W', q1, q2, q3⟩ := ruleL h18 hs k b c W1 F hR hc l2 l3 (by omega)
        refine ⟨W', ?_, q2, q3⟩
        show (f_X11_rule_L27 _).bind _ = _
        unfold f_X11_rule_L27 f_X11_rule_J49
        simp only
        rw [h25, if_pos (if_neg (by decide)), if_neg (show ¬ bz true = 0 by decide), if_neg (show ¬ bz true = 0 by decide), l1]
        exact q1
      | false =>
        have hlt : p < s := by
          rcases Nat.lt_or_ge p s with x | x
          · exact x
          · exfalso
            have : ms (w0.1 92) s (false, p, S, o, E, false) = none := by
              show (if s ≤ p then none else _) = _
              rw [if_pos x]
            rw [this] at hb1
            cases hb1
        have eb : mB (w0.1 92 p) p S o E = b := by
          rw [ms_B hlt] at hb1
          exact Option.some.inj hb1
        obtain ⟨W1, l1, l2, l3, l4⟩ := oprX h18 hs h hb.1 hlt
        rw [eb] at l1 l2 l3 l4
        simp only at l4
        obtain ⟨W', q1, q2, q3⟩ := ruleL h18 hs k b c W1 F hR hc l2 l3 (by omega)
        refine ⟨W', ?_, q2, q3⟩
        show (f_X11_rule_L27 _).bind _ = _
        unfold f_X11_rule_L27 f_X11_rule_J49
        simp only
        rw [h25, if_pos (if_neg (by decide)), if_pos (show bz false = 0 from rfl), if_pos (show bz false = 0 from rfl), h24, e18, if_neg (nle hlt (by omega)), l1]
        exact q1
def Fr (w0 W : Wd) : Prop := W.2 = w0.2 ∧ (∀ x, x ≠ 76 → x ≠ 93 → x ≠ 94 → W.1 x = w0.1 x) ∧ (∀ j, j < 20 ∨ j = 21 ∨ 26 ≤ j → W.1 76 j = w0.1 76 j)
theorem Rp.fr {W : Wd} {p : Nat} {S : List Int32} {o : Int32} {E : List Int32} {f : Bool} (h : Rp w0 W p S o E f) : Fr w0 W := ⟨h.1, h.2.1, h.2.2.1⟩
theorem J96_f {W : Wd} {p : Nat} {S : List Int32} {o : Int32} {E : List Int32} (h : Rp w0 W p S o E true) : f_X11_rule_J96 W = some (-1 - nI p, W) := by
  unfold f_X11_rule_J96
  rw [h.2.2.2.2.2.2.2.1, if_neg (show ¬ (if true = true then (1 : Int32) else 0) = 0 by decide), h.2.2.2.1]
theorem bdX (hs : s ≤ 80) {c : Mc} {p : Nat} {V : Wd} (hB : Bd s c p) (h : RpM w0 V c) (hb : Bn s c) : ∃ W, f_X11_rule_J68 V = some (-1 - nI p, W) ∧ Fr w0 W := by
  obtain ⟨z, q, S, o, E, f⟩ := c
  obtain ⟨e, hB⟩ := hB
  simp only at e
  subst e
  unfold f_X11_rule_J68
  have h25 : V.1 76 25 = if f = true then 1 else 0 := h.2.2.2.2.2.2.2.1
  rw [h25]
  rcases hB with hf | ⟨hf, hz, hge, hne⟩
  · simp only at hf
    subst hf
    rw [if_neg (by decide)]
    exact ⟨V, J96_f h, h.fr⟩
  · simp only at hf hz hge hne
    subst hf hz
    have hbb : S.length + E.length ≤ 80 := by have h1 := hb.1; have h2 := hb.2; simp only at h1 h2; omega
    obtain ⟨W1, a1, a2⟩ := rp_stl 1 10100 (Or.inl ⟨rfl, rfl⟩) h hbb
    rw [if_pos (if_neg (by decide)), a1, bd1]
    have sl := stl_len (t := 10100) (S := S) (E := E)
    have hpos : 0 < (stl 10100 S E).1.length := List.length_pos_iff.mpr hne
    rw [show W1.1 76 22 = nI (stl 10100 S E).1.length from a2.2.2.2.2.1, if_neg (show ¬ nI (stl 10100 S E).1.length ≤ 0 from nle (i := 0) hpos (by omega))]
    unfold f_X11_rule_J93
    rw [gd_z (Or.inr rfl)]
    have a3 := rp_f a2 true
    exact ⟨_, J96_f a3, a3.fr⟩
theorem okX (hs : s ≤ 80) {p : Nat} {S : List Int32} {o : Int32} {E : List Int32} {V : Wd} (h : Rp w0 V p S o E false) (hb : S.length + E.length ≤ 80) (he : (stl 10100 S E).1 = []) : ∃ W, f_X11_rule_J68 V = some (0, W) ∧ W.2 = w0.2 ∧ (∀ x, x ≠ 76 → x ≠ 93 → x ≠ 94 → x ≠ 77 → W.1 x = w0.1 x) ∧ (∀ j, j < 18 ∨ j = 19 ∨ j = 21 ∨ 26 ≤ j → W.1 76 j = w0.1 76 j) ∧ W.1 76 18 = 0 ∧ W.1 77 6 = nI (stl 10100 S E).2.length ∧ (∀ y, y < 211 → y ≠ 6 → W.1 77 y = w0.1 77 y) ∧ codes (W.1 77) (stl 10100 S E).2.length = (stl 10100 S E).2 ∧ (stl 10100 S E).2.length ≤ 80 := by
  have sl := stl_len (t := 10100) (S := S) (E := E)
  obtain ⟨W1, a1, a2⟩ := rp_stl 1 10100 (Or.inl ⟨rfl, rfl⟩) h hb
  rw [he] at a2 sl
  generalize (stl 10100 S E).2 = X at *
  simp only [List.length_nil] at sl
  have a3 := rp_f a2 false
  have e22 : W1.1 76 22 = nI 0 := a2.2.2.2.2.1
  obtain ⟨h1, h2, h3, h4, h5, h6, h7, h8, h9, h10⟩ := id a3
  have e0 : (if false = true then (1 : Int32) else 0) = 0 := rfl
  rw [e0] at h1 h2 h3 h4 h5 h6 h7 h8 h9 h10
  have hX : X.length ≤ 80 := by omega
  have H : ∃ r, lp f_X11_rule_L123 FU (0, si (si W1 76 25 0) 77 6 (nI X.length)) = some r ∧ (r.2.2 = w0.2 ∧ (∀ x, x ≠ 77 → r.2.1 x = (si W1 76 25 0).1 x) ∧ (∀ y, y < 211 → r.2.1 77 y = (si (si W1 76 25 0) 77 6 (nI X.length)).1 77 y) ∧ ∀ j, j < X.length → r.2.1 77 (211 + j) = (si W1 76 25 0).1 93 j) := by
    refine lp_n (fun i z => z.1 = nI i ∧ (z.2.2 = w0.2 ∧ (∀ x, x ≠ 77 → z.2.1 x = (si W1 76 25 0).1 x) ∧ (∀ y, y < 211 → z.2.1 77 y = (si (si W1 76 25 0) 77 6 (nI X.length)).1 77 y) ∧ ∀ j, j < i → z.2.1 77 (211 + j) = (si W1 76 25 0).1 93 j)) X.length _ ⟨rfl, h1, fun x hx => si_n hx, fun _ _ => rfl, fun j hj => absurd hj (Nat.not_lt_zero _)⟩ (FU_lt (by omega)) ?_ ?_
    · rintro i ⟨a, V2⟩ hi0 ⟨x1, x2, x3, x4, x5⟩
      simp only at x1 x2 x3 x4 x5
      subst x1
      have e20 : V2.1 76 20 = nI X.length := by rw [x3 76 (by decide)]; exact h7
      refine Or.inl ⟨(nI (i + 1), si V2 77 (211 + i) ((si W1 76 25 0).1 93 i)), ?_, rfl, x2, fun x hx => (si_n hx).trans (x3 x hx), fun y hy => (si_o (by omega)).trans (x4 y hy), fun j hj => ?_⟩
      · unfold f_X11_rule_L123
        simp only
        rw [e20, if_neg (nle hi0 (by omega)), gd_in (by omega) (by decide), show (211 : Int32) + nI i = nI (211 + i) from nI_add 211 i, gd_in (by omega) (by decide), cl_n (by omega), cl_n (by omega), lw_e, nI_1, x3 93 (by decide)]
      · rw [si_g]
        by_cases q : j = i
        · subst q
          rw [if_pos ⟨rfl, rfl⟩]
        · rw [if_neg (fun z => q (by omega))]
          exact x5 j (by omega)
    · rintro ⟨a, V2⟩ ⟨x1, x2, x3, x4, x5⟩
      simp only at x1 x2 x3 x4 x5
      subst x1
      have e20 : V2.1 76 20 = nI X.length := by rw [x3 76 (by decide)]; exact h7
      refine ⟨(nI X.length, V2), ?_, x2, x3, x4, x5⟩
      unfold f_X11_rule_L123
      simp only
      rw [e20, if_pos (nle' _)]
  obtain ⟨⟨i, V2⟩, l1, x2, x3, x4, x5⟩ := H
  simp only at x2 x3 x4 x5
  refine ⟨si V2 76 18 0, ?_, x2, fun x x1 y2 y3 y4 => ?_, fun j hj => ?_, si_s, ?_, fun y y1 y2 => ?_, ?_, hX⟩
  · unfold f_X11_rule_J68
    rw [h.2.2.2.2.2.2.2.1, if_pos (if_neg (by decide)), a1, bd1, e22, if_pos (show nI 0 ≤ 0 by decide)]
    unfold f_X11_rule_J93 f_X11_rule_J96
    rw [gd_z (Or.inl rfl), lw_e, si_s, if_pos rfl, h7, lw_e, l1]
    rfl
  · rw [si_n x1, x3 x y4]
    exact h2 x x1 y2 y3
  · rw [si_o (by omega), x3 76 (by decide)]
    exact h3 j (by omega)
  · rw [si_n (by decide), x4 6 (by decide), si_s]
  · rw [si_n (by decide), x4 y y1, si_o y2]
    rw [h2 77 (by decide) (by decide) (by decide)]
  · rw [si_n (by decide)]
    unfold codes
    refine Eq.trans (List.map_congr_left fun j hj => ?_) h10.symm
    exact x5 j (List.mem_range.mp hj)
theorem refX (h18 : w0.1 76 18 = nI s) (hs : s ≤ 80) : ∃ st : Nat × Bool, (∀ vals, (pS (w0.1 92) s vals 5 0 (0, false)).2 = st) ∧ st.1 ≤ s ∧ ((st ≠ (s, false) ∧ ∃ W, f_X11_rule w0 = some (-1 - nI st.1, W) ∧ Fr w0 W) ∨ (st = (s, false) ∧ ∃ W t, t ≤ 80 ∧ 0 < t ∧ f_X11_rule w0 = some (0, W) ∧ W.2 = w0.2 ∧ (∀ x, x ≠ 76 → x ≠ 93 → x ≠ 94 → x ≠ 77 → W.1 x = w0.1 x) ∧ (∀ j, j < 18 ∨ j = 19 ∨ j = 21 ∨ 26 ≤ j → W.1 76 j = w0.1 76 j) ∧ W.1 76 18 = 0 ∧ W.1 77 6 = nI t ∧ (∀ y, y < 211 → y ≠ 6 → W.1 77 y = w0.1 77 y) ∧ ∀ vals, rrun vals (codes (W.1 77) t) [] = some [(pS (w0.1 92) s vals 5 0 (0, false)).1])) := by
  have r0 : Rp w0 (si (si (si (si (si w0 76 24 0) 76 22 0) 76 23 0) 76 20 0) 76 25 0) 0 [] 0 [] false := by
    refine ⟨rfl, fun x x1 x2 x3 => by rw [si_n x1, si_n x1, si_n x1, si_n x1, si_n x1], fun j hj => by rw [si_o (by omega), si_o (by omega), si_o (by omega), si_o (by omega), si_o (by omega)], ?_, ?_, ?_, ?_, ?_, trivial, rfl⟩
    · rw [si_o (by decide), si_o (by decide), si_o (by decide), si_o (by decide), si_s]; rfl
    · rw [si_o (by decide), si_o (by decide), si_o (by decide), si_s]; rfl
    · rw [si_o (by decide), si_o (by decide), si_s]
    · rw [si_o (by decide), si_s]; rfl
    · rw [si_s]; rfl
  obtain ⟨st, g1, g2, g3, g4⟩ := smN (tb := w0.1 92) hs 5 0 (by decide) (by decide) 0 [] [] (Nat.zero_le _) (fun c S' hc => by cases hc)
  have eR : ∀ c V, lp f_X11_rule_L27 FU (bz true, si (si (si (si (si w0 76 24 0) 76 22 0) 76 23 0) 76 20 0) 76 25 0) = some (c, V) → f_X11_rule w0 = f_X11_rule_J68 V := by
    intro c V e
    unfold f_X11_rule
    simp only [lw_e]
    rw [show (1 : Int32) = bz true from rfl, e, bd1]
  have m0 : mu s (true, 0, [], nI 0, [], false) < FU := by
    show 2 * (s - 0) + 1 + 1 < _
    unfold FU
    omega
  have b0 : Bn s (true, 0, [], nI 0, [], false) := ⟨Nat.le_refl _, Nat.zero_le _⟩
  have bad : ∀ k a', Rt (w0.1 92) s k (true, 0, [], nI 0, [], false) a' → Bd s a' st.1 → ∃ W, f_X11_rule w0 = some (-1 - nI st.1, W) ∧ Fr w0 W := by
    intro k a' hR hB
    have hm : ms (w0.1 92) s a' = none := by
      obtain ⟨z, q, S, o, E, f⟩ := a'
      obtain ⟨e, hB⟩ := hB
      simp only at e
      rcases hB with hf | ⟨hf, hz, hge, -⟩
      · simp only at hf
        subst hf
        rfl
      · simp only at hf hz
        subst hf hz e
        show (if s ≤ _ then none else _) = _
        rw [if_pos hge]
    obtain ⟨V, q1, q2, q3⟩ := ruleL h18 hs k _ a' _ FU hR hm r0 b0 m0
    rw [eR _ V q1]
    exact bdX hs hB q2 q3
  refine ⟨st, g1, g3, ?_⟩
  rcases g4 with ⟨hf, k, a', hR, hB⟩ | ⟨hf, hst, k, ops, X, hR, ho, hL⟩
  · refine Or.inl ⟨fun z => ?_, bad k a' hR hB⟩
    rw [z] at hf
    cases hf
  · obtain ⟨q, f⟩ := st
    simp only at hf g3 hR bad
    subst hf
    rw [List.append_nil, List.nil_append] at hR
    have hsl : stl 10100 ops X = ([], X ++ ops) := by
      have := stl_s (t := 10100) (ops := ops) (S := []) (E := X) ho (fun c S' hc => by cases hc)
      rw [List.append_nil] at this
      exact this
    rcases Nat.lt_or_ge q s with hlt | hge
    · refine Or.inl ⟨fun z => by have := (Prod.mk.inj z).1; omega, ?_⟩
      rw [tkn_f hlt] at hst
      refine bad (k + 1) (false, q, [], nI 0, X ++ ops, true) (Rt_t hR (Rt_1 ?_)) ⟨rfl, Or.inl rfl⟩
      rw [ms_B hlt]
      unfold mB
      rw [hsl, if_neg (fun z => z.elim hst.1 hst.2.1), if_neg (fun z => z.elim hst.2.2.1 hst.2.2.2), if_neg (fun z => absurd (show (-1 : Int32) = 40 from z.2) (by decide)), if_neg (fun z => absurd (show (-1 : Int32) = 58 from z.2) (by decide)), if_neg (fun z => z.elim (fun z => absurd (show (-1 : Int32) = 91 from z.2) (by decide)) (fun z => absurd (show (-1 : Int32) = 63 from z.2) (by decide)))]
    · have e : q = s := by omega
      subst e
      obtain ⟨V, q1, q2, q3⟩ := ruleL h18 hs k _ _ _ FU hR (by
        show (if q ≤ q then none else _) = _
        rw [if_pos (Nat.le_refl q)]) r0 b0 m0
      have hb : ops.length + X.length ≤ 80 := by have h1 := q3.1; simp only at h1; omega
      obtain ⟨W, y1, y2, y3, y4, y5, y6, y7, y8, y9⟩ := okX hs q2 hb (by simp only; rw [hsl])
      rw [hsl] at y6 y8 y9
      simp only at y6 y8 y9
      have hne : 0 < (X ++ ops).length := by
        rcases Nat.eq_zero_or_pos (X ++ ops).length with z | z
        · have zz := List.length_eq_zero_iff.mp z
          have := hL (fun _ => 0) []
          rw [zz] at this
          cases this
        · exact z
      refine Or.inr ⟨rfl, W, (X ++ ops).length, y9, hne, by rw [eR _ V q1]; exact y1, y2, y3, y4, y5, y6, y7, fun vals => ?_⟩
      rw [y8]
      exact hL vals []
end RULE

def sl (f : Nat → Int32) : Nat → Nat
  | 0 => 0
  | m + 1 => sl f m + (f m).toNatClampNeg
theorem sl_c {f f' : Nat → Int32} : ∀ {m : Nat}, (∀ k, k < m → f' k = f k) → sl f' m = sl f m
  | 0, _ => rfl
  | m + 1, h => by
    show sl f' m + (f' m).toNatClampNeg = sl f m + (f m).toNatClampNeg
    rw [sl_c fun k hk => h k (by omega), h m (by omega)]
theorem sl_le {f f' : Nat → Int32} : ∀ {m : Nat}, (∀ k, k < m → (f' k).toNatClampNeg ≤ (f k).toNatClampNeg) → sl f' m ≤ sl f m
  | 0, _ => Nat.le_refl _
  | m + 1, h => by
    have h1 := sl_le (f := f) (f' := f') (m := m) fun k hk => h k (by omega)
    have h2 := h m (by omega)
    show sl f' m + (f' m).toNatClampNeg ≤ sl f m + (f m).toNatClampNeg
    omega
theorem sl_lt {f f' : Nat → Int32} {a : Nat} : ∀ {m : Nat}, (∀ k, k < m → (f' k).toNatClampNeg ≤ (f k).toNatClampNeg) → a < m → (f' a).toNatClampNeg < (f a).toNatClampNeg → sl f' m < sl f m
  | m + 1, h, ha, hl => by
    show sl f' m + (f' m).toNatClampNeg < sl f m + (f m).toNatClampNeg
    rcases Nat.lt_or_ge a m with q | q
    · have h1 := sl_lt (f := f) (f' := f') (m := m) (fun k hk => h k (by omega)) q hl
      have h2 := h m (by omega)
      omega
    · have e : a = m := by omega
      subst e
      have h1 := sl_le (f := f) (f' := f') (m := a) fun k hk => h k (by omega)
      omega
theorem sl_bd {f : Nat → Int32} : ∀ {m : Nat}, m ≤ 24 → (∀ k, k < m → (f k).toNatClampNeg ≤ 24) → sl f m ≤ 24 * m
  | 0, _, _ => Nat.le_refl _
  | m + 1, hm, h => by
    have h1 := sl_bd (f := f) (m := m) (by omega) fun k hk => h k (by omega)
    have h2 := h m (by omega)
    show sl f m + (f m).toNatClampNeg ≤ _
    omega
/-- within a pass that began with W0: nothing found yet among the pairs that D tells, or the labels have sunk -/
def Pas (W0 : Wd) (c : Nat) (D : Nat → Nat → Prop) (m : Int32) (W : Wd) : Prop := (∀ y, y ≠ 99 → W.1 y = W0.1 y) ∧ W.2 = W0.2 ∧ Lab (W0.1 77) c (W.1 99) ∧ ((m = 0 ∧ W.1 99 = W0.1 99 ∧ ∀ x y, D x y → near (W0.1 77) x y → W0.1 99 x = W0.1 99 y) ∨ (m = 1 ∧ sl (W.1 99) c < sl (W0.1 99) c))
theorem pass1 {W0 : Wd} {n h c a : Nat} {D : Nat → Nat → Prop} (hn : n ≤ 12) (hc : c ≤ 24) (ha : a < c) (hO : CO (W0.1 77) n c) (hok : ∀ i, i < n → FlatOk (W0.1 77) h i) {m : Int32} {W : Wd} (hP : Pas W0 c D m W) : ∃ m' b' W', lp (f_X11_findGroups_L47 (nI a)) FU (m, 0, W) = some (m', b', W') ∧ Pas W0 c (fun x y => D x y ∨ (x = a ∧ y < a)) m' W' := by
  have H : ∃ o, lp (f_X11_findGroups_L47 (nI a)) FU (m, 0, W) = some o ∧ Pas W0 c (fun x y => D x y ∨ (x = a ∧ y < a)) o.1 o.2.2 := by
    refine lp_n (fun b z => z.2.1 = nI b ∧ Pas W0 c (fun x y => D x y ∨ (x = a ∧ y < b)) z.1 z.2.2) a _ ⟨rfl, hP.1, hP.2.1, hP.2.2.1, ?_⟩ (FU_lt (by omega)) ?_ ?_
    · rcases hP.2.2.2 with ⟨p1, p2, p3⟩ | p
      · exact Or.inl ⟨p1, p2, fun x y q => p3 x y (by rcases q with q | q; exact q; omega)⟩
      · exact Or.inr p
    · rintro b ⟨m1, x, U⟩ hb ⟨e1, u1, u2, u3, u4⟩
      simp only at e1 u1 u2 u3 u4
      subst e1
      have u77 : U.1 77 = W0.1 77 := u1 77 (by decide)
      obtain ⟨la, la1, la2, la3⟩ := u3 a ha
      obtain ⟨lb, lb1, lb2, lb3⟩ := u3 b (by omega)
      obtain ⟨J1, J0⟩ := joinM (w := U) (a := a) (b := b) hn hc ha (by omega) (by rw [u77]; exact hO) (by rw [u77]; exact hok)
      rw [u77] at J1 J0
      have same : (near (W0.1 77) a b → U.1 99 a = U.1 99 b) → Pas W0 c (fun x y => D x y ∨ (x = a ∧ y < b + 1)) m1 U := fun hs => by
        refine ⟨u1, u2, u3, ?_⟩
        rcases u4 with ⟨p1, p2, p3⟩ | p
        · refine Or.inl ⟨p1, p2, fun x y q hq => ?_⟩
          rcases q with q | ⟨q1, q2⟩
          · exact p3 x y (Or.inl q) hq
          · rcases Nat.lt_or_ge y b with z | z
            · exact p3 x y (Or.inr ⟨q1, z⟩) hq
            · have ey : y = b := by omega
              subst q1 ey
              rw [← p2]
              exact hs hq
        · exact Or.inr p
      unfold f_X11_findGroups_L47
      simp only
      rw [if_neg (nle hb (by omega)), gd_in (by omega) (by decide), gd_in (by omega) (by decide), cl_n (by omega), cl_n (by omega)]
      left
      by_cases q : U.1 99 a = U.1 99 b
      · rw [if_pos q, nI_1]
        exact ⟨_, rfl, rfl, same fun _ => q⟩
      · rw [if_neg q]
        by_cases nr : near (W0.1 77) a b
        · rw [J1 nr, bd1, if_neg (by decide), gd_in (by omega) (by decide), gd_in (by omega) (by decide), gd_in (by omega) (by decide), gd_in (by omega) (by decide)]
          have fin : ∀ l, (l = la ∨ l = lb) → l ≤ la → l ≤ lb → ∃ s', f_X11_findGroups_J106 m1 (nI a) (nI b) (nI l) U = some (.inl s') ∧ (s'.2.1 = nI (b + 1) ∧ Pas W0 c (fun x y => D x y ∨ (x = a ∧ y < b + 1)) s'.1 s'.2.2) := by
            intro l hl hla hlb
            unfold f_X11_findGroups_J106
            rw [gd_in (by omega) (by decide), lw_e, gd_in (by omega) (by decide), lw_e, cl_n (by omega), cl_n (by omega), nI_1]
            have V99 : ∀ k, (si (si U 99 a (nI l)) 99 b (nI l)).1 99 k = if k = a ∨ k = b then nI l else U.1 99 k := fun k => by
              rw [si_g, si_g]
              by_cases z1 : k = b
              · rw [if_pos ⟨rfl, z1⟩, if_pos (Or.inr z1)]
              · rw [if_neg (fun z => z1 z.2)]
                by_cases z2 : k = a
                · rw [if_pos ⟨rfl, z2⟩, if_pos (Or.inl z2)]
                · rw [if_neg (fun z => z2 z.2), if_neg (by omega)]
            have rab : Reach (W0.1 77) c a b := Reach_n ha (by omega) nr
            have ral : Reach (W0.1 77) c a l := by
              rcases hl with e | e
              · rw [e]; exact la3
              · rw [e]; exact Reach_t rab lb3
            have dec : ∀ k, k < c → ((si (si U 99 a (nI l)) 99 b (nI l)).1 99 k).toNatClampNeg ≤ (U.1 99 k).toNatClampNeg := fun k hk => by
              rw [V99]
              by_cases z : k = a ∨ k = b
              · rw [if_pos z, cl_n (by omega)]
                rcases z with z | z
                · subst z; rw [la2, cl_n (by omega)]; exact hla
                · subst z; rw [lb2, cl_n (by omega)]; exact hlb
              · rw [if_neg z]; exact Nat.le_refl _
            have nel : la ≠ lb := fun e => q (by rw [la2, lb2, e])
            have lt : sl ((si (si U 99 a (nI l)) 99 b (nI l)).1 99) c < sl (U.1 99) c := by
              rcases (by omega : l < la ∨ l < lb) with z | z
              · refine sl_lt dec ha ?_
                rw [V99, if_pos (Or.inl rfl), la2, cl_n (by omega), cl_n (by omega)]
                exact z
              · refine sl_lt dec (a := b) (by omega) ?_
                rw [V99, if_pos (Or.inr rfl), lb2, cl_n (by omega), cl_n (by omega)]
                exact z
            refine ⟨_, rfl, rfl, fun y hy => ?_, u2, fun k hk => ?_, Or.inr ⟨rfl, ?_⟩⟩
            · show (si (si U 99 a (nI l)) 99 b (nI l)).1 y = _
              rw [si_n hy, si_n hy, u1 y hy]
            · show ∃ m, m ≤ k ∧ (si (si U 99 a (nI l)) 99 b (nI l)).1 99 k = nI m ∧ _
              rw [V99]
              by_cases z : k = a ∨ k = b
              · rw [if_pos z]
                refine ⟨l, ?_, rfl, ?_⟩
                · rcases z with z | z <;> omega
                · rcases z with z | z
                  · rw [z]; exact ral
                  · rw [z]; exact Reach_t (Reach_s rab) ral
              · rw [if_neg z]; exact u3 k hk
            · rcases u4 with ⟨p1, p2, p3⟩ | ⟨p1, p2⟩
              · rw [← p2]; exact lt
              · exact Nat.lt_trans lt p2
          rw [la2, lb2]
          by_cases le : nI lb ≤ nI la
          · rw [if_pos le]
            have := (nI_leI (a := lb) (b := la) (by omega) (by omega)).mp le
            exact fin lb (Or.inr rfl) this (Nat.le_refl _)
          · rw [if_neg le]
            have : ¬ lb ≤ la := fun z => le ((nI_leI (a := lb) (b := la) (by omega) (by omega)).mpr z)
            exact fin la (Or.inl rfl) (Nat.le_refl _) (by omega)
        · rw [J0 nr, bd1, if_pos rfl, nI_1]
          exact ⟨_, rfl, rfl, same fun z => absurd z nr⟩
    · rintro ⟨m1, x, U⟩ ⟨e1, u⟩
      simp only at e1 u
      subst e1
      refine ⟨(m1, nI a, U), ?_, u⟩
      unfold f_X11_findGroups_L47
      simp only
      rw [if_pos (nle' a)]
  obtain ⟨⟨m', b', W'⟩, h1, h2⟩ := H
  exact ⟨m', b', W', h1, h2⟩
theorem pass2 {W0 : Wd} {n h c : Nat} (hn : n ≤ 12) (hc : c ≤ 24) (h5 : W0.1 77 5 = nI c) (hO : CO (W0.1 77) n c) (hok : ∀ i, i < n → FlatOk (W0.1 77) h i) (hL : Lab (W0.1 77) c (W0.1 99)) : ∃ m' b' W', lp f_X11_findGroups_L35 FU (0, 0, W0) = some (m', b', W') ∧ Pas W0 c (fun x y => x < c ∧ y < x) m' W' := by
  have H : ∃ o, lp f_X11_findGroups_L35 FU (0, 0, W0) = some o ∧ Pas W0 c (fun x y => x < c ∧ y < x) o.1 o.2.2 := by
    refine lp_n (fun a z => z.2.1 = nI a ∧ Pas W0 c (fun x y => x < a ∧ y < x) z.1 z.2.2) c _ ⟨rfl, fun _ _ => rfl, rfl, hL, Or.inl ⟨rfl, rfl, fun x y q => absurd q.1 (Nat.not_lt_zero _)⟩⟩ (FU_lt (by omega)) ?_ ?_
    · rintro a ⟨m1, x, U⟩ ha ⟨e1, u⟩
      simp only at e1 u
      subst e1
      obtain ⟨m', b', W', r1, r2⟩ := pass1 (a := a) hn hc ha hO hok u
      refine Or.inl ⟨(m', nI (a + 1), W'), ?_, rfl, r2.1, r2.2.1, r2.2.2.1, ?_⟩
      · unfold f_X11_findGroups_L35
        simp only
        rw [u.1 77 (by decide), h5, if_neg (nle ha (by omega)), r1, bd1, nI_1]
      · rcases r2.2.2.2 with ⟨p1, p2, p3⟩ | p
        · refine Or.inl ⟨p1, p2, fun x y q => p3 x y ?_⟩
          rcases Nat.lt_or_ge x a with z | z
          · exact Or.inl ⟨z, q.2⟩
          · exact Or.inr ⟨by omega, by omega⟩
        · exact Or.inr p
    · rintro ⟨m1, x, U⟩ ⟨e1, u⟩
      simp only at e1 u
      subst e1
      refine ⟨(m1, nI c, U), ?_, u⟩
      unfold f_X11_findGroups_L35
      simp only
      rw [u.1 77 (by decide), h5, if_pos (nle' c)]
  obtain ⟨⟨m', b', W'⟩, h1, h2⟩ := H
  exact ⟨m', b', W', h1, h2⟩
theorem groupsM {w : Wd} {n h c : Nat} (hn : n ≤ 12) (hc : c ≤ 24) (h5 : w.1 77 5 = nI c) (hO : CO (w.1 77) n c) (hok : ∀ i, i < n → FlatOk (w.1 77) h i) : ∃ W, f_X11_findGroups w = some W ∧ (∀ y, y ≠ 99 → W.1 y = w.1 y) ∧ W.2 = w.2 ∧ Lab (w.1 77) c (W.1 99) ∧ Clo (w.1 77) c (W.1 99) := by
  obtain ⟨U, p1, p2, p3, p4⟩ := lp_fill (step := f_X11_findGroups_L2) (w := w) (a := 99) (n := c) (v := fun k => nI k) (by omega) (fun i V hi0 e1 e2 e3 => by
    unfold f_X11_findGroups_L2
    simp only
    rw [e1 77 (by decide), h5, if_neg (nle hi0 (by omega)), gd_in (by omega) (by decide), cl_n (by omega)]
    rfl) (fun V e1 e2 => by
    unfold f_X11_findGroups_L2
    simp only
    rw [e1 77 (by decide), h5, if_pos (nle' c)])
  have u77 : U.1 77 = w.1 77 := p2 77 (by decide)
  have H : ∃ o, lp f_X11_findGroups_L27 FU (1, U) = some o ∧ ((∀ y, y ≠ 99 → o.2.1 y = w.1 y) ∧ o.2.2 = w.2 ∧ Lab (w.1 77) c (o.2.1 99) ∧ Clo (w.1 77) c (o.2.1 99)) := by
    refine lp_go (fun z => (z.1 = 0 ∨ z.1 = 1) ∧ (∀ y, y ≠ 99 → z.2.1 y = w.1 y) ∧ z.2.2 = w.2 ∧ Lab (w.1 77) c (z.2.1 99) ∧ (z.1 = 0 → Clo (w.1 77) c (z.2.1 99))) (fun z => if z.1 = 0 then 0 else 1 + sl (z.2.1 99) c) _ ?_ FU (1, U) ⟨Or.inr rfl, p2, p3, fun k hk => ⟨k, Nat.le_refl k, by rw [p4, if_pos hk], Reach_r⟩, fun q => absurd q (show ¬ (1 : Int32) = 0 by decide)⟩ ?_
    · rintro ⟨m1, V⟩ ⟨v0, v1, v2, v3, v4⟩
      simp only at v0 v1 v2 v3 v4
      rcases v0 with e | e
      · subst e
        refine Or.inr ⟨(0, V), ?_, v1, v2, v3, v4 rfl⟩
        unfold f_X11_findGroups_L27
        rw [if_pos rfl]
      · subst e
        have v77 : V.1 77 = w.1 77 := v1 77 (by decide)
        obtain ⟨m', b', W', r1, r2, r3, r4, r5⟩ := pass2 (W0 := V) (h := h) hn hc (by rw [v77]; exact h5) (by rw [v77]; exact hO) (by rw [v77]; exact hok) (by rw [v77]; exact v3)
        rw [v77] at r4 r5
        refine Or.inl ⟨(m', W'), ?_, ⟨?_, fun y hy => (r2 y hy).trans (v1 y hy), r3.trans v2, r4, fun q => ?_⟩, ?_⟩
        · unfold f_X11_findGroups_L27
          simp only
          rw [if_neg (by decide), r1]
          rfl
        · rcases r5 with ⟨z, -⟩ | ⟨z, -⟩
          · exact Or.inl z
          · exact Or.inr z
        · rcases r5 with ⟨z, z1, z2⟩ | ⟨z, -⟩
          · intro a b ha hb nr
            show W'.1 99 a = W'.1 99 b
            rw [z1]
            rcases Nat.lt_trichotomy a b with y | y | y
            · exact (z2 b a ⟨hb, y⟩ (near_sym nr)).symm
            · rw [y]
            · exact z2 a b ⟨ha, y⟩ nr
          · simp only at q
            rw [z] at q
            exact absurd q (by decide)
        · simp only
          rw [if_neg (show ¬ (1 : Int32) = 0 by decide)]
          rcases r5 with ⟨z, -⟩ | ⟨z, z1⟩
          · rw [if_pos z]; omega
          · rw [if_neg (by rw [z]; decide)]; omega
    · simp only
      rw [if_neg (show ¬ (1 : Int32) = 0 by decide)]
      have := sl_bd (f := U.1 99) hc fun k hk => by rw [p4, if_pos hk, cl_n (by omega)]; omega
      exact FU_lt (by omega)
  obtain ⟨⟨z, W⟩, r1, r2, r3, r4, r5⟩ := H
  refine ⟨W, ?_, r2, r3, r4, r5⟩
  unfold f_X11_findGroups
  rw [p1, bd1, r1]
  rfl

/-! the reference sets aside: neighbours, open, leaks, warmth, flows -/
theorem ff_hit {α : Type} {P : Nat → Option α} {i : Nat} {x : α} (h1 : ff P i = none) (h2 : P i = some x) : ∀ {n : Nat}, i < n → ff P n = some x
  | n + 1, h => by
    show (ff P n).or (P n) = some x
    rcases Nat.lt_or_ge i n with q | q
    · rw [ff_hit h1 h2 q]; rfl
    · have e : i = n := by omega
      subst e
      rw [h1, h2]
      rfl
theorem ff_no {α : Type} {P : Nat → Option α} {i : Nat} (h1 : ff P i = none) (h2 : P i = none) : ff P (i + 1) = none := by
  show (ff P i).or (P i) = none
  rw [h1, h2]
  rfl
def oI (o : Option Nat) : Int32 := o.elim (-1) nI
def fP (g : Nat → Int32) (r p : Int32) (m : Nat) : Option Nat := if gx g m 1 = r ∧ nI (cnt g r m) = p then some m else none
def nb (g : Nat → Int32) (n : Nat) (r p : Int32) : Int32 := oI (ff (fP g r p) n)
theorem flatAtM {w : Wd} {n : Nat} {r p : Int32} (hn : n ≤ 12) (h4 : w.1 77 4 = nI n) : f_X11_flatAt r p w = some (nb (w.1 77) n r p) := by
  unfold f_X11_flatAt
  have H : ∃ o, lp (f_X11_flatAt_L5 r p w) FU (0, 0) = some o ∧ sm o (fun _ => some (-1)) (fun y => some y) = some (nb (w.1 77) n r p) := by
    refine lp_n (fun i z => z = (nI (cnt (w.1 77) r i), nI i) ∧ ff (fP (w.1 77) r p) i = none) n _ ⟨rfl, rfl⟩ (FU_lt (by omega)) ?_ ?_
    · rintro i z hi0 ⟨rfl, hN⟩
      unfold f_X11_flatAt_L5
      simp only
      rw [h4, if_neg (nle hi0 (by omega)), get_1 (by omega), bd1, nI_1 i]
      by_cases q : gx (w.1 77) i 1 = r
      · rw [if_pos q]
        by_cases q2 : nI (cnt (w.1 77) r i) = p
        · rw [if_pos q2]
          refine Or.inr ⟨_, rfl, ?_⟩
          show some (nI i) = some (oI _)
          rw [ff_hit hN (if_pos ⟨q, q2⟩) hi0]
          rfl
        · rw [if_neg q2]
          refine Or.inl ⟨_, rfl, ?_, ff_no hN (if_neg fun y => q2 y.2)⟩
          rw [cnt_s, if_pos q, nI_1]
      · rw [if_neg q]
        refine Or.inl ⟨_, rfl, ?_, ff_no hN (if_neg fun y => q y.1)⟩
        rw [cnt_s, if_neg q]
        rfl
    · rintro z ⟨rfl, hN⟩
      unfold f_X11_flatAt_L5
      simp only
      rw [h4, if_pos (nle' n)]
      refine ⟨_, rfl, ?_⟩
      show some (-1) = some (oI _)
      rw [hN]
      rfl
  obtain ⟨o, h1, h2⟩ := H
  rw [h1, bd1]
  exact h2
theorem l101 {w : Wd} {n i : Nat} {r : Int32} (hn : n ≤ 12) (hi0 : i < n) (h4 : w.1 77 4 = nI n) (h84 : w.1 84 i = 0) : ∃ z : Int32, lp (f_X11_setsAside_L101 (nI i) r) FU (nI i + 1, w) = some (z, si w 84 i (nI (cnt (w.1 77) r n - cnt (w.1 77) r (i + 1)))) := by
  have H : ∃ o, lp (f_X11_setsAside_L101 (nI i) r) FU (nI i + 1, w) = some o ∧ o.2 = si w 84 i (nI (cnt (w.1 77) r n - cnt (w.1 77) r (i + 1))) := by
    refine lp_n (fun t z => z.1 = nI (i + 1 + t) ∧ z.2 = si w 84 i (nI (cnt (w.1 77) r (i + 1 + t) - cnt (w.1 77) r (i + 1)))) (n - (i + 1)) _ ⟨nI_1 i, ?_⟩ (FU_lt (by omega)) ?_ ?_
    · show w = _
      rw [Nat.add_zero, Nat.sub_self]
      refine Prod.ext (funext fun x => funext fun y => ?_) rfl
      rw [si_g]
      by_cases q : x = 84 ∧ y = i
      · rw [if_pos q, q.1, q.2, h84]; rfl
      · rw [if_neg q]
    · rintro t ⟨a, W⟩ ht ⟨e1, e2⟩
      simp only at e1 e2
      subst e1 e2
      have hm : cnt (w.1 77) r (i + 1) ≤ cnt (w.1 77) r (i + 1 + t) := cnt_mono (by omega)
      unfold f_X11_setsAside_L101
      simp only
      rw [si_n (show (77 : Nat) ≠ 84 by decide), h4, if_neg (nle (by omega) (by omega)), gd_in (by omega) (by decide), get_1 (by omega), bd1, si_n (show (77 : Nat) ≠ 84 by decide), cl_n (by omega), si_s, gd_in (by omega) (by decide), gd_in (by omega) (by decide), nI_1 (i + 1 + t)]
      have hs : ∀ v : Int32, si (si w 84 i (nI (cnt (w.1 77) r (i + 1 + t) - cnt (w.1 77) r (i + 1)))) 84 i v = si w 84 i v := fun v => by
        refine Prod.ext (funext fun x => funext fun y => ?_) rfl
        rw [si_g, si_g, si_g]
        by_cases q : x = 84 ∧ y = i
        · rw [if_pos q, if_pos q]
        · rw [if_neg q, if_neg q, if_neg q]
      by_cases q : gx (w.1 77) (i + 1 + t) 1 = r
      · rw [if_pos q]
        refine Or.inl ⟨_, rfl, rfl, ?_⟩
        show si (si w 84 i _) 84 i _ = _
        rw [hs, nI_1]
        have e : cnt (w.1 77) r (i + 1 + (t + 1)) = cnt (w.1 77) r (i + 1 + t) + 1 := by
          show cnt (w.1 77) r (i + 1 + t) + (if gx (w.1 77) (i + 1 + t) 1 = r then 1 else 0) = _
          rw [if_pos q]
        rw [e]
        congr 2
        omega
      · rw [if_neg q]
        refine Or.inl ⟨_, rfl, rfl, ?_⟩
        show si (si w 84 i _) 84 i _ = _
        rw [hs, Int32.add_zero]
        have e : cnt (w.1 77) r (i + 1 + (t + 1)) = cnt (w.1 77) r (i + 1 + t) := by
          show cnt (w.1 77) r (i + 1 + t) + (if gx (w.1 77) (i + 1 + t) 1 = r then 1 else 0) = _
          rw [if_neg q]
          rfl
        rw [e]
    · rintro ⟨a, W⟩ ⟨e1, e2⟩
      simp only at e1 e2
      have e : i + 1 + (n - (i + 1)) = n := by omega
      rw [e] at e1 e2
      subst e1 e2
      refine ⟨(nI n, si w 84 i (nI (cnt (w.1 77) r n - cnt (w.1 77) r (i + 1)))), ?_, rfl⟩
      unfold f_X11_setsAside_L101
      simp only
      rw [si_n (show (77 : Nat) ≠ 84 by decide), h4, if_pos (nle' n)]
  obtain ⟨⟨z, W⟩, h1, h2⟩ := H
  simp only at h2
  subst h2
  exact ⟨z, h1⟩
def nbA (g : Nat → Int32) (n i : Nat) : Int32 := nb g n (gx g i 1) (nI (pl g i) + 1)
def nbB (g : Nat → Int32) (n i : Nat) : Int32 := if nI (pl g i) = 0 then -1 else nb g n (gx g i 1) (nI (pl g i) - 1)
def nbC (g : Nat → Int32) (n i : Nat) : Int32 := nb g n (gx g i 1 - 1) (nI (pl g i))
def nbD (g : Nat → Int32) (n i : Nat) : Int32 := nb g n (gx g i 1 + 1) (nI (pl g i))
/-- what setsAside lays out, of the flats below m -/
def AS (w W : Wd) (n m : Nat) : Prop := W.2 = w.2 ∧ (∀ y, y < 80 ∨ 87 < y ∨ y = 86 → W.1 y = w.1 y) ∧ ∀ j, j < m → W.1 80 j = nbA (w.1 77) n j ∧ W.1 81 j = nbB (w.1 77) n j ∧ W.1 82 j = nbC (w.1 77) n j ∧ W.1 83 j = nbD (w.1 77) n j ∧ W.1 84 j = nI (hi (w.1 77) n j) ∧ W.1 85 j = gx (w.1 77) j 3 ∧ W.1 87 j = lkf (w.1 77) j
theorem j60 {w W : Wd} {n i : Nat} {b : Int32} (hn : n ≤ 12) (hi0 : i < n) (h4 : w.1 77 4 = nI n) (hA : AS w W n i) (hb : b = nbB (w.1 77) n i) : ∃ V, f_X11_setsAside_J60 (nI i) (nI (pl (w.1 77) i)) (gx (w.1 77) i 1) (nI i) b (si W 80 i (nbA (w.1 77) n i)) = some (.inl (nI (i + 1), V)) ∧ AS w V n (i + 1) := by
  obtain ⟨a1, a2, a3⟩ := hA
  have w77 : W.1 77 = w.1 77 := a2 77 (by omega)
  unfold f_X11_setsAside_J60
  rw [gd_in (by omega) (by decide), cl_n (by omega)]
  simp only [lw_e]
  have h77 : ∀ V : Wd, V.1 77 = w.1 77 → V.1 77 4 = nI n := fun V e => by rw [e]; exact h4
  have e1 : (si (si W 80 i (nbA (w.1 77) n i)) 81 i b).1 77 = w.1 77 := by rw [si_n (by decide), si_n (by decide), w77]
  rw [flatAtM hn (h77 _ e1), e1, bd1, gd_in (by omega) (by decide)]
  have e2 : (si (si (si W 80 i (nbA (w.1 77) n i)) 81 i b) 82 i (nb (w.1 77) n (gx (w.1 77) i 1 - 1) (nI (pl (w.1 77) i)))).1 77 = w.1 77 := by rw [si_n (by decide), e1]
  rw [flatAtM hn (h77 _ e2), e2, bd1, gd_in (by omega) (by decide), gd_in (by omega) (by decide)]
  have e3 : (si (si (si (si (si W 80 i (nbA (w.1 77) n i)) 81 i b) 82 i (nb (w.1 77) n (gx (w.1 77) i 1 - 1) (nI (pl (w.1 77) i)))) 83 i (nb (w.1 77) n (gx (w.1 77) i 1 + 1) (nI (pl (w.1 77) i)))) 84 i 0).1 77 = w.1 77 := by rw [si_n (by decide), si_n (by decide), e2]
  obtain ⟨z, e4⟩ := l101 (w := si (si (si (si (si W 80 i (nbA (w.1 77) n i)) 81 i b) 82 i (nb (w.1 77) n (gx (w.1 77) i 1 - 1) (nI (pl (w.1 77) i)))) 83 i (nb (w.1 77) n (gx (w.1 77) i 1 + 1) (nI (pl (w.1 77) i)))) 84 i 0) (r := gx (w.1 77) i 1) hn hi0 (h77 _ e3) si_s
  rw [e4, bd1, e3]
  simp only
  rw [get_3 (by omega), bd1, gd_in (by omega) (by decide), get_2 (by omega), bd1, leaksM (by omega), bd1, gd_in (by omega) (by decide), nI_1]
  refine ⟨_, rfl, ?_⟩
  have X : ∀ V : Wd, V.1 77 = w.1 77 → gx (V.1 77) i 3 = gx (w.1 77) i 3 ∧ lk (gx (V.1 77) i 0) (gx (V.1 77) i 2) (gx (V.1 77) i 5) = lkf (w.1 77) i := fun V e => by rw [e]; exact ⟨rfl, rfl⟩
  have e5 : (si (si (si (si (si (si W 80 i (nbA (w.1 77) n i)) 81 i b) 82 i (nb (w.1 77) n (gx (w.1 77) i 1 - 1) (nI (pl (w.1 77) i)))) 83 i (nb (w.1 77) n (gx (w.1 77) i 1 + 1) (nI (pl (w.1 77) i)))) 84 i 0) 84 i (nI (cnt (w.1 77) (gx (w.1 77) i 1) n - cnt (w.1 77) (gx (w.1 77) i 1) (i + 1)))).1 77 = w.1 77 := by rw [si_n (by decide), e3]
  rw [e5]
  have e6 : (si (si (si (si (si (si (si W 80 i (nbA (w.1 77) n i)) 81 i b) 82 i (nb (w.1 77) n (gx (w.1 77) i 1 - 1) (nI (pl (w.1 77) i)))) 83 i (nb (w.1 77) n (gx (w.1 77) i 1 + 1) (nI (pl (w.1 77) i)))) 84 i 0) 84 i (nI (cnt (w.1 77) (gx (w.1 77) i 1) n - cnt (w.1 77) (gx (w.1 77) i 1) (i + 1)))) 85 i (gx (w.1 77) i 3)).1 77 = w.1 77 := by rw [si_n (by decide), e5]
  rw [e6]
  refine ⟨a1, fun y hy => ?_, fun j hj => ?_⟩
  · rw [si_n (by omega), si_n (by omega), si_n (by omega), si_n (by omega), si_n (by omega), si_n (by omega), si_n (by omega), si_n (by omega), a2 y hy]
  · simp only [si_g]
    by_cases q : j = i
    · subst q
      subst hb
      simp
      exact ⟨rfl, rfl, rfl, rfl⟩
    · simp [q]
      exact a3 j (by omega)
theorem l2aside {w : Wd} {n : Nat} (hn : n ≤ 12) (h4 : w.1 77 4 = nI n) : ∃ (z : Int32) (W : Wd), lp f_X11_setsAside_L2 FU (0, w) = some (z, W) ∧ AS w W n n := by
  have H : ∃ o, lp f_X11_setsAside_L2 FU (0, w) = some o ∧ AS w o.2 n n := by
    refine lp_n (fun i z => z.1 = nI i ∧ AS w z.2 n i) n _ ⟨rfl, rfl, fun _ _ => rfl, fun j hj => absurd hj (Nat.not_lt_zero _)⟩ (FU_lt (by omega)) ?_ ?_
    · rintro i ⟨a, W⟩ hi0 ⟨e1, hA⟩
      simp only at e1 hA
      subst e1
      have w77 : W.1 77 = w.1 77 := hA.2.1 77 (by omega)
      left
      unfold f_X11_setsAside_L2
      simp only
      rw [w77, h4, if_neg (nle hi0 (by omega)), placeM (by omega), bd1, get_1 (by omega), bd1, flatAtM hn (by rw [w77]; exact h4), bd1, gd_in (by omega) (by decide), cl_n (by omega), w77]
      simp only [lw_e]
      by_cases q : nI (pl (w.1 77) i) = 0
      · rw [if_pos q]
        obtain ⟨V, v1, v2⟩ := j60 (b := -1) hn hi0 h4 hA (by unfold nbB; rw [if_pos q])
        exact ⟨_, v1, rfl, v2⟩
      · rw [if_neg q, flatAtM hn (by rw [si_n (by decide), w77]; exact h4), bd1, si_n (by decide), w77]
        obtain ⟨V, v1, v2⟩ := j60 (b := nb (w.1 77) n (gx (w.1 77) i 1) (nI (pl (w.1 77) i) - 1)) hn hi0 h4 hA (by unfold nbB; rw [if_neg q])
        exact ⟨_, v1, rfl, v2⟩
    · rintro ⟨a, W⟩ ⟨e1, hA⟩
      simp only at e1 hA
      subst e1
      have w77 : W.1 77 = w.1 77 := hA.2.1 77 (by omega)
      refine ⟨(nI n, W), ?_, hA⟩
      unfold f_X11_setsAside_L2
      simp only
      rw [w77, h4, if_pos (nle' n)]
  obtain ⟨⟨z, W⟩, h1, h2⟩ := H
  exact ⟨z, W, h1, h2⟩

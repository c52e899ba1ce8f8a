def nwL (nw : Nat → Int32) (L : List (Nat × Nat)) : Nat → Int32 := L.foldl (fun a p => upf a p.1 (nI p.2)) nw
def okL (n : Nat) (L : List (Nat × Nat)) : Prop := L = [] ∨ (∃ f v, L = [(f, v)] ∧ f < n ∧ v < 9) ∨ ∃ f v k u, L = [(f, v), (k, u)] ∧ f < k ∧ k < n ∧ v < 9 ∧ u < 9
theorem seekX {w : Wd} {g : Nat → Int32} {n h : Nat} {b : Int32} {hrs : Nat} (hn : n ≤ 12) (hN : hrs ≤ 8) (hB : BI (w.1 3) (fun i => w.1 (35 + i)) (w.1 19) g n h) (hl : ∀ i, i < n → rng (lkf g i) 0 268) : ∃ r V nw, f_X3_seek b (nI hrs) w = some (r, V) ∧ (∀ j, j < n → nw j = -1) ∧ (few g n b hrs = none → r = 0 ∧ ∃ x, OutF w V x) ∧ ∀ L, few g n b hrs = some L → r = 1 ∧ okL n L ∧ OutF w V (nwL nw L) := by
  have hn14 : ∀ y, y ≠ 14 → (si (si w 14 3 b) 14 4 (nI hrs)).1 y = w.1 y := fun y hy => by rw [si_n hy, si_n hy]
  obtain ⟨W, p1, p2, p3, p4⟩ := begX (w := si (si w 14 3 b) 14 4 (nI hrs)) (g := g) (n := n) (h := h) (by
    rw [hn14 3 (by decide), hn14 19 (by decide)]
    rw [show (fun i => (si (si w 14 3 b) 14 4 (nI hrs)).1 (35 + i)) = fun i => w.1 (35 + i) from funext fun i => hn14 _ (by omega)]
    exact hB)
  obtain ⟨U, q1, q2, q3, q4⟩ := lp_fill (step := f_X3_seek_L23) (w := W) (a := 68) (n := 12) (v := fun _ => -1) (by decide) (fun i V hi0 e1 e2 e3 => by
    unfold f_X3_seek_L23
    simp only
    rw [if_neg (show ¬ (12 : Int32) ≤ nI i from nle (n := 12) hi0 (by decide)), gd_in (by omega) (by decide), cl_n (by omega)]
    rfl) (fun V e1 e2 => by
    unfold f_X3_seek_L23
    simp only
    rw [if_pos (show (12 : Int32) ≤ nI 12 by decide)])
  have hnw : ∀ j, j < n → U.1 68 j = -1 := fun j hj => by rw [q4, if_pos (by omega)]
  have u14 : U.1 14 = (si (si w 14 3 b) 14 4 (nI hrs)).1 14 := by rw [q2 14 (by decide), p2 14 (by unfold Tc; omega)]
  have hC : CFw w U g n b hrs (fun j => gx g j 3) := by
    refine ⟨fun y y1 y2 y3 => ?_, q3.trans p3, ?_, ?_, CW_c p4.2.1 ?_ ?_ ?_, fun i hi0 => ?_⟩
    · rw [q2 y y3, p2 y y1, hn14 y y2]
    · rw [u14, si_s, si_o (by decide), si_s]
      exact ⟨rfl, rfl⟩
    · rw [q2 13 (by decide)]; exact p4.1
    · rw [q2 13 (by decide)]
    · rw [q2 66 (by decide)]
    · rw [q2 67 (by decide)]
    · rw [q2 59 (by decide), q2 61 (by decide), q2 62 (by decide)]
      exact ⟨(p4.2.2 i hi0).1, (p4.2.2 i hi0).2.2.1, (p4.2.2 i hi0).2.2.2.1⟩
  obtain ⟨V0, a1, a2, a3⟩ := goodX hn hN (fun j hj => (hB.2.2.2.2.1 j hj).2) hB.2.2.2.1 (fun j hj => (hB.2.2.2.2.1 j hj).2.2.2.2.2.2.2.1) hl (fun j hj => (hB.2.2.2.2.1 j hj).2.2.2.2.1) hC
  have e0 : f_X3_seek b (nI hrs) w = (f_X3_isGood U).bind fun o10 => if o10.1 = 0 then (f_X3_seekOne o10.2).bind fun o13 => (if o13.1 = 0 then (f_X3_seekTwo o13.2).bind fun o16 => (if o16.1 = 0 then some (0, o16.2) else some (1, o16.2)) else some (1, o13.2)) else some (1, o10.2) := by
    unfold f_X3_seek
    simp only [lw_e]
    rw [p1, bd1, q1, bd1]
  rw [e0, a1, bd1]
  by_cases hg : good g n b hrs (fun j => gx g j 3) = true
  · have ef : few g n b hrs = some [] := by unfold few; rw [if_pos hg]
    refine ⟨1, V0, U.1 68, ?_, hnw, (fun e => by rw [ef] at e; cases e), fun L e => ?_⟩
    · rw [if_pos hg, if_neg (show ¬ (1 : Int32) = 0 by decide)]
    · rw [ef] at e
      cases e
      exact ⟨rfl, Or.inl rfl, a2.out a3⟩
  · have ef : few g n b hrs = (few1 g n b hrs).or (few2 g n b hrs) := by unfold few; rw [if_neg hg]
    obtain ⟨r1, V1, b1, b2, b3⟩ := seek1X hn hN hB hl a2 a3 hnw
    rw [if_neg hg, if_pos rfl]
    simp only
    rw [b1, bd1]
    rcases h1 : few1 g n b hrs with - | L1
    · obtain ⟨x1, x2, x3⟩ := b2 h1
      subst x1
      obtain ⟨r2, V2, c1, c2, c3⟩ := seek2X hn hN hB hl x2 x3 hnw
      simp only
      rw [if_pos trivial, c1, bd1]
      rw [h1] at ef
      rcases h2 : few2 g n b hrs with - | L2
      · obtain ⟨y1, y2⟩ := c2 h2
        subst y1
        exact ⟨0, V2, U.1 68, rfl, hnw, (fun _ => ⟨rfl, _, y2⟩), (fun L e => by rw [ef, h2] at e; cases e)⟩
      · obtain ⟨y1, f, v, k, u, rfl, y2, y3, y4, y5, y6⟩ := c3 L2 h2
        subst y1
        refine ⟨1, V2, U.1 68, rfl, hnw, (fun e => by rw [ef, h2] at e; cases e), fun L e => ?_⟩
        rw [ef, h2] at e
        cases e
        exact ⟨rfl, Or.inr (Or.inr ⟨f, v, k, u, rfl, y2, y3, y4, y5⟩), y6⟩
    · obtain ⟨y1, f, v, rfl, y2, y3, y4⟩ := b3 L1 h1
      subst y1
      rw [h1] at ef
      refine ⟨1, V1, U.1 68, rfl, hnw, (fun e => by rw [ef] at e; cases e), fun L e => ?_⟩
      rw [ef] at e
      cases e
      exact ⟨rfl, Or.inr (Or.inl ⟨f, v, rfl, y2, y3⟩), y4⟩

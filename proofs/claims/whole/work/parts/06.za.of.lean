theorem bit_e {x : Int32} (h : x = 0 ∨ x = 1) : f_X10_bit x = some x := by
  unfold f_X10_bit
  rcases h with rfl | rfl <;> rfl
theorem op_of {w : Wd} (h : Inv w) (v1 v2 : Int32) : Op (f_X10_of v1 v2) (f_X11_of v1 v2) w := by
  obtain ⟨n, hh, b1, b2, c1, c2, c3, c4, c5, c6, c7, b4, b5, b6⟩ := h.n
  rcases fl_cases n v1 with ⟨i, hi0, rfl⟩ | hno
  · have i12 : i < 12 := by omega
    obtain ⟨f0, f1, f2, f3, ok⟩ := b5 i hi0
    have F := fun k (a : 2 ≤ k) (b : k ≤ 10) => f3 k a b
    have g3 : w.1 (35 + i) 3 = gx (w.1 77) i 2 := f3 2 (by decide) (by decide)
    have g4 : w.1 (35 + i) 4 = gx (w.1 77) i 3 := f3 3 (by decide) (by decide)
    have g5 : w.1 (35 + i) 5 = gx (w.1 77) i 4 := f3 4 (by decide) (by decide)
    have g6 : w.1 (35 + i) 6 = gx (w.1 77) i 5 := f3 5 (by decide) (by decide)
    have g7 : w.1 (35 + i) 7 = gx (w.1 77) i 6 := f3 6 (by decide) (by decide)
    have g8 : w.1 (35 + i) 8 = gx (w.1 77) i 7 := f3 7 (by decide) (by decide)
    have g9 : w.1 (35 + i) 9 = gx (w.1 77) i 8 := f3 8 (by decide) (by decide)
    have g10 : w.1 (35 + i) 10 = gx (w.1 77) i 9 := f3 9 (by decide) (by decide)
    have g11 : w.1 (35 + i) 11 = gx (w.1 77) i 10 := f3 10 (by decide) (by decide)
    have A := has_y c1 b1 hi0
    have B := isF_y c2 b1 hi0
    have I : ∀ v : Int32, f_X10_within v 0 14 = some 1 → True := fun _ _ => trivial
    have W : ∀ k : Int32, 0 ≤ k.toInt → k.toInt ≤ 14 → f_X10_within k 0 14 = some 1 := fun k a b => win_of a b
    have cl : (nI i).toNatClampNeg = i := cl_n (by omega)
    have gd12 : ∀ {α : Type} (x : Option α), gd (inB (nI i) 12) x = x := fun x => gd_in i12 (by decide)
    have J : ∀ (v : Int32) (k : Nat), (if v < 8 then v - 1 else v - 4) = nI k → k < 11 → f_X11_of_J132 (nI i) v w = some (gx (w.1 77) i k, w) := fun v k e hk => by
      unfold f_X11_of_J132
      by_cases q : v < 8
      · rw [if_pos q] at e
        rw [if_neg (by rw [i_le]; rw [i_lt] at q; omega), get_e i12 hk e]
        rfl
      · rw [if_neg q] at e
        rw [if_pos (by rw [i_le]; rw [i_lt] at q; omega), get_e i12 hk e]
        rfl
    by_cases k0 : v2 = 0
    · subst k0
      refine op_q (r := gx (w.1 77) i 0) h ?_ ?_
      · simp [f_X10_of, A, gd12, cl, f0]
      · simp [f_X11_of, B, in_e, W, get_0 i12]
    by_cases k1 : v2 = 1
    · subst k1
      refine op_q (r := gx (w.1 77) i 1) h ?_ ?_
      · simp [f_X10_of, A, gd12, cl, f1]
      · simp [f_X11_of, B, in_e, W 1 (by decide) (by decide), get_1 i12]
    by_cases k2 : v2 = 2
    · subst k2
      refine op_q (r := nI (pl (w.1 77) i)) h ?_ ?_
      · simp [f_X10_of, A, gd12, cl, f2]
      · simp [f_X11_of, B, in_e, W 2 (by decide) (by decide), placeM i12]
    by_cases k3 : v2 = 3
    · subst k3
      refine op_q (r := gx (w.1 77) i 2) h ?_ ?_
      · simp [f_X10_of, A, gd12, cl, g3]
      · simp [f_X11_of, B, in_e, W 3 (by decide) (by decide), J 3 2 (by decide) (by decide)]
    by_cases k4 : v2 = 4
    · subst k4
      refine op_q (r := gx (w.1 77) i 3) h ?_ ?_
      · simp [f_X10_of, A, gd12, cl, g4]
      · simp [f_X11_of, B, in_e, W 4 (by decide) (by decide), J 4 3 (by decide) (by decide)]
    by_cases k5 : v2 = 5
    · subst k5
      refine op_q (r := gx (w.1 77) i 4) h ?_ ?_
      · simp [f_X10_of, A, gd12, cl, g5, bit_e ok.2.2.2.2.1]
      · simp [f_X11_of, B, in_e, W 5 (by decide) (by decide), J 5 4 (by decide) (by decide)]
    by_cases k6 : v2 = 6
    · subst k6
      refine op_q (r := gx (w.1 77) i 5) h ?_ ?_
      · simp [f_X10_of, A, gd12, cl, g6, bit_e ok.2.2.2.2.2.1]
      · simp [f_X11_of, B, in_e, W 6 (by decide) (by decide), J 6 5 (by decide) (by decide)]
    by_cases k7 : v2 = 7
    · subst k7
      refine op_q (r := gx (w.1 77) i 6) h ?_ ?_
      · simp [f_X10_of, A, gd12, cl, g7]
      · simp [f_X11_of, B, in_e, W 7 (by decide) (by decide), J 7 6 (by decide) (by decide)]
    by_cases k8 : v2 = 8
    · subst k8
      refine op_q (r := lk (gx (w.1 77) i 0) (gx (w.1 77) i 2) (gx (w.1 77) i 5)) h ?_ ?_
      · simp [f_X10_of, A, gd12, cl, g3, leaksX f0 g6 ok.2.2.2.2.2.1]
      · simp [f_X11_of, B, in_e, W 8 (by decide) (by decide), get_2 i12, leaksM i12]
    by_cases k9 : v2 = 9
    · subst k9
      have ht : f_X4_takes (35 + i) (gx (w.1 77) i 3) w = some (tk (gx (w.1 77) i 0) (gx (w.1 77) i 3)) := by
        unfold f_X4_takes tk
        rw [f0]
        by_cases q : gx (w.1 77) i 0 = 3
        · rw [if_pos q, if_pos q]
        · rw [if_neg q, if_neg q]
          by_cases q2 : gx (w.1 77) i 0 = 5
          · rw [if_pos q2, if_pos q2]
          · rw [if_neg q2, if_neg q2]
      refine op_q (r := tk (gx (w.1 77) i 0) (gx (w.1 77) i 3)) h ?_ ?_
      · simp [f_X10_of, A, gd12, cl, g4, ht]
      · simp [f_X11_of, B, in_e, W 9 (by decide) (by decide), get_3 i12, takesM i12]
    by_cases k10 : v2 = 10
    · subst k10
      obtain ⟨M, m1, m2, m3, m4, -⟩ := asideM (w := w) b1 c2
      refine ⟨flw (w.1 77) n (fun j => gx (w.1 77) j 3) i, w, M, ?_, ?_, Inv_scr h (fun y _ y2 => m2 y y2) m3⟩
      · simp [f_X10_of, A, gd12, flowX b1 hi0 c1 c6 b5 b6]
      · simp [f_X11_of, B, in_e, W 10 (by decide) (by decide), m1, gd12, cl, (m4.2 i hi0).2.1]
    by_cases k11 : v2 = 11
    · subst k11
      refine op_q (r := gx (w.1 77) i 7) h ?_ ?_
      · simp [f_X10_of, A, gd12, cl, g8]
      · simp [f_X11_of, B, in_e, W 11 (by decide) (by decide), J 11 7 (by decide) (by decide)]
    by_cases k12 : v2 = 12
    · subst k12
      refine op_q (r := gx (w.1 77) i 8) h ?_ ?_
      · simp [f_X10_of, A, gd12, cl, g9]
      · simp [f_X11_of, B, in_e, W 12 (by decide) (by decide), J 12 8 (by decide) (by decide)]
    by_cases k13 : v2 = 13
    · subst k13
      refine op_q (r := gx (w.1 77) i 9) h ?_ ?_
      · simp [f_X10_of, A, gd12, cl, g10]
      · simp [f_X11_of, B, in_e, W 13 (by decide) (by decide), J 13 9 (by decide) (by decide)]
    by_cases k14 : v2 = 14
    · subst k14
      refine op_q (r := gx (w.1 77) i 10) h ?_ ?_
      · simp [f_X10_of, A, gd12, cl, g11]
      · simp [f_X11_of, B, in_e, W 14 (by decide) (by decide), J 14 10 (by decide) (by decide)]
    have no : f_X10_within v2 0 14 = some 0 := by
      rcases win_01 v2 0 14 with q | q
      · exact q
      · obtain ⟨N, -, hN, e⟩ := win_nI q (A := 0) (B := 14) (by decide) (by decide) (by decide)
        subst e
        have : N = 0 ∨ N = 1 ∨ N = 2 ∨ N = 3 ∨ N = 4 ∨ N = 5 ∨ N = 6 ∨ N = 7 ∨ N = 8 ∨ N = 9 ∨ N = 10 ∨ N = 11 ∨ N = 12 ∨ N = 13 ∨ N = 14 := by omega
        rcases this with rfl | rfl | rfl | rfl | rfl | rfl | rfl | rfl | rfl | rfl | rfl | rfl | rfl | rfl | rfl
        · exact absurd rfl k0
        · exact absurd rfl k1
        · exact absurd rfl k2
        · exact absurd rfl k3
        · exact absurd rfl k4
        · exact absurd rfl k5
        · exact absurd rfl k6
        · exact absurd rfl k7
        · exact absurd rfl k8
        · exact absurd rfl k9
        · exact absurd rfl k10
        · exact absurd rfl k11
        · exact absurd rfl k12
        · exact absurd rfl k13
        · exact absurd rfl k14
    refine op_no h (k := 0) (by decide) fc0 ?_ fun v => ?_
    · simp [f_X10_of, A, gd12, k0, k1, k2, k3, k4, k5, k6, k7, k8, k9, k10, k11, k12, k13, k14, bd_e]
    · simp [f_X11_of, isF_y (w := si w 16 0 v) (by rw [s16 (by decide)]; exact c2) b1 hi0, in_e, no, bd_e]
  · refine op_no h (k := 0) (by decide) fc0 ?_ fun v => ?_
    · simp [f_X10_of, has_n c1 b1 hno, bd_e]
    · simp [f_X11_of, isF_n (w := si w 16 0 v) (by rw [s16 (by decide)]; exact c2) b1 hno, bd_e]
def unM (a b : Nat) : Bool := decide (b = 0 ∨ a = b ∨ (b = 1 ∧ a = 4) ∨ (b = 3 ∧ a = 5))
theorem underX {w : Wd} : ∀ a, a < 6 → ∀ b, b < 6 → f_X10_isUnder (nI a) (nI b) w = some (if unM a b = true then 1 else 0) := by
  intro a ha b hb
  unfold f_X10_isUnder
  have hF : FU = 999990 + 1 + 1 + 1 + 1 + 1 + 1 + 1 + 1 + 1 + 1 := rfl
  rw [hF]
  have pa : a = 0 ∨ a = 1 ∨ a = 2 ∨ a = 3 ∨ a = 4 ∨ a = 5 := by omega
  have pb : b = 0 ∨ b = 1 ∨ b = 2 ∨ b = 3 ∨ b = 4 ∨ b = 5 := by omega
  rcases pa with rfl | rfl | rfl | rfl | rfl | rfl <;> rcases pb with rfl | rfl | rfl | rfl | rfl | rfl <;> rfl
theorem underM : ∀ a, a < 6 → ∀ b, b < 6 → f_X11_isUnder (nI a) (nI b) = some (if unM a b = true then 1 else 0) := by decide
theorem op_as {w : Wd} (h : Inv w) (v1 v2 : Int32) : Op (f_X10_as v1 v2) (f_X11_as v1 v2) w := by
  obtain ⟨n, hh, b1, b2, c1, c2, c3, c4, c5, c6, c7, b4, b5, b6⟩ := h.n
  rcases fl_cases n v1 with ⟨i, hi0, rfl⟩ | hno
  · have i12 : i < 12 := by omega
    obtain ⟨f0, f1, f2, f3, ok⟩ := b5 i hi0
    rcases win_01 v2 0 5 with q | q
    · refine op_no h (k := 0) (by decide) fc0 ?_ fun v => ?_
      · simp [f_X10_as, has_y c1 b1 hi0, q, bd_e]
      · simp [f_X11_as, isF_y (w := si w 16 0 v) (by rw [s16 (by decide)]; exact c2) b1 hi0, in_e, q, bd_e]
    obtain ⟨b, -, hb, rfl⟩ := win_nI q (A := 0) (B := 5) (by decide) (by decide) (by decide)
    have e5 : (5 : Int32).toInt = 5 := by decide
    obtain ⟨a, ha, ea⟩ := nI_rng (v := gx (w.1 77) i 0) (a := 5) (by decide) ok.1.1 ok.1.2
    have g3 : w.1 (35 + i) 3 = gx (w.1 77) i 2 := f3 2 (by decide) (by decide)
    have g6 : w.1 (35 + i) 6 = gx (w.1 77) i 5 := f3 5 (by decide) (by decide)
    by_cases u : unM a b = true
    · refine op_q (r := lk (gx (w.1 77) i 0) (gx (w.1 77) i 2) (gx (w.1 77) i 5)) h ?_ ?_
      · unfold f_X10_as
        rw [has_y c1 b1 hi0, bd1, if_neg (by decide), q, bd1, if_neg (by decide), gd_in i12 (by decide), cl_n (by omega), f0, ea, underX a (by omega) b (by omega), bd1, if_pos u, if_neg (by decide), g3, leaksX f0 g6 ok.2.2.2.2.2.1, ← ea]
        rfl
      · unfold f_X11_as
        rw [isF_y c2 b1 hi0, bd1, if_neg (by decide), in_e, q, bd1, if_neg (by decide), get_0 i12, bd1, ea, underM a (by omega) b (by omega), bd1, if_pos u, if_neg (by decide), get_2 i12, bd1, leaksM i12, ← ea]
        rfl
    · refine op_no h (k := 2) (by decide) fc2 ?_ fun v => ?_
      · unfold f_X10_as
        rw [has_y c1 b1 hi0, bd1, if_neg (by decide), q, bd1, if_neg (by decide), gd_in i12 (by decide), cl_n (by omega), f0, ea, underX a (by omega) b (by omega), bd1, if_neg u, if_pos rfl]
        exact bd_e
      · unfold f_X11_as
        rw [isF_y (by rw [s16 (by decide)]; exact c2) b1 hi0, bd1, if_neg (by decide), in_e, q, bd1, if_neg (by decide), get_0 i12, bd1, s16 (by decide), ea, underM a (by omega) b (by omega), bd1, if_neg u, if_pos rfl]
        exact bd_e
  · refine op_no h (k := 0) (by decide) fc0 ?_ fun v => ?_
    · simp [f_X10_as, has_n c1 b1 hno, bd_e]
    · simp [f_X11_as, isF_n (w := si w 16 0 v) (by rw [s16 (by decide)]; exact c2) b1 hno, bd_e]

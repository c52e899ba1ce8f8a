theorem rldE {w : Wd} {s : Nat} (hs : s ≤ 80) (h1 : w.1 5 1 = nI s) : f_X10_isRuled w = some (if 0 < s then 1 else 0) := by
  unfold f_X10_isRuled
  rw [h1]
  rcases Nat.eq_zero_or_pos s with z | z
  · subst z
    rfl
  · rw [if_neg (show ¬ nI s ≤ 0 from nle (i := 0) z (by omega)), if_pos z]
theorem Inv_sc {w V : Wd} (h : Inv w) (e : ∀ y, y ≠ 10 → y ≠ 32 → y ≠ 12 → y ≠ 34 → y ≠ 95 → y ≠ 96 → y ≠ 97 → y ≠ 98 → V.1 y = w.1 y) (e2 : V.2 = w.2) : Inv V := Inv_a h (fun k hk => by
  have n : ∀ j, Ess j = false → k ≠ j := fun j hj z => by rw [z, hj] at hk; cases hk
  exact e k (n 10 rfl) (n 32 rfl) (n 12 rfl) (n 34 rfl) (n 95 rfl) (n 96 rfl) (n 97 rfl) (n 98 rfl)) (fun j _ => by rw [e 76 (by decide) (by decide) (by decide) (by decide) (by decide) (by decide) (by decide) (by decide)]) e2
theorem op_share {w : Wd} (h : Inv w) (v1 : Int32) : Op (f_X10_share v1) (f_X11_share v1) w := by
  obtain ⟨n, s, H⟩ := h.sh
  obtain ⟨h1, h2, h3, h4, h5, h6, h7, h8⟩ := id H
  rcases fl_cases n v1 with ⟨i, hi0, rfl⟩ | hno
  · rcases Nat.eq_zero_or_pos s with z | z
    · obtain ⟨V, b1, b2, b3, b4⟩ := fshM (v1 := 1) H false (by rw [if_neg (by decide)]; exact Or.inr z)
      refine ⟨shv false (w.1 21) s (w.1 77) i, w, V, ?_, ?_, Inv_sc h (fun y _ _ _ _ y1 y2 _ _ => b2 y y1 y2) b3⟩
      · unfold f_X10_share
        rw [has_y h3 h1 hi0, bd1, if_neg (by decide), rldE h2 h5, bd1, if_pos (if_neg (show ¬ 0 < s by omega)), plnX (by omega) ((h7 i hi0).1.2.2.2 7 (by decide) (by decide)) (h7 i hi0).2]
        rfl
      · unfold f_X11_share
        rw [isF_y h4 h1 hi0, bd1, if_neg (by decide), b1, bd1, gd_in (by omega) (by decide), cl_n (by omega), b4 i hi0]
    · obtain ⟨W, c1, c2, c3⟩ := rldX (w := w) (s := s) (i := i) (by omega) h2 h5 h6 (h7 i hi0).1
      have HW : ShH W n s := ShH_c H fun y hy => c2 y (by omega) (by omega)
      have w21 : W.1 21 = w.1 21 := c2 21 (by decide) (by decide)
      have w77 : W.1 77 = w.1 77 := c2 77 (by decide) (by decide)
      obtain ⟨V, b1, b2, b3, b4⟩ := fshM (v1 := 1) HW true (by rw [if_pos rfl]; exact ⟨by decide, z⟩)
      refine ⟨shv true (w.1 21) s (w.1 77) i, W, V, ?_, ?_, Inv_sc h (fun y y1 y2 _ _ y3 y4 _ _ => (b2 y y3 y4).trans (c2 y y1 y2)) (b3.trans c3)⟩
      · unfold f_X10_share
        rw [has_y h3 h1 hi0, bd1, if_neg (by decide), rldE h2 h5, bd1, if_pos z, if_neg (by decide), c1]
        rfl
      · unfold f_X11_share
        rw [isF_y HW.2.2.2.1 h1 hi0, bd1, if_neg (by decide), b1, bd1, gd_in (by omega) (by decide), cl_n (by omega), b4 i hi0, w21, w77]
  · refine op_no h (k := 0) (by decide) fc0 ?_ fun v => ?_
    · unfold f_X10_share
      rw [has_n h3 h1 hno, bd1, if_pos rfl]
      exact bd_e
    · unfold f_X11_share
      rw [isF_n (by rw [s16 (by decide)]; exact h4) h1 hno, bd1, if_pos rfl]
      exact bd_e
/-! who pays how much -/
def isum (f : Nat → Int) : Nat → Int
  | 0 => 0
  | n + 1 => isum f n + f n
theorem isum_b {f : Nat → Int} {B : Int} : ∀ {n : Nat}, (∀ i, i < n → 0 ≤ f i ∧ f i ≤ B) → 0 ≤ isum f n ∧ isum f n ≤ n * B
  | 0, _ => by
    show (0 : Int) ≤ 0 ∧ (0 : Int) ≤ (0 : Nat) * B
    simp
  | n + 1, h => by
    have h1 := isum_b (n := n) fun i hi0 => h i (by omega)
    have h2 := h n (by omega)
    show 0 ≤ isum f n + f n ∧ isum f n + f n ≤ ((n + 1 : Nat) : Int) * B
    have e : ((n + 1 : Nat) : Int) * B = n * B + B := by
      rw [Int.natCast_succ, Int.add_mul, Int.one_mul]
    rw [e]
    omega
theorem isum_c {f g : Nat → Int} : ∀ {n : Nat}, (∀ i, i < n → f i = g i) → isum f n = isum g n
  | 0, _ => rfl
  | n + 1, h => by
    show isum f n + f n = isum g n + g n
    rw [isum_c fun i hi0 => h i (by omega), h n (by omega)]
theorem isum_m {f : Nat → Int} {a : Int} : ∀ {n : Nat}, isum (fun i => a * f i) n = a * isum f n
  | 0 => (Int.mul_zero a).symm
  | n + 1 => by
    show isum (fun i => a * f i) n + a * f n = a * (isum f n + f n)
    rw [isum_m, Int.mul_add]
theorem isum_a {f g : Nat → Int} : ∀ {n : Nat}, isum (fun i => f i + g i) n = isum f n + isum g n
  | 0 => rfl
  | n + 1 => by
    show isum (fun i => f i + g i) n + (f n + g n) = (isum f n + f n) + (isum g n + g n)
    rw [isum_a]
    omega
theorem ws_i {f : Nat → Int32} {B : Int} : ∀ {n : Nat}, n ≤ 12 → 12 * B < 2147483648 → 0 ≤ B → (∀ i, i < n → 0 ≤ (f i).toInt ∧ (f i).toInt ≤ B) → (ws f n).toInt = isum (fun i => (f i).toInt) n
  | 0, _, _, _, _ => by
    show (0 : Int32).toInt = 0
    decide
  | n + 1, hn, hB, h0, h => by
    have ih := ws_i (n := n) (by omega) hB h0 fun i hi0 => h i (by omega)
    have b := isum_b (f := fun i => (f i).toInt) (B := B) (n := n) fun i hi0 => h i (by omega)
    have h2 := h n (by omega)
    have m : (n : Int) * B ≤ 11 * B := Int.mul_le_mul_of_nonneg_right (by omega) h0
    show (ws f n + f n).toInt = _
    rw [i_add (by rw [ih]; omega) (by rw [ih]; omega), ih]
    rfl
def pyv (pr tot : Int32) (f : Nat → Int32) (i : Nat) : Int32 := pr * f i / tot
def rsv (pr tot : Int32) (f : Nat → Int32) (i : Nat) : Int32 := pr * f i - pr * f i / tot * tot
theorem pay_i {pr : Int32} {f : Nat → Int32} {n : Nat} (hn : n ≤ 12) (hp : rng pr 0 9999) (hf : ∀ i, i < n → rng (f i) 0 99999) (ht : 0 < (ws f n).toInt) : (∀ i, i < n → (pr * f i).toInt = pr.toInt * (f i).toInt ∧ (pyv pr (ws f n) f i).toInt * (ws f n).toInt + (rsv pr (ws f n) f i).toInt = pr.toInt * (f i).toInt ∧ 0 ≤ (rsv pr (ws f n) f i).toInt ∧ (rsv pr (ws f n) f i).toInt < (ws f n).toInt ∧ 0 ≤ (pyv pr (ws f n) f i).toInt ∧ (pyv pr (ws f n) f i).toInt ≤ 9999) := by
  intro i hi0
  obtain ⟨p1, p2⟩ := hp
  obtain ⟨f1, f2⟩ := hf i hi0
  have hw := ws_i (f := f) (B := 99999) (n := n) hn (by decide) (by decide) hf
  have hle : (f i).toInt ≤ (ws f n).toInt := by
    rw [hw]
    clear ht hw
    induction n with
    | zero => omega
    | succ n ih =>
      show _ ≤ isum (fun i => (f i).toInt) n + (f n).toInt
      have b := isum_b (f := fun i => (f i).toInt) (B := 99999) (n := n) fun i hi0 => hf i (by omega)
      have b2 := hf n (by omega)
      rcases Nat.lt_or_ge i n with q | q
      · have := ih (by omega) (fun j hj => hf j (by omega)) q
        have := b2.1
        omega
      · have e : i = n := by omega
        subst e
        omega
  have m0 : 0 ≤ pr.toInt * (f i).toInt := Int.mul_nonneg p1 f1
  have m1 : pr.toInt * (f i).toInt ≤ 9999 * 99999 := Int.mul_le_mul p2 f2 f1 (by decide)
  have e1 : (pr * f i).toInt = pr.toInt * (f i).toInt := i_mul (by omega) (by omega)
  have e2 : (pyv pr (ws f n) f i).toInt = (pr.toInt * (f i).toInt).tdiv (ws f n).toInt := by
    unfold pyv
    rw [i_div ht, e1]
  have d1 : 0 ≤ (pr.toInt * (f i).toInt).tdiv (ws f n).toInt := Int.tdiv_nonneg m0 (Int.le_of_lt ht)
  have d2 := Int.mul_tdiv_add_tmod (pr.toInt * (f i).toInt) (ws f n).toInt
  have d3 : 0 ≤ (pr.toInt * (f i).toInt).tmod (ws f n).toInt := Int.tmod_nonneg _ m0
  have d4 : (pr.toInt * (f i).toInt).tmod (ws f n).toInt < (ws f n).toInt := Int.tmod_lt_of_pos _ ht
  have d5 : (pr.toInt * (f i).toInt).tdiv (ws f n).toInt * (ws f n).toInt + (pr.toInt * (f i).toInt).tmod (ws f n).toInt = pr.toInt * (f i).toInt := by
    rw [Int.mul_comm]; exact d2
  have d6 : (pr.toInt * (f i).toInt).tdiv (ws f n).toInt * (ws f n).toInt ≤ 9999 * 99999 := by omega
  have d7 : 0 ≤ (pr.toInt * (f i).toInt).tdiv (ws f n).toInt * (ws f n).toInt := Int.mul_nonneg d1 (Int.le_of_lt ht)
  have e3 : (pr * f i / ws f n).toInt = (pr.toInt * (f i).toInt).tdiv (ws f n).toInt := e2
  have e4 : (pr * f i / ws f n * ws f n).toInt = (pr.toInt * (f i).toInt).tdiv (ws f n).toInt * (ws f n).toInt := by
    rw [i_mul (by rw [e3]; omega) (by rw [e3]; omega), e3]
  have e5 : (rsv pr (ws f n) f i).toInt = (pr.toInt * (f i).toInt).tmod (ws f n).toInt := by
    unfold rsv
    rw [i_sub (by rw [e1, e4]; omega) (by rw [e1, e4]; omega), e1, e4]
    omega
  refine ⟨e1, ?_, ?_, ?_, ?_, ?_⟩
  · rw [e2, e5]; exact d5
  · rw [e5]; exact d3
  · rw [e5]; exact d4
  · rw [e2]; exact d1
  · rw [e2]
    refine Int.le_trans (Int.tdiv_le_tdiv ht (Int.mul_le_mul p2 hle f1 (by decide))) ?_
    rw [Int.mul_tdiv_cancel _ (by omega)]
    exact Int.le_refl _

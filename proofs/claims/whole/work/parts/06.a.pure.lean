/-! pure: loops, the world's reads, numbers -/
theorem i_lt (a b : Int32) : a < b ↔ a.toInt < b.toInt := Int32.lt_iff_toInt_lt
theorem i_le (a b : Int32) : a ≤ b ↔ a.toInt ≤ b.toInt := Int32.le_iff_toInt_le
theorem i_eq (a b : Int32) : a = b ↔ a.toInt = b.toInt := Int32.toInt_inj.symm
theorem bm {x : Int} (h1 : -2147483648 ≤ x) (h2 : x < 2147483648) : x.bmod (2 ^ 32) = x := Int.bmod_eq_of_le (by omega) (by omega)
theorem i_add {a b : Int32} (h1 : -2147483648 ≤ a.toInt + b.toInt) (h2 : a.toInt + b.toInt < 2147483648) : (a + b).toInt = a.toInt + b.toInt := by rw [Int32.toInt_add]; exact bm h1 h2
theorem i_sub {a b : Int32} (h1 : -2147483648 ≤ a.toInt - b.toInt) (h2 : a.toInt - b.toInt < 2147483648) : (a - b).toInt = a.toInt - b.toInt := by rw [Int32.toInt_sub]; exact bm h1 h2
theorem i_mul {a b : Int32} (h1 : -2147483648 ≤ a.toInt * b.toInt) (h2 : a.toInt * b.toInt < 2147483648) : (a * b).toInt = a.toInt * b.toInt := by rw [Int32.toInt_mul]; exact bm h1 h2
theorem i_neg {a : Int32} (h1 : -2147483648 < a.toInt) : (-a).toInt = -a.toInt := by
  rw [Int32.toInt_neg]
  have := Int32.toInt_lt a
  exact bm (by omega) (by omega)
theorem i_div {a b : Int32} (h : 0 < b.toInt) : (a / b).toInt = a.toInt.tdiv b.toInt := by
  rw [Int32.toInt_div]
  have h1 := Int32.toInt_lt a
  have h2 := Int32.le_toInt a
  have h3 := Int.natAbs_tdiv_le_natAbs a.toInt b.toInt
  rcases Int.le_total 0 a.toInt with h0 | h0
  · have h4 := Int.tdiv_nonneg h0 (Int.le_of_lt h)
    apply bm <;> omega
  · have h4 : 0 ≤ (-a.toInt).tdiv b.toInt := Int.tdiv_nonneg (by omega) (Int.le_of_lt h)
    rw [Int.neg_tdiv] at h4
    apply bm <;> omega
theorem nI_sub {a b : Nat} (h : b ≤ a) : nI a - nI b = nI (a - b) := by
  have e : a = (a - b) + b := by omega
  have := nI_add (a - b) b
  rw [← e] at this
  rw [← this, Int32.add_sub_cancel]
theorem nI_mul (a b : Nat) : nI a * nI b = nI (a * b) := (Int32.ofNat_mul a b).symm
theorem lp_go {σ ρ : Type} {step : σ → Option (σ ⊕ ρ)} (I : σ → Prop) (μ : σ → Nat) (P : ρ → Prop) (hs : ∀ s, I s → (∃ s', step s = some (.inl s') ∧ I s' ∧ μ s' < μ s) ∨ (∃ r, step s = some (.inr r) ∧ P r)) : ∀ (F : Nat) (s : σ), I s → μ s < F → ∃ r, lp step F s = some r ∧ P r
  | 0, _, _, h => absurd h (Nat.not_lt_zero _)
  | F + 1, s, hI, hm => by
    rcases hs s hI with ⟨s', h1, h2, h3⟩ | ⟨r, h1, h2⟩
    · obtain ⟨r, h4, h5⟩ := lp_go I μ P hs F s' h2 (by omega)
      refine ⟨r, ?_, h5⟩
      show (step s).bind _ = _
      rw [h1]
      exact h4
    · refine ⟨r, ?_, h2⟩
      show (step s).bind _ = _
      rw [h1]
      rfl
/-- a counted loop: invariant I, N rounds at most; it may leave early -/
theorem lp_n {σ ρ : Type} {step : σ → Option (σ ⊕ ρ)} (I : Nat → σ → Prop) (N : Nat) (P : ρ → Prop) {s0 : σ} (h0 : I 0 s0) (hN : N < FU) (hs : ∀ i s, i < N → I i s → (∃ s', step s = some (.inl s') ∧ I (i + 1) s') ∨ (∃ r, step s = some (.inr r) ∧ P r)) (hx : ∀ s, I N s → ∃ r, step s = some (.inr r) ∧ P r) : ∃ r, lp step FU s0 = some r ∧ P r := by
  suffices H : ∀ (m i : Nat) (s : σ) (F : Nat), N - i = m → i ≤ N → I i s → N - i < F → ∃ r, lp step F s = some r ∧ P r from H (N - 0) 0 s0 FU rfl (Nat.zero_le _) h0 (by omega)
  intro m
  induction m with
  | zero =>
    intro i s F hm hi hI hF
    have e : i = N := by omega
    subst e
    obtain ⟨r, h1, h2⟩ := hx s hI
    cases F with
    | zero => omega
    | succ F =>
      refine ⟨r, ?_, h2⟩
      show (step s).bind _ = _
      rw [h1]
      rfl
  | succ m ih =>
    intro i s F hm hi hI hF
    cases F with
    | zero => omega
    | succ F =>
      rcases hs i s (by omega) hI with ⟨s', h1, h2⟩ | ⟨r, h1, h2⟩
      · obtain ⟨r, h3, h4⟩ := ih (i + 1) s' F (by omega) (by omega) h2 (by omega)
        refine ⟨r, ?_, h4⟩
        show (step s).bind _ = _
        rw [h1]
        exact h3
      · refine ⟨r, ?_, h2⟩
        show (step s).bind _ = _
        rw [h1]
        rfl
/-- a loop whose states are known -/
theorem lp_for {σ ρ : Type} {step : σ → Option (σ ⊕ ρ)} (st : Nat → σ) (N : Nat) (r : ρ) (hN : N < FU) (hs : ∀ i, i < N → step (st i) = some (.inl (st (i + 1)))) (hx : step (st N) = some (.inr r)) : lp step FU (st 0) = some r := by
  obtain ⟨r', h1, h2⟩ := lp_n (step := step) (fun i s => s = st i) N (fun r' => r' = r) rfl hN (fun i s hi e => Or.inl ⟨st (i + 1), by rw [e]; exact hs i hi, rfl⟩) (fun s e => ⟨r, by rw [e]; exact hx, rfl⟩)
  rw [h1, h2]
theorem FU_lt {n : Nat} (h : n ≤ 300000) : n < FU := by unfold FU; omega
theorem gd_t {α : Type} {b : Bool} {x : Option α} (h : b = true) : gd b x = x := by unfold gd; rw [if_pos h]
theorem gd_in {α : Type} {i N : Nat} {x : Option α} (h : i < N) (hN : N < 2 ^ 31) : gd (inB (nI i) N) x = x := gd_t (decide_eq_true (nI_in h hN))
theorem gd_z {α : Type} {v : Int32} {x : Option α} (h : v = 0 ∨ v = 1) : gd (zo v) x = x := gd_t (decide_eq_true h)
theorem gd_nz {α : Type} {v : Int32} {x : Option α} (h : ¬ v = 0) : gd (nz v) x = x := gd_t (decide_eq_true h)
theorem gd_nzl {α : Type} {v : Int64} {x : Option α} (h : ¬ v = 0) : gd (nzl v) x = x := gd_t (decide_eq_true h)
theorem cl_n {n : Nat} (h : n < 2 ^ 31) : (nI n).toNatClampNeg = n := nI_clamp h
theorem si_g {w : Wd} {a k x y : Nat} {v : Int32} : (si w a k v).1 x y = if x = a ∧ y = k then v else w.1 x y := rfl
theorem si_n {w : Wd} {a k x : Nat} {v : Int32} (h : x ≠ a) : (si w a k v).1 x = w.1 x := funext fun y => by simp [si, h]
theorem si_s {w : Wd} {a k : Nat} {v : Int32} : (si w a k v).1 a k = v := by simp [si]
theorem si_o {w : Wd} {a k y : Nat} {v : Int32} (h : y ≠ k) : (si w a k v).1 a y = w.1 a y := by simp [si, h]
theorem si_2 {w : Wd} {a k : Nat} {v : Int32} : (si w a k v).2 = w.2 := rfl
theorem sj_1 {w : Wd} {a k : Nat} {v : Int64} : (sj w a k v).1 = w.1 := rfl
theorem sj_g {w : Wd} {a k x y : Nat} {v : Int64} : (sj w a k v).2 x y = if x = a ∧ y = k then v else w.2 x y := rfl
theorem sj_n {w : Wd} {a k x : Nat} {v : Int64} (h : x ≠ a) : (sj w a k v).2 x = w.2 x := funext fun y => by simp [sj, h]
theorem sc_1 {w : Wd} {a i b j n : Nat} : (sc w a i b j n).1 = w.1 := rfl
theorem lw_e {α β : Type} {x : α} {f : α → β} : lw x f = f x := rfl
def rng (x : Int32) (a b : Int) : Prop := a ≤ x.toInt ∧ x.toInt ≤ b
theorem win_e (v a b : Int32) : f_X10_within v a b = some (if v < a ∨ b < v then 0 else 1) := by
  unfold f_X10_within
  by_cases h1 : v < a <;> by_cases h2 : b < v <;> simp [h1, h2]
theorem in_e (v a b : Int32) : f_X11_in v a b = f_X10_within v a b := rfl
theorem win_01 (v a b : Int32) : f_X10_within v a b = some 0 ∨ f_X10_within v a b = some 1 := by
  rw [win_e]
  by_cases h : v < a ∨ b < v <;> simp [h]
theorem win_yes {v a b : Int32} (h : f_X10_within v a b = some 1) : a.toInt ≤ v.toInt ∧ v.toInt ≤ b.toInt := by
  rw [win_e] at h
  by_cases h2 : v < a ∨ b < v
  · rw [if_pos h2] at h
    exact absurd (Option.some.inj h) (by decide)
  · rw [i_lt, i_lt] at h2
    omega
theorem win_of {v a b : Int32} (h1 : a.toInt ≤ v.toInt) (h2 : v.toInt ≤ b.toInt) : f_X10_within v a b = some 1 := by
  rw [win_e, if_neg]
  rw [i_lt, i_lt]
  omega
theorem win_not {v a b : Int32} (h : ¬ (a.toInt ≤ v.toInt ∧ v.toInt ≤ b.toInt)) : f_X10_within v a b = some 0 := by
  rw [win_e, if_pos]
  rw [i_lt, i_lt]
  omega
theorem nI_rng {v : Int32} {a : Nat} (ha : a < 2 ^ 31) (h1 : 0 ≤ v.toInt) (h2 : v.toInt ≤ a) : ∃ j : Nat, j ≤ a ∧ v = nI j := by
  refine ⟨v.toInt.toNat, by omega, ?_⟩
  rw [i_eq, nI_toInt (by omega)]
  omega

theorem lft_n {pr : Int32} {f : Nat → Int32} {n : Nat} (hn : n ≤ 12) (hp : rng pr 0 9999) (hf : ∀ i, i < n → rng (f i) 0 99999) (ht : 0 < (ws f n).toInt) : ∃ L, L < n ∧ pr - ws (pyv pr (ws f n) f) n = nI L := by
  have P := pay_i hn hp hf ht
  have hw := ws_i (f := f) (B := 99999) (n := n) hn (by decide) (by decide) hf
  have hpy := ws_i (f := pyv pr (ws f n) f) (B := 9999) (n := n) hn (by decide) (by decide) fun i hi0 => ⟨(P i hi0).2.2.2.2.1, (P i hi0).2.2.2.2.2⟩
  have hpb := isum_b (f := fun i => (pyv pr (ws f n) f i).toInt) (B := 9999) (n := n) fun i hi0 => ⟨(P i hi0).2.2.2.2.1, (P i hi0).2.2.2.2.2⟩
  have hrb := isum_b (f := fun i => (rsv pr (ws f n) f i).toInt) (B := (ws f n).toInt - 1) (n := n) fun i hi0 => ⟨(P i hi0).2.2.1, by have := (P i hi0).2.2.2.1; omega⟩
  have n0 : 0 < n := by
    rcases Nat.eq_zero_or_pos n with z | z
    · subst z
      exact absurd (show (0 : Int) < (0 : Int32).toInt from ht) (by decide)
    · exact z
  have key : pr.toInt * (ws f n).toInt = isum (fun i => (pyv pr (ws f n) f i).toInt) n * (ws f n).toInt + isum (fun i => (rsv pr (ws f n) f i).toInt) n := by
    have e1 : pr.toInt * (ws f n).toInt = isum (fun i => pr.toInt * (f i).toInt) n := by rw [hw]; exact isum_m.symm
    have e2 : isum (fun i => pr.toInt * (f i).toInt) n = isum (fun i => (ws f n).toInt * (pyv pr (ws f n) f i).toInt + (rsv pr (ws f n) f i).toInt) n := isum_c fun i hi0 => by
      rw [Int.mul_comm (ws f n).toInt]
      exact (P i hi0).2.1.symm
    rw [e1, e2, isum_a, isum_m, Int.mul_comm]
  generalize isum (fun i => (rsv pr (ws f n) f i).toInt) n = Rr at *
  generalize hX : isum (fun i => (pyv pr (ws f n) f i).toInt) n = X at *
  have k2 : (pr.toInt - X) * (ws f n).toInt = Rr := by rw [Int.sub_mul]; omega
  have n12 : (n : Int) * 9999 ≤ 12 * 9999 := Int.mul_le_mul_of_nonneg_right (by omega) (by decide)
  have l0 : 0 ≤ pr.toInt - X := by
    rcases Int.lt_or_le (pr.toInt - X) 0 with z | z
    · have := Int.mul_neg_of_neg_of_pos z ht
      omega
    · exact z
  have l1 : pr.toInt - X < n := by
    rcases Int.lt_or_le (pr.toInt - X) n with z | z
    · exact z
    · exfalso
      have q1 : (n : Int) * (ws f n).toInt ≤ (pr.toInt - X) * (ws f n).toInt := Int.mul_le_mul_of_nonneg_right z (Int.le_of_lt ht)
      have q2 : (n : Int) * ((ws f n).toInt - 1) = n * (ws f n).toInt - n := by rw [Int.mul_sub, Int.mul_one]
      rw [q2] at hrb
      omega
  obtain ⟨p1, p2⟩ := hp
  have e : (pr - ws (pyv pr (ws f n) f) n).toInt = pr.toInt - X := by rw [i_sub (by rw [hpy]; omega) (by rw [hpy]; omega), hpy]
  obtain ⟨L, j1, j2⟩ := nI_rng (v := pr - ws (pyv pr (ws f n) f) n) (a := 12) (by decide) (by rw [e]; exact l0) (by rw [e]; omega)
  refine ⟨L, ?_, j2⟩
  rw [j2, nI_toInt (by omega)] at e
  omega
def cB (P : Nat → Bool) : Nat → Nat
  | 0 => 0
  | m + 1 => cB P m + (if P m = true then 1 else 0)
theorem cB_le {P : Nat → Bool} : ∀ n, cB P n ≤ n
  | 0 => Nat.le_refl _
  | n + 1 => by
    have := cB_le (P := P) n
    show cB P n + _ ≤ _
    by_cases h : P n = true
    · rw [if_pos h]; omega
    · rw [if_neg h]; omega
theorem cB_m {P Q : Nat → Bool} : ∀ {n : Nat}, (∀ j, j < n → P j = true → Q j = true) → cB P n ≤ cB Q n
  | 0, _ => Nat.le_refl _
  | n + 1, h => by
    have ih := cB_m (P := P) (Q := Q) (n := n) fun j hj => h j (by omega)
    show cB P n + _ ≤ cB Q n + _
    by_cases q : P n = true
    · rw [if_pos q, if_pos (h n (by omega) q)]; omega
    · rw [if_neg q]; omega
theorem cB_u {P : Nat → Bool} {b : Nat} : ∀ {n : Nat}, cB (fun j => P j || decide (j = b)) n = cB P n + (if b < n ∧ P b = false then 1 else 0)
  | 0 => by
    rw [if_neg (by omega)]
    rfl
  | n + 1 => by
    show cB _ n + _ = cB P n + _ + _
    rw [cB_u]
    by_cases e : n = b
    · subst e
      rw [if_neg (show ¬ (n < n ∧ P n = false) by omega)]
      cases hq : P n with
      | true => simp
      | false => simp
    · have e2 : (P n || decide (n = b)) = P n := by simp [e]
      simp only [e2]
      by_cases q : b < n ∧ P b = false
      · rw [if_pos q, if_pos (show b < n + 1 ∧ P b = false from ⟨by omega, q.2⟩)]
        omega
      · rw [if_neg q, if_neg (show ¬ (b < n + 1 ∧ P b = false) from fun z => q ⟨by omega, z.2⟩)]
        omega
theorem cB_x {P : Nat → Bool} : ∀ {n : Nat}, cB P n < n → ∃ u, u < n ∧ P u = false
  | 0, h => absurd h (Nat.lt_irrefl _)
  | n + 1, h => by
    cases hq : P n with
    | false => exact ⟨n, by omega, hq⟩
    | true =>
      have h2 : cB P n + (if P n = true then 1 else 0) < n + 1 := h
      rw [if_pos hq] at h2
      obtain ⟨u, u1, u2⟩ := cB_x (P := P) (n := n) (by omega)
      exact ⟨u, by omega, u2⟩
/-- j comes before i -/
def bef (r : Nat → Int) (j i : Nat) : Bool := decide (r i < r j ∨ (r j = r i ∧ j < i))
theorem bef_t {r : Nat → Int} {j i : Nat} : bef r j i = true ↔ (r i < r j ∨ (r j = r i ∧ j < i)) := decide_eq_true_iff
def rk (r : Nat → Int) (n i : Nat) : Nat := cB (fun j => bef r j i) n
def Dc (r : Nat → Int) (n : Nat) (ch : Nat → Bool) : Prop := ∀ j i, j < n → i < n → bef r j i = true → ch i = true → ch j = true
theorem ch_rk {r : Nat → Int} {n m : Nat} {ch : Nat → Bool} (hD : Dc r n ch) (hc : cB ch n = m) {i : Nat} (hi0 : i < n) : ch i = true ↔ rk r n i < m := by
  constructor
  · intro h
    have : cB (fun j => bef r j i || decide (j = i)) n ≤ cB ch n := cB_m fun j hj q => by
      simp only [Bool.or_eq_true, decide_eq_true_eq] at q
      rcases q with q | q
      · exact hD j i hj hi0 q h
      · rw [q]; exact h
    rw [cB_u (P := fun j => bef r j i), if_pos ⟨hi0, decide_eq_false (by omega)⟩] at this
    unfold rk
    omega
  · intro h
    cases hq : ch i with
    | true => rfl
    | false =>
      exfalso
      have : cB ch n ≤ cB (fun j => bef r j i) n := cB_m fun j hj q => by
        have ne : j ≠ i := fun z => by rw [z, hq] at q; cases q
        have nb : ¬ bef r i j = true := fun z => by
          have := hD i j hi0 hj z q
          rw [hq] at this
          cases this
        rw [bef_t] at nb
        rw [bef_t]
        omega
      unfold rk at h
      omega
theorem ch_step {r : Nat → Int} {n : Nat} {ch : Nat → Bool} (hr : ∀ i, i < n → 0 ≤ r i) (hD : Dc r n ch) (hc : cB ch n < n) {b : Nat} (hb : b < n) (hm : ∀ j, j < n → (if ch j = true then -1 else r j) ≤ (if ch b = true then -1 else r b)) (hf : ∀ j, j < b → (if ch j = true then -1 else r j) < (if ch b = true then -1 else r b)) : ch b = false ∧ Dc r n (fun j => ch j || decide (j = b)) ∧ cB (fun j => ch j || decide (j = b)) n = cB ch n + 1 := by
  have cb : ch b = false := by
    cases hq : ch b with
    | false => rfl
    | true =>
      exfalso
      obtain ⟨u, u1, u2⟩ := cB_x hc
      have := hm u u1
      rw [hq, u2, if_pos rfl, if_neg (by decide)] at this
      have := hr u u1
      omega
  refine ⟨cb, fun j i hj hi0 hb2 hi2 => ?_, ?_⟩
  · simp only [Bool.or_eq_true, decide_eq_true_eq] at hi2 ⊢
    rcases hi2 with q | q
    · exact Or.inl (hD j i hj hi0 hb2 q)
    · subst q
      left
      cases hq : ch j with
      | true => rfl
      | false =>
        exfalso
        have h1 := hm j hj
        rw [cb, hq, if_neg (by decide), if_neg (by decide)] at h1
        rw [bef_t] at hb2
        rcases hb2 with z | z
        · omega
        · have h2 := hf j z.2
          rw [cb, hq, if_neg (by decide), if_neg (by decide)] at h2
          omega
  · rw [cB_u, if_pos ⟨hb, cb⟩]

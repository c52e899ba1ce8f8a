section SIM
variable {tb : Nat → Int32} {s : Nat}
theorem ms_A {p : Nat} {S : List Int32} {o : Int32} {E : List Int32} : ms tb s (true, p, S, o, E, false) = some (mA tb s p S o E) := rfl
theorem ms_B {p : Nat} {S : List Int32} {o : Int32} {E : List Int32} (h : p < s) : ms tb s (false, p, S, o, E, false) = some (mB (tb p) p S o E) := by
  show (if s ≤ p then none else _) = _
  rw [if_neg (by omega)]
theorem tkn_t {p : Nat} : tkn tb s (p, true) = -1 := rfl
theorem tkn_f {p : Nat} (h : p < s) : tkn tb s (p, false) = tb p := by
  unfold tkn
  rw [if_pos ⟨rfl, h⟩]
theorem tkn_e {p : Nat} (h : s ≤ p) : tkn tb s (p, false) = -1 := by
  unfold tkn
  rw [if_neg (fun z => by have := z.2; simp only at this; omega)]
theorem pF_t {vals : Nat → Int32} {m : Nat → Nat × Bool → Int32 × (Nat × Bool)} {d p : Nat} : (pF tb s vals m d (p, true)).2 = (p, true) := by
  unfold pF
  rw [tkn_t, if_neg (by decide), if_neg (fun z => absurd z.1 (by decide)), if_neg (fun z => absurd z.1 (by decide))]
  rfl
theorem pP1_t {F : Nat × Bool → Int32 × (Nat × Bool)} {v : Int32} {p : Nat} : ∀ k, pP1 tb s F k (v, (p, true)) = (v, (p, true))
  | 0 => rfl
  | k + 1 => by
    unfold pP1
    simp only
    rw [tkn_t, if_neg (by decide), if_neg (by decide)]
theorem pS1_t {F : Nat × Bool → Int32 × (Nat × Bool)} {v : Int32} {p : Nat} : ∀ k, pS1 tb s F k (v, (p, true)) = (v, (p, true))
  | 0 => rfl
  | k + 1 => by
    unfold pS1
    simp only
    rw [tkn_t, if_neg (by decide), if_neg (by decide)]
theorem pP_t {F : Nat × Bool → Int32 × (Nat × Bool)} {p : Nat} (h : (F (p, true)).2 = (p, true)) : (pP tb s F (p, true)).2 = (p, true) := by
  unfold pP
  rw [show F (p, true) = ((F (p, true)).1, (p, true)) from Prod.ext rfl h, pP1_t]
theorem pS_t {vals : Nat → Int32} {n d p : Nat} : (pS tb s vals n d (p, true)).2 = (p, true) := by
  cases n with
  | zero => rfl
  | succ n =>
    unfold pS
    have h := pP_t (tb := tb) (s := s) (F := pF tb s vals (pS tb s vals n) d) (p := p) pF_t
    rw [show pP tb s (pF tb s vals (pS tb s vals n) d) (p, true) = ((pP tb s (pF tb s vals (pS tb s vals n) d) (p, true)).1, (p, true)) from Prod.ext rfl h, pS1_t]
theorem dg_n {c : Int32} (h : isDg c = true) : ∃ b, b < 10 ∧ c = nI (48 + b) := by
  unfold isDg at h
  rw [decide_eq_true_eq, i_le, i_le] at h
  have k1 : (48 : Int32).toInt = 48 := by decide
  have k2 : (57 : Int32).toInt = 57 := by decide
  obtain ⟨j, j1, j2⟩ := nI_rng (v := c) (a := 57) (by decide) (by omega) (by omega)
  subst j2
  rw [nI_toInt (by omega)] at h
  refine ⟨j - 48, by omega, ?_⟩
  congr 1
  omega
theorem pNum_v : ∀ (k x : Nat) (r : Int32 × (Nat × Bool)), k ≤ 4 → r.1 = nI x → x < 10 ^ (4 - k) → r.2.2 = false → r.2.1 ≤ s → ∃ y, y < 10000 ∧ (pNum tb s k r).1 = nI y ∧ (pNum tb s k r).2.2 = false ∧ r.2.1 ≤ (pNum tb s k r).2.1 ∧ (pNum tb s k r).2.1 ≤ s
  | 0, x, r, _, h1, h2, h3, h4 => ⟨x, h2, h1, h3, Nat.le_refl _, h4⟩
  | k + 1, x, r, hk, h1, h2, h3, h4 => by
    unfold pNum
    by_cases h : isDg (tkn tb s r.2) = true
    · rw [if_pos h]
      obtain ⟨b, hb, e⟩ := dg_n h
      have hlt : r.2.1 < s := by
        rcases Nat.lt_or_ge r.2.1 s with q | q
        · exact q
        · have e2 : r.2 = (r.2.1, false) := Prod.ext rfl h3
          rw [e2, tkn_e q] at h
          exact absurd h (by decide)
      have ep : 10 ^ (4 - k) = 10 * 10 ^ (4 - (k + 1)) := by
        rw [show 4 - k = (4 - (k + 1)) + 1 by omega, Nat.pow_succ, Nat.mul_comm]
      obtain ⟨y, y1, y2, y3, y4, y5⟩ := pNum_v k (10 * x + b) (10 * r.1 + tkn tb s r.2 - 48, (r.2.1 + 1, r.2.2)) (by omega) (by
        show 10 * r.1 + tkn tb s r.2 - 48 = _
        rw [h1, e]
        show nI 10 * nI x + nI (48 + b) - nI 48 = _
        rw [nI_mul, nI_add, nI_sub (by omega)]
        congr 1
        omega) (by omega) h3 hlt
      exact ⟨y, y1, y2, y3, by simp only at y4; omega, y5⟩
    · rw [if_neg h]
      refine ⟨x, ?_, h1, h3, Nat.le_refl _, h4⟩
      have : 10 ^ (4 - (k + 1)) ≤ 10 ^ 4 := Nat.pow_le_pow_right (by decide) (by omega)
      omega
/-- the step of the machine's life that a reading is -/
def Sm (tb : Nat → Int32) (s : Nat) (pend stop top : Int32 → Prop) (d : Nat) (m : (Nat → Int32) → Nat × Bool → Int32 × (Nat × Bool)) : Prop := ∀ (p : Nat) (S E : List Int32), p ≤ s → (∀ c S', S = c :: S' → top c) → ∃ st' : Nat × Bool, (∀ vals, (m vals (p, false)).2 = st') ∧ p ≤ st'.1 ∧ st'.1 ≤ s ∧
  ((st'.2 = true ∧ ∃ k a', Rt tb s k (true, p, S, nI d, E, false) a' ∧ Bd s a' st'.1) ∨ (st'.2 = false ∧ stop (tkn tb s st') ∧ ∃ k ops X, Rt tb s k (true, p, S, nI d, E, false) (false, st'.1, ops ++ S, nI d, E ++ X, false) ∧ (∀ c, c ∈ ops → pend c) ∧ Lv (X ++ ops) (fun vals => (m vals (p, false)).1)))
def stop4 (c : Int32) : Prop := c ≠ 43 ∧ c ≠ 45 ∧ c ≠ 42 ∧ c ≠ 47
def stop2 (c : Int32) : Prop := c ≠ 42 ∧ c ≠ 47
def SmS (tb : Nat → Int32) (s d : Nat) (m : (Nat → Int32) → Nat × Bool → Int32 × (Nat × Bool)) : Prop := Sm tb s (fun c => ¬ c < 10100) stop4 (fun c => c < 10100) d m
def SmP (tb : Nat → Int32) (s d : Nat) (m : (Nat → Int32) → Nat × Bool → Int32 × (Nat × Bool)) : Prop := Sm tb s (fun c => ¬ c < 10102) stop2 (fun c => c < 10102) d m
def SmF (tb : Nat → Int32) (s d : Nat) (m : (Nat → Int32) → Nat × Bool → Int32 × (Nat × Bool)) : Prop := Sm tb s (fun _ => False) (fun _ => True) (fun _ => True) d m
def pair (b e : Int32) : Prop := (b = 40 ∧ e = 41) ∨ (b = 91 ∧ e = 63) ∨ (b = 63 ∧ e = 58) ∨ (b = 58 ∧ e = 93)
theorem pair_t {b e : Int32} (h : pair b e) : b < 10100 := by
  rcases h with h | h | h | h <;> rw [h.1] <;> decide
theorem mB_s {c b : Int32} {p : Nat} {ops S E : List Int32} {o : Int32} (hc : stop4 c) (ho : ∀ c, c ∈ ops → ¬ c < 10100) (hb : b < 10100) : mB c p (ops ++ b :: S) o E = if c = 41 ∧ b = 40 then (false, p + 1, S, o - 1, E ++ ops, false) else if c = 93 ∧ b = 58 then (false, p + 1, S, o - 1, E ++ ops ++ [10104], false) else if (c = 63 ∧ b = 91) ∨ (c = 58 ∧ b = 63) then (true, p + 1, c :: S, o, E ++ ops, false) else (false, p, b :: S, o, E ++ ops, true) := by
  unfold mB
  rw [stl_s ho (fun x S' hx => by cases hx; exact hb), if_neg (fun z => z.elim hc.1 hc.2.1), if_neg (fun z => z.elim hc.2.2.1 hc.2.2.2)]
  rfl
theorem notexp {b e : Int32} {p : Nat} {ops S E : List Int32} {o : Int32} (hb : pair b e) (hc : stop4 (tkn tb s (p, false))) (ho : ∀ c, c ∈ ops → ¬ c < 10100) (hne : tkn tb s (p, false) ≠ e) : ∃ k a', Rt tb s k (false, p, ops ++ b :: S, o, E, false) a' ∧ Bd s a' p := by
  rcases Nat.lt_or_ge p s with h | h
  · rw [tkn_f h] at hne hc
    refine ⟨1, _, Rt_1 (ms_B h), ?_⟩
    rw [mB_s hc ho (pair_t hb)]
    have n1 : ¬ (tb p = 41 ∧ b = 40) := fun z => by
      rcases hb with q | q | q | q
      · exact hne (z.1.trans q.2.symm)
      all_goals exact absurd (z.2.symm.trans q.1) (by decide)
    have n2 : ¬ (tb p = 93 ∧ b = 58) := fun z => by
      rcases hb with q | q | q | q
      · exact absurd (z.2.symm.trans q.1) (by decide)
      · exact absurd (z.2.symm.trans q.1) (by decide)
      · exact absurd (z.2.symm.trans q.1) (by decide)
      · exact hne (z.1.trans q.2.symm)
    have n3 : ¬ ((tb p = 63 ∧ b = 91) ∨ (tb p = 58 ∧ b = 63)) := fun z => by
      rcases z with z | z <;> rcases hb with q | q | q | q
      · exact absurd (z.2.symm.trans q.1) (by decide)
      · exact hne (z.1.trans q.2.symm)
      · exact absurd (z.2.symm.trans q.1) (by decide)
      · exact absurd (z.2.symm.trans q.1) (by decide)
      · exact absurd (z.2.symm.trans q.1) (by decide)
      · exact absurd (z.2.symm.trans q.1) (by decide)
      · exact hne (z.1.trans q.2.symm)
      · exact absurd (z.2.symm.trans q.1) (by decide)
    rw [if_neg n1, if_neg n2, if_neg n3]
    exact ⟨rfl, Or.inl rfl⟩
  · refine ⟨0, _, rfl, rfl, Or.inr ⟨rfl, rfl, h, ?_⟩⟩
    simp only
    rw [stl_s ho (fun x S' hx => by cases hx; exact pair_t hb)]
    exact List.cons_ne_nil _ _
end SIM

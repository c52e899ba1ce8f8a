/-! the class's reader is the mathematical one -/
def ixf (o : Option Nat) : Int32 := match o with
  | some k => nI k
  | none => -1
theorem J_e (v : Int32) (w : Wd) : f_J0_indexOf_0f7a4 v w = f_J0_indexOf_0f7a4 v (fun _ _ => 0, fun _ _ => 0) := rfl
theorem J_0 : ∀ b, b < 256 → f_J0_indexOf_0f7a4 (((nI b).toUInt32 % 65536).toInt32) (fun _ _ => 0, fun _ _ => 0) = some (ixf (nmI (nI b))) := by decide +kernel
def PH (w : Wd) (t0 : Nat) (tb : Nat → Int32) (s : Nat) (vals : Nat → Int32) : Prop := (rf t0 0 ≠ t0 ∧ rf (rf t0 0) 0 ≠ t0 ∧ rf t0 1 ≠ t0) ∧ w.1 (rf t0 0) 1 = nI s ∧ s ≤ 80 ∧ (∀ i, i < s → ∃ b, b < 256 ∧ tb i = nI b) ∧ w.1 (rf (rf t0 0) 0) = tb ∧ w.1 (rf t0 1) = vals
def PW (w : Wd) (t0 : Nat) (st : Nat × Bool) : Wd := si (si w t0 2 (nI st.1)) t0 3 (if st.2 = true then nI st.1 else -1)
theorem PW_2 {w : Wd} {t0 : Nat} {st : Nat × Bool} : (PW w t0 st).1 t0 2 = nI st.1 := by
  unfold PW
  rw [si_o (by decide), si_s]
theorem PW_3 {w : Wd} {t0 : Nat} {st : Nat × Bool} : (PW w t0 st).1 t0 3 = if st.2 = true then nI st.1 else -1 := by
  unfold PW
  rw [si_s]
theorem PW_t {w : Wd} {t0 p : Nat} : (PW w t0 (p, true)).1 t0 3 = nI p := by
  rw [PW_3]
  exact if_pos rfl
theorem PW_u {w : Wd} {t0 p : Nat} : (PW w t0 (p, false)).1 t0 3 = -1 := by
  rw [PW_3]
  exact if_neg (show ¬ false = true by decide)
theorem PW_n {w : Wd} {t0 x : Nat} {st : Nat × Bool} (h : x ≠ t0) : (PW w t0 st).1 x = w.1 x := by
  unfold PW
  rw [si_n h, si_n h]
theorem PW_at {w : Wd} {t0 p q : Nat} : si (PW w t0 (p, false)) t0 2 (nI q) = PW w t0 (q, false) := by
  unfold PW
  apply Prod.ext
  · funext x y
    rw [si_g, si_g, si_g, si_g, si_g]
    by_cases h1 : x = t0 <;> by_cases h2 : y = 2 <;> by_cases h3 : y = 3 <;> simp_all
  · rfl
theorem PW_f {w : Wd} {t0 p : Nat} : si (PW w t0 (p, false)) t0 3 (nI p) = PW w t0 (p, true) := by
  unfold PW
  apply Prod.ext
  · funext x y
    rw [si_g, si_g, si_g, si_g, si_g]
    by_cases h1 : x = t0 <;> by_cases h2 : y = 2 <;> by_cases h3 : y = 3 <;> simp_all
  · rfl
section PARSE
variable {w : Wd} {t0 s : Nat} {tb vals : Nat → Int32}
theorem tkn_b (H : PH w t0 tb s vals) {st : Nat × Bool} (h : tkn tb s st ≠ -1) : st.2 = false ∧ st.1 < s ∧ ∃ b, b < 256 ∧ tkn tb s st = nI b := by
  unfold tkn at h ⊢
  by_cases q : st.2 = false ∧ st.1 < s
  · rw [if_pos q]
    exact ⟨q.1, q.2, H.2.2.2.1 _ q.2⟩
  · rw [if_neg q] at h
    exact absurd rfl h
theorem nextX (H : PH w t0 tb s vals) {st : Nat × Bool} (hs : st.1 ≤ s) : f_X5_next t0 (PW w t0 st) = some (tkn tb s st) := by
  obtain ⟨⟨r1, r2, r3⟩, h1, h2, h3, h4, h5⟩ := H
  obtain ⟨p, b⟩ := st
  unfold f_X5_next
  rw [PW_2, PW_n r1, PW_n r2, h1, h4]
  replace hs : p ≤ s := hs
  cases b with
  | true =>
    rw [PW_t, if_pos (show (0 : Int32) ≤ nI p from nI_le (a := 0) (by omega) (by omega))]
    rfl
  | false =>
    have e : tkn tb s (p, false) = if p < s then tb p else -1 := by
      unfold tkn
      by_cases h : p < s <;> simp [h]
    rw [PW_u, if_neg (show ¬ (0 : Int32) ≤ -1 by decide), e]
    show (if nI s ≤ nI p then _ else gd (inB (nI p) 80) _) = _
    rcases Nat.lt_or_ge p s with h | h
    · rw [if_neg (nle h (by omega)), gd_in (by omega) (by decide), cl_n (by omega), if_pos h]
    · rw [if_pos (nI_le h (by omega)), if_neg (by omega)]
theorem digX (c : Int32) : f_X5_isDigit c = some (if isDg c = true then 1 else 0) := by
  unfold f_X5_isDigit isDg
  by_cases h1 : c < 48
  · rw [if_pos h1, if_neg]
    rw [decide_eq_true_eq, i_le]
    rw [i_lt] at h1
    omega
  · rw [if_neg h1]
    by_cases h2 : 57 < c
    · rw [if_pos h2, if_neg]
      rw [decide_eq_true_eq, i_le, i_le]
      rw [i_lt] at h2
      omega
    · rw [if_neg h2, if_pos]
      rw [decide_eq_true_eq, i_le, i_le]
      rw [i_lt] at h1 h2
      omega
theorem failX {st : Nat × Bool} (hs : st.1 ≤ 80) : f_X5_fail t0 (PW w t0 st) = some (PW w t0 (st.1, true)) := by
  obtain ⟨p, b⟩ := st
  unfold f_X5_fail
  rw [PW_2]
  replace hs : p ≤ 80 := hs
  cases b with
  | true => rw [PW_t, if_pos (show (0 : Int32) ≤ nI p from nI_le (a := 0) (by omega) (by omega))]
  | false =>
    rw [PW_u, if_neg (show ¬ (0 : Int32) ≤ -1 by decide)]
    show some (si (PW w t0 (p, false)) t0 3 (nI p)) = _
    rw [PW_f]
theorem stepX {st : Nat × Bool} (h : st.2 = false) : si (PW w t0 st) t0 2 ((PW w t0 st).1 t0 2 + 1) = PW w t0 (st.1 + 1, st.2) := by
  obtain ⟨p, b⟩ := st
  simp only at h
  subst h
  rw [PW_2, nI_1, PW_at]
theorem expX (H : PH w t0 tb s vals) {st : Nat × Bool} (hs : st.1 ≤ s) {c : Int32} (hc : c ≠ -1) : f_X5_expect t0 c (PW w t0 st) = some (PW w t0 (pExp tb s c st)) ∧ (pExp tb s c st).1 ≤ s := by
  unfold f_X5_expect pExp
  rw [nextX H hs, bd1]
  by_cases q : tkn tb s st = c
  · obtain ⟨a, b, -⟩ := tkn_b H (st := st) (by rw [q]; exact hc)
    rw [if_pos q, if_pos q]
    simp only [lw_e]
    rw [stepX a]
    exact ⟨rfl, b⟩
  · rw [if_neg q, if_neg q, failX (by have := H.2.2.1; omega), bd1]
    exact ⟨rfl, hs⟩
def itr {α : Type} (T : α → Option α) : Nat → α → α
  | 0, r => r
  | k + 1, r => match T r with
    | none => r
    | some r' => itr T k r'
def PE (w : Wd) (t0 s : Nat) (f : Wd → Option (Int32 × Wd)) (m : Nat × Bool → Int32 × (Nat × Bool)) : Prop := ∀ st : Nat × Bool, st.1 ≤ s → f (PW w t0 st) = some ((m st).1, PW w t0 (m st).2) ∧ (m st).2.1 ≤ s
theorem lp_it {step : Int32 × Int32 × Wd → Option ((Int32 × Int32 × Wd) ⊕ (Int32 × Int32 × Wd))} {T : Int32 × (Nat × Bool) → Option (Int32 × (Nat × Bool))} {N : Nat} (h0 : ∀ c r, c < N → r.2.1 ≤ s → T r = none → step (r.1, nI c, PW w t0 r.2) = some (.inr (r.1, nI c, PW w t0 r.2))) (h1 : ∀ c r r', c < N → r.2.1 ≤ s → T r = some r' → step (r.1, nI c, PW w t0 r.2) = some (.inl (r'.1, nI (c + 1), PW w t0 r'.2)) ∧ r'.2.1 ≤ s) (hx : ∀ r : Int32 × (Nat × Bool), step (r.1, nI N, PW w t0 r.2) = some (.inr (r.1, nI N, PW w t0 r.2))) : ∀ (k c F : Nat) (r : Int32 × (Nat × Bool)), c + k = N → k < F → r.2.1 ≤ s → ∃ q, lp step F (r.1, nI c, PW w t0 r.2) = some ((itr T k r).1, q, PW w t0 (itr T k r).2) ∧ (itr T k r).2.1 ≤ s
  | 0, c, 0, _, _, hF, _ => absurd hF (Nat.lt_irrefl _)
  | 0, c, F + 1, r, hc, _, hr => by
    have e : c = N := by omega
    subst e
    refine ⟨nI c, ?_, hr⟩
    show (step _).bind _ = _
    rw [hx r]
    rfl
  | k + 1, c, 0, _, _, hF, _ => absurd hF (Nat.not_lt_zero _)
  | k + 1, c, F + 1, r, hc, hF, hr => by
    rcases hT : T r with - | r'
    · refine ⟨nI c, ?_, ?_⟩
      · show (step _).bind _ = _
        rw [h0 c r (by omega) hr hT]
        show some _ = some _
        simp only [itr, hT]
      · simp only [itr, hT]
        exact hr
    · obtain ⟨a, b⟩ := h1 c r r' (by omega) hr hT
      obtain ⟨q, d, e⟩ := lp_it h0 h1 hx k (c + 1) F r' (by omega) (by omega) b
      refine ⟨q, ?_, ?_⟩
      · show (step _).bind _ = _
        rw [a]
        show lp step F _ = _
        rw [d]
        simp only [itr, hT]
      · simp only [itr, hT]
        exact e
def tN (tb : Nat → Int32) (s : Nat) (r : Int32 × (Nat × Bool)) : Option (Int32 × (Nat × Bool)) := if isDg (tkn tb s r.2) = true then some (10 * r.1 + tkn tb s r.2 - 48, (r.2.1 + 1, r.2.2)) else none
theorem pNum_it : ∀ (k : Nat) (r : Int32 × (Nat × Bool)), pNum tb s k r = itr (tN tb s) k r
  | 0, _ => rfl
  | k + 1, r => by
    unfold pNum itr tN
    by_cases h : isDg (tkn tb s r.2) = true
    · simp only [if_pos h]
      exact pNum_it k _
    · simp only [if_neg h]
theorem numX (H : PH w t0 tb s vals) : PE w t0 s (f_X5_readNumber t0) (fun st => pNum tb s 4 (0, st)) := by
  intro st hs
  obtain ⟨q, h1, h2⟩ := lp_it (w := w) (t0 := t0) (s := s) (step := f_X5_readNumber_L4 t0) (T := tN tb s) (N := 4) (fun c r hc hr hT => by
      unfold f_X5_readNumber_L4
      simp only
      rw [if_neg (show ¬ (4 : Int32) ≤ nI c from nle (n := 4) hc (by decide)), nextX H hr, bd1, digX, bd1]
      unfold tN at hT
      by_cases h : isDg (tkn tb s r.2) = true
      · rw [if_pos h] at hT
        cases hT
      · rw [if_neg h, if_pos rfl]) (fun c r r' hc hr hT => by
      unfold f_X5_readNumber_L4
      simp only
      rw [if_neg (show ¬ (4 : Int32) ≤ nI c from nle (n := 4) hc (by decide)), nextX H hr, bd1, digX, bd1]
      unfold tN at hT
      by_cases h : isDg (tkn tb s r.2) = true
      · rw [if_pos h] at hT
        cases hT
        obtain ⟨a, b, -⟩ := tkn_b H (st := r.2) (fun z => by rw [z] at h; exact absurd h (by decide))
        rw [if_pos h, if_neg (by decide), bd1, lw_e, stepX a, nI_1]
        exact ⟨rfl, b⟩
      · rw [if_neg h] at hT
        cases hT) (fun r => by
      unfold f_X5_readNumber_L4
      simp only
      rw [if_pos (show (4 : Int32) ≤ nI 4 from by decide)]) 4 0 FU (0, st) (by decide) (by decide) hs
  unfold f_X5_readNumber
  refine ⟨?_, ?_⟩
  · show (lp _ FU (0, nI 0, _)).bind _ = _
    rw [h1, bd1]
    simp only
    rw [pNum_it]
  · simp only
    rw [pNum_it]
    exact h2
theorem brX (H : PH w t0 tb s vals) {S : Nat → Int32 → Wd → Option (Int32 × Wd)} {m : Nat × Bool → Int32 × (Nat × Bool)} {d : Int32} (hS : PE w t0 s (S t0 d) m) {st : Nat × Bool} (hk : st.2 = false) (hs : st.1 < s) : f_X5_readBracket S t0 d (PW w t0 st) = some ((m (st.1 + 1, st.2)).1, PW w t0 (pExp tb s 41 (m (st.1 + 1, st.2)).2)) ∧ (pExp tb s 41 (m (st.1 + 1, st.2)).2).1 ≤ s := by
  obtain ⟨a, b⟩ := hS (st.1 + 1, st.2) hs
  obtain ⟨e, f⟩ := expX H b (c := 41) (by decide)
  refine ⟨?_, f⟩
  unfold f_X5_readBracket
  rw [lw_e, stepX hk, a, bd1, e, bd1]
theorem chX (H : PH w t0 tb s vals) {S : Nat → Int32 → Wd → Option (Int32 × Wd)} {m : Nat × Bool → Int32 × (Nat × Bool)} {d : Int32} (hS : PE w t0 s (S t0 d) m) {st : Nat × Bool} (hk : st.2 = false) (hs : st.1 < s) : ∃ r, (r = lw (m (st.1 + 1, st.2)) fun a => lw (m (pExp tb s 63 a.2)) fun b => lw (m (pExp tb s 58 b.2)) fun c => (if a.1 = 0 then c.1 else b.1, pExp tb s 93 c.2)) ∧ f_X5_readChoice S t0 d (PW w t0 st) = some (r.1, PW w t0 r.2) ∧ r.2.1 ≤ s := by
  refine ⟨_, rfl, ?_⟩
  obtain ⟨a1, b1⟩ := hS (st.1 + 1, st.2) hs
  obtain ⟨e1, f1⟩ := expX H b1 (c := 63) (by decide)
  obtain ⟨a2, b2⟩ := hS _ f1
  obtain ⟨e2, f2⟩ := expX H b2 (c := 58) (by decide)
  obtain ⟨a3, b3⟩ := hS _ f2
  obtain ⟨e3, f3⟩ := expX H b3 (c := 93) (by decide)
  refine ⟨?_, f3⟩
  unfold f_X5_readChoice
  simp only [lw_e]
  rw [stepX hk, a1, bd1, e1, bd1, a2, bd1, e2, bd1, a3, bd1, e3, bd1]
  by_cases h : (m (st.1 + 1, st.2)).1 = 0
  · rw [if_pos h, if_pos h]
  · rw [if_neg h, if_neg h]
theorem nmX (H : PH w t0 tb s vals) {S : Nat → Int32 → Wd → Option (Int32 × Wd)} {st : Nat × Bool} (hs : st.1 ≤ s) : ∃ r, r = (nmI (tkn tb s st)).elim (0, (st.1, true)) (fun k => (vals k, (st.1 + 1, st.2))) ∧ f_X5_readFactor_J55 S t0 (tkn tb s st) (PW w t0 st) = some (r.1, PW w t0 r.2) ∧ r.2.1 ≤ s := by
  have hs80 := H.2.2.1
  have fail : ∀ v : Int32, v = -1 → nmI (tkn tb s st) = none → f_X5_readFactor_J70 S t0 v (PW w t0 st) = some (0, PW w t0 (st.1, true)) := by
    intro v hv _
    subst hv
    unfold f_X5_readFactor_J70
    rw [win_not (by decide), bd1, if_pos rfl, failX (by omega), bd1]
  refine ⟨_, rfl, ?_⟩
  unfold f_X5_readFactor_J55
  by_cases q : tkn tb s st = -1
  · have hn : nmI (tkn tb s st) = none := by rw [q]; decide
    rw [fail (-1) rfl hn, hn, q, if_neg (by decide)]
    exact ⟨rfl, hs⟩
  · obtain ⟨a, b, c, hc, e⟩ := tkn_b H q
    rw [e, if_pos (show (0 : Int32) ≤ nI c from nI_le (a := 0) (by omega) (by omega)), J_e, J_0 c hc, bd1]
    rcases hn : nmI (nI c) with - | k
    · rw [fail (ixf none) rfl (by rw [e]; exact hn)]
      exact ⟨rfl, hs⟩
    · have hk : k < 8 := by
        unfold nmI at hn
        repeat' split at hn
        all_goals cases hn
        all_goals decide
      have e8 : (8 - 1 : Int32) = nI 7 := by decide
      unfold f_X5_readFactor_J70 ixf
      simp only
      rw [win_of (by rw [nI_toInt (by omega)]; exact Int.natCast_nonneg _) (by rw [e8, nI_toInt (by omega), nI_toInt (by decide)]; omega), bd1, if_neg (by decide), lw_e, stepX a, gd_in hk (by decide), cl_n (by omega), PW_n H.1.2.2, H.2.2.2.2.2]
      exact ⟨rfl, b⟩
theorem facX (H : PH w t0 tb s vals) {S : Nat → Int32 → Wd → Option (Int32 × Wd)} {m : Nat → Nat × Bool → Int32 × (Nat × Bool)} {d : Nat} (hd : d ≤ 4) (hS : d < 4 → PE w t0 s (S t0 (nI (d + 1))) (m (d + 1))) : PE w t0 s (f_X5_readFactor S t0 (nI d)) (pF tb s vals m d) := by
  intro st hs
  unfold f_X5_readFactor pF
  rw [nextX H hs, bd1, digX, bd1]
  by_cases h1 : isDg (tkn tb s st) = true
  · rw [if_pos h1, if_pos h1, if_neg (by decide)]
    obtain ⟨a, b⟩ := numX H st hs
    rw [a, bd1]
    exact ⟨rfl, b⟩
  rw [if_neg h1, if_neg h1, if_pos rfl]
  have ge : (4 : Int32) ≤ nI d ↔ ¬ d < 4 := by
    constructor
    · intro z q
      exact nle (n := 4) q (by decide) z
    · intro q
      exact nI_le (a := 4) (by omega) (by omega)
  by_cases h2 : tkn tb s st = 40
  · obtain ⟨a, b, -⟩ := tkn_b H (st := st) (by rw [h2]; decide)
    by_cases h3 : d < 4
    · rw [if_pos h2, if_neg (fun z => ge.mp z h3), if_pos ⟨h2, h3⟩, nI_1]
      obtain ⟨e, f⟩ := brX H (hS h3) a b
      rw [e, bd1]
      exact ⟨rfl, f⟩
    · rw [if_pos h2, if_pos (ge.mpr h3), if_neg (fun z => h3 z.2), if_neg (fun z => h3 z.2)]
      unfold f_X5_readFactor_J36
      rw [if_neg (by rw [h2]; decide)]
      obtain ⟨r, e, f, g⟩ := nmX H (S := S) hs
      rw [f, ← e]
      exact ⟨rfl, g⟩
  · rw [if_neg h2, if_neg (fun z => h2 z.1)]
    unfold f_X5_readFactor_J36
    by_cases h4 : tkn tb s st = 91
    · obtain ⟨a, b, -⟩ := tkn_b H (st := st) (by rw [h4]; decide)
      by_cases h3 : d < 4
      · rw [if_pos h4, if_neg (fun z => ge.mp z h3), if_pos ⟨h4, h3⟩, nI_1]
        obtain ⟨r, e, f, g⟩ := chX H (hS h3) a b
        rw [f, ← e, bd1]
        exact ⟨rfl, g⟩
      · rw [if_pos h4, if_pos (ge.mpr h3), if_neg (fun z => h3 z.2)]
        obtain ⟨r, e, f, g⟩ := nmX H (S := S) hs
        rw [f, ← e]
        exact ⟨rfl, g⟩
    · rw [if_neg h4, if_neg (fun z => h4 z.1)]
      obtain ⟨r, e, f, g⟩ := nmX H (S := S) hs
      rw [f, ← e]
      exact ⟨rfl, g⟩
def tP (tb : Nat → Int32) (s : Nat) (F : Nat × Bool → Int32 × (Nat × Bool)) (r : Int32 × (Nat × Bool)) : Option (Int32 × (Nat × Bool)) := if tkn tb s r.2 = 42 then some (r.1 * (F (r.2.1 + 1, r.2.2)).1, (F (r.2.1 + 1, r.2.2)).2) else if tkn tb s r.2 = 47 then some (if (F (r.2.1 + 1, r.2.2)).1 = 0 then 0 else r.1 / (F (r.2.1 + 1, r.2.2)).1, (F (r.2.1 + 1, r.2.2)).2) else none
theorem pP1_it {F : Nat × Bool → Int32 × (Nat × Bool)} : ∀ (k : Nat) (r : Int32 × (Nat × Bool)), pP1 tb s F k r = itr (tP tb s F) k r
  | 0, _ => rfl
  | k + 1, r => by
    unfold pP1 itr tP
    by_cases h : tkn tb s r.2 = 42
    · simp only [if_pos h]
      exact pP1_it k _
    · simp only [if_neg h]
      by_cases h2 : tkn tb s r.2 = 47
      · simp only [if_pos h2]
        exact pP1_it k _
      · simp only [if_neg h2]
def tS (tb : Nat → Int32) (s : Nat) (F : Nat × Bool → Int32 × (Nat × Bool)) (r : Int32 × (Nat × Bool)) : Option (Int32 × (Nat × Bool)) := if tkn tb s r.2 = 43 then some (r.1 + (F (r.2.1 + 1, r.2.2)).1, (F (r.2.1 + 1, r.2.2)).2) else if tkn tb s r.2 = 45 then some (r.1 - (F (r.2.1 + 1, r.2.2)).1, (F (r.2.1 + 1, r.2.2)).2) else none
theorem pS1_it {F : Nat × Bool → Int32 × (Nat × Bool)} : ∀ (k : Nat) (r : Int32 × (Nat × Bool)), pS1 tb s F k r = itr (tS tb s F) k r
  | 0, _ => rfl
  | k + 1, r => by
    unfold pS1 itr tS
    by_cases h : tkn tb s r.2 = 43
    · simp only [if_pos h]
      exact pS1_it k _
    · simp only [if_neg h]
      by_cases h2 : tkn tb s r.2 = 45
      · simp only [if_pos h2]
        exact pS1_it k _
      · simp only [if_neg h2]
theorem quoX (a b : Int32) : f_X5_quotient a b = some (if b = 0 then 0 else a / b) := by
  unfold f_X5_quotient
  by_cases h : b = 0
  · rw [if_pos h, if_pos h]
  · rw [if_neg h, if_neg h, gd_nz h]
theorem proX (H : PH w t0 tb s vals) {S : Nat → Int32 → Wd → Option (Int32 × Wd)} {F : Nat × Bool → Int32 × (Nat × Bool)} {d : Int32} (hF : PE w t0 s (f_X5_readFactor S t0 d) F) : PE w t0 s (f_X5_readProduct S t0 d) (pP tb s F) := by
  intro st hs
  obtain ⟨f1, f2⟩ := hF st hs
  obtain ⟨q, h1, h2⟩ := lp_it (w := w) (t0 := t0) (s := s) (step := f_X5_readProduct_L8 S t0 d) (T := tP tb s F) (N := 80) (fun c r hc hr hT => by
      unfold f_X5_readProduct_L8
      simp only
      rw [if_neg (show ¬ (80 : Int32) ≤ nI c from nle (n := 80) hc (by decide)), nextX H hr, bd1]
      unfold tP at hT
      by_cases h : tkn tb s r.2 = 42
      · rw [if_pos h] at hT
        cases hT
      · rw [if_neg h] at hT
        by_cases h3 : tkn tb s r.2 = 47
        · rw [if_pos h3] at hT
          cases hT
        · rw [if_neg h, if_neg h3]) (fun c r r' hc hr hT => by
      unfold f_X5_readProduct_L8
      simp only
      rw [if_neg (show ¬ (80 : Int32) ≤ nI c from nle (n := 80) hc (by decide)), nextX H hr, bd1]
      unfold tP at hT
      by_cases h : tkn tb s r.2 = 42
      · rw [if_pos h] at hT
        cases hT
        obtain ⟨a, b, -⟩ := tkn_b H (st := r.2) (fun z => by rw [z] at h; exact absurd h (by decide))
        obtain ⟨g1, g2⟩ := hF (r.2.1 + 1, r.2.2) b
        unfold f_X5_readProduct_J37
        rw [if_pos h, lw_e, stepX a, g1, bd1, if_pos h, nI_1]
        exact ⟨rfl, g2⟩
      · rw [if_neg h] at hT
        by_cases h3 : tkn tb s r.2 = 47
        · rw [if_pos h3] at hT
          cases hT
          obtain ⟨a, b, -⟩ := tkn_b H (st := r.2) (fun z => by rw [z] at h3; exact absurd h3 (by decide))
          obtain ⟨g1, g2⟩ := hF (r.2.1 + 1, r.2.2) b
          unfold f_X5_readProduct_J37
          rw [if_neg h, if_pos h3, lw_e, stepX a, g1, bd1, if_neg h, quoX, bd1, nI_1]
          exact ⟨rfl, g2⟩
        · rw [if_neg h3] at hT
          cases hT) (fun r => by
      unfold f_X5_readProduct_L8
      simp only
      rw [if_pos (show (80 : Int32) ≤ nI 80 from by decide)]) 80 0 FU (F st) (by decide) (by decide) f2
  unfold f_X5_readProduct pP
  rw [f1, bd1]
  refine ⟨?_, ?_⟩
  · show (lp _ FU (_, nI 0, _)).bind _ = _
    rw [h1, bd1]
    simp only
    rw [pP1_it]
  · rw [pP1_it]
    exact h2
theorem sumX (H : PH w t0 tb s vals) {S : Nat → Int32 → Wd → Option (Int32 × Wd)} {F : Nat × Bool → Int32 × (Nat × Bool)} {d : Int32} (hF : PE w t0 s (f_X5_readProduct S t0 d) F) : PE w t0 s (f_X5_readSum_o S t0 d) (fun st => pS1 tb s F 80 (F st)) := by
  intro st hs
  obtain ⟨f1, f2⟩ := hF st hs
  obtain ⟨q, h1, h2⟩ := lp_it (w := w) (t0 := t0) (s := s) (step := f_X5_readSum_L8 S t0 d) (T := tS tb s F) (N := 80) (fun c r hc hr hT => by
      unfold f_X5_readSum_L8
      simp only
      rw [if_neg (show ¬ (80 : Int32) ≤ nI c from nle (n := 80) hc (by decide)), nextX H hr, bd1]
      unfold tS at hT
      by_cases h : tkn tb s r.2 = 43
      · rw [if_pos h] at hT
        cases hT
      · rw [if_neg h] at hT
        by_cases h3 : tkn tb s r.2 = 45
        · rw [if_pos h3] at hT
          cases hT
        · rw [if_neg h, if_neg h3]) (fun c r r' hc hr hT => by
      unfold f_X5_readSum_L8
      simp only
      rw [if_neg (show ¬ (80 : Int32) ≤ nI c from nle (n := 80) hc (by decide)), nextX H hr, bd1]
      unfold tS at hT
      by_cases h : tkn tb s r.2 = 43
      · rw [if_pos h] at hT
        cases hT
        obtain ⟨a, b, -⟩ := tkn_b H (st := r.2) (fun z => by rw [z] at h; exact absurd h (by decide))
        obtain ⟨g1, g2⟩ := hF (r.2.1 + 1, r.2.2) b
        unfold f_X5_readSum_J37
        rw [if_pos h, lw_e, stepX a, g1, bd1, if_pos h, nI_1]
        exact ⟨rfl, g2⟩
      · rw [if_neg h] at hT
        by_cases h3 : tkn tb s r.2 = 45
        · rw [if_pos h3] at hT
          cases hT
          obtain ⟨a, b, -⟩ := tkn_b H (st := r.2) (fun z => by rw [z] at h3; exact absurd h3 (by decide))
          obtain ⟨g1, g2⟩ := hF (r.2.1 + 1, r.2.2) b
          unfold f_X5_readSum_J37
          rw [if_neg h, if_pos h3, lw_e, stepX a, g1, bd1, if_neg h, nI_1]
          exact ⟨rfl, g2⟩
        · rw [if_neg h3] at hT
          cases hT) (fun r => by
      unfold f_X5_readSum_L8
      simp only
      rw [if_pos (show (80 : Int32) ≤ nI 80 from by decide)]) 80 0 FU (F st) (by decide) (by decide) f2
  unfold f_X5_readSum_o
  rw [f1, bd1]
  refine ⟨?_, ?_⟩
  · show (lp _ FU (_, nI 0, _)).bind _ = _
    rw [h1, bd1]
    simp only
    rw [pS1_it]
  · simp only
    rw [pS1_it]
    exact h2
theorem sumN (H : PH w t0 tb s vals) : ∀ (n d : Nat), n + d = 5 → 0 < n → PE w t0 s (f_X5_readSum n t0 (nI d)) (pS tb s vals n d)
  | 0, _, _, h => absurd h (Nat.lt_irrefl _)
  | n + 1, d, hd, _ => by
    have := sumX H (S := f_X5_readSum n) (d := nI d) (proX H (facX H (S := f_X5_readSum n) (m := pS tb s vals n) (d := d) (by omega) fun h4 => sumN H n (d + 1) (by omega) (by omega)))
    exact this
end PARSE

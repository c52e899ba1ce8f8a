theorem nameX (c : Int32) : f_X11_nameOf c = some (ixf (nmI c)) := by
  unfold f_X11_nameOf
  by_cases h1 : c = 102
  · subst h1; rfl
  rw [if_neg h1]
  by_cases h2 : c = 103
  · subst h2; rfl
  rw [if_neg h2]
  by_cases a1 : c = 104
  · subst a1; rfl
  rw [if_neg a1]
  by_cases a2 : c = 105
  · subst a2; rfl
  rw [if_neg a2]
  by_cases a3 : c = 106
  · subst a3; rfl
  rw [if_neg a3]
  by_cases h3 : c = 107
  · subst h3; rfl
  rw [if_neg h3]
  by_cases a4 : c = 108
  · subst a4; rfl
  rw [if_neg a4]
  by_cases a5 : c = 109
  · subst a5; rfl
  rw [if_neg a5]
  by_cases a6 : c = 110
  · subst a6; rfl
  rw [if_neg a6]
  by_cases a7 : c = 111
  · subst a7; rfl
  rw [if_neg a7]
  by_cases h4 : c = 112
  · subst h4; rfl
  rw [if_neg h4]
  by_cases a8 : c = 113
  · subst a8; rfl
  rw [if_neg a8]
  by_cases h5 : c = 114
  · subst h5; rfl
  rw [if_neg h5]
  by_cases a9 : c = 115
  · subst a9; rfl
  rw [if_neg a9]
  by_cases h6 : c = 116
  · subst h6; rfl
  rw [if_neg h6]
  by_cases h7 : c = 117
  · subst h7; rfl
  rw [if_neg h7]
  by_cases b1 : c = 118
  · subst b1; rfl
  rw [if_neg b1]
  by_cases h8 : c = 119
  · subst h8; rfl
  rw [if_neg h8]
  unfold nmI
  rw [if_neg h7, if_neg h6, if_neg h2, if_neg h8, if_neg h3, if_neg h1, if_neg h5, if_neg h4]
  rfl
theorem digY (c : Int32) : f_X11_isDigit c = some (if isDg c = true then 1 else 0) := digX c
def bz (b : Bool) : Int32 := if b = true then 1 else 0
def RpM (w0 W : Wd) (a : Mc) : Prop := Rp w0 W a.2.1 a.2.2.1 a.2.2.2.1 a.2.2.2.2.1 a.2.2.2.2.2
def Bn (s : Nat) (a : Mc) : Prop := a.2.2.1.length + a.2.2.2.2.1.length ≤ a.2.1 ∧ a.2.1 ≤ s
def mu (s : Nat) (a : Mc) : Nat := if a.2.2.2.2.2 = true then 0 else 2 * (s - a.2.1) + (if a.1 = true then 1 else 0) + 1
section REF2
variable {w0 W : Wd} {p : Nat} {S : List Int32} {o : Int32} {E : List Int32} {f : Bool} {s : Nat}
theorem rnum (h18 : w0.1 76 18 = nI s) (hs : s ≤ 80) : ∀ (k c F : Nat) (W : Wd) (r : Int32 × (Nat × Bool)), c + k = 4 → k < F → Rp w0 W r.2.1 S o E f → r.2.2 = false → r.2.1 ≤ s → ∃ W' q, lp f_X11_operand_L36 F (r.1, nI c, W) = some ((pNum (w0.1 92) s k r).1, q, W') ∧ Rp w0 W' (pNum (w0.1 92) s k r).2.1 S o E f
  | _, _, 0, _, _, _, hF, _, _, _ => absurd hF (Nat.not_lt_zero _)
  | 0, c, F + 1, W, r, hc, _, h, _, _ => by
    have e : c = 4 := by omega
    subst e
    exact ⟨W, nI 4, rfl, h⟩
  | k + 1, c, F + 1, W, r, hc, hF, h, hf, hp => by
    obtain ⟨h1, h2, h3, h4, h5, h6, h7, h8, h9, h10⟩ := id h
    have e18 : W.1 76 18 = nI s := by rw [h3 18 (by decide)]; exact h18
    have e92 : W.1 92 = w0.1 92 := h2 92 (by decide) (by decide) (by decide)
    have er : r.2 = (r.2.1, false) := Prod.ext rfl hf
    have n4 : ¬ (4 : Int32) ≤ nI c := nle (n := 4) (by omega) (by decide)
    unfold pNum
    rcases Nat.lt_or_ge r.2.1 s with hlt | hge
    · have et : tkn (w0.1 92) s r.2 = w0.1 92 r.2.1 := by rw [er]; exact tkn_f hlt
      by_cases hd : isDg (w0.1 92 r.2.1) = true
      · have hR := rp_at h (r.2.1 + 1)
        obtain ⟨W', q, l1, l2⟩ := rnum h18 hs k (c + 1) F (si W 76 24 (nI (r.2.1 + 1))) (10 * r.1 + tkn (w0.1 92) s r.2 - 48, (r.2.1 + 1, r.2.2)) (by omega) (by omega) hR hf hlt
        refine ⟨W', q, ?_, ?_⟩
        · show (f_X11_operand_L36 _).bind _ = _
          unfold f_X11_operand_L36
          simp only
          rw [if_neg n4, e18, h4, if_neg (nle hlt (by omega)), gd_in (by omega) (by decide), cl_n (by omega), e92, digY, bd1, if_pos hd, if_neg (by decide), gd_in (by omega) (by decide), lw_e, nI_1, nI_1, et, if_pos hd]
          rw [et] at l1
          exact l1
        · rw [et, if_pos hd, ← et]
          exact l2
      · refine ⟨W, nI c, ?_, ?_⟩
        · show (f_X11_operand_L36 _).bind _ = _
          unfold f_X11_operand_L36
          simp only
          rw [if_neg n4, e18, h4, if_neg (nle hlt (by omega)), gd_in (by omega) (by decide), cl_n (by omega), e92, digY, bd1, if_neg hd, if_pos rfl, et, if_neg hd]
          rfl
        · rw [et, if_neg hd]
          exact h
    · have et : tkn (w0.1 92) s r.2 = -1 := by rw [er]; exact tkn_e hge
      rw [et, if_neg (by decide)]
      refine ⟨W, nI c, ?_, h⟩
      show (f_X11_operand_L36 _).bind _ = _
      unfold f_X11_operand_L36
      simp only
      rw [if_neg n4, e18, h4, if_pos (nI_le hge (by omega))]
      rfl
theorem opdX (h18 : w0.1 76 18 = nI s) (hs : s ≤ 80) (h : Rp w0 W p S o E false) (hb : S.length + E.length ≤ p) (hp : p ≤ s) : ∃ W', f_X11_operand W = some (bz (mA (w0.1 92) s p S o E).1, W') ∧ RpM w0 W' (mA (w0.1 92) s p S o E) ∧ Bn s (mA (w0.1 92) s p S o E) ∧ mu s (mA (w0.1 92) s p S o E) < mu s (true, p, S, o, E, false) := by
  obtain ⟨h1, h2, h3, h4, h5, h6, h7, h8, h9, h10⟩ := id h
  have e18 : W.1 76 18 = nI s := by rw [h3 18 (by decide)]; exact h18
  have e92 : W.1 92 = w0.1 92 := h2 92 (by decide) (by decide) (by decide)
  have e0 : f_X11_operand W = f_X11_operand_J24 (tkn (w0.1 92) s (p, false)) W := by
    unfold f_X11_operand
    rw [e18, h4]
    rcases Nat.lt_or_ge p s with hlt | hge
    · rw [if_neg (nle hlt (by omega)), gd_in (by omega) (by decide), cl_n (by omega), e92, tkn_f hlt]
    · rw [if_pos (nI_le hge (by omega)), tkn_e hge]
  have m0 : mu s (true, p, S, o, E, false) = 2 * (s - p) + 2 := rfl
  rw [e0]
  unfold f_X11_operand_J24 mA
  rw [digY, bd1]
  by_cases hd : isDg (tkn (w0.1 92) s (p, false)) = true
  · rw [if_pos hd, if_pos hd, if_neg (by decide)]
    have hlt : p < s := by
      rcases Nat.lt_or_ge p s with x | x
      · exact x
      · rw [tkn_e x] at hd
        exact absurd hd (by decide)
    obtain ⟨W1, q, l1, l2⟩ := rnum h18 hs 4 0 FU W (0, (p, false)) (by decide) (by decide) h rfl hp
    have adv : p + 1 ≤ (pNum (w0.1 92) s 4 (0, (p, false))).2.1 ∧ (pNum (w0.1 92) s 4 (0, (p, false))).2.1 ≤ s := by
      have e : pNum (w0.1 92) s 4 (0, (p, false)) = pNum (w0.1 92) s 3 (10 * 0 + tkn (w0.1 92) s (p, false) - 48, (p + 1, false)) := by
        show (if isDg (tkn (w0.1 92) s (p, false)) = true then _ else _) = _
        rw [if_pos hd]
      obtain ⟨b, hb1, hb2⟩ := dg_n hd
      obtain ⟨y, y1, y2, y3, y4, y5⟩ := pNum_v (tb := w0.1 92) (s := s) 3 b (10 * 0 + tkn (w0.1 92) s (p, false) - 48, (p + 1, false)) (by decide) (by
        show 10 * 0 + tkn (w0.1 92) s (p, false) - 48 = _
        rw [hb2]
        show nI 10 * nI 0 + nI (48 + b) - nI 48 = _
        rw [nI_mul, nI_add, nI_sub (by omega)]
        congr 1
        omega) hb1 rfl hlt
      rw [e]
      exact ⟨y4, y5⟩
    obtain ⟨W2, l3, l4⟩ := rp_emit l2 (by omega) (pNum (w0.1 92) s 4 (0, (p, false))).1
    refine ⟨W2, ?_, l4, ?_, ?_⟩
    · show (lp f_X11_operand_L36 FU ((0, (p, false)).1, nI 0, W)).bind _ = _
      rw [l1, bd1, l3, bd1]
      rfl
    · refine ⟨?_, adv.2⟩
      simp only [List.length_append, List.length_singleton]
      omega
    · rw [m0]
      show 2 * (s - (pNum (w0.1 92) s 4 (0, (p, false))).2.1) + 0 + 1 < _
      omega
  rw [if_neg hd, if_neg hd, if_pos rfl, nameX, bd1]
  rcases hn : nmI (tkn (w0.1 92) s (p, false)) with - | k
  · simp only
    rw [if_pos (show ixf none < 0 by decide)]
    by_cases hc : tkn (w0.1 92) s (p, false) = 40 ∨ tkn (w0.1 92) s (p, false) = 91
    · have hlt : p < s := by
        rcases Nat.lt_or_ge p s with x | x
        · exact x
        · rw [tkn_e x] at hc
          exact absurd hc (by decide)
      have eJ : (if tkn (w0.1 92) s (p, false) = 40 then f_X11_operand_J151 (tkn (w0.1 92) s (p, false)) W else if tkn (w0.1 92) s (p, false) = 91 then f_X11_operand_J151 (tkn (w0.1 92) s (p, false)) W else lw (si W 76 25 1) fun w15 => some (1, w15)) = f_X11_operand_J151 (tkn (w0.1 92) s (p, false)) W := by
        by_cases q : tkn (w0.1 92) s (p, false) = 40
        · rw [if_pos q]
        · rw [if_neg q, if_pos (hc.resolve_left q)]
      rw [eJ, if_pos hc]
      unfold f_X11_operand_J151
      rw [h6]
      by_cases ho : 4 ≤ o
      · rw [if_pos ho, if_pos ho]
        exact ⟨_, rfl, rp_f h true, ⟨hb, hp⟩, by rw [m0]; show 0 < _; omega⟩
      · rw [if_neg ho, if_neg ho]
        obtain ⟨W2, l3, l4⟩ := rp_push (rp_o h (o + 1)) (by omega) (tkn (w0.1 92) s (p, false))
        refine ⟨W2, ?_, l4, ⟨?_, hlt⟩, ?_⟩
        · simp only [lw_e]
          rw [l3]
          rfl
        · simp only [List.length_cons]
          omega
        · rw [m0]
          show 2 * (s - (p + 1)) + 1 + 1 < _
          omega
    · rw [if_neg hc, if_neg (fun z => hc (Or.inl z)), if_neg (fun z => hc (Or.inr z))]
      exact ⟨_, rfl, rp_f h true, ⟨hb, hp⟩, by rw [m0]; show 0 < _; omega⟩
  · simp only
    have hk : k < 8 := by
      unfold nmI at hn
      repeat' split at hn
      all_goals cases hn
      all_goals decide
    have hlt : p < s := by
      rcases Nat.lt_or_ge p s with x | x
      · exact x
      · rw [tkn_e x, show nmI (-1) = none by decide] at hn
        cases hn
    obtain ⟨W2, l3, l4⟩ := rp_emit h (by omega) (10000 + nI k)
    rw [if_neg (show ¬ ixf (some k) < 0 from fun z => by rw [i_lt, show ixf (some k) = nI k from rfl, nI_toInt (by omega)] at z; have k0 : (0 : Int32).toInt = 0 := by decide
                                                         omega), bd1, show ixf (some k) = nI k from rfl, l3, bd1, lw_e, l4.2.2.2.1, nI_1]
    refine ⟨_, rfl, rp_at l4 (p + 1), ⟨?_, hlt⟩, ?_⟩
    · simp only [List.length_append, List.length_singleton]
      omega
    · rw [m0]
      show 2 * (s - (p + 1)) + 0 + 1 < _
      omega
theorem oprX (h18 : w0.1 76 18 = nI s) (hs : s ≤ 80) (h : Rp w0 W p S o E false) (hb : S.length + E.length ≤ p) (hp : p < s) : ∃ W', f_X11_operator W = some (bz (mB (w0.1 92 p) p S o E).1, W') ∧ RpM w0 W' (mB (w0.1 92 p) p S o E) ∧ Bn s (mB (w0.1 92 p) p S o E) ∧ mu s (mB (w0.1 92 p) p S o E) < mu s (false, p, S, o, E, false) := by
  obtain ⟨h1, h2, h3, h4, h5, h6, h7, h8, h9, h10⟩ := id h
  have e92 : W.1 92 = w0.1 92 := h2 92 (by decide) (by decide) (by decide)
  have m0 : mu s (false, p, S, o, E, false) = 2 * (s - p) + 1 := rfl
  have sl1 := stl_len (t := 10100) (S := S) (E := E)
  have sl2 := stl_len (t := 10102) (S := S) (E := E)
  obtain ⟨W1, a1, a2⟩ := rp_stl 1 10100 (Or.inl ⟨rfl, rfl⟩) h (by omega)
  obtain ⟨W2, b1, b2⟩ := rp_stl 2 10102 (Or.inr ⟨rfl, rfl⟩) h (by omega)
  unfold f_X11_operator
  rw [h4, gd_in (by omega) (by decide), cl_n (by omega), e92]
  generalize hc : w0.1 92 p = c
  have J34 : (c = 43 ∨ c = 45 ∨ c = 42 ∨ c = 47) → ∃ W', f_X11_operator_J34 c W = some (bz (mB c p S o E).1, W') ∧ RpM w0 W' (mB c p S o E) ∧ Bn s (mB c p S o E) ∧ mu s (mB c p S o E) < mu s (false, p, S, o, E, false) := by
    intro hq
    by_cases q1 : c = 43 ∨ c = 45
    · have e1 : f_X11_operator_J34 c W = f_X11_operator_J52 c 1 W := by
        unfold f_X11_operator_J34 f_X11_operator_J47
        by_cases q : c = 43
        · rw [if_pos q]
        · rw [if_neg q, if_pos (q1.resolve_left q)]
      have e2 : mB c p S o E = (true, p + 1, (if c = 43 then 10100 else 10101) :: (stl 10100 S E).1, o, (stl 10100 S E).2, false) := by
        unfold mB
        rw [if_pos q1]
      obtain ⟨W', l1, l2⟩ := rp_push a2 (by omega) (if c = 43 then 10100 else 10101)
      rw [e1, e2]
      refine ⟨W', ?_, l2, ⟨?_, hp⟩, ?_⟩
      · unfold f_X11_operator_J52
        rw [a1, bd1]
        by_cases q : c = 43
        · rw [if_pos q] at l1 ⊢
          rw [l1]
          rfl
        · rw [if_neg q] at l1 ⊢
          rw [if_pos (q1.resolve_left q), l1]
          rfl
      · simp only [List.length_cons]
        omega
      · rw [m0]
        show 2 * (s - (p + 1)) + 1 + 1 < _
        omega
    · have q2 : c = 42 ∨ c = 47 := by
        rcases hq with q | q | q | q
        · exact absurd (Or.inl q) q1
        · exact absurd (Or.inr q) q1
        · exact Or.inl q
        · exact Or.inr q
      have e1 : f_X11_operator_J34 c W = f_X11_operator_J52 c 2 W := by
        unfold f_X11_operator_J34
        rw [if_neg (fun z => q1 (Or.inl z)), if_neg (fun z => q1 (Or.inr z))]
      have e2 : mB c p S o E = (true, p + 1, (if c = 42 then 10102 else 10103) :: (stl 10102 S E).1, o, (stl 10102 S E).2, false) := by
        unfold mB
        rw [if_neg q1, if_pos q2]
      obtain ⟨W', l1, l2⟩ := rp_push b2 (by omega) (if c = 42 then 10102 else 10103)
      rw [e1, e2]
      refine ⟨W', ?_, l2, ⟨?_, hp⟩, ?_⟩
      · unfold f_X11_operator_J52
        rw [b1, bd1, if_neg (fun z => q1 (Or.inl z)), if_neg (fun z => q1 (Or.inr z))]
        by_cases q : c = 42
        · rw [if_pos q] at l1 ⊢
          rw [l1]
          rfl
        · rw [if_neg q] at l1 ⊢
          rw [l1]
          rfl
      · simp only [List.length_cons]
        omega
      · rw [m0]
        show 2 * (s - (p + 1)) + 1 + 1 < _
        omega
  by_cases n1 : c = 43
  · rw [if_pos n1]
    exact J34 (Or.inl n1)
  rw [if_neg n1]
  by_cases n2 : c = 45
  · rw [if_pos n2]
    exact J34 (Or.inr (Or.inl n2))
  rw [if_neg n2]
  by_cases n3 : c = 42
  · rw [if_pos n3]
    exact J34 (Or.inr (Or.inr (Or.inl n3)))
  rw [if_neg n3]
  by_cases n4 : c = 47
  · rw [if_pos n4]
    exact J34 (Or.inr (Or.inr (Or.inr n4)))
  rw [if_neg n4, a1, bd1]
  have et := rp_top a2 (by omega)
  have eB : mB c p S o E = if c = 41 ∧ topL (stl 10100 S E).1 = 40 then (false, p + 1, (stl 10100 S E).1.tail, o - 1, (stl 10100 S E).2, false) else if c = 93 ∧ topL (stl 10100 S E).1 = 58 then (false, p + 1, (stl 10100 S E).1.tail, o - 1, (stl 10100 S E).2 ++ [10104], false) else if (c = 63 ∧ topL (stl 10100 S E).1 = 91) ∨ (c = 58 ∧ topL (stl 10100 S E).1 = 63) then (true, p + 1, c :: (stl 10100 S E).1.tail, o, (stl 10100 S E).2, false) else (false, p, (stl 10100 S E).1, o, (stl 10100 S E).2, true) := by
    unfold mB
    rw [if_neg (fun z => z.elim n1 n2), if_neg (fun z => z.elim n3 n4)]
  rw [eB]
  clear eB J34 b1 b2 sl2
  generalize (stl 10100 S E).1 = S1 at *
  generalize (stl 10100 S E).2 = E1 at *
  have fault : ∃ W', (lw (si W1 76 25 1) fun w31 => some ((0 : Int32), w31)) = some (bz false, W') ∧ RpM w0 W' (false, p, S1, o, E1, true) ∧ Bn s (false, p, S1, o, E1, true) ∧ mu s (false, p, S1, o, E1, true) < mu s (false, p, S, o, E, false) := by
    refine ⟨_, rfl, rp_f a2 true, ⟨?_, Nat.le_of_lt hp⟩, ?_⟩
    · simp only
      omega
    · rw [m0]
      show 0 < _
      omega
  have close : ∀ (t : Int32), topL S1 = t → t ≠ -1 → ∀ (V : Wd) (E2 : List Int32), Rp w0 V p S1 o E2 false → E2.length ≤ E1.length + 1 → ∃ W', f_X11_operator_J148 V = some (bz false, W') ∧ RpM w0 W' (false, p + 1, S1.tail, o - 1, E2, false) ∧ Bn s (false, p + 1, S1.tail, o - 1, E2, false) ∧ mu s (false, p + 1, S1.tail, o - 1, E2, false) < mu s (false, p, S, o, E, false) := by
    intro t ht htn V E2 hV hl
    cases S1 with
    | nil => exact absurd ht.symm htn
    | cons x S1 =>
      have r1 := rp_pop hV
      have r2 := rp_o r1 (o - 1)
      have r3 := rp_at r2 (p + 1)
      refine ⟨_, ?_, r3, ⟨?_, hp⟩, ?_⟩
      · unfold f_X11_operator_J148
        simp only [lw_e]
        rw [r1.2.2.2.2.2.1, r2.2.2.2.1, nI_1]
        rfl
      · simp only [List.length_cons, List.tail_cons] at sl1 ⊢
        omega
      · rw [m0]
        show 2 * (s - (p + 1)) + 0 + 1 < _
        omega
  have turn : ∀ (t : Int32), topL S1 = t → t ≠ -1 → ∃ W', f_X11_operator_J210 c W1 = some (bz true, W') ∧ RpM w0 W' (true, p + 1, c :: S1.tail, o, E1, false) ∧ Bn s (true, p + 1, c :: S1.tail, o, E1, false) ∧ mu s (true, p + 1, c :: S1.tail, o, E1, false) < mu s (false, p, S, o, E, false) := by
    intro t ht htn
    cases S1 with
    | nil => exact absurd ht.symm htn
    | cons x S1 =>
      have hl : (x :: S1).length ≤ 80 := by omega
      obtain ⟨r1, r2, r3⟩ := rp_rep a2 hl c
      have r4 := rp_at r3 (p + 1)
      refine ⟨_, ?_, r4, ⟨?_, hp⟩, ?_⟩
      · unfold f_X11_operator_J210
        rw [r1, gd_in r2 (by decide), cl_n (by omega)]
        simp only [lw_e]
        rw [r3.2.2.2.1, nI_1]
        rfl
      · simp only [List.length_cons, List.tail_cons] at sl1 ⊢
        omega
      · rw [m0]
        show 2 * (s - (p + 1)) + 1 + 1 < _
        omega
  have J195 : ¬ (c = 63 ∧ topL S1 = 91) → ∃ W', f_X11_operator_J195 c W1 = some (bz (if (c = 63 ∧ topL S1 = 91) ∨ (c = 58 ∧ topL S1 = 63) then (true, p + 1, c :: S1.tail, o, E1, false) else (false, p, S1, o, E1, true) : Mc).1, W') ∧ RpM w0 W' (if (c = 63 ∧ topL S1 = 91) ∨ (c = 58 ∧ topL S1 = 63) then (true, p + 1, c :: S1.tail, o, E1, false) else (false, p, S1, o, E1, true)) ∧ Bn s (if (c = 63 ∧ topL S1 = 91) ∨ (c = 58 ∧ topL S1 = 63) then (true, p + 1, c :: S1.tail, o, E1, false) else (false, p, S1, o, E1, true)) ∧ mu s (if (c = 63 ∧ topL S1 = 91) ∨ (c = 58 ∧ topL S1 = 63) then (true, p + 1, c :: S1.tail, o, E1, false) else (false, p, S1, o, E1, true)) < mu s (false, p, S, o, E, false) := by
    intro hno
    unfold f_X11_operator_J195
    by_cases c58 : c = 58
    · rw [if_pos c58, et, bd1]
      by_cases t63 : topL S1 = 63
      · rw [if_pos t63, if_pos (Or.inr ⟨c58, t63⟩)]
        exact turn 63 t63 (by decide)
      · rw [if_neg t63, if_neg (fun z => z.elim hno (fun z => t63 z.2))]
        exact fault
    · rw [if_neg c58, if_neg (fun z => z.elim hno (fun z => c58 z.1))]
      exact fault
  have J180 : ∃ W', f_X11_operator_J180 c W1 = some (bz (if (c = 63 ∧ topL S1 = 91) ∨ (c = 58 ∧ topL S1 = 63) then (true, p + 1, c :: S1.tail, o, E1, false) else (false, p, S1, o, E1, true) : Mc).1, W') ∧ RpM w0 W' (if (c = 63 ∧ topL S1 = 91) ∨ (c = 58 ∧ topL S1 = 63) then (true, p + 1, c :: S1.tail, o, E1, false) else (false, p, S1, o, E1, true)) ∧ Bn s (if (c = 63 ∧ topL S1 = 91) ∨ (c = 58 ∧ topL S1 = 63) then (true, p + 1, c :: S1.tail, o, E1, false) else (false, p, S1, o, E1, true)) ∧ mu s (if (c = 63 ∧ topL S1 = 91) ∨ (c = 58 ∧ topL S1 = 63) then (true, p + 1, c :: S1.tail, o, E1, false) else (false, p, S1, o, E1, true)) < mu s (false, p, S, o, E, false) := by
    unfold f_X11_operator_J180
    by_cases c63 : c = 63
    · rw [if_pos c63, et, bd1]
      by_cases t91 : topL S1 = 91
      · rw [if_pos t91, if_pos (Or.inl ⟨c63, t91⟩)]
        exact turn 91 t91 (by decide)
      · rw [if_neg t91]
        exact J195 (fun z => t91 z.2)
    · rw [if_neg c63]
      exact J195 (fun z => c63 z.1)
  have J120 : ∃ W', f_X11_operator_J120 c W1 = some (bz (if c = 93 ∧ topL S1 = 58 then (false, p + 1, S1.tail, o - 1, E1 ++ [10104], false) else if (c = 63 ∧ topL S1 = 91) ∨ (c = 58 ∧ topL S1 = 63) then (true, p + 1, c :: S1.tail, o, E1, false) else (false, p, S1, o, E1, true) : Mc).1, W') ∧ RpM w0 W' (if c = 93 ∧ topL S1 = 58 then (false, p + 1, S1.tail, o - 1, E1 ++ [10104], false) else if (c = 63 ∧ topL S1 = 91) ∨ (c = 58 ∧ topL S1 = 63) then (true, p + 1, c :: S1.tail, o, E1, false) else (false, p, S1, o, E1, true)) ∧ Bn s (if c = 93 ∧ topL S1 = 58 then (false, p + 1, S1.tail, o - 1, E1 ++ [10104], false) else if (c = 63 ∧ topL S1 = 91) ∨ (c = 58 ∧ topL S1 = 63) then (true, p + 1, c :: S1.tail, o, E1, false) else (false, p, S1, o, E1, true)) ∧ mu s (if c = 93 ∧ topL S1 = 58 then (false, p + 1, S1.tail, o - 1, E1 ++ [10104], false) else if (c = 63 ∧ topL S1 = 91) ∨ (c = 58 ∧ topL S1 = 63) then (true, p + 1, c :: S1.tail, o, E1, false) else (false, p, S1, o, E1, true)) < mu s (false, p, S, o, E, false) := by
    unfold f_X11_operator_J120
    by_cases c93 : c = 93
    · rw [if_pos c93, et, bd1]
      by_cases t58 : topL S1 = 58
      · rw [if_pos t58, if_pos ⟨c93, t58⟩]
        unfold f_X11_operator_J135
        obtain ⟨V, v1, v2⟩ := rp_emit a2 (by omega) 10104
        rw [if_pos c93, v1, bd1]
        exact close 58 t58 (by decide) V _ v2 (by rw [List.length_append, List.length_singleton]; omega)
      · rw [if_neg t58, if_neg (fun z => t58 z.2)]
        exact J180
    · rw [if_neg c93, if_neg (fun z => c93 z.1)]
      exact J180
  by_cases c41 : c = 41
  · rw [if_pos c41, et, bd1]
    by_cases t40 : topL S1 = 40
    · rw [if_pos t40, if_pos ⟨c41, t40⟩]
      unfold f_X11_operator_J135
      rw [if_neg (by rw [c41]; decide)]
      exact close 40 t40 (by decide) W1 E1 a2 (by omega)
    · rw [if_neg t40, if_neg (fun z => t40 z.2)]
      exact J120
  · rw [if_neg c41, if_neg (fun z => c41 z.1)]
    exact J120
end REF2

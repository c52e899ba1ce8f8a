section SIM2
variable {tb : Nat → Int32} {s : Nat}
theorem inner {d : Nat} {m : (Nat → Int32) → Nat × Bool → Int32 × (Nat × Bool)} {b e : Int32} (hS : SmS tb s (d + 1) m) (hb : pair b e) {p : Nat} {S E : List Int32} (hp : p ≤ s) : ∃ st' : Nat × Bool, (∀ vals, (m vals (p, false)).2 = st') ∧ p ≤ st'.1 ∧ st'.1 ≤ s ∧ ((pExp tb s e st' = (st'.1, true) ∧ ∃ k a', Rt tb s k (true, p, b :: S, nI (d + 1), E, false) a' ∧ Bd s a' st'.1) ∨ (st'.1 < s ∧ tb st'.1 = e ∧ pExp tb s e st' = (st'.1 + 1, false) ∧ ∃ k ops X, Rt tb s k (true, p, b :: S, nI (d + 1), E, false) (false, st'.1, ops ++ b :: S, nI (d + 1), E ++ X, false) ∧ (∀ c, c ∈ ops → ¬ c < 10100) ∧ Lv (X ++ ops) (fun vals => (m vals (p, false)).1))) := by
  have he : e ≠ -1 := by rcases hb with h | h | h | h <;> rw [h.2] <;> decide
  obtain ⟨⟨q, f⟩, h1, h2, h3, h4⟩ := hS p (b :: S) E hp (fun c S' hc => by cases hc; exact pair_t hb)
  refine ⟨(q, f), h1, h2, h3, ?_⟩
  rcases h4 with ⟨a1, a2⟩ | ⟨a1, a2, k, ops, X, a3, a4, a5⟩
  · simp only at a1
    subst a1
    refine Or.inl ⟨?_, a2⟩
    unfold pExp
    rw [tkn_t, if_neg (fun z => he z.symm)]
  · simp only at a1
    subst a1
    by_cases ht : tkn tb s (q, false) = e
    · have hq : q < s := by
        rcases Nat.lt_or_ge q s with x | x
        · exact x
        · rw [tkn_e x] at ht
          exact absurd ht.symm he
      refine Or.inr ⟨hq, by rw [← tkn_f (tb := tb) hq]; exact ht, ?_, k, ops, X, a3, a4, a5⟩
      unfold pExp
      rw [if_pos ht]
    · obtain ⟨k2, a', r1, r2⟩ := notexp (E := E ++ X) (S := S) (o := nI (d + 1)) hb a2 a4 ht
      refine Or.inl ⟨?_, k + k2, a', Rt_t a3 r1, r2⟩
      unfold pExp
      rw [if_neg ht]
theorem smF {d : Nat} (hd : d ≤ 4) {m : (Nat → Int32) → Nat → Nat × Bool → Int32 × (Nat × Bool)} (hS : d < 4 → SmS tb s (d + 1) (fun vals => m vals (d + 1))) (hT : ∀ vals p, (m vals (d + 1) (p, true)).2 = (p, true)) : SmF tb s d (fun vals => pF tb s vals (m vals) d) := by
  intro p S E hp _
  have ge : (4 : Int32) ≤ nI d ↔ ¬ d < 4 := by
    constructor
    · intro z q
      exact nle (n := 4) q (by decide) z
    · intro q
      exact nI_le (a := 4) (by omega) (by omega)
  by_cases h1 : isDg (tkn tb s (p, false)) = true
  · obtain ⟨y, y1, y2, y3, y4, y5⟩ := pNum_v (tb := tb) (s := s) 4 0 (0, (p, false)) (by decide) rfl (by decide) rfl hp
    have e : ∀ vals, pF tb s vals (m vals) d (p, false) = pNum tb s 4 (0, (p, false)) := fun vals => by
      unfold pF
      rw [if_pos h1]
    refine ⟨(pNum tb s 4 (0, (p, false))).2, fun vals => by show (pF tb s vals (m vals) d (p, false)).2 = _; rw [e], y4, y5, Or.inr ⟨y3, trivial, 1, [], [(pNum tb s 4 (0, (p, false))).1], ?_, (fun c hc => by cases hc), ?_⟩⟩
    · refine Rt_1 ?_
      rw [ms_A]
      unfold mA
      rw [if_pos h1]
      rfl
    · intro vals pile
      simp only
      rw [e, y2]
      show (rstep vals (nI y) pile).bind _ = _
      unfold rstep
      rw [if_pos (show nI y < (10000 : Int32) from nI_lt (b := 10000) y1 (by decide))]
      rfl
  rcases hn : nmI (tkn tb s (p, false)) with - | k
  · by_cases h2 : (tkn tb s (p, false) = 40 ∨ tkn tb s (p, false) = 91) ∧ d < 4
    · obtain ⟨h2, h3⟩ := h2
      have hlt : p < s := by
        rcases Nat.lt_or_ge p s with x | x
        · exact x
        · rw [tkn_e x] at h2
          exact absurd h2 (by decide)
      have r0 : Rt tb s 1 (true, p, S, nI d, E, false) (true, p + 1, tkn tb s (p, false) :: S, nI (d + 1), E, false) := by
        refine Rt_1 ?_
        rw [ms_A]
        unfold mA
        rw [if_neg h1, hn]
        simp only
        rw [if_pos h2, if_neg (fun z => ge.mp z h3), nI_1]
      have eo : nI (d + 1) - 1 = nI d := nI_pred d
      rcases h2 with h2 | h2
      · rw [h2] at r0
        obtain ⟨⟨q, f⟩, i1, i2, i3, i4⟩ := inner (hS h3) (b := 40) (e := 41) (Or.inl ⟨rfl, rfl⟩) (p := p + 1) (S := S) (E := E) hlt
        simp only at i2 i3
        have e : ∀ vals, pF tb s vals (m vals) d (p, false) = ((m vals (d + 1) (p + 1, false)).1, pExp tb s 41 (q, f)) := fun vals => by
          unfold pF
          rw [if_neg h1, if_pos ⟨h2, h3⟩]
          simp only
          rw [← i1 vals]
        rcases i4 with ⟨j1, k, a', j2, j3⟩ | ⟨j1, j2, j3, k, ops, X, j4, j5, j6⟩
        · exact ⟨(q, true), fun vals => by show (pF tb s vals (m vals) d (p, false)).2 = _; rw [e]; exact j1, by simp only; omega, i3, Or.inl ⟨rfl, 1 + k, a', Rt_t r0 j2, j3⟩⟩
        · simp only at j1 j2 j4
          refine ⟨(q + 1, false), fun vals => by show (pF tb s vals (m vals) d (p, false)).2 = _; rw [e]; exact j3, by simp only; omega, j1, Or.inr ⟨rfl, trivial, 1 + (k + 1), [], X ++ ops, Rt_t r0 (Rt_t j4 (Rt_1 ?_)), (fun c hc => by cases hc), ?_⟩⟩
          · rw [ms_B j1, j2, mB_s (by unfold stop4; decide) j5 (by decide), if_pos ⟨rfl, rfl⟩, eo, List.append_assoc]
            rfl
          · intro vals pile
            simp only
            rw [List.append_nil, e]
            exact j6 vals pile
      · rw [h2] at r0
        obtain ⟨⟨q, f⟩, i1, i2, i3, i4⟩ := inner (hS h3) (b := 91) (e := 63) (Or.inr (Or.inl ⟨rfl, rfl⟩)) (p := p + 1) (S := S) (E := E) hlt
        simp only at i2 i3
        have e : ∀ vals, pF tb s vals (m vals) d (p, false) = lw (m vals (d + 1) (p + 1, false)) fun a => lw (m vals (d + 1) (pExp tb s 63 a.2)) fun b => lw (m vals (d + 1) (pExp tb s 58 b.2)) fun c => (if a.1 = 0 then c.1 else b.1, pExp tb s 93 c.2) := fun vals => by
          unfold pF
          rw [if_neg h1, if_neg (fun z => by rw [h2] at z; exact absurd z.1 (by decide)), if_pos ⟨h2, h3⟩]
        have pt : ∀ c q, c ≠ -1 → pExp tb s c (q, true) = (q, true) := fun c q hc => by
          unfold pExp
          rw [tkn_t, if_neg (fun z => hc z.symm)]
        rcases i4 with ⟨j1, k, a', j2, j3⟩ | ⟨j1, j2, j3, k, ops, X, j4, j5, j6⟩
        · simp only at j1
          refine ⟨(q, true), fun vals => ?_, by simp only; omega, i3, Or.inl ⟨rfl, 1 + k, a', Rt_t r0 j2, j3⟩⟩
          show (pF tb s vals (m vals) d (p, false)).2 = _
          rw [e]
          simp only [lw_e]
          rw [i1, j1, hT, pt 58 q (by decide), hT, pt 93 q (by decide)]
        simp only at j1 j2 j4 j3
        have r1 : Rt tb s (1 + (k + 1)) (true, p, S, nI d, E, false) (true, q + 1, 63 :: S, nI (d + 1), E ++ (X ++ ops), false) := by
          refine Rt_t r0 (Rt_t j4 (Rt_1 ?_))
          rw [ms_B j1, j2, mB_s (by unfold stop4; decide) j5 (by decide), if_neg (by decide), if_neg (by decide), if_pos (Or.inl ⟨rfl, rfl⟩), List.append_assoc]
        obtain ⟨⟨q2, f2⟩, u1, u2, u3, u4⟩ := inner (hS h3) (b := 63) (e := 58) (Or.inr (Or.inr (Or.inl ⟨rfl, rfl⟩))) (p := q + 1) (S := S) (E := E ++ (X ++ ops)) j1
        simp only at u2 u3
        rcases u4 with ⟨v1, k2, a', v2, v3⟩ | ⟨v1, v2, v3, k2, ops2, X2, v4, v5, v6⟩
        · simp only at v1
          refine ⟨(q2, true), fun vals => ?_, by simp only; omega, u3, Or.inl ⟨rfl, _, a', Rt_t r1 v2, v3⟩⟩
          show (pF tb s vals (m vals) d (p, false)).2 = _
          rw [e]
          simp only [lw_e]
          rw [i1, j3, u1, v1, hT, pt 93 q2 (by decide)]
        simp only at v1 v2 v4 v3
        have r2 : Rt tb s (1 + (k + 1) + (k2 + 1)) (true, p, S, nI d, E, false) (true, q2 + 1, 58 :: S, nI (d + 1), E ++ (X ++ ops) ++ (X2 ++ ops2), false) := by
          refine Rt_t r1 (Rt_t v4 (Rt_1 ?_))
          rw [ms_B v1, v2, mB_s (by unfold stop4; decide) v5 (by decide), if_neg (by decide), if_neg (by decide), if_pos (Or.inr ⟨rfl, rfl⟩)]
          simp only [List.append_assoc]
        obtain ⟨⟨q3, f3⟩, x1, x2, x3, x4⟩ := inner (hS h3) (b := 58) (e := 93) (Or.inr (Or.inr (Or.inr ⟨rfl, rfl⟩))) (p := q2 + 1) (S := S) (E := E ++ (X ++ ops) ++ (X2 ++ ops2)) v1
        simp only at x2 x3
        rcases x4 with ⟨t1, k3, a', t2, t3⟩ | ⟨t1, t2, t3, k3, ops3, X3, t4, t5, t6⟩
        · simp only at t1
          refine ⟨(q3, true), fun vals => ?_, by simp only; omega, x3, Or.inl ⟨rfl, _, a', Rt_t r2 t2, t3⟩⟩
          show (pF tb s vals (m vals) d (p, false)).2 = _
          rw [e]
          simp only [lw_e]
          rw [i1, j3, u1, v3, x1, t1]
        simp only at t1 t2 t4 t3
        refine ⟨(q3 + 1, false), fun vals => ?_, by simp only; omega, t1, Or.inr ⟨rfl, trivial, _, [], (X ++ ops) ++ ((X2 ++ ops2) ++ ((X3 ++ ops3) ++ [10104])), Rt_t r2 (Rt_t t4 (Rt_1 ?_)), (fun c hc => by cases hc), ?_⟩⟩
        · show (pF tb s vals (m vals) d (p, false)).2 = _
          rw [e]
          simp only [lw_e]
          rw [i1, j3, u1, v3, x1, t3]
        · rw [ms_B t1, t2, mB_s (by unfold stop4; decide) t5 (by decide), if_neg (by decide), if_pos ⟨rfl, rfl⟩, eo]
          simp only [List.append_assoc, List.nil_append]
        · intro vals pile
          simp only
          rw [List.append_nil, e]
          simp only [lw_e]
          rw [i1, j3, u1, v3]
          exact Lv_3 j6 v6 t6 vals pile
    · have e : ∀ vals, pF tb s vals (m vals) d (p, false) = (0, (p, true)) := fun vals => by
        unfold pF
        rw [if_neg h1, if_neg (fun z => h2 ⟨Or.inl z.1, z.2⟩), if_neg (fun z => h2 ⟨Or.inr z.1, z.2⟩), hn]
        rfl
      refine ⟨(p, true), fun vals => by show (pF tb s vals (m vals) d (p, false)).2 = _; rw [e], Nat.le_refl _, hp, Or.inl ⟨rfl, 1, (true, p, S, nI d, E, true), Rt_1 ?_, rfl, Or.inl rfl⟩⟩
      rw [ms_A]
      unfold mA
      rw [if_neg h1, hn]
      simp only
      by_cases h3 : tkn tb s (p, false) = 40 ∨ tkn tb s (p, false) = 91
      · rw [if_pos h3, if_pos (ge.mpr fun z => h2 ⟨h3, z⟩)]
      · rw [if_neg h3]
  · have n40 : tkn tb s (p, false) ≠ 40 := fun z => by rw [z, show nmI 40 = none by decide] at hn; cases hn
    have n91 : tkn tb s (p, false) ≠ 91 := fun z => by rw [z, show nmI 91 = none by decide] at hn; cases hn
    have e : ∀ vals, pF tb s vals (m vals) d (p, false) = (vals k, (p + 1, false)) := fun vals => by
      unfold pF
      rw [if_neg h1, if_neg (fun z => n40 z.1), if_neg (fun z => n91 z.1), hn]
      rfl
    have hlt : p < s := by
      rcases Nat.lt_or_ge p s with x | x
      · exact x
      · rw [tkn_e x, show nmI (-1) = none by decide] at hn
        cases hn
    have hk : k < 8 := by
      unfold nmI at hn
      repeat' split at hn
      all_goals cases hn
      all_goals decide
    refine ⟨(p + 1, false), fun vals => by show (pF tb s vals (m vals) d (p, false)).2 = _; rw [e], by simp only; omega, hlt, Or.inr ⟨rfl, trivial, 1, [], [10000 + nI k], Rt_1 ?_, (fun c hc => by cases hc), ?_⟩⟩
    · rw [ms_A]
      unfold mA
      rw [if_neg h1, hn]
      rfl
    · intro vals pile
      simp only
      rw [e]
      have e2 : (10000 : Int32) + nI k = nI (10000 + k) := nI_add 10000 k
      have e3 : nI (10000 + k) - 10000 = nI k := by
        show nI (10000 + k) - nI 10000 = _
        rw [nI_sub (by omega), Nat.add_sub_cancel_left]
      rw [e2]
      show (rstep vals (nI (10000 + k)) pile).bind _ = _
      unfold rstep
      rw [if_neg (show ¬ nI (10000 + k) < (10000 : Int32) from fun z => by rw [i_lt, nI_toInt (by omega)] at z; have k1 : (10000 : Int32).toInt = 10000 := by decide
                                                                           omega), if_pos (show nI (10000 + k) < (10100 : Int32) from nI_lt (b := 10100) (by omega) (by decide)), e3, cl_n (by omega)]
      rfl
theorem mB_m {c : Int32} {p : Nat} {ops T E : List Int32} {o : Int32} (hc : c = 42 ∨ c = 47) (ho : ∀ c, c ∈ ops → ¬ c < 10102) (hT : ∀ c S', T = c :: S' → c < 10102) : mB c p (ops ++ T) o E = (true, p + 1, (if c = 42 then 10102 else 10103) :: T, o, E ++ ops, false) := by
  unfold mB
  rw [stl_s ho hT, if_neg (fun z => by rcases hc with q | q <;> rw [q] at z <;> exact absurd z (by decide)), if_pos hc]
theorem mB_a {c : Int32} {p : Nat} {ops T E : List Int32} {o : Int32} (hc : c = 43 ∨ c = 45) (ho : ∀ c, c ∈ ops → ¬ c < 10100) (hT : ∀ c S', T = c :: S' → c < 10100) : mB c p (ops ++ T) o E = (true, p + 1, (if c = 43 then 10100 else 10101) :: T, o, E ++ ops, false) := by
  unfold mB
  rw [stl_s ho hT, if_pos hc]
theorem pP1_s {F : Nat × Bool → Int32 × (Nat × Bool)} {k : Nat} {r : Int32 × (Nat × Bool)} : pP1 tb s F (k + 1) r = if tkn tb s r.2 = 42 then pP1 tb s F k (r.1 * (F (r.2.1 + 1, r.2.2)).1, (F (r.2.1 + 1, r.2.2)).2) else if tkn tb s r.2 = 47 then pP1 tb s F k (if (F (r.2.1 + 1, r.2.2)).1 = 0 then 0 else r.1 / (F (r.2.1 + 1, r.2.2)).1, (F (r.2.1 + 1, r.2.2)).2) else r := rfl
theorem pS1_s {P : Nat × Bool → Int32 × (Nat × Bool)} {k : Nat} {r : Int32 × (Nat × Bool)} : pS1 tb s P (k + 1) r = if tkn tb s r.2 = 43 then pS1 tb s P k (r.1 + (P (r.2.1 + 1, r.2.2)).1, (P (r.2.1 + 1, r.2.2)).2) else if tkn tb s r.2 = 45 then pS1 tb s P k (r.1 - (P (r.2.1 + 1, r.2.2)).1, (P (r.2.1 + 1, r.2.2)).2) else r := rfl
theorem dn_m (c a b : Int32) (hc : c = 42 ∨ c = 47) : dn (if c = 42 then 10102 else 10103) a b = if c = 42 then a * b else if b = 0 then 0 else a / b := by
  rcases hc with q | q <;> subst q <;> rfl
theorem dn_a (c a b : Int32) (hc : c = 43 ∨ c = 45) : dn (if c = 43 then 10100 else 10101) a b = if c = 43 then a + b else a - b := by
  rcases hc with q | q <;> subst q <;> rfl
/-- where a reading stands, after the first operand -/
def Mid (tb : Nat → Int32) (s : Nat) (pend : Int32 → Prop) (d : Nat) (a0 : Mc) (T E : List Int32) (r : (Nat → Int32) → Int32 × (Nat × Bool)) (st : Nat × Bool) : Prop := (∀ vals, (r vals).2 = st) ∧ st.1 ≤ s ∧ ((st.2 = true ∧ ∃ k a', Rt tb s k a0 a' ∧ Bd s a' st.1) ∨ (st.2 = false ∧ ∃ k ops X, Rt tb s k a0 (false, st.1, ops ++ T, nI d, E ++ X, false) ∧ (∀ c, c ∈ ops → pend c) ∧ Lv (X ++ ops) (fun vals => (r vals).1)))
theorem smP1 {d : Nat} {F : (Nat → Int32) → Nat × Bool → Int32 × (Nat × Bool)} (hF : SmF tb s d F) {a0 : Mc} {T E : List Int32} (hT : ∀ c S', T = c :: S' → c < 10102) : ∀ (k : Nat) (r : (Nat → Int32) → Int32 × (Nat × Bool)) (st : Nat × Bool), Mid tb s (fun c => ¬ c < 10102) d a0 T E r st → s - st.1 ≤ k → ∃ st', st.1 ≤ st'.1 ∧ Mid tb s (fun c => ¬ c < 10102) d a0 T E (fun vals => pP1 tb s (F vals) k (r vals)) st' ∧ (st'.2 = false → stop2 (tkn tb s st'))
  | 0, r, (p, f), h, hk => by
    refine ⟨(p, f), Nat.le_refl _, h, fun e => ?_⟩
    simp only at e hk
    subst e
    rw [tkn_e (by omega)]
    unfold stop2
    decide
  | k + 1, r, (p, f), h, hk => by
    obtain ⟨h1, h2, h3⟩ := id h
    simp only at h2 h3 hk
    by_cases hc : tkn tb s (p, f) = 42 ∨ tkn tb s (p, f) = 47
    · have hf : f = false ∧ p < s := by
        unfold tkn at hc
        by_cases q : f = false ∧ p < s
        · exact q
        · rw [if_neg q] at hc
          exact absurd hc (by decide)
      obtain ⟨hf, hlt⟩ := hf
      subst hf
      rcases h3 with h3 | ⟨-, j, ops, X, h3, h4, h5⟩
      · exact absurd h3.1 (by decide)
      obtain ⟨st2, g1, g2, g3, g4⟩ := hF (p + 1) ((if tkn tb s (p, false) = 42 then 10102 else 10103) :: T) (E ++ X ++ ops) hlt (fun _ _ _ => trivial)
      have r1 : Rt tb s (j + 1) a0 (true, p + 1, (if tkn tb s (p, false) = 42 then 10102 else 10103) :: T, nI d, E ++ X ++ ops, false) := by
        refine Rt_t h3 (Rt_1 ?_)
        rw [ms_B hlt, tkn_f hlt, mB_m (by rw [← tkn_f (tb := tb) hlt]; exact hc) h4 hT]
      have e1 : ∀ vals, pP1 tb s (F vals) (k + 1) (r vals) = pP1 tb s (F vals) k (dn (if tkn tb s (p, false) = 42 then 10102 else 10103) (r vals).1 (F vals (p + 1, false)).1, (F vals (p + 1, false)).2) := fun vals => by
        rw [dn_m _ _ _ hc, pP1_s, h1 vals]
        by_cases q : tkn tb s (p, false) = 42
        · rw [if_pos q, if_pos q]
        · rw [if_neg q, if_neg q, if_pos (hc.resolve_left q)]
      have mid : Mid tb s (fun c => ¬ c < 10102) d a0 T E (fun vals => (dn (if tkn tb s (p, false) = 42 then 10102 else 10103) (r vals).1 (F vals (p + 1, false)).1, (F vals (p + 1, false)).2)) st2 := by
        refine ⟨fun vals => g1 vals, g3, ?_⟩
        rcases g4 with ⟨y1, k2, a', y2, y3⟩ | ⟨y1, -, k2, ops2, Y, y2, y3, y4⟩
        · exact Or.inl ⟨y1, _, a', Rt_t r1 y2, y3⟩
        · have on : ops2 = [] := List.eq_nil_iff_forall_not_mem.mpr fun c hcc => y3 c hcc
          subst on
          refine Or.inr ⟨y1, j + 1 + k2, [if tkn tb s (p, false) = 42 then 10102 else 10103], X ++ ops ++ Y, ?_, fun c hcc => ?_, ?_⟩
          · have := Rt_t r1 y2
            simp only [List.append_assoc, List.nil_append, List.cons_append] at this ⊢
            exact this
          · rw [List.mem_singleton.mp hcc]
            rcases hc with q | q <;> rw [q] <;> decide
          · rw [List.append_nil] at y4
            rw [List.append_assoc]
            exact Lv_2 h5 y4 (by rcases hc with q | q <;> rw [q] <;> decide) (by rcases hc with q | q <;> rw [q] <;> decide)
      obtain ⟨st', z1, z2, z3⟩ := smP1 hF hT k _ st2 mid (by omega)
      refine ⟨st', by simp only; omega, ?_, z3⟩
      rw [show (fun vals => pP1 tb s (F vals) (k + 1) (r vals)) = _ from funext e1]
      exact z2
    · have e1 : ∀ vals, pP1 tb s (F vals) (k + 1) (r vals) = r vals := fun vals => by
        rw [pP1_s, h1 vals, if_neg (fun z => hc (Or.inl z)), if_neg (fun z => hc (Or.inr z))]
      refine ⟨(p, f), Nat.le_refl _, ?_, fun _ => ⟨fun z => hc (Or.inl z), fun z => hc (Or.inr z)⟩⟩
      rw [show (fun vals => pP1 tb s (F vals) (k + 1) (r vals)) = r from funext e1]
      exact h
theorem smP (hs : s ≤ 80) {d : Nat} {F : (Nat → Int32) → Nat × Bool → Int32 × (Nat × Bool)} (hF : SmF tb s d F) : SmP tb s d (fun vals => pP tb s (F vals)) := by
  intro p S E hp hS
  obtain ⟨st, g1, g2, g3, g4⟩ := hF p S E hp (fun _ _ _ => trivial)
  obtain ⟨st', z1, z2, z3⟩ := smP1 hF (a0 := (true, p, S, nI d, E, false)) (T := S) (E := E) hS 80 (fun vals => F vals (p, false)) st ⟨g1, g3, by
    rcases g4 with h | ⟨y1, -, k2, ops2, Y, y2, y3, y4⟩
    · exact Or.inl h
    · exact Or.inr ⟨y1, k2, ops2, Y, y2, fun c hc => absurd (y3 c hc) id, y4⟩⟩ (by omega)
  obtain ⟨w1, w2, w3⟩ := z2
  refine ⟨st', w1, by omega, w2, ?_⟩
  rcases w3 with h | ⟨h, h2⟩
  · exact Or.inl h
  · exact Or.inr ⟨h, z3 h, h2⟩
theorem smS1 {d : Nat} {F : (Nat → Int32) → Nat × Bool → Int32 × (Nat × Bool)} (hF : SmP tb s d F) {a0 : Mc} {T E : List Int32} (hT : ∀ c S', T = c :: S' → c < 10100) : ∀ (k : Nat) (r : (Nat → Int32) → Int32 × (Nat × Bool)) (st : Nat × Bool), Mid tb s (fun c => ¬ c < 10100) d a0 T E r st → (st.2 = false → stop2 (tkn tb s st)) → s - st.1 ≤ k → ∃ st', st.1 ≤ st'.1 ∧ Mid tb s (fun c => ¬ c < 10100) d a0 T E (fun vals => pS1 tb s (F vals) k (r vals)) st' ∧ (st'.2 = false → stop4 (tkn tb s st'))
  | 0, r, (p, f), h, _, hk => by
    refine ⟨(p, f), Nat.le_refl _, h, fun e => ?_⟩
    simp only at e hk
    subst e
    rw [tkn_e (by omega)]
    unfold stop4
    decide
  | k + 1, r, (p, f), h, hst, hk => by
    obtain ⟨h1, h2, h3⟩ := id h
    simp only at h2 h3 hk
    by_cases hc : tkn tb s (p, f) = 43 ∨ tkn tb s (p, f) = 45
    · have hf : f = false ∧ p < s := by
        unfold tkn at hc
        by_cases q : f = false ∧ p < s
        · exact q
        · rw [if_neg q] at hc
          exact absurd hc (by decide)
      obtain ⟨hf, hlt⟩ := hf
      subst hf
      rcases h3 with h3 | ⟨-, j, ops, X, h3, h4, h5⟩
      · exact absurd h3.1 (by decide)
      obtain ⟨st2, g1, g2, g3, g4⟩ := hF (p + 1) ((if tkn tb s (p, false) = 43 then 10100 else 10101) :: T) (E ++ X ++ ops) hlt (fun c S' hcc => by
        rw [← (List.cons.inj hcc).1]
        rcases hc with q | q <;> rw [q] <;> decide)
      have r1 : Rt tb s (j + 1) a0 (true, p + 1, (if tkn tb s (p, false) = 43 then 10100 else 10101) :: T, nI d, E ++ X ++ ops, false) := by
        refine Rt_t h3 (Rt_1 ?_)
        rw [ms_B hlt, tkn_f hlt, mB_a (by rw [← tkn_f (tb := tb) hlt]; exact hc) h4 hT]
      have e1 : ∀ vals, pS1 tb s (F vals) (k + 1) (r vals) = pS1 tb s (F vals) k (dn (if tkn tb s (p, false) = 43 then 10100 else 10101) (r vals).1 (F vals (p + 1, false)).1, (F vals (p + 1, false)).2) := fun vals => by
        rw [dn_a _ _ _ hc, pS1_s, h1 vals]
        by_cases q : tkn tb s (p, false) = 43
        · rw [if_pos q, if_pos q]
        · rw [if_neg q, if_neg q, if_pos (hc.resolve_left q)]
      have mid : Mid tb s (fun c => ¬ c < 10100) d a0 T E (fun vals => (dn (if tkn tb s (p, false) = 43 then 10100 else 10101) (r vals).1 (F vals (p + 1, false)).1, (F vals (p + 1, false)).2)) st2 ∧ (st2.2 = false → stop2 (tkn tb s st2)) := by
        rcases g4 with ⟨y1, k2, a', y2, y3⟩ | ⟨y1, y0, k2, ops2, Y, y2, y3, y4⟩
        · exact ⟨⟨fun vals => g1 vals, g3, Or.inl ⟨y1, _, a', Rt_t r1 y2, y3⟩⟩, fun z => by rw [y1] at z; cases z⟩
        · refine ⟨⟨fun vals => g1 vals, g3, ?_⟩, fun _ => y0⟩
          refine Or.inr ⟨y1, j + 1 + k2, ops2 ++ [if tkn tb s (p, false) = 43 then 10100 else 10101], X ++ ops ++ Y, ?_, fun c hcc => ?_, ?_⟩
          · have := Rt_t r1 y2
            simp only [List.append_assoc, List.nil_append, List.cons_append] at this ⊢
            exact this
          · rcases List.mem_append.mp hcc with hcc | hcc
            · have := y3 c hcc
              simp only at this
              rw [i_lt] at this ⊢
              have k1 : (10100 : Int32).toInt = 10100 := by decide
              have k2 : (10102 : Int32).toInt = 10102 := by decide
              omega
            · rw [List.mem_singleton.mp hcc]
              rcases hc with q | q <;> rw [q] <;> decide
          · have := Lv_2 h5 y4 (c := if tkn tb s (p, false) = 43 then 10100 else 10101) (by rcases hc with q | q <;> rw [q] <;> decide) (by rcases hc with q | q <;> rw [q] <;> decide)
            simp only [List.append_assoc] at this ⊢
            exact this
      obtain ⟨st', z1, z2, z3⟩ := smS1 hF hT k _ st2 mid.1 mid.2 (by omega)
      refine ⟨st', by simp only; omega, ?_, z3⟩
      rw [show (fun vals => pS1 tb s (F vals) (k + 1) (r vals)) = _ from funext e1]
      exact z2
    · have e1 : ∀ vals, pS1 tb s (F vals) (k + 1) (r vals) = r vals := fun vals => by
        rw [pS1_s, h1 vals, if_neg (fun z => hc (Or.inl z)), if_neg (fun z => hc (Or.inr z))]
      refine ⟨(p, f), Nat.le_refl _, ?_, fun z => ⟨fun z => hc (Or.inl z), fun z => hc (Or.inr z), (hst z).1, (hst z).2⟩⟩
      rw [show (fun vals => pS1 tb s (F vals) (k + 1) (r vals)) = r from funext e1]
      exact h
theorem smS (hs : s ≤ 80) {d : Nat} {F : (Nat → Int32) → Nat × Bool → Int32 × (Nat × Bool)} (hF : SmP tb s d F) : SmS tb s d (fun vals st => pS1 tb s (F vals) 80 (F vals st)) := by
  intro p S E hp hS
  have k1 : (10100 : Int32).toInt = 10100 := by decide
  have k2 : (10102 : Int32).toInt = 10102 := by decide
  obtain ⟨st, g1, g2, g3, g4⟩ := hF p S E hp (fun c S' hc => by
    have := hS c S' hc
    simp only at this ⊢
    rw [i_lt] at this ⊢
    omega)
  obtain ⟨st', z1, z2, z3⟩ := smS1 hF (a0 := (true, p, S, nI d, E, false)) (T := S) (E := E) hS 80 (fun vals => F vals (p, false)) st ⟨g1, g3, by
    rcases g4 with h | ⟨y1, -, kk, ops2, Y, y2, y3, y4⟩
    · exact Or.inl h
    · exact Or.inr ⟨y1, kk, ops2, Y, y2, fun c hc => by
        have := y3 c hc
        simp only at this ⊢
        rw [i_lt] at this ⊢
        omega, y4⟩⟩ (fun z => by
    rcases g4 with h | h
    · rw [h.1] at z
      cases z
    · exact h.2.1) (by omega)
  obtain ⟨w1, w2, w3⟩ := z2
  refine ⟨st', w1, by omega, w2, ?_⟩
  rcases w3 with h | ⟨h, h2⟩
  · exact Or.inl h
  · exact Or.inr ⟨h, z3 h, h2⟩
theorem smN (hs : s ≤ 80) : ∀ (n d : Nat), n + d = 5 → 0 < n → SmS tb s d (fun vals => pS tb s vals n d)
  | 0, _, _, h => absurd h (Nat.lt_irrefl _)
  | n + 1, d, hd, _ => smS hs (smP hs (smF (m := fun vals => pS tb s vals n) (d := d) (by omega) (fun h4 => smN hs n (d + 1) (by omega) (by omega)) (fun _ _ => pS_t)))
end SIM2

theorem txtT {w : Wd} {s : Nat} (hs : s ≤ 80) (h1 : w.1 7 1 = nI s) : ∃ W, f_X9_become 5 7 w = some W ∧ (∀ y, y ≠ 5 → y ≠ 21 → W.1 y = w.1 y) ∧ W.2 = w.2 ∧ W.1 5 1 = nI s ∧ ∀ i, i < s → W.1 21 i = w.1 23 i := by
  have r0 : rf 5 0 = 21 := rfl
  have r1 : rf 7 0 = 23 := rfl
  obtain ⟨V, v1, v2, v3, v4⟩ := lp_fill (step := f_X9_become_L2 5 7) (w := w) (a := 21) (n := s) (v := fun r => w.1 23 r) (by omega) (fun i V hi0 e1 e2 e3 => by
    unfold f_X9_become_L2
    simp only
    rw [e1 7 (by decide), h1, if_neg (nle hi0 (by omega)), gd_in (by omega) (by decide), gd_in (by omega) (by decide), cl_n (by omega), r0, r1, e1 23 (by decide)]
    rfl) (fun V e1 e2 => by
    unfold f_X9_become_L2
    simp only
    rw [e1 7 (by decide), h1, if_pos (nle' s)])
  refine ⟨si V 5 1 (nI s), ?_, fun y y1 y2 => by rw [si_n y1, v2 y y2], v3, si_s, fun i hi0 => by rw [si_n (by decide), v4, if_pos hi0]⟩
  unfold f_X9_become
  rw [v1, bd1]
  simp only [lw_e]
  rw [v2 7 (by decide), h1]
theorem checkX {w : Wd} {tb vals : Nat → Int32} {s : Nat} (H : PH w 11 tb s vals) : ∃ W, f_X5_check 11 w = some (if (pS tb s vals 5 0 (0, false)).2 = (s, false) then -1 else nI (pS tb s vals 5 0 (0, false)).2.1, W) ∧ (∀ y, y ≠ 11 → W.1 y = w.1 y) ∧ W.2 = w.2 := by
  obtain ⟨h1, h2⟩ := sumN H 5 0 (by decide) (by decide) (0, false) (Nat.zero_le _)
  have hs := H.2.2.1
  generalize pS tb s vals 5 0 (0, false) = r at *
  obtain ⟨v, q, f⟩ := r
  simp only at h1 h2 ⊢
  have e0 : si (si w 11 2 0) 11 3 (-1) = PW w 11 (0, false) := rfl
  have fin : ∀ f2, (∀ y, y ≠ 11 → (PW w 11 (q, f2)).1 y = w.1 y) ∧ (PW w 11 (q, f2)).2 = w.2 := fun f2 => ⟨fun y hy => PW_n hy, rfl⟩
  have e1 : (PW w 11 (q, f)).1 (rf 11 0) 1 = nI s := by rw [PW_n H.1.1]; exact H.2.1
  unfold f_X5_check
  simp only [lw_e]
  rw [e0, show f_X5_readSum 5 11 0 (PW w 11 (0, false)) = _ from h1, bd1]
  simp only
  rw [e1, PW_2]
  rcases Nat.lt_or_ge q s with hlt | hge
  · rw [if_neg (nle (n := s) (i := q) hlt (by omega)), failX (by simp only; omega), bd1, PW_t, if_neg (fun z => by have := (Prod.mk.inj z).1; omega)]
    exact ⟨_, rfl, fin true⟩
  · have e : q = s := by omega
    subst e
    rw [if_pos (nle' q)]
    cases f with
    | true =>
      rw [PW_t, if_neg (fun z => by have := (Prod.mk.inj z).2; cases this)]
      exact ⟨_, rfl, fin true⟩
    | false =>
      rw [PW_u, if_pos rfl]
      exact ⟨_, rfl, fin false⟩
theorem op_rule {w : Wd} (h : Inv w) : Op f_X10_rule f_X11_rule w := by
  obtain ⟨t, t1, t2, t3, t4⟩ := h.2.1
  have H : PH w 11 (w.1 23) t (w.1 33) := ⟨⟨by decide, by decide, by decide⟩, t2, t1, fun i hi0 => (t4 i hi0).2, rfl, rfl⟩
  obtain ⟨W, c1, c2, c3⟩ := checkX H
  have hk : tkn (w.1 23) t = tkn (w.1 92) t := tkn_c fun i hi0 => (t4 i hi0).1
  rw [pS_c hk 5] at c1
  by_cases ok : (pS (w.1 92) t (w.1 33) 5 0 (0, false)).2 = (t, false)
  · rw [if_pos ok] at c1
    obtain ⟨V, v1, v2, v3, v4, v5⟩ := txtT t1 ((congrFun (c2 7 (by decide)) 1).trans t2)
    have n76 : (si V 7 1 0).1 76 = w.1 76 := by rw [si_n (by decide), v2 76 (by decide) (by decide), c2 76 (by decide)]
    have n92 : (si V 7 1 0).1 92 = w.1 92 := by rw [si_n (by decide), v2 92 (by decide) (by decide), c2 92 (by decide)]
    obtain ⟨st, g1, g2, g3⟩ := refX (w0 := si V 7 1 0) (s := t) (by rw [n76]; exact t3) t1
    rw [n92] at g1 g3
    have est : st = (t, false) := (g1 _).symm.trans ok
    rcases g3 with ⟨z, -⟩ | ⟨-, X, m, m1, m2, x1, x2, x3, x4, x5, x6, x7, x8⟩
    · exact absurd est z
    have nn : ∀ y, y ≠ 76 → y ≠ 93 → y ≠ 94 → y ≠ 77 → y ≠ 7 → y ≠ 5 → y ≠ 21 → y ≠ 11 → X.1 y = w.1 y := fun y y1 y2 y3 y4 y5 y6 y7 y8 => by rw [x3 y y1 y2 y3 y4, si_n y5, v2 y y6 y7, c2 y y8]
    have ag : ∀ L : List Nat, (∀ y, y ∈ L → y ≠ 76 ∧ y ≠ 93 ∧ y ≠ 94 ∧ y ≠ 77 ∧ y ≠ 7 ∧ y ≠ 5 ∧ y ≠ 21 ∧ y ≠ 11) → AgL L w X := fun L hL y hy => by
      obtain ⟨a1, a2, a3, a4, a5, a6, a7, a8⟩ := hL y hy
      exact nn y a1 a2 a3 a4 a5 a6 a7 a8
    have e5 : X.1 5 1 = nI t := by rw [x3 5 (by decide) (by decide) (by decide) (by decide), si_n (by decide)]; exact v4
    have e21 : ∀ i, i < t → X.1 21 i = w.1 23 i := fun i hi0 => by
      rw [x3 21 (by decide) (by decide) (by decide) (by decide), si_n (by decide), v5 i hi0, c2 23 (by decide)]
    have e7 : X.1 7 1 = 0 := by rw [x3 7 (by decide) (by decide) (by decide) (by decide), si_s]
    refine ⟨0, si V 7 1 0, X, ?_, x1, ?_⟩
    · unfold f_X10_rule
      rw [c1, bd1, if_pos (show (-1 : Int32) < 0 by decide), v1]
      rfl
    · refine Inv_rule h (ag _ (by decide)) (ag _ (by decide)) (ag _ (by decide)) (ag _ (by decide)) (x2.trans (v3.trans c3)) (by rw [nn 0 (by decide) (by decide) (by decide) (by decide) (by decide) (by decide) (by decide) (by decide)]) (fun j hj => by rw [x4 j (by omega), n76]) (fun y y1 y2 => by rw [x7 y y1 y2, si_n (by decide), v2 77 (by decide) (by decide), c2 77 (by decide)]) ⟨0, by decide, e7, x5, fun i hi0 => absurd hi0 (Nat.not_lt_zero _)⟩ ?_
      have ek : tkn (X.1 21) t = tkn (w.1 92) t := (tkn_c e21).trans hk
      have tp : 0 < t := by
        rcases Nat.eq_zero_or_pos t with z | z
        · exfalso
          subst z
          have := g1 (fun _ => 0)
          rw [est] at this
          exact absurd this (by
            show ¬ (0, true) = (0, false)
            decide)
        · exact z
      refine ⟨t, m, t1, m1, e5, x6, fun i hi0 => ?_, fun z => by omega, fun _ => ⟨m2, fun vals => ?_⟩⟩
      · rw [e21 i hi0]
        exact (t4 i hi0).2
      · rw [pS_c ek 5]
        exact ⟨(g1 vals).trans est, x8 vals⟩
  · rw [if_neg ok] at c1
    have n76 : W.1 76 = w.1 76 := c2 76 (by decide)
    have n92 : W.1 92 = w.1 92 := c2 92 (by decide)
    obtain ⟨st, g1, g2, g3⟩ := refX (w0 := W) (s := t) (by rw [n76]; exact t3) t1
    rw [n92] at g1 g3
    rcases g3 with ⟨z, X, x1, x2, x3, x4⟩ | ⟨z, -⟩
    · refine ⟨-1 - nI st.1, W, X, ?_, x1, Inv_a h (fun k hk => ?_) (fun j hj => ?_) (x2.trans c3)⟩
      · unfold f_X10_rule
        rw [c1, bd1, g1, if_neg (show ¬ nI st.1 < 0 from fun z => by rw [i_lt, nI_toInt (by omega)] at z; have k0 : (0 : Int32).toInt = 0 := by decide
                                                                     omega)]
      · have := Ess_no hk
        have k93 : k ≠ 93 := fun z => by subst z; exact absurd hk (by decide)
        have k94 : k ≠ 94 := fun z => by subst z; exact absurd hk (by decide)
        have k11 : k ≠ 11 := fun z => by subst z; exact absurd hk (by decide)
        rw [x3 k this.2.2.1 k93 k94, c2 k k11]
      · rw [x4 j (by
          unfold E76 at hj
          simp only [Bool.or_eq_true, Bool.and_eq_true, beq_iff_eq, Nat.ble_eq] at hj
          omega), n76]
    · exact absurd ((g1 _).trans z) ok

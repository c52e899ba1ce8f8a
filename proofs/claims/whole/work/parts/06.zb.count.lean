theorem flowAllX {w : Wd} {n h : Nat} (b1 : n ≤ 12) (c1 : w.1 3 1 = nI n) (c6 : w.1 3 5 = w.1 77 2) (b5 : ∀ i, i < n → w.1 (35 + i) 0 = gx (w.1 77) i 0 ∧ w.1 (35 + i) 1 = gx (w.1 77) i 1 ∧ w.1 (35 + i) 2 = nI (pl (w.1 77) i) ∧ (∀ k, 2 ≤ k → k ≤ 10 → w.1 (35 + i) (k + 1) = gx (w.1 77) i k) ∧ FlatOk (w.1 77) h i) (b6 : ∀ r, r < 4 → w.1 19 r = nI (cnt (w.1 77) (nI r) n)) : f_X0_flowOfAll w = some (ws (flw (w.1 77) n (fun j => gx (w.1 77) j 3)) n) := by
  unfold f_X0_flowOfAll
  rw [lp_add (n := n) (f := flw (w.1 77) n (fun j => gx (w.1 77) j 3)) (by omega) (fun i s hi0 => ?_) (fun s => ?_) 0, z0]
  · rfl
  · unfold f_X0_flowOfAll_L4
    simp only
    rw [c1, if_neg (nle hi0 (by omega)), flowX b1 hi0 c1 c6 b5 b6]
    rfl
  · unfold f_X0_flowOfAll_L4
    simp only
    rw [c1, if_pos (nle' n)]
theorem op_count {w : Wd} (h : Inv w) (v1 : Int32) : Op (f_X10_count v1) (f_X11_count v1) w := by
  obtain ⟨n, hh, b1, b2, c1, c2, c3, c4, c5, c6, c7, b4, b5, b6⟩ := h.n
  obtain ⟨_, _, cc, _, ⟨d1, d2, d3, _⟩, _⟩ := h.b
  obtain ⟨t, t1, t2, t3, t4⟩ := h.2.1
  by_cases k0 : v1 = 0
  · subst k0
    exact op_q (r := nI hh) h (by simp [f_X10_count, c3]) (by simp [f_X11_count, c4])
  by_cases k1 : v1 = 1
  · subst k1
    exact op_q (r := nI n) h (by simp [f_X10_count, c1]) (by simp [f_X11_count, c2])
  by_cases k2 : v1 = 2
  · subst k2
    refine op_q (r := ws (fun i => gx (w.1 77) i 4) n) h ?_ ?_
    · have e : ∀ i, i < n → w.1 (35 + i) 5 = gx (w.1 77) i 4 := fun i hi0 => (b5 i hi0).2.2.2.1 4 (by decide) (by decide)
      simp [f_X10_count, held_e c1 b1 (fun i hi0 => by rw [e i hi0]; exact (b5 i hi0).2.2.2.2.2.2.2.2.1)]
      exact ws_c e
    · simp [f_X11_count, sumOf_e (v := 4) c2 b1 (k := 4) (by decide) rfl]
  by_cases k3 : v1 = 3
  · subst k3
    exact op_q (r := nI cc) h (by simp [f_X10_count, d2]) (by simp [f_X11_count, d3])
  by_cases k4 : v1 = 4
  · subst k4
    exact op_q (r := nI t) h (by simp [f_X10_count, t2]) (by simp [f_X11_count, t3])
  by_cases k5 : v1 = 5
  · subst k5
    refine op_q (r := ws (fun i => gx (w.1 77) i 7) n) h ?_ ?_
    · simp [f_X10_count, used_e c1 b1]
      exact ws_c fun i hi0 => (b5 i hi0).2.2.2.1 7 (by decide) (by decide)
    · simp [f_X11_count, sumOf_e (v := 7) c2 b1 (k := 7) (by decide) rfl]
  by_cases k6 : v1 = 6
  · subst k6
    refine op_q (r := ws (fun i => gx (w.1 77) i 8) n) h ?_ ?_
    · simp [f_X10_count, taken_e c1 b1]
      exact ws_c fun i hi0 => (b5 i hi0).2.2.2.1 8 (by decide) (by decide)
    · simp [f_X11_count, sumOf_e (v := 8) c2 b1 (k := 8) (by decide) rfl]
  by_cases k7 : v1 = 7
  · subst k7
    exact op_q (r := nI (argm (fun r => nI (cnt (w.1 77) (nI r) n)) 4)) h (by simp [f_X10_count, fullX b6]) (by simp [f_X11_count, fullM b1 c2])
  by_cases k8 : v1 = 8
  · subst k8
    obtain ⟨M, m1, m2, m3, m4, -⟩ := asideM (w := w) b1 c2
    have L : lp (f_X11_flowAll_L8 M) FU (0, 0) = some (0 + ws (flw (w.1 77) n (fun j => gx (w.1 77) j 3)) n, nI n) := by
      refine lp_add (n := n) (f := flw (w.1 77) n (fun j => gx (w.1 77) j 3)) (by omega) (fun i s hi0 => ?_) (fun s => ?_) 0
      · unfold f_X11_flowAll_L8
        simp only
        rw [m4.1, c2, if_neg (nle hi0 (by omega)), gd_in (by omega) (by decide), cl_n (by omega), (m4.2 i hi0).2.1]
      · unfold f_X11_flowAll_L8
        simp only
        rw [m4.1, c2, if_pos (nle' n)]
    rw [z0] at L
    refine ⟨ws (flw (w.1 77) n (fun j => gx (w.1 77) j 3)) n, w, M, ?_, ?_, Inv_scr h (fun y _ y2 => m2 y y2) m3⟩
    · simp [f_X10_count, flowAllX b1 c1 c6 b5 b6]
    · simp [f_X11_count, f_X11_flowAll, m1, L]
  refine op_no h (k := 0) (by decide) fc0 ?_ fun v => ?_
  · simp [f_X10_count, k0, k1, k2, k3, k4, k5, k6, k7, k8, bd_e]
  · simp [f_X11_count, k0, k1, k2, k3, k4, k5, k6, k7, k8, bd_e]
/-! sheets -/
theorem Inv_S {w V : Wd} (h : Inv w) (hy : ∀ y, y ≠ 74 → y ≠ 75 → y ≠ 100 → y ≠ 101 → V.1 y = w.1 y) (hS : IS V) : Inv V := by
  obtain ⟨a, b, c, d, e, f⟩ := h
  have ag : ∀ L : List Nat, (∀ y, y ∈ L → y ≠ 74 ∧ y ≠ 75 ∧ y ≠ 100 ∧ y ≠ 101) → AgL L w V := fun L hL y hq => hy y (hL y hq).1 (hL y hq).2.1 (hL y hq).2.2.1 (hL y hq).2.2.2
  have e76 : V.1 76 = w.1 76 := hy 76 (by decide) (by decide) (by decide) (by decide)
  exact ⟨IF_l a (ag _ (by decide)) (by rw [e76]), IT_l b (ag _ (by decide)) (by rw [e76]), hS, SRm_l d (ag _ (by decide)), IK_l e (by rw [hy 0 (by decide) (by decide) (by decide) (by decide)]) (by rw [e76]) (ag _ (by decide)), FC_a f (hy 77 (by decide) (by decide) (by decide) (by decide)) fun j _ _ => by rw [e76]⟩
theorem ix40 (s i : Nat) : 40 * nI s + nI i = nI (40 * s + i) := by
  show nI 40 * nI s + nI i = _
  rw [nI_mul, nI_add]
theorem op_read {w : Wd} (h : Inv w) (v1 : Int32) : Op (f_X10_read v1) (f_X11_read v1) w := by
  obtain ⟨n, hh, b1, b2, c1, c2, c3, c4, c5, c6, c7, b4, b5, b6⟩ := h.n
  rcases win_01 v1 0 3 with q | q
  · refine op_no h (k := 0) (by decide) fc0 ?_ fun v => ?_
    · simp [f_X10_read, sh_e, q, bd_e]
    · simp [f_X11_read, sh_m, q, bd_e]
  obtain ⟨s, -, hs, rfl⟩ := win_nI q (A := 0) (B := 3) (by decide) (by decide) (by decide)
  have hs4 : s < 4 := by omega
  obtain ⟨i1, i2, z, hz, i3, i4⟩ := h.2.2.1 s hs4
  by_cases m0 : w.1 74 s = 0
  · refine op_no h (k := 5) (by decide) fc5 ?_ fun v => ?_
    · unfold f_X10_read f_X6_isMissing
      rw [sh_e, q, bd1, if_neg (by decide), gd_in hs4 (by decide), cl_n (by omega), if_pos m0, bd1, if_neg (by decide)]
      exact bd_e
    · unfold f_X11_read
      rw [sh_m, q, bd1, if_neg (by decide), gd_in hs4 (by decide), cl_n (by omega), s16 (by decide), ← i1, if_pos m0]
      exact bd_e
  -- where it stops, both of them
  have K : ∀ i, i < z → ∃ c : Bool, (f_X10_read_L35 (nI s) w (nI i) = if c = true then some (.inl (nI i + 1)) else some (.inr (.inr (1 + nI i, w)))) ∧ (f_X11_read_L33 (nI s) w (nI i) = if c = true then some (.inl (nI i + 1)) else some (.inr (.inr (1 + nI i, w)))) := by
    intro i hi0
    rcases Nat.lt_or_ge i n with hin | hin
    · have e7 : w.1 (35 + i) 7 = gx (w.1 77) i 6 := (b5 i hin).2.2.2.1 6 (by decide) (by decide)
      refine ⟨decide (lg_cmp (w.2 (70 + s) i) (gx (w.1 77) i 6).toInt64 = 0), ?_, ?_⟩
      · unfold f_X10_read_L35
        rw [gd_in hs4 (by decide), cl_n (by omega), i3, if_neg (nle hi0 (by omega)), has_y c1 b1 hin, bd1, if_neg (by decide), gd_in hs4 (by decide), gd_in (by omega) (by decide), gd_in (by omega) (by decide), cl_n (by omega), e7]
        by_cases y : lg_cmp (w.2 (70 + s) i) (gx (w.1 77) i 6).toInt64 = 0
        · rw [if_pos y, if_pos (decide_eq_true y)]
        · rw [if_neg y, if_neg (by rw [decide_eq_true_eq]; exact y)]
      · unfold f_X11_read_L33
        rw [gd_in hs4 (by decide), cl_n (by omega), ← i2, i3, if_neg (nle hi0 (by omega)), isF_y c2 b1 hin, bd1, if_neg (by decide), ix40, gd_in (by omega) (by decide), get_6 (by omega), bd1, cl_n (by omega), ← i4 i hi0]
        by_cases y : lg_cmp (w.2 (70 + s) i) (gx (w.1 77) i 6).toInt64 = 0
        · rw [if_pos y, if_pos (decide_eq_true y)]
        · rw [if_neg y, if_neg (by rw [decide_eq_true_eq]; exact y)]
    · have hno : ∀ j, j < n → nI i ≠ nI j := fun j hj e => by have := (nI_eq (by omega) (by omega)).mp e; omega
      refine ⟨false, ?_, ?_⟩
      · unfold f_X10_read_L35
        rw [gd_in hs4 (by decide), cl_n (by omega), i3, if_neg (nle hi0 (by omega)), has_n c1 b1 hno, bd1, if_pos rfl]
        rfl
      · unfold f_X11_read_L33
        rw [gd_in hs4 (by decide), cl_n (by omega), ← i2, i3, if_neg (nle hi0 (by omega)), isF_n c2 b1 hno, bd1, if_pos rfl]
        rfl
  have X1 : f_X10_read_L35 (nI s) w (nI z) = some (.inr (.inl (nI z))) := by
    unfold f_X10_read_L35
    rw [gd_in hs4 (by decide), cl_n (by omega), i3, if_pos (nle' z)]
  have X2 : f_X11_read_L33 (nI s) w (nI z) = some (.inr (.inl (nI z))) := by
    unfold f_X11_read_L33
    rw [gd_in hs4 (by decide), cl_n (by omega), ← i2, i3, if_pos (nle' z)]
  have L : ∀ m i, z - i = m → i ≤ z → ∀ F, m < F → ∃ o, lp (f_X10_read_L35 (nI s) w) F (nI i) = some o ∧ lp (f_X11_read_L33 (nI s) w) F (nI i) = some o ∧ ∃ r, sm o (fun _ => some (0, w)) (fun y => some y) = some (r, w) := by
    intro m
    induction m with
    | zero =>
      intro i e1 e2 F hF
      have e : i = z := by omega
      subst e
      cases F with
      | zero => omega
      | succ F =>
        refine ⟨.inl (nI i), ?_, ?_, 0, rfl⟩
        · show (f_X10_read_L35 (nI s) w (nI i)).bind _ = _
          rw [X1]; rfl
        · show (f_X11_read_L33 (nI s) w (nI i)).bind _ = _
          rw [X2]; rfl
    | succ m ih =>
      intro i e1 e2 F hF
      cases F with
      | zero => omega
      | succ F =>
        obtain ⟨c, k1, k2⟩ := K i (by omega)
        cases c with
        | false =>
          refine ⟨.inr (1 + nI i, w), ?_, ?_, 1 + nI i, rfl⟩
          · show (f_X10_read_L35 (nI s) w (nI i)).bind _ = _
            rw [k1]; rfl
          · show (f_X11_read_L33 (nI s) w (nI i)).bind _ = _
            rw [k2]; rfl
        | true =>
          obtain ⟨o, o1, o2, o3⟩ := ih (i + 1) (by omega) (by omega) F (by omega)
          refine ⟨o, ?_, ?_, o3⟩
          · show (f_X10_read_L35 (nI s) w (nI i)).bind _ = _
            rw [k1, if_pos rfl, nI_1]; exact o1
          · show (f_X11_read_L33 (nI s) w (nI i)).bind _ = _
            rw [k2, if_pos rfl, nI_1]; exact o2
  obtain ⟨o, o1, o2, r, o3⟩ := L z 0 (by omega) (Nat.zero_le z) FU (FU_lt (by omega))
  refine op_q (r := r) h ?_ ?_
  · unfold f_X10_read f_X6_isMissing
    rw [sh_e, q, bd1, if_neg (by decide), gd_in hs4 (by decide), cl_n (by omega), if_neg m0, bd1, if_pos rfl, show (0 : Int32) = nI 0 from rfl, o1, bd1]
    exact o3
  · unfold f_X11_read
    rw [sh_m, q, bd1, if_neg (by decide), gd_in hs4 (by decide), cl_n (by omega), ← i1, if_neg m0, show (0 : Int32) = nI 0 from rfl, o2, bd1]
    exact o3

theorem Inv_blk {w V : Wd} {n h' : Nat} (h : Inv w) (hw4 : w.1 77 4 = nI n) (hB : BI (V.1 3) (fun i => V.1 (35 + i)) (V.1 19) (V.1 77) n h') (a1 : AgL [5, 21, 8, 24, 25, 26, 27] w V) (a2 : AgL kIds w V) (a3 : AgL [16, 79] w V) (a4 : AgL [7, 23, 92] w V) (a5 : AgL [74, 75, 100, 101] w V) (v2 : V.2 = w.2) (h0 : V.1 0 2 = w.1 0 2) (h76 : ∀ j, j = 2 ∨ j = 4 ∨ j = 18 → V.1 76 j = w.1 76 j) (hg : ∀ y, y = 5 ∨ y = 6 ∨ 139 ≤ y → V.1 77 y = w.1 77 y) (hr : ∀ j, j < n → gx (V.1 77) j 1 = gx (w.1 77) j 1) (hZ : ZF (fun i => V.1 (35 + i))) (hF : FC V) : Inv V := by
  obtain ⟨a, b, c, d, e, f⟩ := h
  refine ⟨IF_l a a3 (h76 4 (by decide)), IT_l b a4 (h76 18 (by decide)), IS_l c a5 v2, ?_, IK_l e h0 (h76 2 (by decide)) a2, hF⟩
  obtain ⟨n', hh, cc, ⟨x1, _, ⟨_, t2, _⟩, _⟩, hC, hR, -⟩ := d
  have hn := hB.1
  have en : n' = n := (nI_eq (by omega) (by omega)).mp (t2.symm.trans hw4)
  subst en
  unfold SRm
  rw [a1 5 (by decide), a1 21 (by decide), a1 8 (by decide), a1 24 (by decide), a1 25 (by decide), a1 26 (by decide), a1 27 (by decide)]
  exact ⟨n', h', cc, hB, CC_c hC hn (Nat.le_refl _) (hg 5 (by decide)) (fun k j h1 h2 => hg _ (by omega)) hr, RI_c hR (hg 6 (by decide)) fun k hk => hg _ (by omega), hZ⟩
def gI (g : Nat → Int32) (n : Nat) : Nat → Nat → Int32
  | 0 => g
  | t + 1 => hG (gI g n t) n
theorem gI_o {g : Nat → Int32} {n y : Nat} (hn : n ≤ 12) (h0 : y ≠ 0) (h : y < 7 ∨ 139 ≤ y) : ∀ t, gI g n t y = g y
  | 0 => rfl
  | t + 1 => by
    show hG (gI g n t) n y = _
    rw [hG_o hn h0 h, gI_o hn h0 h t]
theorem gI_r {g : Nat → Int32} {n : Nat} : ∀ t j, j < n → gx (gI g n t) j 1 = gx g j 1
  | 0, _, _ => rfl
  | t + 1, j, hj => (hG_r j hj).trans (gI_r t j hj)
theorem gI_ok {g : Nat → Int32} {n h : Nat} (hn : n ≤ 12) (hok : ∀ j, j < n → FlatOk g h j) (he : rng (g 1) (-300) 400 ∧ rng (g 2) 0 999 ∧ rng (g 3) 0 900) : ∀ t, h + t ≤ 2000 → ∀ i, i < n → FlatOk (gI g n t) (h + t) i
  | 0, _, i, hi0 => hok i hi0
  | t + 1, ht, i, hi0 => hG_ok (h := h + t) hn (by omega) hi0 (gI_ok hn hok he t (by omega)) (by rw [gI_o hn (by decide) (by omega), gI_o hn (by decide) (by omega), gI_o hn (by decide) (by omega)]; exact he)
theorem CS_CG {w : Wd} {g : Nat → Int32} {n : Nat} {wts wm0 : Nat → Int32} {pu : Int32} (h : CS w g n wts (flw g n (fun j => gx g j 3)) (lkf g) wm0 (fun j => gx g j 6) (g 3) (g 1) pu) : CG w g n := ⟨⟨h.1.1, h.1.2.1, h.1.2.2.1⟩, h.2.1, fun i hi0 => ⟨(h.2.2 i hi0).2.1, (h.2.2 i hi0).2.2.1, (h.2.2 i hi0).2.2.2.2⟩⟩
theorem begX {w : Wd} {g : Nat → Int32} {n h : Nat} (hB : BI (w.1 3) (fun i => w.1 (35 + i)) (w.1 19) g n h) : ∃ W, f_X2_begin w = some W ∧ (∀ y, ¬ Tc y → W.1 y = w.1 y) ∧ W.2 = w.2 ∧ CS W g n (fun i => wt g n i (gx g i 3)) (flw g n (fun j => gx g j 3)) (lkf g) (fun j => gx g j 6) (fun j => gx g j 6) (g 3) (g 1) (g 2) := by
  obtain ⟨b1, b2, ⟨q1, q2, q3, q4, q5, q6, q7⟩, b4, b5, b6⟩ := hB
  exact beginX b1 q1 q5 q6 q7 (fun i hi0 => ⟨(b5 i hi0).1.1, (b5 i hi0).1.2.1, (b5 i hi0).1.2.2.1, (b5 i hi0).1.2.2.2, (b5 i hi0).2⟩) b6
theorem BI_Tc {w W : Wd} {g : Nat → Int32} {n h : Nat} (hB : BI (w.1 3) (fun i => w.1 (35 + i)) (w.1 19) g n h) (e : ∀ y, ¬ Tc y → W.1 y = w.1 y) : BI (W.1 3) (fun i => W.1 (35 + i)) (W.1 19) g n h := by
  rw [e 3 (by unfold Tc; omega), e 19 (by unfold Tc; omega)]
  exact BI_F hB fun i hi0 => e _ (by unfold Tc; omega)
theorem asM {w : Wd} {n : Nat} (hn : n ≤ 12) (h4 : w.1 77 4 = nI n) : ∃ W, f_X11_setsAside w = some W ∧ (∀ y, ¬ Sc y → W.1 y = w.1 y) ∧ W.2 = w.2 ∧ MG W n := by
  obtain ⟨W, p1, p2, p3, p4, p5⟩ := asideM hn h4
  refine ⟨W, p1, p2, p3, ?_⟩
  unfold MG
  rw [p4.1]
  exact p4
theorem op_hours {w : Wd} (h : Inv w) (v1 : Int32) : Op (f_X10_hours v1) (f_X11_hours v1) w := by
  obtain ⟨n, hh, c, hB, hC, hR⟩ := h.b
  obtain ⟨b1, b2, ⟨q1, q2, q3, q4, q5, q6, q7⟩, b4, b5, b6⟩ := id hB
  rcases win_01 v1 1 100 with q | q
  · refine op_no h (k := 0) (by decide) fc0 ?_ fun v => ?_
    · simp [f_X10_hours, q, bd_e]
    · simp [f_X11_hours, in_e, q, bd_e]
  have hq := win_yes q
  have x1 : (1 : Int32).toInt = 1 := by decide
  have x100 : (100 : Int32).toInt = 100 := by decide
  rw [x1, x100] at hq
  obtain ⟨N, hN, rfl⟩ := nI_rng (v := v1) (a := 100) (by decide) (by omega) (by omega)
  have N0 : 0 < N := by
    rcases Nat.eq_zero_or_pos N with z | z
    · subst z
      have : (nI 0).toInt = 0 := by decide
      omega
    · exact z
  rcases Nat.lt_or_ge 2000 (hh + N) with z | z
  · refine op_no h (k := 4) (by decide) fc4 ?_ fun v => ?_
    · unfold f_X10_hours
      rw [q, bd1, if_neg (by decide), q3, nI_add, if_neg (show ¬ nI (hh + N) ≤ (2000 : Int32) from nle (i := 2000) z (by omega))]
      exact bd_e
    · unfold f_X11_hours
      rw [in_e, q, bd1, if_neg (by decide), s16 (by decide), q4, nI_add, if_neg (show ¬ nI (hh + N) ≤ (2000 : Int32) from nle (i := 2000) z (by omega))]
      exact bd_e
  have le : nI (hh + N) ≤ (2000 : Int32) := nI_le (b := 2000) z (by decide)
  have hok : ∀ j, j < n → FlatOk (w.1 77) hh j := fun j hj => (b5 j hj).2
  obtain ⟨W0, p1, p2, p3, p4⟩ := begX hB
  have H : ∃ o, lp (f_X10_hours_L52 (nI N)) FU (0, W0) = some o ∧ ((∀ y, y ≠ 3 → ¬ (35 ≤ y ∧ y < 47) → ¬ Tc y → o.2.1 y = w.1 y) ∧ o.2.2 = w.2 ∧ ZF (fun i => o.2.1 (35 + i)) ∧ BI (o.2.1 3) (fun i => o.2.1 (35 + i)) (o.2.1 19) (gI (w.1 77) n N) n (hh + N)) := by
    refine lp_n (fun t z => z.1 = nI t ∧ (∀ y, y ≠ 3 → ¬ (35 ≤ y ∧ y < 47) → ¬ Tc y → z.2.1 y = w.1 y) ∧ z.2.2 = w.2 ∧ ZF (fun i => z.2.1 (35 + i)) ∧ BI (z.2.1 3) (fun i => z.2.1 (35 + i)) (z.2.1 19) (gI (w.1 77) n t) n (hh + t) ∧ CG z.2 (gI (w.1 77) n t) n) N _ ⟨rfl, fun y _ _ y3 => p2 y y3, p3, fun i hi0 => by have := h.z i hi0; simp only at this ⊢; rw [p2 _ (by unfold Tc; omega)]; exact this, BI_Tc hB p2, CS_CG p4⟩ (FU_lt (by omega)) ?_ ?_
    · rintro t ⟨x, U⟩ ht ⟨e1, e2, e3, eZ, e4, e5⟩
      simp only at e1 e2 e3 eZ e4 e5
      subst e1
      obtain ⟨V, r1, r2, r3, r4, r5, r6⟩ := liveX (by omega) e4 e5
      refine Or.inl ⟨(nI (t + 1), V), ?_, rfl, fun y y1 y2 y3 => ?_, r3.trans e3, fun i hi0 => by have := eZ i hi0; simp only at this ⊢; rw [r6 i 5 hi0 (by omega), r6 i 6 hi0 (by omega)]; exact this, r4, r5⟩
      · unfold f_X10_hours_L52
        simp only
        rw [if_neg (nle ht (by omega)), r1, bd1, nI_1]
      · unfold Tc at y3
        rw [r2 y y1 y2 (by omega) (by omega) (by omega)]
        exact e2 y y1 y2 (by unfold Tc; omega)
    · rintro ⟨x, U⟩ ⟨e1, e2, e3, eZ, e4, e5⟩
      simp only at e1 e2 e3 eZ e4 e5
      subst e1
      refine ⟨(nI N, U), ?_, e2, e3, eZ, e4⟩
      unfold f_X10_hours_L52
      simp only
      rw [if_pos (nle' N)]
  obtain ⟨⟨x, X⟩, s1, s2, s3, sZ, s4⟩ := H
  simp only at s2 s3 sZ s4
  have X77 : X.1 77 = w.1 77 := s2 77 (by decide) (by omega) (by unfold Tc; omega)
  have X76 : X.1 76 = w.1 76 := s2 76 (by decide) (by omega) (by unfold Tc; omega)
  obtain ⟨M0, m1, m2, m3, m4⟩ := asM (w := X) b1 (by rw [X77]; exact q2)
  have H2 : ∃ o, lp (f_X11_hours_L44 (nI N)) FU (0, M0) = some o ∧ ((∀ y, y ≠ 77 → y ≠ 76 → ¬ Sc y → o.2.1 y = X.1 y) ∧ o.2.2 = X.2 ∧ (∀ j, j ≠ 30 → o.2.1 76 j = w.1 76 j) ∧ o.2.1 76 30 = 0 ∧ o.2.1 77 = gI (w.1 77) n N) := by
    refine lp_n (fun t z => z.1 = nI t ∧ (∀ y, y ≠ 77 → y ≠ 76 → ¬ Sc y → z.2.1 y = X.1 y) ∧ z.2.2 = X.2 ∧ (∀ j, j ≠ 30 → z.2.1 76 j = w.1 76 j) ∧ (0 < t → z.2.1 76 30 = 0) ∧ z.2.1 77 = gI (w.1 77) n t ∧ MG z.2 n) N _ ⟨rfl, fun y _ _ y3 => m2 y y3, m3, fun j _ => by rw [m2 76 (by unfold Sc; omega), X76], fun q => absurd q (Nat.lt_irrefl 0), by rw [m2 77 (by unfold Sc; omega), X77]; rfl, m4⟩ (FU_lt (by omega)) ?_ ?_
    · rintro t ⟨x, U⟩ ht ⟨e1, e2, e3, e4, e5, e6, e7⟩
      simp only at e1 e2 e3 e4 e5 e6 e7
      subst e1
      obtain ⟨V, r1, r2, r3, r4, r5, r6⟩ := anHourM (w := U) (h := hh + t) b1 (by rw [e6, gI_o b1 (by decide) (by omega)]; exact q2) e7 (by rw [e6]; exact gI_ok b1 hok b4 t (by omega))
      refine Or.inl ⟨(nI (t + 1), V), ?_, rfl, fun y y1 y2 y3 => (r2 y y1 y2 y3).trans (e2 y y1 y2 y3), r3.trans e3, fun j hj => by rw [r4, if_neg hj, e4 j hj], fun _ => by rw [r4, if_pos rfl], by rw [r5, e6]; rfl, r6⟩
      unfold f_X11_hours_L44
      simp only
      rw [if_neg (nle ht (by omega)), r1, bd1, nI_1]
    · rintro ⟨x, U⟩ ⟨e1, e2, e3, e4, e5, e6, e7⟩
      simp only at e1 e2 e3 e4 e5 e6 e7
      subst e1
      refine ⟨(nI N, U), ?_, e2, e3, e4, e5 N0, e6⟩
      unfold f_X11_hours_L44
      simp only
      rw [if_pos (nle' N)]
  obtain ⟨⟨x', V⟩, t1, t2, t3, t4, t5, t6⟩ := H2
  simp only at t2 t3 t4 t5 t6
  have vy : ∀ y, y ≠ 77 → y ≠ 76 → ¬ Sc y → y ≠ 3 → ¬ (35 ≤ y ∧ y < 47) → ¬ Tc y → V.1 y = w.1 y := fun y y1 y2 y3 y4 y5 y6 => (t2 y y1 y2 y3).trans (s2 y y4 y5 y6)
  have ag : ∀ L : List Nat, (∀ y, y ∈ L → y ≠ 77 ∧ y ≠ 76 ∧ y ≠ 3 ∧ y ≠ 13 ∧ (y < 35 ∨ 47 ≤ y) ∧ (y < 59 ∨ 67 < y) ∧ (y < 80 ∨ 91 < y)) → AgL L w V := fun L hL y hy => by
    have := hL y hy
    exact vy y (by omega) (by omega) (by unfold Sc; omega) (by omega) (by omega) (by unfold Tc; omega)
  have X3 : X.1 3 3 = nI (hh + N) := s4.2.2.1.2.2.1
  refine ⟨nI (hh + N), X, V, ?_, ?_, Inv_blk (n := n) (h' := hh + N) h q2 ?_ (ag _ (by decide)) (ag _ (by decide)) (ag _ (by decide)) (ag _ (by decide)) (ag _ (by decide)) (t3.trans s3) (by rw [vy 0 (by decide) (by decide) (by unfold Sc; omega) (by decide) (by omega) (by unfold Tc; omega)]) (fun j hj => t4 j (by omega)) (fun y hy => by rw [t6, gI_o b1 (by omega) (by omega)]) (fun j hj => by rw [t6]; exact gI_r N j hj) (fun i hi0 => by have := sZ i hi0; simp only at this ⊢; rw [t2 _ (by omega) (by omega) (by unfold Sc; omega)]; exact this) (FC_0 t5)⟩
  · unfold f_X10_hours
    rw [q, bd1, if_neg (by decide), q3, nI_add, if_pos le, p1, bd1, s1, bd1]
    simp only
    rw [X3]
  · unfold f_X11_hours
    rw [in_e, q, bd1, if_neg (by decide), X77, q4, nI_add, if_pos le, m1, bd1, t1, bd1]
    simp only
    rw [t6]
    have e : gI (w.1 77) n N 0 = nI (hh + N) := by
      have := s4.2.2.1.2.2.2.1
      exact this
    rw [e]
  · have e3 : V.1 3 = X.1 3 := t2 3 (by decide) (by decide) (by unfold Sc; omega)
    have e19 : V.1 19 = X.1 19 := t2 19 (by decide) (by decide) (by unfold Sc; omega)
    rw [e3, e19, t6]
    exact BI_F s4 fun i hi0 => t2 _ (by omega) (by omega) (by unfold Sc; omega)

theorem op_image {w : Wd} (h : Inv w) : Op f_X10_image f_X11_image w := by
  obtain ⟨a, b, c, d, e, f⟩ := id h
  obtain ⟨n, hh, cc, hB, hC, ⟨s, t, r1, r2, r3, r4, r5, r6, r7⟩, hZ⟩ := id d
  obtain ⟨W1, p1, p2, p3, p4, p5, p6⟩ := blkI (w := w) hZ
  obtain ⟨W2, q1, q2, q3, q4, q5⟩ := txtI (w := W1) (s := s) r1 (by rw [p2 5 (by decide) (by decide) (by omega)]; exact r3)
  obtain ⟨W3, u1, u2, u3, u4, u5⟩ := cmpI (w := W2) (c := cc) hC.1 (by rw [q2 8 (by decide) (by decide), p2 8 (by decide) (by decide) (by omega)]; exact hC.2.1)
  have e1 : rf 2 0 = 4 := rfl
  have e2 : rf 1 0 = 3 := rfl
  have e3 : rf 2 1 = 6 := rfl
  have e4 : rf 1 1 = 5 := rfl
  have e5 : rf 2 2 = 9 := rfl
  have e6 : rf 1 2 = 8 := rfl
  have wy : ∀ y, y ≠ 4 → y ≠ 20 → ¬ (47 ≤ y ∧ y < 59) → y ≠ 6 → y ≠ 22 → y ≠ 9 → ¬ (28 ≤ y ∧ y < 32) → W3.1 y = w.1 y := fun y y1 y2 y3 y4 y5 y6 y7 => by rw [u2 y y6 y7, q2 y y4 y5, p2 y y1 y2 y3]
  obtain ⟨M, m1, m2, m3, m4⟩ := lp_fill (step := f_X11_image_L2) (w := si W3 0 2 1) (a := 78) (n := 291) (v := fun y => w.1 77 y) (by decide) (fun i V hi0 g1 g2 g3 => by
    unfold f_X11_image_L2
    simp only
    rw [if_neg (show ¬ (291 : Int32) ≤ nI i from nle (n := 291) hi0 (by decide)), gd_in hi0 (by decide), gd_in hi0 (by decide), cl_n (by omega), g1 77 (by decide), si_n (by decide), wy 77 (by decide) (by decide) (by omega) (by decide) (by decide) (by decide) (by omega)]
    rfl) (fun V g1 g2 => by
    unfold f_X11_image_L2
    simp only
    rw [if_pos (show (291 : Int32) ≤ nI 291 from nle' 291)])
  have vy : ∀ y, y ≠ 76 → y ≠ 78 → y ≠ 0 → (si M 76 2 1).1 y = W3.1 y := fun y y1 y2 y3 => by rw [si_n y1, m2 y y2, si_n y3]
  have V76 : ∀ j, j ≠ 2 → (si M 76 2 1).1 76 j = w.1 76 j := fun j hj => by rw [si_o hj, m2 76 (by decide), si_n (by decide), wy 76 (by decide) (by decide) (by omega) (by decide) (by decide) (by decide) (by omega)]
  have vw : ∀ y, y ≠ 76 → y ≠ 78 → y ≠ 0 → y ≠ 4 → y ≠ 20 → ¬ (47 ≤ y ∧ y < 59) → y ≠ 6 → y ≠ 22 → y ≠ 9 → ¬ (28 ≤ y ∧ y < 32) → (si M 76 2 1).1 y = w.1 y := fun y z1 z2 z3 y1 y2 y3 y4 y5 y6 y7 => (vy y z1 z2 z3).trans (wy y y1 y2 y3 y4 y5 y6 y7)
  have ag : ∀ L : List Nat, (∀ y, y ∈ L → y ≠ 76 ∧ y ≠ 78 ∧ y ≠ 0 ∧ y ≠ 4 ∧ y ≠ 20 ∧ (y < 47 ∨ 59 ≤ y) ∧ y ≠ 6 ∧ y ≠ 22 ∧ y ≠ 9 ∧ (y < 28 ∨ 32 ≤ y)) → AgL L w (si M 76 2 1) := fun L hL y hy => by
    have := hL y hy
    exact vw y (by omega) (by omega) (by omega) (by omega) (by omega) (by omega) (by omega) (by omega) (by omega) (by omega)
  have V2 : (si M 76 2 1).2 = w.2 := by
    show M.2 = w.2
    rw [m3]
    show W3.2 = w.2
    rw [u3, q3, p3]
  refine ⟨1, si W3 0 2 1, si M 76 2 1, ?_, ?_, IF_l a (ag _ (by decide)) (V76 4 (by decide)), IT_l b (ag _ (by decide)) (V76 18 (by decide)), IS_l c (ag _ (by decide)) V2, SRm_l d (ag _ (by decide)), Or.inr ⟨?_, si_s, ?_⟩, FC_a f (vw 77 (by decide) (by decide) (by decide) (by decide) (by decide) (by omega) (by decide) (by decide) (by decide) (by omega)) fun j h1 h2 => V76 j (by omega)⟩
  · unfold f_X10_image f_X8_become
    rw [e1, e2, e3, e4, e5, e6, p1, bd1, q1, bd1, u1]
    rfl
  · unfold f_X11_image
    rw [m1]
    rfl
  · rw [si_n (by decide), m2 0 (by decide), si_s]
  · unfold SRk
    rw [vy 4 (by decide) (by decide) (by decide), vy 20 (by decide) (by decide) (by decide), vy 6 (by decide) (by decide) (by decide), vy 22 (by decide) (by decide) (by decide), vy 9 (by decide) (by decide) (by decide), vy 28 (by decide) (by decide) (by decide), vy 29 (by decide) (by decide) (by decide), vy 30 (by decide) (by decide) (by decide), vy 31 (by decide) (by decide) (by decide)]
    have d' : SR (w.1 3) (fun i => w.1 (35 + i)) (w.1 19) (w.1 5) (w.1 21) (w.1 8) (w.1 24) (w.1 25) (w.1 26) (w.1 27) (w.1 77) := d
    refine SR_cp d' ?_ (fun i k hi0 hk => ?_) (fun r hr => ?_) ?_ (fun s' hs' hs2 i hi0 => ?_) ?_ (fun c' hc' hc2 k hk => ?_) (fun y hy => ?_)
    · rw [u2 4 (by decide) (by omega), q2 4 (by decide) (by decide)]; exact p4
    · show (si M 76 2 1).1 (47 + i) k = _
      rw [vy _ (by omega) (by omega) (by omega), u2 _ (by omega) (by omega), q2 _ (by omega) (by omega)]
      exact p5 i k hi0 hk
    · rw [u2 20 (by decide) (by omega), q2 20 (by decide) (by decide)]; exact p6 r hr
    · rw [u2 6 (by decide) (by omega), q4, r3]
    · have es : s' = s := (nI_eq (by omega) (by omega)).mp (hs'.symm.trans r3)
      subst es
      rw [u2 22 (by decide) (by omega), q5 i hi0, p2 21 (by decide) (by decide) (by omega)]
    · rw [u4, hC.2.1]
    · have hcc := hC.1
      have es : c' = cc := (nI_eq (by omega) (by omega)).mp (hc'.symm.trans hC.2.1)
      subst es
      obtain ⟨x1, x2, x3, x4⟩ := u5 k hk
      refine ⟨x1.trans ?_, x2.trans ?_, x3.trans ?_, x4.trans ?_⟩
      · rw [q2 24 (by decide) (by decide), p2 24 (by decide) (by decide) (by omega)]
      · rw [q2 25 (by decide) (by decide), p2 25 (by decide) (by decide) (by omega)]
      · rw [q2 26 (by decide) (by decide), p2 26 (by decide) (by decide) (by omega)]
      · rw [q2 27 (by decide) (by decide), p2 27 (by decide) (by decide) (by omega)]
    · rw [si_n (by decide), m4, if_pos hy]
theorem op_undo {w : Wd} (h : Inv w) : Op f_X10_undo f_X11_undo w := by
  obtain ⟨a, b, c, d, e, f⟩ := id h
  rcases e with ⟨k1, k2⟩ | ⟨k1, k2, e⟩
  · refine op_no h (k := 3) (by decide) fc3 ?_ fun v => ?_
    · unfold f_X10_undo
      rw [k1, if_pos rfl]
      exact bd_e
    · unfold f_X11_undo
      rw [s16 (by decide), k2, if_pos rfl]
      exact bd_e
  obtain ⟨n, hh, cc, hB, hC, ⟨s, t, r1, r2, r3, r4, r5, r6, r7⟩, hZ⟩ := id e
  obtain ⟨W1, p1, p2, p3, p4, p5, p6⟩ := blkU (w := w) hZ
  obtain ⟨W2, q1, q2, q3, q4, q5⟩ := txtU (w := W1) (s := s) r1 (by rw [p2 6 (by decide) (by decide) (by omega)]; exact r3)
  obtain ⟨W3, u1, u2, u3, u4, u5⟩ := cmpU (w := W2) (c := cc) hC.1 (by rw [q2 9 (by decide) (by decide), p2 9 (by decide) (by decide) (by omega)]; exact hC.2.1)
  have e1 : rf 2 0 = 4 := rfl
  have e2 : rf 1 0 = 3 := rfl
  have e3 : rf 2 1 = 6 := rfl
  have e4 : rf 1 1 = 5 := rfl
  have e5 : rf 2 2 = 9 := rfl
  have e6 : rf 1 2 = 8 := rfl
  have wy : ∀ y, y ≠ 3 → y ≠ 19 → ¬ (35 ≤ y ∧ y < 47) → y ≠ 5 → y ≠ 21 → y ≠ 8 → ¬ (24 ≤ y ∧ y < 28) → W3.1 y = w.1 y := fun y y1 y2 y3 y4 y5 y6 y7 => by rw [u2 y y6 y7, q2 y y4 y5, p2 y y1 y2 y3]
  have W376 : W3.1 76 = w.1 76 := wy 76 (by decide) (by decide) (by omega) (by decide) (by decide) (by decide) (by omega)
  obtain ⟨M, m1, m2, m3, m4⟩ := lp_fill (step := f_X11_undo_L16) (w := W3) (a := 77) (n := 291) (v := fun y => w.1 78 y) (by decide) (fun i V hi0 g1 g2 g3 => by
    unfold f_X11_undo_L16
    simp only
    rw [if_neg (show ¬ (291 : Int32) ≤ nI i from nle (n := 291) hi0 (by decide)), gd_in hi0 (by decide), gd_in hi0 (by decide), cl_n (by omega), g1 78 (by decide), wy 78 (by decide) (by decide) (by omega) (by decide) (by decide) (by decide) (by omega)]
    rfl) (fun V g1 g2 => by
    unfold f_X11_undo_L16
    simp only
    rw [if_pos (show (291 : Int32) ≤ nI 291 from nle' 291)])
  have vy : ∀ y, y ≠ 76 → y ≠ 77 → (si M 76 30 0).1 y = W3.1 y := fun y y1 y2 => by rw [si_n y1, m2 y y2]
  have V76 : ∀ j, j ≠ 30 → (si M 76 30 0).1 76 j = w.1 76 j := fun j hj => by rw [si_o hj, m2 76 (by decide), W376]
  have vw : ∀ y, y ≠ 76 → y ≠ 77 → y ≠ 3 → y ≠ 19 → ¬ (35 ≤ y ∧ y < 47) → y ≠ 5 → y ≠ 21 → y ≠ 8 → ¬ (24 ≤ y ∧ y < 28) → (si M 76 30 0).1 y = w.1 y := fun y z1 z2 y1 y2 y3 y4 y5 y6 y7 => (vy y z1 z2).trans (wy y y1 y2 y3 y4 y5 y6 y7)
  have ag : ∀ L : List Nat, (∀ y, y ∈ L → y ≠ 76 ∧ y ≠ 77 ∧ y ≠ 3 ∧ y ≠ 19 ∧ (y < 35 ∨ 47 ≤ y) ∧ y ≠ 5 ∧ y ≠ 21 ∧ y ≠ 8 ∧ (y < 24 ∨ 28 ≤ y)) → AgL L w (si M 76 30 0) := fun L hL y hy => by
    have := hL y hy
    exact vw y (by omega) (by omega) (by omega) (by omega) (by omega) (by omega) (by omega) (by omega) (by omega)
  have V2 : (si M 76 30 0).2 = w.2 := by
    show M.2 = w.2
    rw [m3, u3, q3, p3]
  have b33 : W3.1 3 3 = nI hh := by
    rw [u2 3 (by decide) (by omega), q2 3 (by decide) (by decide), p4.2.1]
    exact hB.2.2.1.2.2.1
  have g00 : M.1 77 0 = nI hh := by
    rw [m4, if_pos (by decide)]
    exact hB.2.2.1.2.2.2.1
  have hSR : SRm (si M 76 30 0) := by
    unfold SRm
    rw [vy 3 (by decide) (by decide), vy 19 (by decide) (by decide), vy 5 (by decide) (by decide), vy 21 (by decide) (by decide), vy 8 (by decide) (by decide), vy 24 (by decide) (by decide), vy 25 (by decide) (by decide), vy 26 (by decide) (by decide), vy 27 (by decide) (by decide)]
    have d' : SR (w.1 4) (fun i => w.1 (47 + i)) (w.1 20) (w.1 6) (w.1 22) (w.1 9) (w.1 28) (w.1 29) (w.1 30) (w.1 31) (w.1 78) := e
    refine SR_cp d' ?_ (fun i k hi0 hk => ?_) (fun r hr => ?_) ?_ (fun s' hs' hs2 i hi0 => ?_) ?_ (fun c' hc' hc2 k hk => ?_) (fun y hy => ?_)
    · rw [u2 3 (by decide) (by omega), q2 3 (by decide) (by decide)]; exact p4
    · show (si M 76 30 0).1 (35 + i) k = _
      rw [vy _ (by omega) (by omega), u2 _ (by omega) (by omega), q2 _ (by omega) (by omega)]
      exact p5 i k hi0 hk
    · rw [u2 19 (by decide) (by omega), q2 19 (by decide) (by decide)]; exact p6 r hr
    · rw [u2 5 (by decide) (by omega), q4, r3]
    · have es : s' = s := (nI_eq (by omega) (by omega)).mp (hs'.symm.trans r3)
      subst es
      rw [u2 21 (by decide) (by omega), q5 i hi0, p2 22 (by decide) (by decide) (by omega)]
    · rw [u4, hC.2.1]
    · have hcc := hC.1
      have es : c' = cc := (nI_eq (by omega) (by omega)).mp (hc'.symm.trans hC.2.1)
      subst es
      obtain ⟨x1, x2, x3, x4⟩ := u5 k hk
      refine ⟨x1.trans ?_, x2.trans ?_, x3.trans ?_, x4.trans ?_⟩
      · rw [q2 28 (by decide) (by decide), p2 28 (by decide) (by decide) (by omega)]
      · rw [q2 29 (by decide) (by decide), p2 29 (by decide) (by decide) (by omega)]
      · rw [q2 30 (by decide) (by decide), p2 30 (by decide) (by decide) (by omega)]
      · rw [q2 31 (by decide) (by decide), p2 31 (by decide) (by decide) (by omega)]
    · rw [si_n (by decide), m4, if_pos hy]
  refine ⟨nI hh, W3, si M 76 30 0, ?_, ?_, IF_l a (ag _ (by decide)) (V76 4 (by decide)), IT_l b (ag _ (by decide)) (V76 18 (by decide)), IS_l c (ag _ (by decide)) V2, hSR, IK_l (Or.inr ⟨k1, k2, e⟩) (by rw [vw 0 (by decide) (by decide) (by decide) (by decide) (by omega) (by decide) (by decide) (by decide) (by omega)]) (V76 2 (by decide)) (ag _ (by decide)), FC_0 si_s⟩
  · unfold f_X10_undo f_X8_become
    rw [k1, if_neg (by decide), e1, e2, e3, e4, e5, e6, p1, bd1, q1, bd1, u1, bd1, bd1, b33]
  · unfold f_X11_undo
    rw [W376, k2, if_neg (by decide), m1, bd1]
    simp only [lw_e]
    rw [si_n (by decide), g00]

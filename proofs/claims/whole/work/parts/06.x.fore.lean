theorem op_foretold {w : Wd} (h : Inv w) (v1 v2 : Int32) : Op (f_X10_foretold v1 v2) (f_X11_foretold v1 v2) w := by
  obtain ⟨n, hh, b1, q1, q2, hok, b4, hw, hf, hl, W, p1, p2, p3, p4⟩ := ready h
  rcases fl_cases n v1 with ⟨i, hi0, rfl⟩ | hno
  · rcases win_01 v2 0 100 with y | y
    · refine op_no h (k := 0) (by decide) fc0 ?_ fun v => ?_
      · simp [f_X10_foretold, has_y q1 b1 hi0, y, bd_e]
      · simp [f_X11_foretold, isF_y (w := si w 16 0 v) (by rw [s16 (by decide)]; exact q2) b1 hi0, in_e, y, bd_e]
    obtain ⟨N, -, hN, rfl⟩ := win_nI y (A := 0) (B := 100) (by decide) (by decide) (by decide)
    obtain ⟨X, r1, r2, r3, r4⟩ := goX (N := N) b1 (by omega) hok p4.1 p4.2.1 (fun i hi0 => ⟨(p4.2.2 i hi0).1, (p4.2.2 i hi0).2.2.1, (p4.2.2 i hi0).2.2.2.1⟩) hw hf hl b4.2.2 b4.1
    have X77 : X.1 77 = w.1 77 := by rw [r2 77 (by decide) (by decide) (by decide) (by decide), p2 77 (by unfold Tc; omega)]
    obtain ⟨M0, m1, m2, m3, m4, -⟩ := asideM (w := X) b1 (by rw [X77]; exact q2)
    rw [X77] at m4
    have M77 : M0.1 77 3 = w.1 77 3 := by rw [m2 77 (by unfold Sc; omega), X77]
    obtain ⟨M1, s1, s2, s3, s4⟩ := goAllM (N := N) (bo := w.1 77 3) b1 (by omega) q2 m4 hok
    refine ⟨hrun (adj (w.1 77)) n (flw (w.1 77) n (fun j => gx (w.1 77) j 3)) (lkf (w.1 77)) (w.1 77 3) (w.1 77 1) (fun j => gx (w.1 77) j 6) N i, X, M1, ?_, ?_, Inv_scr h (fun y y1 y2 => ?_) (s3.trans (m3.trans (r3.trans p3)))⟩
    · unfold f_X10_foretold
      rw [has_y q1 b1 hi0, bd1, if_neg (by decide), y, bd1, if_neg (by decide), p1, bd1, r1, bd1, gd_in (by omega) (by decide), cl_n (by omega)]
      simp only
      rw [(r4.2.2 i hi0).2.1]
      rfl
    · unfold f_X11_foretold
      rw [isF_y (by rw [X77]; exact q2) b1 hi0, bd1, if_neg (by decide), in_e, y, bd1, if_neg (by decide), m1, bd1, M77, s1, bd1, gd_in (by omega) (by decide), cl_n (by omega)]
      simp only
      rw [(s4.2 i hi0).2.2.2]
    · unfold Tc at y1
      unfold Sc at y2
      rw [s2 y (by omega), m2 y (by unfold Sc; omega), r2 y (by omega) (by omega) (by omega) (by omega), p2 y (by unfold Tc; omega)]
  · refine op_no h (k := 0) (by decide) fc0 ?_ fun v => ?_
    · simp [f_X10_foretold, has_n q1 b1 hno, bd_e]
    · simp [f_X11_foretold, isF_n (w := si w 16 0 v) (by rw [s16 (by decide)]; exact q2) b1 hno, bd_e]
theorem op_setback {w : Wd} (h : Inv w) (v1 v2 : Int32) : Op (f_X10_setback v1 v2) (f_X11_setback v1 v2) w := by
  obtain ⟨n, hh, b1, q1, q2, hok, b4, hw, hf, hl, W, p1, p2, p3, p4⟩ := ready h
  rcases win_01 v1 0 900 with z | z
  · refine op_no h (k := 0) (by decide) fc0 ?_ fun v => ?_
    · simp [f_X10_setback, z, bd_e]
    · simp [f_X11_setback, in_e, z, bd_e]
  rcases win_01 v2 1 50 with y | y
  · refine op_no h (k := 0) (by decide) fc0 ?_ fun v => ?_
    · simp [f_X10_setback, z, y, bd_e]
    · simp [f_X11_setback, in_e, z, y, bd_e]
  obtain ⟨N, -, hN, rfl⟩ := win_nI y (A := 1) (B := 50) (by decide) (by decide) (by decide)
  have hb2 : rng v1 0 900 := win_yes z
  obtain ⟨X, r1, r2, r3, r4⟩ := goX (N := N) b1 (by omega) hok p4.1 p4.2.1 (fun i hi0 => ⟨(p4.2.2 i hi0).1, (p4.2.2 i hi0).2.2.1, (p4.2.2 i hi0).2.2.2.1⟩) hw hf hl b4.2.2 b4.1
  obtain ⟨Y, t1, t2, t3, t4⟩ := goX (w := si X 13 1 v1) (bo := v1) (N := N) b1 (by omega) hok ⟨by rw [si_o (by decide)]; exact r4.1.1, si_s, by rw [si_o (by decide)]; exact r4.1.2.2.1, by rw [si_o (by decide)]; exact r4.1.2.2.2⟩ (CW_c r4.2.1 (by rw [si_o (by decide)]) (si_n (by decide)) (si_n (by decide))) (fun i hi0 => ⟨by rw [si_n (by decide)]; exact (r4.2.2 i hi0).1, by rw [si_n (by decide)]; exact (r4.2.2 i hi0).2.2.1, by rw [si_n (by decide)]; exact (r4.2.2 i hi0).2.2.2.1⟩) hw hf hl hb2 b4.1
  have yY : ∀ y, ¬ Tc y → Y.1 y = w.1 y := fun y hy => by
    have hy' := hy
    unfold Tc at hy'
    rw [t2 y (by omega) (by omega) (by omega) (by omega), si_n (by omega), r2 y (by omega) (by omega) (by omega) (by omega), p2 y hy]
  have Y77 : Y.1 77 = w.1 77 := yY 77 (by unfold Tc; omega)
  obtain ⟨M0, m1, m2, m3, m4, -⟩ := asideM (w := Y) b1 (by rw [Y77]; exact q2)
  rw [Y77] at m4
  have M77 : M0.1 77 = w.1 77 := by rw [m2 77 (by unfold Sc; omega), Y77]
  obtain ⟨M1, s1, s2, s3, s4⟩ := goAllM (N := N) (bo := w.1 77 3) b1 (by omega) q2 m4 hok
  have M177 : M1.1 77 = w.1 77 := s4.1
  obtain ⟨M2, u1, u2, u3, u4⟩ := warmM (w := M1) b1 (by rw [M177]; exact q2)
  have hM2 : MS M2 (w.1 77) n (flw (w.1 77) n (fun j => gx (w.1 77) j 3)) (lkf (w.1 77)) (fun j => gx (w.1 77) j 6) := by
    refine ⟨by rw [u2 77 (by decide)]; exact M177, fun i hi0 => ?_⟩
    obtain ⟨a1, a2, a3, a4⟩ := s4.2 i hi0
    rw [u2 80 (by decide), u2 81 (by decide), u2 82 (by decide), u2 83 (by decide), u2 86 (by decide), u2 87 (by decide), u4, if_pos hi0, M177]
    exact ⟨a1, a2, a3, rfl⟩
  obtain ⟨M3, x1, x2, x3, x4⟩ := goAllM (N := N) (bo := v1) b1 (by omega) q2 hM2 hok
  refine ⟨hsum (adj (w.1 77)) n (flw (w.1 77) n (fun j => gx (w.1 77) j 3)) (lkf (w.1 77)) (w.1 77 3) (w.1 77 1) (fun j => gx (w.1 77) j 6) N - hsum (adj (w.1 77)) n (flw (w.1 77) n (fun j => gx (w.1 77) j 3)) (lkf (w.1 77)) v1 (w.1 77 1) (fun j => gx (w.1 77) j 6) N, Y, M3, ?_, ?_, Inv_scr h (fun y y1 y2 => ?_) (x3.trans (u3.trans (s3.trans (m3.trans (t3.trans (r3.trans p3))))))⟩
  · unfold f_X10_setback
    rw [z, bd1, if_neg (by decide), y, bd1, if_neg (by decide), p1, bd1, r1, bd1, lw_e]
    simp only
    rw [t1]
    rfl
  · unfold f_X11_setback
    rw [in_e, z, bd1, if_neg (by decide), in_e, y, bd1, if_neg (by decide), m1, bd1, M77, s1, bd1]
    simp only
    rw [u1, bd1, x1]
    rfl
  · have y2' := y2
    unfold Sc at y2'
    rw [x2 y (by omega), u2 y (by omega), s2 y (by omega), m2 y y2, yY y y1]
theorem op_works {w : Wd} (h : Inv w) (v1 v2 v3 : Int32) : Op (f_X10_works v1 v2 v3) (f_X11_works v1 v2 v3) w := by
  obtain ⟨n, hh, b1, q1, q2, hok, b4, hw, hf, hl, W, p1, p2, p3, p4⟩ := ready h
  rcases fl_cases n v1 with ⟨k, hk0, rfl⟩ | hno
  · rcases win_01 v2 1 99 with z | z
    · refine op_no h (k := 0) (by decide) fc0 ?_ fun v => ?_
      · simp [f_X10_works, has_y q1 b1 hk0, z, bd_e]
      · simp [f_X11_works, isF_y (w := si w 16 0 v) (by rw [s16 (by decide)]; exact q2) b1 hk0, in_e, z, bd_e]
    rcases win_01 v3 1 50 with y | y
    · refine op_no h (k := 0) (by decide) fc0 ?_ fun v => ?_
      · simp [f_X10_works, has_y q1 b1 hk0, z, y, bd_e]
      · simp [f_X11_works, isF_y (w := si w 16 0 v) (by rw [s16 (by decide)]; exact q2) b1 hk0, in_e, z, y, bd_e]
    obtain ⟨N, -, hN, rfl⟩ := win_nI y (A := 1) (B := 50) (by decide) (by decide) (by decide)
    obtain ⟨nn, _, _, _, c1, _, _, _, _, _, _, _, b5, _⟩ := h.n
    have enn : nn = n := (nI_eq (by omega) (by omega)).mp (c1.symm.trans q1)
    subst enn
    obtain ⟨f0, f1, f2, f3, -⟩ := b5 k hk0
    have hlk : ∀ V : Wd, V.1 (35 + k) = w.1 (35 + k) → f_X4_leaks (35 + k) v2 V = some (lk (gx (w.1 77) k 0) v2 (gx (w.1 77) k 5)) := fun V e => leaksX (by rw [e]; exact f0) (by rw [e]; exact f3 5 (by decide) (by decide)) (hok k hk0).2.2.2.2.2.1
    have hl2 : ∀ i, i < nn → rng (upf (lkf (w.1 77)) k (lk (gx (w.1 77) k 0) v2 (gx (w.1 77) k 5)) i) 0 268 := fun i hi0 => by
      unfold upf
      by_cases e : i = k
      · rw [if_pos e]; exact lk_bd (win_yes z) (hok k hk0).2.2.2.2.2.1
      · rw [if_neg e]; exact hl i hi0
    obtain ⟨X, r1, r2, r3, r4⟩ := goX (N := N) b1 (by omega) hok p4.1 p4.2.1 (fun i hi0 => ⟨(p4.2.2 i hi0).1, (p4.2.2 i hi0).2.2.1, (p4.2.2 i hi0).2.2.2.1⟩) hw hf hl b4.2.2 b4.1
    have xX : ∀ y, ¬ Tc y → X.1 y = w.1 y := fun y hy => by
      have hy' := hy
      unfold Tc at hy'
      rw [r2 y (by omega) (by omega) (by omega) (by omega), p2 y hy]
    obtain ⟨Y, t1, t2, t3, t4⟩ := goX (w := si X 61 k (lk (gx (w.1 77) k 0) v2 (gx (w.1 77) k 5))) (lks := upf (lkf (w.1 77)) k (lk (gx (w.1 77) k 0) v2 (gx (w.1 77) k 5))) (N := N) b1 (by omega) hok (by rw [si_n (by decide)]; exact r4.1) (CW_c r4.2.1 (by rw [si_n (by decide)]) (si_n (by decide)) (si_n (by decide))) (fun i hi0 => ⟨by rw [si_n (by decide)]; exact (r4.2.2 i hi0).1, by
      rw [si_g]
      unfold upf
      by_cases e : i = k
      · rw [if_pos ⟨rfl, e⟩, if_pos e]
      · rw [if_neg (fun q => e q.2), if_neg e]; exact (r4.2.2 i hi0).2.2.1, by rw [si_n (by decide)]; exact (r4.2.2 i hi0).2.2.2.1⟩) hw hf hl2 b4.2.2 b4.1
    have yY : ∀ y, ¬ Tc y → Y.1 y = w.1 y := fun y hy => by
      have hy' := hy
      unfold Tc at hy'
      rw [t2 y (by omega) (by omega) (by omega) (by omega), si_n (by omega), xX y hy]
    have Y77 : Y.1 77 = w.1 77 := yY 77 (by unfold Tc; omega)
    obtain ⟨M0, m1, m2, m3, m4, -⟩ := asideM (w := Y) b1 (by rw [Y77]; exact q2)
    rw [Y77] at m4
    have M77 : M0.1 77 = w.1 77 := by rw [m2 77 (by unfold Sc; omega), Y77]
    obtain ⟨M1, s1, s2, s3, s4⟩ := goAllM (N := N) (bo := w.1 77 3) b1 (by omega) q2 m4 hok
    have M177 : M1.1 77 = w.1 77 := s4.1
    obtain ⟨M2, u1, u2, u3, u4⟩ := warmM (w := M1) b1 (by rw [M177]; exact q2)
    have M277 : M2.1 77 = w.1 77 := by rw [u2 77 (by decide)]; exact M177
    have hM2 : MS (si M2 87 k (lk (gx (w.1 77) k 0) v2 (gx (w.1 77) k 5))) (w.1 77) nn (flw (w.1 77) nn (fun j => gx (w.1 77) j 3)) (upf (lkf (w.1 77)) k (lk (gx (w.1 77) k 0) v2 (gx (w.1 77) k 5))) (fun j => gx (w.1 77) j 6) := by
      refine ⟨by rw [si_n (by decide)]; exact M277, fun i hi0 => ?_⟩
      obtain ⟨a1, a2, a3, a4⟩ := s4.2 i hi0
      rw [si_n (show (80 : Nat) ≠ 87 by decide), si_n (show (81 : Nat) ≠ 87 by decide), si_n (show (82 : Nat) ≠ 87 by decide), si_n (show (83 : Nat) ≠ 87 by decide), si_n (show (86 : Nat) ≠ 87 by decide), si_n (show (88 : Nat) ≠ 87 by decide), u2 80 (by decide), u2 81 (by decide), u2 82 (by decide), u2 83 (by decide), u2 86 (by decide), u4, if_pos hi0, M177]
      refine ⟨a1, a2, ?_, rfl⟩
      rw [si_g]
      unfold upf
      by_cases e : i = k
      · rw [if_pos ⟨rfl, e⟩, if_pos e]
      · rw [if_neg (fun q => e q.2), if_neg e, u2 87 (by decide)]; exact a3
    obtain ⟨M3, x1, x2, x3, x4⟩ := goAllM (N := N) (bo := w.1 77 3) b1 (by omega) q2 hM2 hok
    refine ⟨hsum (adj (w.1 77)) nn (flw (w.1 77) nn (fun j => gx (w.1 77) j 3)) (lkf (w.1 77)) (w.1 77 3) (w.1 77 1) (fun j => gx (w.1 77) j 6) N - hsum (adj (w.1 77)) nn (flw (w.1 77) nn (fun j => gx (w.1 77) j 3)) (upf (lkf (w.1 77)) k (lk (gx (w.1 77) k 0) v2 (gx (w.1 77) k 5))) (w.1 77 3) (w.1 77 1) (fun j => gx (w.1 77) j 6) N, Y, M3, ?_, ?_, Inv_scr h (fun y y1 y2 => ?_) (x3.trans (u3.trans (s3.trans (m3.trans (t3.trans (r3.trans p3))))))⟩
    · unfold f_X10_works
      rw [has_y q1 b1 hk0, bd1, if_neg (by decide), z, bd1, if_neg (by decide), y, bd1, if_neg (by decide), p1, bd1, r1, bd1, gd_in (by omega) (by decide), cl_n (by omega)]
      simp only
      rw [hlk X (xX _ (by unfold Tc; omega)), bd1, gd_in (by omega) (by decide), lw_e, t1]
      rfl
    · unfold f_X11_works
      rw [isF_y (by rw [Y77]; exact q2) b1 hk0, bd1, if_neg (by decide), in_e, z, bd1, if_neg (by decide), in_e, y, bd1, if_neg (by decide), m1, bd1, M77, s1, bd1]
      simp only
      rw [u1, bd1, leaksM (by omega), bd1, gd_in (by omega) (by decide), cl_n (by omega), lw_e, M277]
      rw [show (si M2 87 k (lk (gx (w.1 77) k 0) v2 (gx (w.1 77) k 5))).1 77 = w.1 77 from hM2.1, x1]
      rfl
    · have y2' := y2
      unfold Sc at y2'
      rw [x2 y (by omega), si_n (by omega), u2 y (by omega), s2 y (by omega), m2 y y2, yY y y1]
  · refine op_no h (k := 0) (by decide) fc0 ?_ fun v => ?_
    · simp [f_X10_works, has_n q1 b1 hno, bd_e]
    · simp [f_X11_works, isF_n (w := si w 16 0 v) (by rw [s16 (by decide)]; exact q2) b1 hno, bd_e]

theorem op_other {w : Wd} (h : Inv w) (v1 v2 : Int32) : Op (f_X10_other v1 v2) (f_X11_other v1 v2) w := by
  obtain ⟨n, s, H⟩ := h.sh
  obtain ⟨h1, h2, h3, h4, h5, h6, h7, h8⟩ := id H
  rcases win_01 v1 0 9999 with q | q
  · refine op_no h (k := 0) (by decide) fc0 ?_ fun v => ?_
    · unfold f_X10_other
      rw [q, bd1, if_pos rfl]
      exact bd_e
    · unfold f_X11_other
      rw [in_e, q, bd1, if_pos rfl]
      exact bd_e
  have hp : rng v1 0 9999 := win_yes q
  rcases fl_cases n v2 with ⟨i, hi0, rfl⟩ | hno
  · generalize hb : decide (0 < s) = b
    have hf : ∀ i, i < n → rng (shv b (w.1 21) s (w.1 77) i) 0 99999 := fun i _ => c5_b _
    have hf0 : ∀ i, i < n → rng (shv false (w.1 21) s (w.1 77) i) 0 99999 := fun i _ => c5_b _
    obtain ⟨W, c1, c2, c3, c4, c5, c6, c7⟩ := splX (v1 := v1) (v2 := if 0 < s then 1 else 0) H b (by
      rw [← hb]
      by_cases z : 0 < s
      · rw [if_pos (decide_eq_true z), if_pos z]; decide
      · rw [if_neg (by rw [decide_eq_true_eq]; exact z), if_neg z])
    have sk : ∀ y, Sk y → W.1 y = w.1 y := fun y hy => c2 y hy.1 hy.2.1 hy.2.2.1 hy.2.2.2.1
    have w21 : W.1 21 = w.1 21 := sk 21 (by unfold Sk; decide)
    have w77 : W.1 77 = w.1 77 := sk 77 (by unfold Sk; decide)
    have HW : ShH W n s := ShH_c H fun y hy => sk y (by unfold Sk; omega)
    obtain ⟨X, g1, g2, g3, g4, g5, g6, g7⟩ := splX (v1 := v1) (v2 := 0) HW false (by rw [if_neg (by decide)])
    rw [w21, w77] at g6 g7
    have skX : ∀ y, Sk y → X.1 y = w.1 y := fun y hy => (g2 y hy.1 hy.2.1 hy.2.2.1 hy.2.2.2.1).trans (sk y hy)
    have cls : f_X10_other v1 (nI i) w = if ws (shv b (w.1 21) s (w.1 77)) n = 0 then f_X10_finding (-1000000004) W else if ws (shv false (w.1 21) s (w.1 77)) n = 0 then f_X10_finding (-1000000004) X else some (pq v1 (shv false (w.1 21) s (w.1 77)) n i - pq v1 (shv b (w.1 21) s (w.1 77)) n i, X) := by
      unfold f_X10_other
      rw [q, bd1, if_neg (by decide), has_y h3 h1 hi0, bd1, if_neg (by decide), rldE h2 h5, bd1, c1, bd1, nobX c6 (ws_p h1 hf).1, bd1]
      by_cases z : ws (shv b (w.1 21) s (w.1 77)) n = 0
      · rw [if_pos z, if_pos z, if_neg (by decide)]
        exact bd_e
      · rw [if_neg z, if_neg z, if_pos rfl, pyX h1 hp hf z c4 c5 c6 c7 hi0, bd1, g1, bd1, nobX g6 (ws_p h1 hf0).1, bd1]
        by_cases z0 : ws (shv false (w.1 21) s (w.1 77)) n = 0
        · rw [if_pos z0, if_pos z0, if_neg (by decide)]
          exact bd_e
        · rw [if_neg z0, if_neg z0, if_pos rfl, pyX h1 hp hf0 z0 g4 g5 g6 g7 hi0]
          rfl
    have ref : ∀ U : Wd, (∀ y, y ≠ 16 → Sk y → U.1 y = w.1 y) → ∃ V, f_X11_other v1 (nI i) U = (if ws (shv b (w.1 21) s (w.1 77)) n = 0 then f_X11_finds (-1000000004) V else if ws (shv false (w.1 21) s (w.1 77)) n = 0 then f_X11_finds (-1000000004) V else some (pq v1 (shv false (w.1 21) s (w.1 77)) n i - pq v1 (shv b (w.1 21) s (w.1 77)) n i, V)) ∧ (∀ y, Sk y → V.1 y = U.1 y) ∧ V.2 = U.2 := by
      intro U u1
      have u21 : U.1 21 = w.1 21 := u1 21 (by decide) (by unfold Sk; decide)
      have u77 : U.1 77 = w.1 77 := u1 77 (by decide) (by unfold Sk; decide)
      have HU : ShH U n s := ShH_c H fun y hy => u1 y (by omega) (by unfold Sk; omega)
      obtain ⟨V1, d1, d2, d3, d4⟩ := fshM (v1 := 1) HU b (by
        rw [← hb]
        by_cases z : 0 < s
        · rw [if_pos (decide_eq_true z)]; exact ⟨by decide, z⟩
        · rw [if_neg (by rw [decide_eq_true_eq]; exact z)]; exact Or.inr (by omega))
      rw [u21, u77] at d4
      obtain ⟨V2, e1, e2, e3, e4⟩ := fpM (W := V1) (pr := v1) h1 hp hf (by rw [d2 77 (by decide) (by decide), u77]; exact h4) d4
      have s2 : ∀ y, Sk y → V2.1 y = U.1 y := fun y hy => by rw [e2 y hy.2.2.2.2.2.2.1 hy.2.2.2.2.2.2.2, d2 y hy.2.2.2.2.1 hy.2.2.2.2.2.1]
      have HV : ShH V2 n s := ShH_c HU fun y hy => s2 y (by unfold Sk; omega)
      obtain ⟨V3, d5, d6, d7, d8⟩ := fshM (v1 := 0) HV false (by rw [if_neg (by decide)]; exact Or.inl rfl)
      rw [s2 21 (by unfold Sk; decide), s2 77 (by unfold Sk; decide), u21, u77] at d8
      obtain ⟨V4, e5, e6, e7, e8⟩ := fpM (W := V3) (pr := v1) h1 hp hf0 (by rw [d6 77 (by decide) (by decide), s2 77 (by unfold Sk; decide), u77]; exact h4) d8
      refine ⟨V4, ?_, fun y hy => by rw [e6 y hy.2.2.2.2.2.2.1 hy.2.2.2.2.2.2.2, d6 y hy.2.2.2.2.1 hy.2.2.2.2.2.1, s2 y hy], e7.trans (d7.trans (e3.trans d3))⟩
      unfold f_X11_other
      rw [in_e, q, bd1, if_neg (by decide), isF_y (by rw [u77]; exact h4) h1 hi0, bd1, if_neg (by decide), d1, bd1, e1, bd1, gd_in (by omega) (by decide)]
      simp only
      rw [d5, bd1, e5, bd1]
      simp only
      by_cases z : ws (shv b (w.1 21) s (w.1 77)) n = 0
      · rw [if_pos z, if_pos z]
        by_cases z0 : ws (shv false (w.1 21) s (w.1 77)) n = 0
        · rw [if_pos z0, if_pos rfl]
          exact bd_e
        · rw [if_neg z0, if_neg (show ¬ (1 : Int32) = 0 by decide), if_pos rfl]
          exact bd_e
      · rw [if_neg z, if_neg z]
        by_cases z0 : ws (shv false (w.1 21) s (w.1 77)) n = 0
        · rw [if_pos z0, if_pos z0, if_pos rfl]
          exact bd_e
        · rw [if_neg z0, if_neg z0, if_neg (show ¬ (1 : Int32) = 0 by decide), if_neg (show ¬ (1 : Int32) = 0 by decide), gd_in (by omega) (by decide), cl_n (by omega), e8 z0 i hi0, e4 z i hi0]
    by_cases z : ws (shv b (w.1 21) s (w.1 77)) n = 0
    · rw [if_pos z] at cls
      refine op_no2 h (k := 3) (by decide) fc3 sk c3 cls fun v => ?_
      obtain ⟨V, r1, r2, r3⟩ := ref (si W 16 3 v) (fun y hy hs => (si_n hy).trans (sk y hs))
      rw [if_pos z] at r1
      exact ⟨V, r1, r2, r3⟩
    rw [if_neg z] at cls
    by_cases z0 : ws (shv false (w.1 21) s (w.1 77)) n = 0
    · rw [if_pos z0] at cls
      refine op_no2 h (k := 3) (by decide) fc3 skX (g3.trans c3) cls fun v => ?_
      obtain ⟨V, r1, r2, r3⟩ := ref (si X 16 3 v) (fun y hy hs => (si_n hy).trans (skX y hs))
      rw [if_neg z, if_pos z0] at r1
      exact ⟨V, r1, r2, r3⟩
    · rw [if_neg z0] at cls
      obtain ⟨V, r1, r2, r3⟩ := ref X (fun y _ hs => skX y hs)
      rw [if_neg z, if_neg z0] at r1
      exact ⟨_, X, V, cls, r1, Inv_sk h (fun y hy => (r2 y hy).trans (skX y hy)) (r3.trans (g3.trans c3))⟩
  · refine op_no h (k := 0) (by decide) fc0 ?_ fun v => ?_
    · unfold f_X10_other
      rw [q, bd1, if_neg (by decide), has_n h3 h1 hno, bd1, if_pos rfl]
      exact bd_e
    · unfold f_X11_other
      rw [in_e, q, bd1, if_neg (by decide), isF_n (by rw [s16 (by decide)]; exact h4) h1 hno, bd1, if_pos rfl]
      exact bd_e

def tapeX (f : Nat → Int32) (t m : Nat) (v : Int32) (k : Nat) (y : Nat) : Int32 := if t ≤ y ∧ y < t + k then byt v (m - 1 - (y - t)) else f y
theorem nI_m1 {k : Nat} (h : 0 < k) : nI k - 1 = nI (k - 1) := nI_sub (a := k) (b := 1) h
theorem dec1 {k : Nat} (h : 0 < k) : nI k + (-1) = nI (k - 1) := by
  rw [← Int32.sub_eq_add_neg]
  exact nI_m1 h
theorem feedX {w : Wd} {t m : Nat} {v : Int32} (hm : m ≤ 4) (ht : t + m ≤ 80) (h1 : w.1 7 1 = nI t) : ∃ W : Wd, lp (f_X10_feed_L41 v) FU (nI m - 1, w) = some (-1, W) ∧ (∀ y, y ≠ 7 → y ≠ 23 → W.1 y = w.1 y) ∧ W.2 = w.2 ∧ W.1 7 1 = nI (t + m) ∧ W.1 23 = tapeX (w.1 23) t m v m := by
  have H : ∃ r, lp (f_X10_feed_L41 v) FU (nI m - 1, w) = some r ∧ (r.1 = -1 ∧ (∀ y, y ≠ 7 → y ≠ 23 → r.2.1 y = w.1 y) ∧ r.2.2 = w.2 ∧ r.2.1 7 1 = nI (t + m) ∧ r.2.1 23 = tapeX (w.1 23) t m v m) := by
    refine lp_n (fun i z => z.1 = nI (m - i) - 1 ∧ (∀ y, y ≠ 7 → y ≠ 23 → z.2.1 y = w.1 y) ∧ z.2.2 = w.2 ∧ z.2.1 7 1 = nI (t + i) ∧ z.2.1 23 = tapeX (w.1 23) t m v i) m _ ⟨rfl, fun _ _ _ => rfl, rfl, h1, ?_⟩ (FU_lt (by omega)) ?_ ?_
    · funext y
      exact (if_neg (by omega)).symm
    · rintro i ⟨a, W⟩ hi0 ⟨e1, e2, e3, e4, e5⟩
      simp only at e1 e2 e3 e4 e5
      rw [nI_m1 (by omega)] at e1
      subst e1
      refine Or.inl ⟨(nI (m - (i + 1)) - 1, si (si W 23 (t + i) (byt v (m - i - 1))) 7 1 (nI (t + i) + 1)), ?_, rfl, fun y y1 y2 => ?_, e3, ?_, ?_⟩
      · unfold f_X10_feed_L41
        simp only
        rw [if_neg (nI_pos (by omega)), byt_u v (m - i - 1) (by omega)]
        unfold f_X9_append
        rw [e4, if_neg (show ¬ (80 : Int32) ≤ nI (t + i) from nle (n := 80) (by omega) (by decide)), gd_in (by omega) (by decide), cl_n (by omega)]
        simp only [lw_e]
        rw [si_n (show (7 : Nat) ≠ 23 by decide), e4, bd1]
        have : nI (m - i - 1) + (-1) = nI (m - (i + 1)) - 1 := by
          rw [← Int32.sub_eq_add_neg]
          rfl
        rw [this]
      · rw [si_n y1, si_n y2, e2 y y1 y2]
      · rw [si_s, nI_1]
        rfl
      · rw [si_n (show (23 : Nat) ≠ 7 by decide)]
        funext y
        rw [si_g, e5]
        unfold tapeX
        by_cases z : y = t + i
        · rw [if_pos ⟨rfl, z⟩, if_pos (by omega)]
          congr 1
          omega
        · rw [if_neg (fun q => z q.2)]
          by_cases z2 : t ≤ y ∧ y < t + i
          · rw [if_pos z2, if_pos (by omega)]
          · rw [if_neg z2, if_neg (by omega)]
    · rintro ⟨a, W⟩ ⟨e1, e2, e3, e4, e5⟩
      simp only at e1
      rw [Nat.sub_self] at e1
      subst e1
      refine ⟨(-1, W), ?_, rfl, e2, e3, e4, e5⟩
      unfold f_X10_feed_L41
      rw [if_pos (show (nI 0 - 1 : Int32) < 0 by decide)]
      rfl
  obtain ⟨⟨a, W⟩, q1, e1, e2, e3, e4, e5⟩ := H
  simp only at e1
  subst e1
  exact ⟨W, q1, e2, e3, e4, e5⟩
theorem feedM {w : Wd} {t m : Nat} {v : Int32} (hm : m ≤ 4) (ht : t + m ≤ 80) (h1 : w.1 76 18 = nI t) : ∃ W : Wd, lp (f_X11_feed_L38 v) FU (nI m - 1, w) = some (-1, W) ∧ (∀ y, y ≠ 76 → y ≠ 92 → W.1 y = w.1 y) ∧ W.2 = w.2 ∧ (∀ j, W.1 76 j = if j = 18 then nI (t + m) else w.1 76 j) ∧ W.1 92 = tapeX (w.1 92) t m v m := by
  have H : ∃ r, lp (f_X11_feed_L38 v) FU (nI m - 1, w) = some r ∧ (r.1 = -1 ∧ (∀ y, y ≠ 76 → y ≠ 92 → r.2.1 y = w.1 y) ∧ r.2.2 = w.2 ∧ (∀ j, r.2.1 76 j = if j = 18 then nI (t + m) else w.1 76 j) ∧ r.2.1 92 = tapeX (w.1 92) t m v m) := by
    refine lp_n (fun i z => z.1 = nI (m - i) - 1 ∧ (∀ y, y ≠ 76 → y ≠ 92 → z.2.1 y = w.1 y) ∧ z.2.2 = w.2 ∧ (∀ j, z.2.1 76 j = if j = 18 then nI (t + i) else w.1 76 j) ∧ z.2.1 92 = tapeX (w.1 92) t m v i) m _ ⟨rfl, fun _ _ _ => rfl, rfl, fun j => ?_, ?_⟩ (FU_lt (by omega)) ?_ ?_
    · by_cases z : j = 18
      · rw [if_pos z, z]; exact h1
      · rw [if_neg z]
    · funext y
      exact (if_neg (by omega)).symm
    · rintro i ⟨a, W⟩ hi0 ⟨e1, e2, e3, e4, e5⟩
      simp only at e1 e2 e3 e4 e5
      rw [nI_m1 (by omega)] at e1
      subst e1
      have e18 : W.1 76 18 = nI (t + i) := by rw [e4, if_pos rfl]
      refine Or.inl ⟨(nI (m - (i + 1)) - 1, si (si W 92 (t + i) (byt v (m - i - 1))) 76 18 (nI (t + i) + 1)), ?_, rfl, fun y y1 y2 => ?_, e3, fun j => ?_, ?_⟩
      · unfold f_X11_feed_L38
        simp only
        rw [if_neg (nI_pos (by omega)), e18, gd_in (by omega) (by decide), cl_n (by omega)]
        simp only [lw_e]
        rw [si_n (show (76 : Nat) ≠ 92 by decide), e18]
        have : nI (m - i - 1) + (-1) = nI (m - (i + 1)) - 1 := by
          rw [← Int32.sub_eq_add_neg]
          rfl
        rw [this]
        rfl
      · rw [si_n y1, si_n y2, e2 y y1 y2]
      · rw [si_g, si_n (by decide), e4, nI_1]
        by_cases z : j = 18
        · rw [if_pos ⟨rfl, z⟩, if_pos z]; rfl
        · rw [if_neg (fun q => z q.2), if_neg z, if_neg z]
      · rw [si_n (show (92 : Nat) ≠ 76 by decide)]
        funext y
        rw [si_g, e5]
        unfold tapeX
        by_cases z : y = t + i
        · rw [if_pos ⟨rfl, z⟩, if_pos (by omega)]
          congr 1
          omega
        · rw [if_neg (fun q => z q.2)]
          by_cases z2 : t ≤ y ∧ y < t + i
          · rw [if_pos z2, if_pos (by omega)]
          · rw [if_neg z2, if_neg (by omega)]
    · rintro ⟨a, W⟩ ⟨e1, e2, e3, e4, e5⟩
      simp only at e1
      rw [Nat.sub_self] at e1
      subst e1
      refine ⟨(-1, W), ?_, rfl, e2, e3, e4, e5⟩
      unfold f_X11_feed_L38
      rw [if_pos (show (nI 0 - 1 : Int32) < 0 by decide)]
      rfl
  obtain ⟨⟨a, W⟩, q1, e1, e2, e3, e4, e5⟩ := H
  simp only at e1
  subst e1
  exact ⟨W, q1, e2, e3, e4, e5⟩
theorem op_feed {w : Wd} (h : Inv w) (v1 v2 : Int32) : Op (f_X10_feed v1 v2) (f_X11_feed v1 v2) w := by
  obtain ⟨t, t1, t2, t3, t4⟩ := id h.2.1
  rcases win_01 v2 1 4 with q | q
  · refine op_no h (k := 0) (by decide) fc0 ?_ fun v => ?_
    · simp [f_X10_feed, q, bd_e]
    · simp [f_X11_feed, in_e, q, bd_e]
  have hq := win_yes q
  have x1 : (1 : Int32).toInt = 1 := by decide
  have x4 : (4 : Int32).toInt = 4 := by decide
  rw [x1, x4] at hq
  obtain ⟨m, hm, rfl⟩ := nI_rng (v := v2) (a := 4) (by decide) (by omega) (by omega)
  have hs : nI t + nI m = nI (t + m) := nI_add t m
  rcases Nat.lt_or_ge 80 (t + m) with z | z
  · refine op_no h (k := 1) (by decide) fc1 ?_ fun v => ?_
    · unfold f_X10_feed
      rw [q, bd1, if_neg (by decide), t2, hs, if_neg (show ¬ nI (t + m) ≤ (80 : Int32) from nle (i := 80) z (by omega))]
      exact bd_e
    · unfold f_X11_feed
      rw [in_e, q, bd1, if_neg (by decide), s16 (by decide), t3, hs, if_neg (show ¬ nI (t + m) ≤ (80 : Int32) from nle (i := 80) z (by omega))]
      exact bd_e
  · obtain ⟨W, e1, p1, p2, p3, p4⟩ := feedX (v := v1) hm z t2
    have w76 : W.1 76 = w.1 76 := p1 76 (by decide) (by decide)
    obtain ⟨V, e2, r1, r2, r3, r4⟩ := feedM (w := W) (v := v1) hm z (by rw [w76]; exact t3)
    have le : nI (t + m) ≤ (80 : Int32) := nI_le (b := 80) z (by decide)
    have hy : ∀ y, y ≠ 7 → y ≠ 23 → y ≠ 76 → y ≠ 92 → V.1 y = w.1 y := fun y a b c d => (r1 y c d).trans (p1 y a b)
    have hL : ∀ L : List Nat, (∀ y, y ∈ L → y ≠ 7 ∧ y ≠ 23 ∧ y ≠ 76 ∧ y ≠ 92) → AgL L w V := fun L hL y hy0 => hy y (hL y hy0).1 (hL y hy0).2.1 (hL y hy0).2.2.1 (hL y hy0).2.2.2
    refine ⟨nI (t + m), W, V, ?_, ?_, Inv_rule h (hL _ (by decide)) (hL _ (by decide)) (hL _ (by decide)) (hL _ (by decide)) (r2.trans p2) (by rw [hy 0 (by decide) (by decide) (by decide) (by decide)]) (fun j hj => by rw [r3, if_neg (by omega), w76]) (fun y _ _ => by rw [hy 77 (by decide) (by decide) (by decide) (by decide)]) ?_ ?_⟩
    · unfold f_X10_feed
      rw [q, bd1, if_neg (by decide), t2, hs, if_pos le, e1, bd1, p3]
    · unfold f_X11_feed
      rw [in_e, q, bd1, if_neg (by decide), w76, t3, hs, if_pos le, e2, bd1]
      show some (V.1 76 18, V) = _
      rw [r3, if_pos rfl]
    · refine ⟨t + m, z, ?_, ?_, fun i hi0 => ?_⟩
      · rw [r1 7 (by decide) (by decide)]; exact p3
      · rw [r3, if_pos rfl]
      · rw [r1 23 (by decide) (by decide), p4, r4, p1 92 (by decide) (by decide)]
        unfold tapeX
        by_cases y : t ≤ i ∧ i < t + m
        · rw [if_pos y, if_pos y]
          exact ⟨rfl, and255 _⟩
        · rw [if_neg y, if_neg y]
          exact t4 i (by omega)
    · rw [hy 5 (by decide) (by decide) (by decide) (by decide), hy 21 (by decide) (by decide) (by decide) (by decide), hy 77 (by decide) (by decide) (by decide) (by decide)]
      obtain ⟨n, hh, c, -, -, hR⟩ := h.b
      exact hR

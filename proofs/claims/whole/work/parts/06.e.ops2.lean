theorem fc0 : (-1000000001 : Int32) = fcode 0 := by decide
theorem fc1 : (-1000000002 : Int32) = fcode 1 := by decide
theorem fc2 : (-1000000003 : Int32) = fcode 2 := by decide
theorem fc3 : (-1000000004 : Int32) = fcode 3 := by decide
theorem fc4 : (-1000000005 : Int32) = fcode 4 := by decide
theorem fc5 : (-1000000006 : Int32) = fcode 5 := by decide
theorem fc6 : (-1000000007 : Int32) = fcode 6 := by decide
/-- both refuse -/
theorem op_no {fc fr : Wd → Option (Int32 × Wd)} {w : Wd} {k : Nat} {x : Int32} (h : Inv w) (hk : k < 7) (ex : x = fcode k) (h1 : fc w = f_X10_finding x w) (h2 : ∀ v, fr (si w 16 k v) = f_X11_finds x (si w 16 k v)) : Op fc fr w := by
  subst ex
  exact ⟨_, _, _, h1.trans (fnd hk w), (h2 _).trans (fds hk _), refuse h hk⟩
theorem s16 {w : Wd} {k x : Nat} {v : Int32} (h : x ≠ 16) : (si w 16 k v).1 x = w.1 x := si_n h
theorem op_turn {w : Wd} (h : Inv w) (v1 v2 : Int32) : Op (f_X10_turn v1 v2) (f_X11_turn v1 v2) w := by
  obtain ⟨n, hh, c, hB, hC, hR⟩ := h.b
  obtain ⟨b1, b2, ⟨b3, b4, -⟩, -, b5, -⟩ := id hB
  rcases fl_cases n v1 with ⟨i, hi, rfl⟩ | hno
  · have hi12 : i < 12 := by omega
    obtain ⟨⟨q0, q1, q2, q3⟩, q4⟩ := b5 i hi
    rcases win_01 v2 0 8 with q | q
    · refine op_no h (k := 0) (by decide) fc0 ?_ fun v => ?_
      · unfold f_X10_turn
        rw [has_y b3 b1 hi, q]
        simp [bd_e]
      · unfold f_X11_turn
        rw [isF_y (by rw [s16 (by decide)]; exact b4) b1 hi, in_e, q]
        simp [bd_e]
    · have h5 : w.1 (35 + i) 5 = gx (w.1 77) i 4 := q3 4 (by decide) (by decide)
      have h4 : w.1 (35 + i) 4 = gx (w.1 77) i 3 := q3 3 (by decide) (by decide)
      rcases q4.2.2.2.2.1 with z | z
      · refine ⟨gx (w.1 77) i 3, si w (35 + i) 4 v2, si (si (si w (35 + i) 4 v2) 77 (7 + 11 * i + 3) v2) 76 30 0, ?_, ?_, ?_⟩
        · unfold f_X10_turn
          rw [has_y b3 b1 hi, q]
          simp only [Option.bind_some]
          rw [if_neg (by decide), if_neg (by decide), gd_in hi12 (by decide), cl_n (by omega), h5, z, if_pos rfl, h4]
          rfl
        · unfold f_X11_turn
          rw [isF_y (by rw [si_n (by omega)]; exact b4) b1 hi, in_e, q, get_4 hi12, bec_3 hi12]
          simp only [Option.bind_some]
          rw [si_n (by omega), z]
          simp
        · exact Inv_set h hB hC hR hi (k := 3) (by decide) (by decide) fun g' e1 e2 => FlatOk_u q4 e1 (Or.inl ⟨rfl, by rw [e2]; exact win_yes q⟩)
      · refine op_no h (k := 4) (by decide) fc4 ?_ fun v => ?_
        · unfold f_X10_turn
          rw [has_y b3 b1 hi, q]
          simp only [Option.bind_some]
          rw [if_neg (by decide), if_neg (by decide), gd_in hi12 (by decide), cl_n (by omega), h5, z, if_neg (by decide)]
          exact bd_e
        · unfold f_X11_turn
          rw [isF_y (by rw [s16 (by decide)]; exact b4) b1 hi, in_e, q, get_4 hi12, s16 (by decide), z]
          simp [bd_e]
  · refine op_no h (k := 0) (by decide) fc0 ?_ fun v => ?_
    · unfold f_X10_turn
      rw [has_n b3 b1 hno]
      simp [bd_e]
    · unfold f_X11_turn
      rw [isF_n (by rw [s16 (by decide)]; exact b4) b1 hno]
      simp [bd_e]
theorem op_hold {w : Wd} (h : Inv w) (v1 v2 : Int32) (hv : v2 = 0 ∨ v2 = 1) : Op (f_X10_hold v1 v2) (f_X11_hold v1 v2) w := by
  obtain ⟨n, hh, c, hB, hC, hR⟩ := h.b
  obtain ⟨b1, b2, ⟨b3, b4, -⟩, -, b5, -⟩ := id hB
  rcases fl_cases n v1 with ⟨i, hi, rfl⟩ | hno
  · have hi12 : i < 12 := by omega
    obtain ⟨⟨q0, q1, q2, q3⟩, q4⟩ := b5 i hi
    have h5 : w.1 (35 + i) 5 = gx (w.1 77) i 4 := q3 4 (by decide) (by decide)
    have hb : f_X10_bit (gx (w.1 77) i 4) = some (gx (w.1 77) i 4) := by
      unfold f_X10_bit
      rcases q4.2.2.2.2.1 with z | z <;> rw [z] <;> rfl
    refine ⟨gx (w.1 77) i 4, si w (35 + i) 5 v2, si (si (si w (35 + i) 5 v2) 77 (7 + 11 * i + 4) v2) 76 30 0, ?_, ?_, Inv_set h hB hC hR hi (k := 4) (by decide) (by decide) fun g' e1 e2 => FlatOk_u q4 e1 (Or.inr (Or.inl ⟨rfl, by rw [e2]; exact hv⟩))⟩
    · unfold f_X10_hold
      rw [has_y b3 b1 hi]
      simp only [Option.bind_some]
      rw [if_neg (by decide), gd_in hi12 (by decide), gd_z hv, cl_n (by omega), h5, hb]
      rfl
    · unfold f_X11_hold
      rw [isF_y (by rw [si_n (by omega)]; exact b4) b1 hi, bec_4 hi12, bec_4 hi12]
      simp only [Option.bind_some]
      rw [si_n (by omega)]
      rcases hv with rfl | rfl
      · rw [if_neg (by decide), if_pos rfl]
      · rw [if_neg (by decide), if_neg (by decide)]
  · refine op_no h (k := 0) (by decide) fc0 ?_ fun v => ?_
    · unfold f_X10_hold
      rw [has_n b3 b1 hno]
      simp [bd_e]
    · unfold f_X11_hold
      rw [isF_n (by rw [s16 (by decide)]; exact b4) b1 hno]
      simp [bd_e]
theorem op_window {w : Wd} (h : Inv w) (v1 v2 : Int32) (hv : v2 = 0 ∨ v2 = 1) : Op (f_X10_window v1 v2) (f_X11_window v1 v2) w := by
  obtain ⟨n, hh, c, hB, hC, hR⟩ := h.b
  obtain ⟨b1, b2, ⟨b3, b4, -⟩, -, b5, -⟩ := id hB
  rcases fl_cases n v1 with ⟨i, hi, rfl⟩ | hno
  · have hi12 : i < 12 := by omega
    obtain ⟨⟨q0, q1, q2, q3⟩, q4⟩ := b5 i hi
    have h5 : w.1 (35 + i) 6 = gx (w.1 77) i 5 := q3 5 (by decide) (by decide)
    have hb : f_X10_bit (gx (w.1 77) i 5) = some (gx (w.1 77) i 5) := by
      unfold f_X10_bit
      rcases q4.2.2.2.2.2.1 with z | z <;> rw [z] <;> rfl
    refine ⟨gx (w.1 77) i 5, si w (35 + i) 6 v2, si (si (si w (35 + i) 6 v2) 77 (7 + 11 * i + 5) v2) 76 30 0, ?_, ?_, Inv_set h hB hC hR hi (k := 5) (by decide) (by decide) fun g' e1 e2 => FlatOk_u q4 e1 (Or.inr (Or.inr (Or.inl ⟨rfl, by rw [e2]; exact hv⟩)))⟩
    · unfold f_X10_window
      rw [has_y b3 b1 hi]
      simp only [Option.bind_some]
      rw [if_neg (by decide), gd_in hi12 (by decide), gd_z hv, cl_n (by omega), h5, hb]
      rfl
    · unfold f_X11_window
      rw [isF_y (by rw [si_n (by omega)]; exact b4) b1 hi, bec_5 hi12, bec_5 hi12]
      simp only [Option.bind_some]
      rw [si_n (by omega)]
      rcases hv with rfl | rfl
      · rw [if_neg (by decide), if_pos rfl]
      · rw [if_neg (by decide), if_neg (by decide)]
  · refine op_no h (k := 0) (by decide) fc0 ?_ fun v => ?_
    · unfold f_X10_window
      rw [has_n b3 b1 hno]
      simp [bd_e]
    · unfold f_X11_window
      rw [isF_n (by rw [s16 (by decide)]; exact b4) b1 hno]
      simp [bd_e]
theorem op_drift {w : Wd} (h : Inv w) (v1 v2 : Int32) : Op (f_X10_drift v1 v2) (f_X11_drift v1 v2) w := by
  obtain ⟨n, hh, c, hB, hC, hR⟩ := h.b
  obtain ⟨b1, b2, ⟨b3, b4, -⟩, -, b5, -⟩ := id hB
  rcases fl_cases n v1 with ⟨i, hi, rfl⟩ | hno
  · have hi12 : i < 12 := by omega
    obtain ⟨⟨q0, q1, q2, q3⟩, q4⟩ := b5 i hi
    rcases win_01 v2 0 200 with q | q
    · refine op_no h (k := 0) (by decide) fc0 ?_ fun v => ?_
      · unfold f_X10_drift
        rw [has_y b3 b1 hi, q]
        simp [bd_e]
      · unfold f_X11_drift
        rw [isF_y (by rw [s16 (by decide)]; exact b4) b1 hi, in_e, q]
        simp [bd_e]
    · have h5 : w.1 (35 + i) 11 = gx (w.1 77) i 10 := q3 10 (by decide) (by decide)
      refine ⟨gx (w.1 77) i 10, si w (35 + i) 11 v2, si (si (si w (35 + i) 11 v2) 77 (7 + 11 * i + 10) v2) 76 30 0, ?_, ?_, Inv_set h hB hC hR hi (k := 10) (by decide) (by decide) fun g' e1 e2 => FlatOk_u q4 e1 (Or.inr (Or.inr (Or.inr ⟨rfl, by rw [e2]; exact win_yes q⟩)))⟩
      · unfold f_X10_drift
        rw [has_y b3 b1 hi, q]
        simp only [Option.bind_some]
        rw [if_neg (by decide), if_neg (by decide), gd_in hi12 (by decide), cl_n (by omega), h5]
        rfl
      · unfold f_X11_drift
        rw [isF_y (by rw [si_n (by omega)]; exact b4) b1 hi, in_e, q, bec_10 hi12]
        simp only [Option.bind_some]
        rw [si_n (by omega)]
        simp
  · refine op_no h (k := 0) (by decide) fc0 ?_ fun v => ?_
    · unfold f_X10_drift
      rw [has_n b3 b1 hno]
      simp [bd_e]
    · unfold f_X11_drift
      rw [isF_n (by rw [s16 (by decide)]; exact b4) b1 hno]
      simp [bd_e]

theorem op_tear {w : Wd} (h : Inv w) : Op f_X10_tear f_X11_tear w := by
  obtain ⟨a, b, c, d, e, f⟩ := h
  have fin : Inv (si (si w 0 2 0) 76 2 0) := by
    refine ⟨IF_l a ((AgL.rf.si (by decide)).si (by decide)) ?_, IT_l b ((AgL.rf.si (by decide)).si (by decide)) ?_, IS_l c ((AgL.rf.si (by decide)).si (by decide)) rfl, SRm_l d ((AgL.rf.si (by decide)).si (by decide)), Or.inl ⟨?_, si_s⟩, FC_a f ?_ fun j h1 h2 => ?_⟩
    · rw [si_o (by decide), si_n (by decide)]
    · rw [si_o (by decide), si_n (by decide)]
    · rw [si_n (by decide), si_s]
    · rw [si_n (by decide), si_n (by decide)]
    · rw [si_o (by omega), si_n (by decide)]
  have e76 : (si w 0 2 0).1 76 2 = w.1 76 2 := by rw [si_n (by decide)]
  rcases e with ⟨e1, e2⟩ | ⟨e1, e2, -⟩
  · refine ⟨0, si w 0 2 0, si (si w 0 2 0) 76 2 0, ?_, ?_, fin⟩
    · unfold f_X10_tear f_X10_bit
      rw [e1]
      rfl
    · unfold f_X11_tear
      rw [e76, e2]
      rfl
  · refine ⟨1, si w 0 2 0, si (si w 0 2 0) 76 2 0, ?_, ?_, fin⟩
    · unfold f_X10_tear f_X10_bit
      rw [e1]
      rfl
    · unfold f_X11_tear
      rw [e76, e2]
      rfl
/-- how far a meter is off -/
def off (g : Nat → Int32) (i : Nat) : Int32 := if 0 ≤ gx g i 7 - gx g i 8 then gx g i 7 - gx g i 8 else 0 - (gx g i 7 - gx g i 8)
theorem off_0 {g : Nat → Int32} {h i : Nat} (hh : h ≤ 2000) (H : FlatOk g h i) : 0 ≤ (off g i).toInt := by
  obtain ⟨-, -, -, -, -, -, -, p7, p8, -⟩ := H
  unfold rng at p7 p8
  have e : (gx g i 7 - gx g i 8).toInt = (gx g i 7).toInt - (gx g i 8).toInt := i_sub (by omega) (by omega)
  have z : (0 : Int32).toInt = 0 := by decide
  unfold off
  by_cases q : 0 ≤ gx g i 7 - gx g i 8
  · rw [if_pos q]
    rw [i_le, z] at q
    exact q
  · rw [if_neg q]
    rw [i_le, z] at q
    rw [i_sub (by omega) (by omega), z]
    omega
theorem offBy_e {w : Wd} {i : Nat} (hi0 : i < 12) : f_X11_offBy (nI i) w = some (off (w.1 77) i) := by
  unfold f_X11_offBy off
  rw [get_7 hi0, get_8 hi0, bd1, bd1]
  by_cases q : 0 ≤ gx (w.1 77) i 7 - gx (w.1 77) i 8
  · rw [if_pos q, if_pos q]
  · rw [if_neg q, if_neg q]
    congr 1
/-- the first of the greatest -/
def argm (f : Nat → Int32) : Nat → Nat
  | 0 => 0
  | m + 1 => if f m ≤ f (argm f m) then argm f m else m
theorem argm_lt {f : Nat → Int32} : ∀ {m : Nat}, 0 < m → argm f m < m
  | m + 1, _ => by
    unfold argm
    by_cases q : f m ≤ f (argm f m)
    · rw [if_pos q]
      rcases Nat.eq_zero_or_pos m with z | z
      · subst z; exact Nat.zero_lt_one
      · exact Nat.lt_succ_of_lt (argm_lt z)
    · rw [if_neg q]
      exact Nat.lt_succ_self m
theorem argm_1 {f : Nat → Int32} : argm f 1 = 0 := by
  show (if f 0 ≤ f 0 then 0 else 0) = 0
  simp
theorem farX {w : Wd} {n h : Nat} (hn : n ≤ 12) (n0 : 0 < n) (hh : h ≤ 2000) (hB : w.1 3 1 = nI n) (h8 : ∀ i, i < n → w.1 (35 + i) 8 = gx (w.1 77) i 7 ∧ w.1 (35 + i) 9 = gx (w.1 77) i 8 ∧ FlatOk (w.1 77) h i) : f_X0_farthestMeter w = some (nI (argm (off (w.1 77)) n)) := by
  unfold f_X0_farthestMeter
  have L : lp (f_X0_farthestMeter_L6 w) FU (0, (-1), 0) = some (nI (argm (off (w.1 77)) n), off (w.1 77) (argm (off (w.1 77)) n), nI n) := by
    have := lp_for (step := f_X0_farthestMeter_L6 w) (fun i => (nI (argm (off (w.1 77)) i), (if i = 0 then -1 else off (w.1 77) (argm (off (w.1 77)) i)), nI i)) n (nI (argm (off (w.1 77)) n), off (w.1 77) (argm (off (w.1 77)) n), nI n) (FU_lt (by omega)) (fun i hi0 => ?_) ?_
    · exact this
    · unfold f_X0_farthestMeter_L6
      simp only
      rw [hB, if_neg (nle hi0 (by omega)), gd_in (by omega) (by decide), gd_in (by omega) (by decide), cl_n (by omega), (h8 i hi0).1, (h8 i hi0).2.1, nI_1]
      show (if off (w.1 77) i ≤ _ then _ else some (Sum.inl (nI i, off (w.1 77) i, nI (i + 1)))) = _
      rw [if_neg (Nat.succ_ne_zero i)]
      by_cases z : i = 0
      · subst z
        rw [if_pos rfl, if_neg (by
          rw [i_le]
          have := off_0 hh (h8 0 hi0).2.2
          have e : (-1 : Int32).toInt = -1 := by decide
          omega), argm_1]
      · rw [if_neg z]
        by_cases q : off (w.1 77) i ≤ off (w.1 77) (argm (off (w.1 77)) i)
        · have e : argm (off (w.1 77)) (i + 1) = argm (off (w.1 77)) i := if_pos q
          rw [if_pos q, e]
        · have e : argm (off (w.1 77)) (i + 1) = i := if_neg q
          rw [if_neg q, e]
    · unfold f_X0_farthestMeter_L6
      simp only
      rw [hB, if_pos (nle' n), if_neg (by omega)]
  rw [L]
  rfl
theorem farM {w : Wd} {n : Nat} (hn : n ≤ 12) (n0 : 0 < n) (hB : w.1 77 4 = nI n) : lp (f_X11_meters_L54 w) FU (0, 1) = some (nI (argm (off (w.1 77)) n), nI n) := by
  have := lp_for (step := f_X11_meters_L54 w) (fun i => (nI (argm (off (w.1 77)) (i + 1)), nI (i + 1))) (n - 1) (nI (argm (off (w.1 77)) n), nI n) (FU_lt (by omega)) (fun i hi0 => ?_) ?_
  · have e : ((0 : Int32), (1 : Int32)) = (nI (argm (off (w.1 77)) (0 + 1)), nI (0 + 1)) := by
      rw [show (0 + 1 : Nat) = 1 from rfl, argm_1]
      rfl
    rw [e]
    exact this
  · unfold f_X11_meters_L54
    have hl : argm (off (w.1 77)) (i + 1) < i + 1 := argm_lt (Nat.succ_pos i)
    simp only
    rw [hB, if_neg (nle (by omega) (by omega)), offBy_e (by omega), offBy_e (by omega), bd1, bd1, nI_1]
    by_cases q : off (w.1 77) (i + 1) ≤ off (w.1 77) (argm (off (w.1 77)) (i + 1))
    · have e : argm (off (w.1 77)) (i + 1 + 1) = argm (off (w.1 77)) (i + 1) := if_pos q
      rw [if_pos q, e]
    · have e : argm (off (w.1 77)) (i + 1 + 1) = i + 1 := if_neg q
      rw [if_neg q, e]
  · unfold f_X11_meters_L54
    simp only
    have e : n - 1 + 1 = n := by omega
    rw [hB, e, if_pos (nle' n)]
theorem op_meters {w : Wd} (h : Inv w) (v1 : Int32) : Op (f_X10_meters v1) (f_X11_meters v1) w := by
  obtain ⟨n, hh, b1, b2, c1, c2, c3, c4, c5, c6, c7, b4, b5, b6⟩ := h.n
  rcases win_01 v1 0 1 with q | q
  · refine op_no h (k := 0) (by decide) fc0 ?_ fun v => ?_
    · simp [f_X10_meters, q, bd_e]
    · simp [f_X11_meters, in_e, q, bd_e]
  by_cases z : v1 = 0
  · refine op_q (r := ws (fun i => gx (w.1 77) i 7) n - ws (fun i => gx (w.1 77) i 8) n) h ?_ ?_
    · unfold f_X10_meters
      rw [q, bd1, if_neg (by decide), if_pos z, used_e c1 b1, taken_e c1 b1, bd1, bd1, ws_c fun i hi0 => (b5 i hi0).2.2.2.1 7 (by decide) (by decide), ws_c fun i hi0 => (b5 i hi0).2.2.2.1 8 (by decide) (by decide)]
    · unfold f_X11_meters
      rw [in_e, q, bd1, if_neg (by decide), if_pos z, sumOf_e (v := 7) c2 b1 (k := 7) (by decide) rfl, sumOf_e (v := 8) c2 b1 (k := 8) (by decide) rfl, bd1, bd1]
  · rcases Nat.eq_zero_or_pos n with y | y
    · subst y
      refine op_no h (k := 3) (by decide) fc3 ?_ fun v => ?_
      · unfold f_X10_meters
        rw [q, bd1, if_neg (by decide), if_neg z, c1, if_pos (show nI 0 = (0 : Int32) from rfl)]
        exact bd_e
      · unfold f_X11_meters
        rw [in_e, q, bd1, if_neg (by decide), if_neg z, s16 (by decide), c2, if_pos (show nI 0 = (0 : Int32) from rfl)]
        exact bd_e
    · refine op_q (r := nI (argm (off (w.1 77)) n)) h ?_ ?_
      · unfold f_X10_meters
        rw [q, bd1, if_neg (by decide), if_neg z, c1, if_neg (nI_ne0 y (by omega)), farX b1 y b2 c1 fun i hi0 => ⟨(b5 i hi0).2.2.2.1 7 (by decide) (by decide), (b5 i hi0).2.2.2.1 8 (by decide) (by decide), (b5 i hi0).2.2.2.2⟩]
        rfl
      · unfold f_X11_meters
        rw [in_e, q, bd1, if_neg (by decide), if_neg z, c2, if_neg (nI_ne0 y (by omega)), farM b1 y c2]
        rfl
theorem cntL {w : Wd} {n : Nat} {a b r : Int32} (hn : n ≤ 12) (hB : w.1 77 4 = nI n) : lp (f_X11_fullest_L17 a b r w) FU (0, 0) = some (nI (cnt (w.1 77) r n), nI n) := by
  refine lp_for (step := f_X11_fullest_L17 a b r w) (fun i => (nI (cnt (w.1 77) r i), nI i)) n (nI (cnt (w.1 77) r n), nI n) (FU_lt (by omega)) (fun i hi0 => ?_) ?_
  · unfold f_X11_fullest_L17
    simp only
    rw [hB, if_neg (nle hi0 (by omega)), get_1 (by omega), bd1, nI_1 i]
    show _ = some (Sum.inl (nI (cnt (w.1 77) r i + (if gx (w.1 77) i 1 = r then 1 else 0)), nI (i + 1)))
    by_cases q : gx (w.1 77) i 1 = r
    · rw [if_pos q, if_pos q, nI_1]
    · rw [if_neg q, if_neg q, Int32.add_zero]
      rfl
  · unfold f_X11_fullest_L17
    simp only
    rw [hB, if_pos (nle' n)]
theorem fullM {w : Wd} {n : Nat} (hn : n ≤ 12) (hB : w.1 77 4 = nI n) : f_X11_fullest w = some (nI (argm (fun r => nI (cnt (w.1 77) (nI r) n)) 4)) := by
  unfold f_X11_fullest
  have hc : ∀ r, cnt (w.1 77) (nI r) n < 2 ^ 31 := fun r => by have := @cnt_le (w.1 77) (nI r) n; omega
  have L : lp (f_X11_fullest_L6 w) FU (0, 0, 0) = some (nI (argm (fun r => nI (cnt (w.1 77) (nI r) n)) 4), nI (cnt (w.1 77) (nI (argm (fun r => nI (cnt (w.1 77) (nI r) n)) 4)) n), nI 4) := by
    have := lp_for (step := f_X11_fullest_L6 w) (fun i => (nI (argm (fun r => nI (cnt (w.1 77) (nI r) n)) i), (if i = 0 then 0 else nI (cnt (w.1 77) (nI (argm (fun r => nI (cnt (w.1 77) (nI r) n)) i)) n)), nI i)) 4 (nI (argm (fun r => nI (cnt (w.1 77) (nI r) n)) 4), nI (cnt (w.1 77) (nI (argm (fun r => nI (cnt (w.1 77) (nI r) n)) 4)) n), nI 4) (FU_lt (by decide)) (fun i hi0 => ?_) ?_
    · exact this
    · unfold f_X11_fullest_L6
      simp only
      rw [if_neg (show ¬ (4 : Int32) ≤ nI i from nle hi0 (by decide)), cntL hn hB, bd1, if_neg (Nat.succ_ne_zero i)]
      unfold f_X11_fullest_J66
      simp only
      rw [nI_1]
      by_cases z : i = 0
      · subst z
        rw [if_pos rfl, argm_1]
        by_cases q : nI (cnt (w.1 77) (nI 0) n) ≤ 0
        · rw [if_pos q, if_pos q]
          have e0 : cnt (w.1 77) (nI 0) n = 0 := by
            rw [i_le, nI_toInt (hc 0)] at q
            have e : (0 : Int32).toInt = 0 := by decide
            omega
          rw [e0]
          rfl
        · rw [if_neg q, if_neg q]
      · rw [if_neg z]
        by_cases q : nI (cnt (w.1 77) (nI i) n) ≤ nI (cnt (w.1 77) (nI (argm (fun r => nI (cnt (w.1 77) (nI r) n)) i)) n)
        · have e : argm (fun r => nI (cnt (w.1 77) (nI r) n)) (i + 1) = argm (fun r => nI (cnt (w.1 77) (nI r) n)) i := if_pos q
          rw [if_pos q, if_pos q, e]
        · have e : argm (fun r => nI (cnt (w.1 77) (nI r) n)) (i + 1) = i := if_neg q
          rw [if_neg q, if_neg q, e]
    · unfold f_X11_fullest_L6
      simp only
      rw [if_pos (show (4 : Int32) ≤ nI 4 from nle' 4), if_neg (by decide)]
  rw [L]
  rfl
theorem fullX {w : Wd} {n : Nat} (h : ∀ r, r < 4 → w.1 19 r = nI (cnt (w.1 77) (nI r) n)) : f_X0_highestRiser w = some (nI (argm (fun r => nI (cnt (w.1 77) (nI r) n)) 4)) := by
  unfold f_X0_highestRiser
  have L : lp (f_X0_highestRiser_L4 w) FU (0, 1) = some (nI (argm (fun r => nI (cnt (w.1 77) (nI r) n)) 4), nI 4) := by
    have := lp_for (step := f_X0_highestRiser_L4 w) (fun i => (nI (argm (fun r => nI (cnt (w.1 77) (nI r) n)) (i + 1)), nI (i + 1))) 3 (nI (argm (fun r => nI (cnt (w.1 77) (nI r) n)) 4), nI 4) (FU_lt (by decide)) (fun i hi0 => ?_) ?_
    · have e : ((0 : Int32), (1 : Int32)) = (nI (argm (fun r => nI (cnt (w.1 77) (nI r) n)) (0 + 1)), nI (0 + 1)) := by
        rw [show (0 + 1 : Nat) = 1 from rfl, argm_1]
        rfl
      rw [e]
      exact this
    · unfold f_X0_highestRiser_L4
      have hl : argm (fun r => nI (cnt (w.1 77) (nI r) n)) (i + 1) < i + 1 := argm_lt (Nat.succ_pos i)
      simp only
      rw [if_neg (show ¬ (4 : Int32) ≤ nI (i + 1) from nle (n := 4) (by omega) (by decide)), gd_in (by omega) (by decide), gd_in (by omega) (by decide), cl_n (by omega), cl_n (by omega), h _ (by omega), h _ (by omega), nI_1]
      by_cases q : nI (cnt (w.1 77) (nI (i + 1)) n) ≤ nI (cnt (w.1 77) (nI (argm (fun r => nI (cnt (w.1 77) (nI r) n)) (i + 1))) n)
      · have e : argm (fun r => nI (cnt (w.1 77) (nI r) n)) (i + 1 + 1) = argm (fun r => nI (cnt (w.1 77) (nI r) n)) (i + 1) := if_pos q
        rw [if_pos q, e]
      · have e : argm (fun r => nI (cnt (w.1 77) (nI r) n)) (i + 1 + 1) = i + 1 := if_neg q
        rw [if_neg q, e]
    · unfold f_X0_highestRiser_L4
      simp only
      rw [if_pos (show (4 : Int32) ≤ nI (3 + 1) from nle' 4)]
  rw [L]
  rfl

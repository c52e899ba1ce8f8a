theorem op_q {fc fr : Wd → Option (Int32 × Wd)} {w : Wd} {r : Int32} (h : Inv w) (h1 : fc w = some (r, w)) (h2 : fr w = some (r, w)) : Op fc fr w := ⟨r, w, w, h1, h2, h⟩
theorem ws_c {f g : Nat → Int32} : ∀ {n : Nat}, (∀ i, i < n → f i = g i) → ws f n = ws g n
  | 0, _ => rfl
  | n + 1, h => by
    show ws f n + f n = ws g n + g n
    rw [ws_c fun i hi => h i (by omega), h n (by omega)]
theorem nle {i n : Nat} (h : i < n) (hn : n ≤ 300000) : ¬ nI n ≤ nI i := nI_ge h (by omega)
theorem nle' (n : Nat) : nI n ≤ nI n := (i_le _ _).mpr (Int.le_refl _)
/-- a loop that adds up -/
theorem lp_add {step : Int32 × Int32 → Option ((Int32 × Int32) ⊕ (Int32 × Int32))} {n : Nat} {f : Nat → Int32} (hn : n ≤ 300000) (h1 : ∀ i s, i < n → step (s, nI i) = some (.inl (s + f i, nI i + 1))) (h2 : ∀ s, step (s, nI n) = some (.inr (s, nI n))) (s0 : Int32) : lp step FU (s0, 0) = some (s0 + ws f n, nI n) := by
  have := lp_for (step := step) (fun i => (s0 + ws f i, nI i)) n (s0 + ws f n, nI n) (FU_lt hn) (fun i hi => by
    show step (s0 + ws f i, nI i) = some (.inl (s0 + (ws f i + f i), nI (i + 1)))
    rw [h1 i _ hi, nI_1, Int32.add_assoc]) (h2 _)
  have e : s0 + ws f 0 = s0 := Int32.add_zero s0
  rw [← this]
  show _ = lp step FU (s0 + ws f 0, nI 0)
  rw [e]
  rfl
theorem z0 (x : Int32) : 0 + x = x := Int32.zero_add x
theorem used_e {w : Wd} {n : Nat} (hB : w.1 3 1 = nI n) (hn : n ≤ 12) : f_X0_usedOfAll w = some (ws (fun i => w.1 (35 + i) 8) n) := by
  unfold f_X0_usedOfAll
  rw [lp_add (n := n) (f := fun i => w.1 (35 + i) 8) (by omega) (fun i s hi => ?_) (fun s => ?_) 0, z0]
  · rfl
  · show f_X0_usedOfAll_L4 w (s, nI i) = _
    unfold f_X0_usedOfAll_L4
    simp only [hB]
    rw [if_neg (nle hi (by omega)), gd_in (by omega) (by decide), cl_n (by omega)]
  · unfold f_X0_usedOfAll_L4
    simp only [hB]
    rw [if_pos (nle' n)]
theorem taken_e {w : Wd} {n : Nat} (hB : w.1 3 1 = nI n) (hn : n ≤ 12) : f_X0_takenOfAll w = some (ws (fun i => w.1 (35 + i) 9) n) := by
  unfold f_X0_takenOfAll
  rw [lp_add (n := n) (f := fun i => w.1 (35 + i) 9) (by omega) (fun i s hi => ?_) (fun s => ?_) 0, z0]
  · rfl
  · show f_X0_takenOfAll_L4 w (s, nI i) = _
    unfold f_X0_takenOfAll_L4
    simp only [hB]
    rw [if_neg (nle hi (by omega)), gd_in (by omega) (by decide), cl_n (by omega)]
  · unfold f_X0_takenOfAll_L4
    simp only [hB]
    rw [if_pos (nle' n)]
theorem held_e {w : Wd} {n : Nat} (hB : w.1 3 1 = nI n) (hn : n ≤ 12) (h01 : ∀ i, i < n → w.1 (35 + i) 5 = 0 ∨ w.1 (35 + i) 5 = 1) : f_X0_heldOfAll w = some (ws (fun i => w.1 (35 + i) 5) n) := by
  unfold f_X0_heldOfAll
  rw [lp_add (n := n) (f := fun i => w.1 (35 + i) 5) (by omega) (fun i s hi => ?_) (fun s => ?_) 0, z0]
  · rfl
  · show f_X0_heldOfAll_L4 w (s, nI i) = _
    unfold f_X0_heldOfAll_L4
    simp only [hB]
    rw [if_neg (nle hi (by omega)), gd_in (by omega) (by decide), cl_n (by omega)]
    unfold f_X10_bit
    rcases h01 i hi with q | q <;> rw [q] <;> rfl
  · unfold f_X0_heldOfAll_L4
    simp only [hB]
    rw [if_pos (nle' n)]
theorem sumOf_e {w : Wd} {n k : Nat} {v : Int32} (hB : w.1 77 4 = nI n) (hn : n ≤ 12) (hk : k < 11) (e : v = nI k) : f_X11_sumOf v w = some (ws (fun i => gx (w.1 77) i k) n) := by
  unfold f_X11_sumOf
  rw [lp_add (n := n) (f := fun i => gx (w.1 77) i k) (by omega) (fun i s hi => ?_) (fun s => ?_) 0, z0]
  · rfl
  · show f_X11_sumOf_L4 v w (s, nI i) = _
    unfold f_X11_sumOf_L4
    simp only [hB]
    rw [if_neg (nle hi (by omega)), get_e (by omega) hk e]
    rfl
  · unfold f_X11_sumOf_L4
    simp only [hB]
    rw [if_pos (nle' n)]
/-- the tie's sizes and cells, as they are used -/
theorem Inv.n {w : Wd} (h : Inv w) : ∃ n hh, n ≤ 12 ∧ hh ≤ 2000 ∧ w.1 3 1 = nI n ∧ w.1 77 4 = nI n ∧ w.1 3 3 = nI hh ∧ w.1 77 0 = nI hh ∧ w.1 3 4 = w.1 77 1 ∧ w.1 3 5 = w.1 77 2 ∧ w.1 3 6 = w.1 77 3 ∧ (rng (w.1 77 1) (-300) 400 ∧ rng (w.1 77 2) 0 999 ∧ rng (w.1 77 3) 0 900) ∧ (∀ i, i < n → w.1 (35 + i) 0 = gx (w.1 77) i 0 ∧ w.1 (35 + i) 1 = gx (w.1 77) i 1 ∧ w.1 (35 + i) 2 = nI (pl (w.1 77) i) ∧ (∀ k, 2 ≤ k → k ≤ 10 → w.1 (35 + i) (k + 1) = gx (w.1 77) i k) ∧ FlatOk (w.1 77) hh i) ∧ ∀ r, r < 4 → w.1 19 r = nI (cnt (w.1 77) (nI r) n) := by
  obtain ⟨n, hh, c, ⟨b1, b2, ⟨c1, c2, c3, c4, c5, c6, c7⟩, b4, b5, b6⟩, hC, hR⟩ := h.b
  exact ⟨n, hh, b1, b2, c1, c2, c3, c4, c5, c6, c7, b4, fun i hi => ⟨(b5 i hi).1.1, (b5 i hi).1.2.1, (b5 i hi).1.2.2.1, (b5 i hi).1.2.2.2, (b5 i hi).2⟩, b6⟩
theorem bd1 {α β : Type} {x : α} {f : α → Option β} : (some x).bind f = f x := rfl
theorem ws_us {w : Wd} {n k : Nat} {f : Nat → Int32} (h : ∀ i, i < n → f i = gx (w.1 77) i k) : ws f n = ws (fun i => gx (w.1 77) i k) n := ws_c h
def bts (P : Nat → Bool) : Nat → Int32
  | 0 => 0
  | m + 1 => if P m = true then bts P m ||| (1 <<< (nI m &&& 31)) else bts P m
theorem bts_s {P : Nat → Bool} {m : Nat} : bts P (m + 1) = if P m = true then bts P m ||| (1 <<< (nI m &&& 31)) else bts P m := rfl
theorem op_riser {w : Wd} (h : Inv w) (v1 : Int32) : Op (f_X10_riser v1) (f_X11_riser v1) w := by
  obtain ⟨n, hh, b1, b2, c1, c2, c3, c4, c5, c6, c7, b4, b5, b6⟩ := h.n
  rcases win_01 v1 0 3 with q | q
  · refine op_no h (k := 0) (by decide) fc0 ?_ fun v => ?_
    · unfold f_X10_riser
      rw [q]
      simp [bd_e]
    · unfold f_X11_riser
      rw [in_e, q]
      simp [bd_e]
  · refine op_q (r := bts (fun i => decide (gx (w.1 77) i 1 = v1)) n) h ?_ ?_
    · unfold f_X10_riser
      rw [q, bd1, if_neg (by decide)]
      rw [show ((0 : Int32), (0 : Int32)) = (fun i => (bts (fun i => decide (gx (w.1 77) i 1 = v1)) i, nI i)) 0 from rfl, lp_for (fun i => (bts (fun i => decide (gx (w.1 77) i 1 = v1)) i, nI i)) n (bts (fun i => decide (gx (w.1 77) i 1 = v1)) n, nI n) (FU_lt (by omega)) (fun i hi => ?_) ?_]
      · rfl
      · unfold f_X10_riser_L20
        simp only [c1]
        rw [if_pos (nle' n)]
      · unfold f_X10_riser_L20
        simp only [c1]
        rw [if_neg (nle hi (by omega)), gd_in (by omega) (by decide), cl_n (by omega), (b5 i hi).2.1, nI_1]
        rw [bts_s]
        by_cases z : gx (w.1 77) i 1 = v1
        · rw [if_pos z, if_pos (decide_eq_true z)]
        · rw [if_neg z, if_neg (by simpa using z)]
    · unfold f_X11_riser
      rw [in_e, q, bd1, if_neg (by decide)]
      rw [show ((0 : Int32), (0 : Int32)) = (fun i => (bts (fun i => decide (gx (w.1 77) i 1 = v1)) i, nI i)) 0 from rfl, lp_for (fun i => (bts (fun i => decide (gx (w.1 77) i 1 = v1)) i, nI i)) n (bts (fun i => decide (gx (w.1 77) i 1 = v1)) n, nI n) (FU_lt (by omega)) (fun i hi => ?_) ?_]
      · rfl
      · unfold f_X11_riser_L20
        simp only [c2]
        rw [if_pos (nle' n)]
      · unfold f_X11_riser_L20
        simp only [c2]
        rw [if_neg (nle hi (by omega)), get_1 (by omega), bd1, nI_1]
        rw [bts_s]
        by_cases z : gx (w.1 77) i 1 = v1
        · rw [if_pos z, if_pos (decide_eq_true z)]
        · rw [if_neg z, if_neg (by simpa using z), Int32.or_zero]
theorem op_status {w : Wd} (h : Inv w) (v1 : Int32) : Op (f_X10_status v1) (f_X11_status v1) w := by
  have hF := h.1
  rcases win_01 v1 (-1) 6 with q | q
  · refine op_no h (k := 0) (by decide) fc0 ?_ fun v => ?_
    · unfold f_X10_status
      rw [q]
      simp [bd_e]
    · unfold f_X11_status
      rw [in_e, q]
      simp [bd_e]
  · have q1 := win_yes q
    have e1 : (-1 : Int32).toInt = -1 := by decide
    have e6 : (6 : Int32).toInt = 6 := by decide
    have e0 : (0 : Int32).toInt = 0 := by decide
    rw [e1, e6] at q1
    by_cases z : v1 < 0
    · refine op_q (r := ws (w.1 79) 7) h ?_ ?_
      · unfold f_X10_status
        rw [q, bd1, if_neg (by decide), if_pos z]
        rw [lp_add (n := 7) (f := w.1 16) (by decide) (fun i s hi => ?_) (fun s => ?_) 0, z0]
        · rw [ws_c hF.1]; rfl
        · unfold f_X10_status_L32
          rw [if_neg (show ¬ (7 : Int32) ≤ nI i from nle hi (by decide)), gd_in hi (by decide), cl_n (by omega)]
        · unfold f_X10_status_L32
          rw [if_pos (show (7 : Int32) ≤ nI 7 from nle' 7)]
      · unfold f_X11_status
        rw [in_e, q, bd1, if_neg (by decide), if_neg (by rw [i_le]; rw [i_lt] at z; omega), hF.2]
    · rw [i_lt, e0] at z
      obtain ⟨j, hj, rfl⟩ := nI_rng (v := v1) (a := 6) (by decide) (by omega) (by omega)
      refine op_q (r := w.1 79 j) h ?_ ?_
      · unfold f_X10_status
        rw [q, bd1, if_neg (by decide), if_neg (by rw [i_lt, e0]; exact z), gd_in (by omega) (by decide), cl_n (by omega), hF.1 j (by omega)]
      · unfold f_X11_status
        rw [in_e, q, bd1, if_neg (by decide), if_pos (by rw [i_le, e0]; omega), gd_in (by omega) (by decide), cl_n (by omega)]
theorem ab_e (v : Int32) : f_X10_areBounds v = f_X10_within v 0 999999 := by
  unfold f_X10_areBounds
  rcases win_01 v 0 999999 with q | q <;> rw [q] <;> rfl
theorem ab_m (v : Int32) : f_X11_areBounds v = f_X10_within v 0 999999 := ab_e v
theorem sh_e (v : Int32) : f_X10_isSheet v = f_X10_within v 0 3 := by
  unfold f_X10_isSheet
  rcases win_01 v 0 3 with q | q <;> rw [q] <;> rfl
theorem sh_m (v : Int32) : f_X11_isSheet v = f_X10_within v 0 3 := sh_e v
theorem op_felt {w : Wd} (h : Inv w) (v1 v2 : Int32) : Op (f_X10_felt v1 v2) (f_X11_felt v1 v2) w := by
  obtain ⟨n, hh, b1, b2, c1, c2, c3, c4, c5, c6, c7, b4, b5, b6⟩ := h.n
  rcases fl_cases n v1 with ⟨i, hi, rfl⟩ | hno
  · rcases win_01 v2 0 999999 with q | q
    · refine op_no h (k := 0) (by decide) fc0 ?_ fun v => ?_
      · unfold f_X10_felt
        rw [has_y c1 b1 hi, ab_e, q]
        simp [bd_e]
      · unfold f_X11_felt
        rw [isF_y (by rw [s16 (by decide)]; exact c2) b1 hi, ab_m, q]
        simp [bd_e]
    · have e : w.1 (35 + i) 7 = gx (w.1 77) i 6 := (b5 i hi).2.2.2.1 6 (by decide) (by decide)
      refine op_q (r := if v2 / 1000 ≤ gx (w.1 77) i 6 then (if gx (w.1 77) i 6 ≤ v2 - v2 / 1000 * 1000 then 0 else 2) else 1) h ?_ ?_
      · unfold f_X10_felt
        rw [has_y c1 b1 hi, ab_e, q, bd1, if_neg (by decide), bd1, if_neg (by decide), gd_in (by omega) (by decide), cl_n (by omega), e]
        unfold f_X10_feeling
        by_cases z : v2 / 1000 ≤ gx (w.1 77) i 6
        · by_cases y : gx (w.1 77) i 6 ≤ v2 - v2 / 1000 * 1000
          · simp [z, y]
          · simp [z, y]
        · simp [z]
      · unfold f_X11_felt
        rw [isF_y c2 b1 hi, ab_m, q, bd1, if_neg (by decide), bd1, if_neg (by decide), get_6 (by omega), bd1]
        by_cases z : v2 / 1000 ≤ gx (w.1 77) i 6
        · by_cases y : gx (w.1 77) i 6 ≤ v2 - v2 / 1000 * 1000
          · simp [z, y]
          · simp [z, y]
        · simp [z]
  · refine op_no h (k := 0) (by decide) fc0 ?_ fun v => ?_
    · unfold f_X10_felt
      rw [has_n c1 b1 hno]
      simp [bd_e]
    · unfold f_X11_felt
      rw [isF_n (by rw [s16 (by decide)]; exact c2) b1 hno]
      simp [bd_e]

/-! weights, flows, neighbours -/
theorem cnt_s {g : Nat → Int32} {r : Int32} {m : Nat} : cnt g r (m + 1) = cnt g r m + (if gx g m 1 = r then 1 else 0) := rfl
theorem cnt_i {g : Nat → Int32} {i : Nat} : cnt g (gx g i 1) (i + 1) = pl g i + 1 := by
  rw [cnt_s, if_pos rfl]
  rfl
theorem rs_e {g : Nat → Int32} {h i : Nat} (H : FlatOk g h i) : rs g i < 4 ∧ gx g i 1 = nI (rs g i) := by
  obtain ⟨-, p1, -⟩ := H
  have e3 : (3 : Int32).toInt = 3 := by decide
  obtain ⟨j, hj, e⟩ := nI_rng (v := gx g i 1) (a := 3) (by decide) p1.1 p1.2
  unfold rs
  rw [e, cl_n (by omega)]
  exact ⟨by omega, rfl⟩
theorem wtX {w : Wd} {g : Nat → Int32} {n h i : Nat} {o : Int32} (hn : n ≤ 12) (hi0 : i < n) (f0 : w.1 (35 + i) 0 = gx g i 0) (f1 : w.1 (35 + i) 1 = gx g i 1) (f2 : w.1 (35 + i) 2 = nI (pl g i)) (H : FlatOk g h i) (h19 : ∀ r, r < 4 → w.1 19 r = nI (cnt g (nI r) n)) : f_X0_weight (nI i) o w = some (wt g n i o) := by
  unfold f_X0_weight
  obtain ⟨r1, r2⟩ := rs_e H
  rw [gd_in (by omega) (by decide), cl_n (by omega), f1, r2, gd_in r1 (by decide), cl_n (by omega), h19 _ r1, f2]
  have ht : f_X4_takes (35 + i) o w = some (tk (gx g i 0) o) := by
    unfold f_X4_takes tk
    rw [f0]
    by_cases q : gx g i 0 = 3
    · rw [if_pos q, if_pos q]
    · rw [if_neg q, if_neg q]
      by_cases q2 : gx g i 0 = 5
      · rw [if_pos q2, if_pos q2]
      · rw [if_neg q2, if_neg q2]
  rw [ht, bd1]
  have hm : cnt g (gx g i 1) (i + 1) ≤ cnt g (gx g i 1) n := cnt_mono (by omega)
  have e : nI (cnt g (nI (rs g i)) n) - 1 - nI (pl g i) = nI (hi g n i) := by
    unfold hi
    rw [← r2]
    rw [cnt_i] at hm ⊢
    rw [nI_m1 (by omega), nI_sub (by omega)]
    congr 1
    omega
  rw [e]
  rfl
theorem flowOf_e (p x a : Int32) : f_X0_flowOf p x a = some (flo p x a) := by
  unfold f_X0_flowOf flo
  by_cases q : a = 0
  · rw [if_pos q, if_pos q]
  · rw [if_neg q, if_neg q, gd_nz q]
theorem flowX {w : Wd} {g : Nat → Int32} {n h i : Nat} (hn : n ≤ 12) (hi0 : i < n) (c1 : w.1 3 1 = nI n) (c6 : w.1 3 5 = g 2) (b5 : ∀ i, i < n → w.1 (35 + i) 0 = gx g i 0 ∧ w.1 (35 + i) 1 = gx g i 1 ∧ w.1 (35 + i) 2 = nI (pl g i) ∧ (∀ k, 2 ≤ k → k ≤ 10 → w.1 (35 + i) (k + 1) = gx g i k) ∧ FlatOk g h i) (b6 : ∀ r, r < 4 → w.1 19 r = nI (cnt g (nI r) n)) : f_X0_flow (nI i) w = some (flw g n (fun j => gx g j 3) i) := by
  have hw : ∀ j, j < n → f_X0_weight (nI j) (w.1 (35 + j) 4) w = some (wt g n j (gx g j 3)) := fun j hj => by
    obtain ⟨q0, q1, q2, q3, q4⟩ := b5 j hj
    rw [wtX hn hj q0 q1 q2 q4 b6, q3 3 (by decide) (by decide)]
  unfold f_X0_flow
  rw [lp_add (n := n) (f := fun j => wt g n j (gx g j 3)) (by omega) (fun j s hj => ?_) (fun s => ?_) 0, z0, bd1, gd_in (by omega) (by decide), cl_n (by omega), hw i hi0, bd1, flowOf_e, c6, bd1]
  · rfl
  · unfold f_X0_flow_L4
    simp only
    rw [c1, if_neg (nle hj (by omega)), gd_in (by omega) (by decide), cl_n (by omega), hw j hj]
    rfl
  · unfold f_X0_flow_L4
    simp only
    rw [c1, if_pos (nle' n)]
theorem takesM {w : Wd} {i : Nat} {o : Int32} (hi0 : i < 12) : f_X11_takesBy (nI i) o w = some (tk (gx (w.1 77) i 0) o) := by
  have key : (if 2 ≤ o then (2 : Int32) else o) = if 2 < o then 2 else o := by
    by_cases q : 2 < o
    · rw [if_pos q, if_pos (by rw [i_le]; rw [i_lt] at q; omega)]
    · rw [if_neg q]
      by_cases q2 : 2 ≤ o
      · rw [if_pos q2, i_eq]
        rw [i_le] at q2
        rw [i_lt] at q
        omega
      · rw [if_neg q2]
  unfold f_X11_takesBy tk
  rw [get_0 hi0, bd1]
  by_cases q : gx (w.1 77) i 0 = 3
  · rw [if_pos q, if_pos q, ← key, q]
    unfold f_X11_takesBy_J19 f_X11_takesBy_J29
    by_cases q2 : 2 ≤ o
    · simp [q2]
    · simp [q2]
  · rw [if_neg q, if_neg q]
    by_cases q3 : gx (w.1 77) i 0 = 5
    · rw [if_pos q3, if_pos q3, ← key, q3]
      unfold f_X11_takesBy_J19 f_X11_takesBy_J29
      by_cases q2 : 2 ≤ o
      · simp [q2]
      · simp [q2]
    · rw [if_neg q3, if_neg q3]
theorem leaksX {w : Wd} {t : Nat} {wall kind win : Int32} (h0 : w.1 t 0 = kind) (h6 : w.1 t 6 = win) (hw : win = 0 ∨ win = 1) : f_X4_leaks t wall w = some (lk kind wall win) := by
  unfold f_X4_leaks f_X4_leaksShut lk
  rw [h0, h6]
  have e : ∀ x : Int32, (some x : Option Int32).bind (fun o1 => if win = 0 then some (o1 + 0) else some (o1 + 100)) = some (x + 100 * win) := fun x => by
    rcases hw with rfl | rfl
    · rfl
    · rfl
  by_cases q1 : kind = 1
  · rw [if_pos q1, if_pos q1]; exact e _
  · rw [if_neg q1, if_neg q1]
    by_cases q2 : kind = 2
    · rw [if_pos q2, if_pos q2]; exact e _
    · rw [if_neg q2, if_neg q2]
      by_cases q3 : kind = 3
      · rw [if_pos q3, if_neg (by rw [q3]; decide)]; exact e _
      · rw [if_neg q3]
        by_cases q4 : kind = 4
        · rw [if_pos q4, if_pos q4]; exact e _
        · rw [if_neg q4, if_neg q4]; exact e _
theorem leaksM {w : Wd} {i : Nat} {wall : Int32} (hi0 : i < 12) : f_X11_leaksBy (nI i) wall w = some (lk (gx (w.1 77) i 0) wall (gx (w.1 77) i 5)) := by
  unfold f_X11_leaksBy lk f_X11_leaksBy_J72
  rw [get_0 hi0, get_5 hi0, bd1]
  simp only [bd1]
  by_cases q1 : gx (w.1 77) i 0 = 1
  · rw [if_pos q1, if_pos q1]
  · rw [if_neg q1, if_neg q1]
    by_cases q2 : gx (w.1 77) i 0 = 2
    · rw [if_pos q2, if_pos q2]
    · rw [if_neg q2, if_neg q2]
      by_cases q3 : gx (w.1 77) i 0 = 3
      · rw [if_pos q3, if_neg (by rw [q3]; decide)]
      · rw [if_neg q3]
        by_cases q4 : gx (w.1 77) i 0 = 4
        · rw [if_pos q4, if_pos q4]
        · rw [if_neg q4, if_neg q4]
theorem placeM {w : Wd} {i : Nat} (hi0 : i < 12) : f_X11_placeOf (nI i) w = some (nI (pl (w.1 77) i)) := by
  unfold f_X11_placeOf
  have L : lp (f_X11_placeOf_L4 (nI i) w) FU (0, 0) = some (nI (pl (w.1 77) i), nI i) := by
    refine lp_for (step := f_X11_placeOf_L4 (nI i) w) (fun j => (nI (cnt (w.1 77) (gx (w.1 77) i 1) j), nI j)) i _ (FU_lt (by omega)) (fun j hj => ?_) ?_
    · unfold f_X11_placeOf_L4
      simp only
      rw [if_neg (nle hj (by omega)), get_1 (by omega), get_1 (by omega), bd1, bd1, nI_1 j, cnt_s]
      by_cases q : gx (w.1 77) j 1 = gx (w.1 77) i 1
      · rw [if_pos q, if_pos q, nI_1]
      · rw [if_neg q, if_neg q, Int32.add_zero]
        rfl
    · unfold f_X11_placeOf_L4
      simp only
      rw [if_pos (nle' i)]
      rfl
  rw [L]
  rfl

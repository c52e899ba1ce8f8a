abbrev mIds : List Nat := [3, 19, 5, 21, 8, 24, 25, 26, 27, 77, 35, 36, 37, 38, 39, 40, 41, 42, 43, 44, 45, 46]
abbrev kIds : List Nat := [4, 20, 6, 22, 9, 28, 29, 30, 31, 78, 47, 48, 49, 50, 51, 52, 53, 54, 55, 56, 57, 58]
def AgL (L : List Nat) (w w' : Wd) : Prop := ∀ y, y ∈ L → w'.1 y = w.1 y
theorem AgL.rf {L : List Nat} {w : Wd} : AgL L w w := fun _ _ => rfl
theorem AgL.si {L : List Nat} {w w' : Wd} {a k : Nat} {v : Int32} (h : AgL L w w') (ha : ∀ y, y ∈ L → y ≠ a) : AgL L w (si w' a k v) := fun y hy => by rw [si_n (ha y hy)]; exact h y hy
theorem AgL.sj {L : List Nat} {w w' : Wd} {a k : Nat} {v : Int64} (h : AgL L w w') : AgL L w (sj w' a k v) := fun y hy => h y hy
theorem AgL.tr {L : List Nat} {w w' w'' : Wd} (h : AgL L w w') (h2 : AgL L w' w'') : AgL L w w'' := fun y hy => (h2 y hy).trans (h y hy)
theorem mI {i : Nat} (h : i < 12) : 35 + i ∈ mIds := (by decide : ∀ i, i < 12 → 35 + i ∈ mIds) i h
theorem kI {i : Nat} (h : i < 12) : 47 + i ∈ kIds := (by decide : ∀ i, i < 12 → 47 + i ∈ kIds) i h
theorem SRm_l {w w' : Wd} (h : SRm w) (e : AgL mIds w w') : SRm w' := by
  unfold SRm at h ⊢
  rw [e 3 (by decide), e 19 (by decide), e 5 (by decide), e 21 (by decide), e 8 (by decide), e 24 (by decide), e 25 (by decide), e 26 (by decide), e 27 (by decide), e 77 (by decide)]
  exact SR_F h fun i hi => e _ (mI hi)
theorem SRk_l {w w' : Wd} (h : SRk w) (e : AgL kIds w w') : SRk w' := by
  unfold SRk at h ⊢
  rw [e 4 (by decide), e 20 (by decide), e 6 (by decide), e 22 (by decide), e 9 (by decide), e 28 (by decide), e 29 (by decide), e 30 (by decide), e 31 (by decide), e 78 (by decide)]
  exact SR_F h fun i hi => e _ (kI hi)
theorem IF_l {w w' : Wd} (h : IF w) (e : AgL [16, 79] w w') (e4 : w'.1 76 4 = w.1 76 4) : IF w' := IF_a h (e 16 (by decide)) (e 79 (by decide)) e4
theorem IT_l {w w' : Wd} (h : IT w) (e : AgL [7, 23, 92] w w') (e4 : w'.1 76 18 = w.1 76 18) : IT w' := IT_a h (e 7 (by decide)) (e 23 (by decide)) (e 92 (by decide)) e4
theorem IS_l {w w' : Wd} (h : IS w) (e : AgL [74, 75, 100, 101] w w') (e4 : w'.2 = w.2) : IS w' := IS_a h (e 74 (by decide)) (e 75 (by decide)) (e 100 (by decide)) (e 101 (by decide)) e4
theorem IK_l {w w' : Wd} (h : IK w) (e0 : w'.1 0 2 = w.1 0 2) (e2 : w'.1 76 2 = w.1 76 2) (e : AgL kIds w w') : IK w' := by
  unfold IK at h ⊢
  rw [e0, e2]
  rcases h with h | ⟨a, b, h⟩
  · exact Or.inl h
  · exact Or.inr ⟨a, b, SRk_l h e⟩
theorem FC_0 {w : Wd} (h : w.1 76 30 = 0) : FC w := Or.inl h
/-- the surroundings: outside, pump, boiler -/
theorem Inv_env {w : Wd} {j : Nat} {x : Int32} (h : Inv w) (hj1 : 1 ≤ j) (hj : j ≤ 3) (hx : (j = 1 ∧ rng x (-300) 400) ∨ (j = 2 ∧ rng x 0 999) ∨ (j = 3 ∧ rng x 0 900)) : Inv (si (si (si w 3 (3 + j) x) 77 j x) 76 30 0) := by
  have hZ := h.z
  obtain ⟨a, b, c, d, e, f⟩ := h
  obtain ⟨n, hh, cc, ⟨b1, b2, ⟨q1, q2, q3, q4, q5, q6, q7⟩, ⟨r1, r2, r3⟩, b5, b6⟩, hC, hR, -⟩ := d
  have h77 : (si (si (si w 3 (3 + j) x) 77 j x) 76 30 0).1 77 = fun y => if y = j then x else w.1 77 y := by rw [si_n (by decide), si_77, si_n (by decide)]
  have h3 : ∀ y, (si (si (si w 3 (3 + j) x) 77 j x) 76 30 0).1 3 y = if y = 3 + j then x else w.1 3 y := fun y => by rw [si_n (by decide), si_n (by decide), si_g]; simp
  have hg : ∀ i m, gx (fun y => if y = j then x else w.1 77 y) i m = gx (w.1 77) i m := fun i m => if_neg (by omega)
  have hhi : ∀ y, 4 ≤ y ∨ y = 0 → (fun y => if y = j then x else w.1 77 y) y = w.1 77 y := fun y q => if_neg (by omega)
  have hm : SRm (si (si (si w 3 (3 + j) x) 77 j x) 76 30 0) := by
    unfold SRm
    have ag : ∀ y, y ≠ 3 → y ≠ 77 → y ≠ 76 → (si (si (si w 3 (3 + j) x) 77 j x) 76 30 0).1 y = w.1 y := fun y p q r => by rw [si_n r, si_n q, si_n p]
    rw [h77, ag 19 (by decide) (by decide) (by decide), ag 5 (by decide) (by decide) (by decide), ag 21 (by decide) (by decide) (by decide), ag 8 (by decide) (by decide) (by decide), ag 24 (by decide) (by decide) (by decide), ag 25 (by decide) (by decide) (by decide), ag 26 (by decide) (by decide) (by decide), ag 27 (by decide) (by decide) (by decide)]
    refine SR_mk (n := n) (h := hh) (c := cc) ⟨b1, b2, ⟨?_, ?_, ?_, ?_, ?_, ?_, ?_⟩, ?_, fun i hi => ?_, fun r hr => ?_⟩ (CC_c hC b1 (Nat.le_refl n) (hhi 5 (by decide)) (fun k m _ _ => hhi _ (by omega)) fun i _ => hg i 1) (RI_c hR (hhi 6 (by decide)) fun k _ => hhi _ (by omega)) (fun j h1 h2 => ag _ (by omega) (by omega) (by omega)) hZ
    · rw [h3, if_neg (by omega)]; exact q1
    · rw [hhi 4 (by decide)]; exact q2
    · rw [h3, if_neg (by omega)]; exact q3
    · rw [hhi 0 (by decide)]; exact q4
    · rw [h3]
      show _ = if 1 = j then x else w.1 77 1
      by_cases z : j = 1
      · rw [if_pos (by omega), if_pos z.symm]
      · rw [if_neg (by omega), if_neg (by omega)]; exact q5
    · rw [h3]
      show _ = if 2 = j then x else w.1 77 2
      by_cases z : j = 2
      · rw [if_pos (by omega), if_pos z.symm]
      · rw [if_neg (by omega), if_neg (by omega)]; exact q6
    · rw [h3]
      show _ = if 3 = j then x else w.1 77 3
      by_cases z : j = 3
      · rw [if_pos (by omega), if_pos z.symm]
      · rw [if_neg (by omega), if_neg (by omega)]; exact q7
    · refine ⟨?_, ?_, ?_⟩
      · show rng (if 1 = j then x else w.1 77 1) _ _
        by_cases z : 1 = j
        · rw [if_pos z]; rcases hx with ⟨_, hx⟩ | ⟨y, hx⟩ | ⟨y, hx⟩ <;> first | exact hx | omega
        · rw [if_neg z]; exact r1
      · show rng (if 2 = j then x else w.1 77 2) _ _
        by_cases z : 2 = j
        · rw [if_pos z]; rcases hx with ⟨y, hx⟩ | ⟨y, hx⟩ | ⟨y, hx⟩ <;> first | omega | exact hx
        · rw [if_neg z]; exact r2
      · show rng (if 3 = j then x else w.1 77 3) _ _
        by_cases z : 3 = j
        · rw [if_pos z]; rcases hx with ⟨y, hx⟩ | ⟨y, hx⟩ | ⟨y, hx⟩ <;> first | omega | exact hx
        · rw [if_neg z]; exact r3
    · obtain ⟨⟨p0, p1, p2, p3⟩, p4⟩ := b5 i hi
      have eF : (si (si (si w 3 (3 + j) x) 77 j x) 76 30 0).1 (35 + i) = w.1 (35 + i) := ag _ (by omega) (by omega) (by omega)
      refine ⟨⟨?_, ?_, ?_, fun m m1 m2 => ?_⟩, ?_⟩
      · show (si _ _ _ _).1 (35 + i) 0 = _
        rw [eF, hg]; exact p0
      · show (si _ _ _ _).1 (35 + i) 1 = _
        rw [eF, hg]; exact p1
      · show (si _ _ _ _).1 (35 + i) 2 = _
        rw [eF, pl_c (n := 12) (fun j _ => hg j 1) (by omega)]; exact p2
      · show (si _ _ _ _).1 (35 + i) (m + 1) = _
        rw [eF, hg]; exact p3 m m1 m2
      · unfold FlatOk at p4 ⊢
        simp only [hg]
        exact p4
    · rw [cnt_c fun i _ => hg i 1]
      exact b6 r hr
  refine ⟨IF_l a (((AgL.rf.si (by decide)).si (by decide)).si (by decide)) ?_, IT_l b (((AgL.rf.si (by decide)).si (by decide)).si (by decide)) ?_, IS_l c (((AgL.rf.si (by decide)).si (by decide)).si (by decide)) rfl, hm, IK_l e ?_ ?_ (((AgL.rf.si (by decide)).si (by decide)).si (by decide)), FC_0 si_s⟩
  · rw [si_o (by decide), si_n (by decide), si_n (by decide)]
  · rw [si_o (by decide), si_n (by decide), si_n (by decide)]
  · rw [si_n (by decide), si_n (by decide), si_n (by decide)]
  · rw [si_o (by decide), si_n (by decide), si_n (by decide)]
theorem op_set {w : Wd} (h : Inv w) (v1 v2 : Int32) : Op (f_X10_set v1 v2) (f_X11_set v1 v2) w := by
  obtain ⟨n, hh, b1, b2, c1, c2, c3, c4, c5, c6, c7, b4, b5, b6⟩ := h.n
  have E1 : f_X10_within v1 0 2 = some 1 → v1 = 0 ∨ v1 = 1 ∨ v1 = 2 := fun q => by
    obtain ⟨j, hj, e⟩ := nI_rng (v := v1) (a := 2) (by decide) (win_yes q).1 (win_yes q).2
    have : j = 0 ∨ j = 1 ∨ j = 2 := by omega
    rcases this with rfl | rfl | rfl
    · exact Or.inl e
    · exact Or.inr (Or.inl e)
    · exact Or.inr (Or.inr e)
  by_cases z0 : v1 = 0
  · subst z0
    rcases win_01 v2 (-300) 400 with q | q
    · refine op_no h (k := 0) (by decide) fc0 ?_ fun v => ?_
      · simp [f_X10_set, q, f_X10_set_J35, f_X10_set_J69, bd_e]
      · simp [f_X11_set, in_e, f_X11_set_J21, f_X11_set_J45, q, bd_e, win_of (v := 0) (a := 0) (b := 2) (by decide) (by decide)]
    · refine ⟨w.1 77 1, si w 3 4 v2, _, ?_, ?_, Inv_env h (j := 1) (by decide) (by decide) (Or.inl ⟨rfl, win_yes q⟩)⟩
      · simp [f_X10_set, q, lw_e, c5]
      · have hi : ∀ y : Option (Int32 × Wd), gd (inB (1 + 0) 291) y = y := fun y => gd_t (by decide)
        simp [f_X11_set, in_e, f_X11_set_J21, f_X11_set_J45, q, lw_e, win_of (v := 0) (a := 0) (b := 2) (by decide) (by decide)]
        rw [gd_t (by decide), gd_t (by decide), si_n (by decide)]
  · by_cases z1 : v1 = 1
    · subst z1
      rcases win_01 v2 0 999 with q | q
      · refine op_no h (k := 0) (by decide) fc0 ?_ fun v => ?_
        · simp [f_X10_set, q, f_X10_set_J35, f_X10_set_J69, bd_e]
        · simp [f_X11_set, in_e, f_X11_set_J21, f_X11_set_J45, q, bd_e, win_of (v := 1) (a := 0) (b := 2) (by decide) (by decide)]
      · refine ⟨w.1 77 2, si w 3 5 v2, _, ?_, ?_, Inv_env h (j := 2) (by decide) (by decide) (Or.inr (Or.inl ⟨rfl, win_yes q⟩))⟩
        · simp [f_X10_set, f_X10_set_J35, q, lw_e, c6]
        · simp [f_X11_set, in_e, f_X11_set_J21, f_X11_set_J45, q, lw_e, win_of (v := 1) (a := 0) (b := 2) (by decide) (by decide)]
          rw [gd_t (by decide), gd_t (by decide), si_n (by decide)]
    · by_cases z2 : v1 = 2
      · subst z2
        rcases win_01 v2 0 900 with q | q
        · refine op_no h (k := 0) (by decide) fc0 ?_ fun v => ?_
          · simp [f_X10_set, q, f_X10_set_J35, f_X10_set_J69, bd_e]
          · simp [f_X11_set, in_e, f_X11_set_J21, f_X11_set_J45, q, bd_e, win_of (v := 2) (a := 0) (b := 2) (by decide) (by decide)]
        · refine ⟨w.1 77 3, si w 3 6 v2, _, ?_, ?_, Inv_env h (j := 3) (by decide) (by decide) (Or.inr (Or.inr ⟨rfl, win_yes q⟩))⟩
          · simp [f_X10_set, f_X10_set_J35, f_X10_set_J69, q, lw_e, c7]
          · simp [f_X11_set, in_e, f_X11_set_J21, f_X11_set_J45, q, lw_e, win_of (v := 2) (a := 0) (b := 2) (by decide) (by decide)]
            rw [gd_t (by decide), gd_t (by decide), si_n (by decide)]
      · have q : f_X10_within v1 0 2 = some 0 := by
          rcases win_01 v1 0 2 with q | q
          · exact q
          · rcases E1 q with y | y | y
            · exact absurd y z0
            · exact absurd y z1
            · exact absurd y z2
        refine op_no h (k := 0) (by decide) fc0 ?_ fun v => ?_
        · simp [f_X10_set, f_X10_set_J35, f_X10_set_J69, z0, z1, z2, bd_e]
        · simp [f_X11_set, in_e, q, bd_e]

theorem op_complain {w : Wd} (h : Inv w) (v1 v2 : Int32) : Op (f_X10_complain v1 v2) (f_X11_complain v1 v2) w := by
  have hZ := h.z
  obtain ⟨n, hh, c, hB, hC, hR⟩ := h.b
  obtain ⟨b1, b2, ⟨q1, q2, q3, q4, q5, q6, q7⟩, b4, b5, b6⟩ := id hB
  rcases fl_cases n v1 with ⟨f, hf, rfl⟩ | hno
  · rcases win_01 v2 1 2 with q | q
    · refine op_no h (k := 0) (by decide) fc0 ?_ fun v => ?_
      · simp [f_X10_complain, has_y q1 b1 hf, q, bd_e]
      · simp [f_X11_complain, isF_y (w := si w 16 0 v) (by rw [s16 (by decide)]; exact q2) b1 hf, in_e, q, bd_e]
    obtain ⟨s, s1, s2, rfl⟩ := win_nI q (A := 1) (B := 2) (by decide) (by decide) (by decide)
    obtain ⟨c0, c1, c2, c3, c4⟩ := id hC
    rcases Nat.lt_or_ge c 24 with hc | hc
    · have h0 : rng (w.1 77 0) 0 2000 := by
        rw [q4]
        unfold rng
        rw [nI_toInt (by omega)]
        omega
      obtain ⟨W, p1, p2, p3, p4⟩ := addX (w := w) (g := w.1 77) (h := hh) (f := f) (s := s) b1 hc hf (by omega) (fun i hi0 => (b5 i hi0).2) (fun j hj => ⟨(b5 j hj).1.2.1, (b5 j hj).1.2.2.1⟩) h0 (q3.trans q4.symm) hC
      have w77 : W.1 77 = w.1 77 := p2 77 (by decide) (by omega)
      have i0 : (139 + 3 * nI c) = nI (139 + 3 * c) := by
        show (nI 139 + nI 3 * nI c) = _
        rw [nI_mul, nI_add]
      have i1 : nI (139 + 3 * c) + 1 = nI (139 + 3 * c + 1) := nI_1 _
      have i2 : nI (139 + 3 * c) + 2 = nI (139 + 3 * c + 2) := nI_add _ 2
      have e50 : (si (si W 77 (139 + 3 * c) (nI f)) 77 (139 + 3 * c + 1) (nI s)).1 77 0 = w.1 77 0 := by rw [si_o (by omega), si_o (by omega), w77]
      have e55 : (si (si (si W 77 (139 + 3 * c) (nI f)) 77 (139 + 3 * c + 1) (nI s)) 77 (139 + 3 * c + 2) (w.1 77 0)).1 77 5 = nI c := by rw [si_o (by omega), si_o (by omega), si_o (by omega), w77]; exact c2
      have V77 : (si (si (si (si W 77 (139 + 3 * c) (nI f)) 77 (139 + 3 * c + 1) (nI s)) 77 (139 + 3 * c + 2) (w.1 77 0)) 77 5 (nI (c + 1))).1 77 = cG (w.1 77) c (nI f) (nI s) := by
        funext y
        rw [si_g, si_g, si_g, si_g, w77]
        simp only [true_and]
        rfl
      have vy : ∀ y, y ≠ 77 → (si (si (si (si W 77 (139 + 3 * c) (nI f)) 77 (139 + 3 * c + 1) (nI s)) 77 (139 + 3 * c + 2) (w.1 77 0)) 77 5 (nI (c + 1))).1 y = W.1 y := fun y hy => by rw [si_n hy, si_n hy, si_n hy, si_n hy]
      have vw : ∀ y, y ≠ 77 → y ≠ 8 → ¬ (24 ≤ y ∧ y < 28) → (si (si (si (si W 77 (139 + 3 * c) (nI f)) 77 (139 + 3 * c + 1) (nI s)) 77 (139 + 3 * c + 2) (w.1 77 0)) 77 5 (nI (c + 1))).1 y = w.1 y := fun y y1 y2 y3 => (vy y y1).trans (p2 y y2 y3)
      refine ⟨nI c, W, si (si (si (si W 77 (139 + 3 * c) (nI f)) 77 (139 + 3 * c + 1) (nI s)) 77 (139 + 3 * c + 2) (w.1 77 0)) 77 5 (nI (c + 1)), ?_, ?_, ?_⟩
      · unfold f_X10_complain
        rw [has_y q1 b1 hf, bd1, if_neg (by decide), q, bd1, if_neg (by decide), c1, if_pos (show nI c < (24 : Int32) from nI_lt (b := 24) hc (by decide)), p1]
        rfl
      · unfold f_X11_complain
        rw [isF_y (by rw [w77]; exact q2) b1 hf, bd1, if_neg (by decide), in_e, q, bd1, if_neg (by decide), w77, c2, if_neg (fun z => by have := (nI_eq (a := c) (b := 24) (by omega) (by decide)).mp z; omega), i0, i1, i2, cl_n (by omega), cl_n (by omega), cl_n (by omega)]
        simp only [lw_e]
        rw [gd_in (by omega) (by decide), gd_in (by omega) (by decide), gd_in (by omega) (by decide), e50, e55, nI_1, si_s, nI_pred]
      · have ag : ∀ L : List Nat, (∀ y, y ∈ L → y ≠ 77 ∧ y ≠ 8 ∧ (y < 24 ∨ 28 ≤ y)) → AgL L w (si (si (si (si W 77 (139 + 3 * c) (nI f)) 77 (139 + 3 * c + 1) (nI s)) 77 (139 + 3 * c + 2) (w.1 77 0)) 77 5 (nI (c + 1))) := fun L hL y hy => by
          have := hL y hy
          exact vw y (by omega) (by omega) (by omega)
        have e76 := vw 76 (by decide) (by decide) (by omega)
        obtain ⟨a, b, cc, d, e, ff⟩ := h
        refine ⟨IF_l a (ag _ (by decide)) (by rw [e76]), IT_l b (ag _ (by decide)) (by rw [e76]), IS_l cc (ag _ (by decide)) p3, ?_, IK_l e (by rw [vw 0 (by decide) (by decide) (by omega)]) (by rw [e76]) (ag _ (by decide)), FC_c ff (fun j _ _ => by rw [e76]) fun y y1 y2 y3 y4 => by rw [V77]; exact cG_o y3 (by omega)⟩
        unfold SRm
        rw [V77, vw 3 (by decide) (by decide) (by omega), vw 19 (by decide) (by decide) (by omega), vw 5 (by decide) (by decide) (by omega), vw 21 (by decide) (by decide) (by omega), vy 8 (by decide), vy 24 (by decide), vy 25 (by decide), vy 26 (by decide), vy 27 (by decide)]
        exact ⟨n, hh, c + 1, BI_F (BI_c hB fun y y1 y2 _ => cG_o y2 (by omega)) fun i hi0 => vw _ (by omega) (by omega) (by omega), p4, RI_c hR (cG_o (by decide) (by omega)) fun k hk => cG_o (by omega) (by omega), fun i hi0 => by
          have := hZ i hi0
          simp only at this ⊢
          rw [vw _ (by omega) (by omega) (by omega)]
          exact this⟩
    · have e24 : c = 24 := by omega
      subst e24
      refine op_no h (k := 1) (by decide) fc1 ?_ fun v => ?_
      · unfold f_X10_complain
        rw [has_y q1 b1 hf, bd1, if_neg (by decide), q, bd1, if_neg (by decide), c1, if_neg (show ¬ nI 24 < 24 by decide)]
        exact bd_e
      · unfold f_X11_complain
        rw [isF_y (by rw [s16 (by decide)]; exact q2) b1 hf, bd1, if_neg (by decide), in_e, q, bd1, if_neg (by decide), s16 (by decide), c2, if_pos (show nI 24 = 24 by decide)]
        exact bd_e
  · refine op_no h (k := 0) (by decide) fc0 ?_ fun v => ?_
    · simp [f_X10_complain, has_n q1 b1 hno, bd_e]
    · simp [f_X11_complain, isF_n (w := si w 16 0 v) (by rw [s16 (by decide)]; exact q2) b1 hno, bd_e]
theorem Inv_99 {w V : Wd} (h : Inv w) (e : ∀ y, y ≠ 99 → V.1 y = w.1 y) (e2 : V.2 = w.2) : Inv V := Inv_a h (fun k hk => e k (fun z => by subst z; exact absurd hk (by decide))) (fun j _ => by rw [e 76 (by decide)]) e2
/-- complaints and labels, as the calls need them -/
theorem Inv.c {w : Wd} (h : Inv w) : ∃ c, c ≤ 24 ∧ w.1 8 4 = nI c ∧ w.1 77 5 = nI c ∧ (∀ k, k < c → w.1 24 k = cx (w.1 77) k 0 ∧ w.1 25 k = cx (w.1 77) k 1 ∧ w.1 26 k = cx (w.1 77) k 2) ∧ ∃ M, f_X11_findGroups w = some M ∧ (∀ y, y ≠ 99 → M.1 y = w.1 y) ∧ M.2 = w.2 ∧ ∀ k, k < c → M.1 99 k = w.1 27 k := by
  obtain ⟨n, hh, c, hB, hC, hR⟩ := h.b
  obtain ⟨b1, b2, ⟨q1, q2, q3, q4, q5, q6, q7⟩, b4, b5, b6⟩ := id hB
  obtain ⟨c0, c1, c2, c3, c4⟩ := id hC
  obtain ⟨M, m1, m2, m3, m4, m5⟩ := groupsM (w := w) (h := hh) b1 c0 c2 (fun k hk => ⟨(c3 k hk).2.2.2.1, (c3 k hk).2.2.2.2.1, (c3 k hk).2.2.2.2.2.1⟩) (fun i hi0 => (b5 i hi0).2)
  obtain ⟨l1, l2⟩ := CC_lab hC
  exact ⟨c, c0, c1, c2, fun k hk => ⟨(c3 k hk).1, (c3 k hk).2.1, (c3 k hk).2.2.1⟩, M, m1, m2, m3, Lab_u c0 m4 m5 l1 l2⟩
theorem isC_e {w : Wd} {c : Nat} {v : Int32} (h5 : w.1 77 5 = nI c) : f_X11_isComplaint v w = f_X10_within v 0 (nI c - 1) := by
  unfold f_X11_isComplaint
  rw [h5, in_e]
  rcases win_01 v 0 (nI c - 1) with q | q <;> rw [q] <;> rfl
theorem op_complaint {w : Wd} (h : Inv w) (v1 v2 : Int32) : Op (f_X10_complaint v1 v2) (f_X11_complaint v1 v2) w := by
  obtain ⟨c, c0, c1, c2, c3, M, m1, m2, m3, m4⟩ := h.c
  rcases win_01 v1 0 (nI c - 1) with q | q
  · refine op_no h (k := 0) (by decide) fc0 ?_ fun v => ?_
    · simp [f_X10_complaint, c1, q, bd_e]
    · simp [f_X11_complaint, isC_e (w := si w 16 0 v) (by rw [s16 (by decide)]; exact c2), q, bd_e]
  obtain ⟨k, hk, rfl⟩ := in_z (by omega) q
  have g24 : ∀ x : Option (Int32 × Wd), gd (inB (nI k) 24) x = x := fun x => gd_in (by omega) (by decide)
  have cl : (nI k).toNatClampNeg = k := cl_n (by omega)
  have W3 : ∀ v : Int32, 0 ≤ v.toInt → v.toInt ≤ 3 → f_X10_within v 0 3 = some 1 := fun v a b => win_of a b
  by_cases k0 : v2 = 0
  · subst k0
    refine op_q (r := cx (w.1 77) k 0) h ?_ ?_
    · simp [f_X10_complaint, c1, q, g24, cl, (c3 k hk).1]
    · unfold f_X11_complaint
      rw [isC_e c2, q, bd1, if_neg (by decide), in_e, W3 0 (by decide) (by decide), bd1, if_neg (by decide), if_neg (by decide), about_e (v := 0) (j := 0) (by omega) (by decide) rfl]
      rfl
  by_cases k1 : v2 = 1
  · subst k1
    refine op_q (r := cx (w.1 77) k 1) h ?_ ?_
    · simp [f_X10_complaint, c1, q, g24, cl, (c3 k hk).2.1]
    · unfold f_X11_complaint
      rw [isC_e c2, q, bd1, if_neg (by decide), in_e, W3 1 (by decide) (by decide), bd1, if_neg (by decide), if_neg (by decide), about_e (v := 1) (j := 1) (by omega) (by decide) rfl]
      rfl
  by_cases k2 : v2 = 2
  · subst k2
    refine op_q (r := cx (w.1 77) k 2) h ?_ ?_
    · simp [f_X10_complaint, c1, q, g24, cl, (c3 k hk).2.2]
    · unfold f_X11_complaint
      rw [isC_e c2, q, bd1, if_neg (by decide), in_e, W3 2 (by decide) (by decide), bd1, if_neg (by decide), if_neg (by decide), about_e (v := 2) (j := 2) (by omega) (by decide) rfl]
      rfl
  by_cases k3 : v2 = 3
  · subst k3
    refine ⟨w.1 27 k, w, M, ?_, ?_, Inv_99 h m2 m3⟩
    · simp [f_X10_complaint, c1, q, g24, cl]
    · unfold f_X11_complaint
      rw [isC_e c2, q, bd1, if_neg (by decide), in_e, W3 3 (by decide) (by decide), bd1, if_neg (by decide), if_pos (by decide), m1, bd1, g24, cl, m4 k hk]
  have no : f_X10_within v2 0 3 = some 0 := by
    rcases win_01 v2 0 3 with z | z
    · exact z
    · obtain ⟨N, -, hN, e⟩ := win_nI z (A := 0) (B := 3) (by decide) (by decide) (by decide)
      subst e
      have : N = 0 ∨ N = 1 ∨ N = 2 ∨ N = 3 := by omega
      rcases this with rfl | rfl | rfl | rfl
      · exact absurd rfl k0
      · exact absurd rfl k1
      · exact absurd rfl k2
      · exact absurd rfl k3
  refine op_no h (k := 0) (by decide) fc0 ?_ fun v => ?_
  · simp [f_X10_complaint, c1, q, k0, k1, k2, k3, bd_e]
  · simp [f_X11_complaint, isC_e (w := si w 16 0 v) (by rw [s16 (by decide)]; exact c2), q, in_e, no, bd_e]
theorem op_joined {w : Wd} (h : Inv w) (v1 v2 : Int32) : Op (f_X10_joined v1 v2) (f_X11_joined v1 v2) w := by
  obtain ⟨c, c0, c1, c2, c3, M, m1, m2, m3, m4⟩ := h.c
  rcases win_01 v1 0 (nI c - 1) with q | q
  · refine op_no h (k := 0) (by decide) fc0 ?_ fun v => ?_
    · simp [f_X10_joined, c1, q, bd_e]
    · simp [f_X11_joined, isC_e (w := si w 16 0 v) (by rw [s16 (by decide)]; exact c2), q, bd_e]
  rcases win_01 v2 0 (nI c - 1) with z | z
  · refine op_no h (k := 0) (by decide) fc0 ?_ fun v => ?_
    · simp [f_X10_joined, c1, q, z, bd_e]
    · simp [f_X11_joined, isC_e (w := si w 16 0 v) (by rw [s16 (by decide)]; exact c2), q, z, bd_e]
  obtain ⟨a, ha, rfl⟩ := in_z (by omega) q
  obtain ⟨b, hb, rfl⟩ := in_z (by omega) z
  refine ⟨if w.1 27 a = w.1 27 b then 1 else 0, w, M, ?_, ?_, Inv_99 h m2 m3⟩
  · unfold f_X10_joined
    rw [c1, q, bd1, if_neg (by decide), z, bd1, if_neg (by decide), gd_in (by omega) (by decide), gd_in (by omega) (by decide), cl_n (by omega), cl_n (by omega)]
    by_cases e : w.1 27 a = w.1 27 b
    · rw [if_pos e, if_pos e]; rfl
    · rw [if_neg e, if_neg e]; rfl
  · unfold f_X11_joined
    rw [isC_e c2, q, bd1, if_neg (by decide), isC_e c2, z, bd1, if_neg (by decide), m1, bd1, gd_in (by omega) (by decide), gd_in (by omega) (by decide), cl_n (by omega), cl_n (by omega), m4 a ha, m4 b hb]
    by_cases e : w.1 27 a = w.1 27 b
    · rw [if_pos e, if_pos e]
    · rw [if_neg e, if_neg e]
theorem op_groups {w : Wd} (h : Inv w) (v1 : Int32) : Op (f_X10_groups v1) (f_X11_groups v1) w := by
  obtain ⟨c, c0, c1, c2, c3, M, m1, m2, m3, m4⟩ := h.c
  rcases win_01 v1 0 2 with q | q
  · refine op_no h (k := 0) (by decide) fc0 ?_ fun v => ?_
    · simp [f_X10_groups, q, bd_e]
    · simp [f_X11_groups, in_e, q, bd_e]
  have L1 : lp (f_X1_groupsOf_L4 v1 w) FU (0, 0) = some (0 + ws (fun k => if w.1 27 k = nI k ∧ (v1 = 0 ∨ cx (w.1 77) k 1 = v1) then 1 else 0) c, nI c) := by
    refine lp_add (n := c) (f := fun k => if w.1 27 k = nI k ∧ (v1 = 0 ∨ cx (w.1 77) k 1 = v1) then 1 else 0) (by omega) (fun i s hi0 => ?_) (fun s => ?_) 0
    · unfold f_X1_groupsOf_L4
      simp only
      rw [c1, if_neg (nle hi0 (by omega)), gd_in (by omega) (by decide), gd_in (by omega) (by decide), cl_n (by omega), (c3 i hi0).2.1]
      by_cases e1 : w.1 27 i = nI i
      · rw [if_pos e1]
        by_cases e2 : v1 = 0
        · rw [if_pos e2, if_pos ⟨e1, Or.inl e2⟩]
        · rw [if_neg e2]
          by_cases e3 : cx (w.1 77) i 1 = v1
          · rw [if_pos e3, if_pos ⟨e1, Or.inr e3⟩]
          · rw [if_neg e3, if_neg (fun z => by rcases z.2 with z | z; exact e2 z; exact e3 z), Int32.add_zero]
      · rw [if_neg e1, if_neg (fun z => e1 z.1), Int32.add_zero]
    · unfold f_X1_groupsOf_L4
      simp only
      rw [c1, if_pos (nle' c)]
  have L2 : lp (f_X11_groups_L24 v1 M) FU (0, 0) = some (0 + ws (fun k => if w.1 27 k = nI k ∧ (v1 = 0 ∨ cx (w.1 77) k 1 = v1) then 1 else 0) c, nI c) := by
    refine lp_add (n := c) (f := fun k => if w.1 27 k = nI k ∧ (v1 = 0 ∨ cx (w.1 77) k 1 = v1) then 1 else 0) (by omega) (fun i s hi0 => ?_) (fun s => ?_) 0
    · unfold f_X11_groups_L24
      simp only
      rw [m2 77 (by decide), c2, if_neg (nle hi0 (by omega)), gd_in (by omega) (by decide), cl_n (by omega), m4 i hi0, about_e (v := 1) (j := 1) (by omega) (by decide) rfl, m2 77 (by decide)]
      by_cases e1 : w.1 27 i = nI i
      · rw [if_pos e1]
        by_cases e2 : v1 = 0
        · rw [if_pos e2, if_pos ⟨e1, Or.inl e2⟩]
        · rw [if_neg e2, bd1]
          by_cases e3 : cx (w.1 77) i 1 = v1
          · rw [if_pos e3, if_pos ⟨e1, Or.inr e3⟩]
          · rw [if_neg e3, if_neg (fun z => by rcases z.2 with z | z; exact e2 z; exact e3 z)]
      · rw [if_neg e1, if_neg (fun z => e1 z.1)]
    · unfold f_X11_groups_L24
      simp only
      rw [m2 77 (by decide), c2, if_pos (nle' c)]
  refine ⟨0 + ws (fun k => if w.1 27 k = nI k ∧ (v1 = 0 ∨ cx (w.1 77) k 1 = v1) then 1 else 0) c, w, M, ?_, ?_, Inv_99 h m2 m3⟩
  · unfold f_X10_groups f_X1_groupsOf
    rw [q, bd1, if_neg (by decide), L1]
    rfl
  · unfold f_X11_groups
    rw [in_e, q, bd1, if_neg (by decide), m1, bd1, L2]
    rfl

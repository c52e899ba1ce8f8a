theorem cmp_lo {x : Int64} (h : ¬ lg_cmp x (-300) < 0) (h2 : ¬ 0 < lg_cmp x 400) : -300 ≤ x.toInt ∧ x.toInt ≤ 400 := by
  have a1 : (-300 : Int64).toInt = -300 := by decide
  have a2 : (400 : Int64).toInt = 400 := by decide
  unfold lg_cmp at h h2
  constructor
  · rcases (by omega : x.toInt < -300 ∨ -300 ≤ x.toInt) with q | q
    · exfalso
      have n1 : ¬ x > -300 := fun z => by have := Int64.lt_iff_toInt_lt.mp z; rw [a1] at this; omega
      have n2 : ¬ x = -300 := fun e => by rw [e, a1] at q; omega
      rw [if_neg n1, if_neg n2] at h
      exact h (by decide)
    · exact q
  · rcases (by omega : x.toInt ≤ 400 ∨ 400 < x.toInt) with q | q
    · exact q
    · exfalso
      have n1 : x > 400 := Int64.lt_iff_toInt_lt.mpr (by rw [a2]; exact q)
      rw [if_pos n1] at h2
      exact h2 (by decide)
theorem l32 {x : Int64} (h : -300 ≤ x.toInt ∧ x.toInt ≤ 400) : rng x.toInt32 (-300) 400 := by
  unfold rng
  rw [Int64.toInt_toInt32]
  rw [bm (by omega) (by omega)]
  exact h
def u1 (g : Nat → Int32) (v : Int32) (y : Nat) : Int32 := if y = 1 then v else g y
theorem u1_o {g : Nat → Int32} {v : Int32} {y : Nat} (h : y ≠ 1) : u1 g v y = g y := if_neg h
theorem u1_x {g : Nat → Int32} {v : Int32} {i k : Nat} : gx (u1 g v) i k = gx g i k := u1_o (by omega)
theorem u1_cnt {g : Nat → Int32} {v r : Int32} {m : Nat} : cnt (u1 g v) r m = cnt g r m := cnt_c fun j _ => u1_x
theorem FlatOk_1 {g : Nat → Int32} {v : Int32} {h i : Nat} (H : FlatOk g h i) : FlatOk (u1 g v) h i := by
  unfold FlatOk at H ⊢
  simp only [u1_x]
  exact H
theorem BI_1 {B B' : Nat → Int32} {F : Nat → Nat → Int32} {Hh g : Nat → Int32} {n h : Nat} {v : Int32} (H : BI B F Hh g n h) (hB : ∀ y, B' y = if y = 4 then v else B y) (hv : rng v (-300) 400) : BI B' F Hh (u1 g v) n h := by
  obtain ⟨b1, b2, ⟨q1, q2, q3, q4, q5, q6, q7⟩, b4, b5, b6⟩ := H
  refine ⟨b1, b2, ⟨by rw [hB, if_neg (by decide)]; exact q1, q2, by rw [hB, if_neg (by decide)]; exact q3, q4, by rw [hB, if_pos rfl]; rfl, by rw [hB, if_neg (by decide)]; exact q6, by rw [hB, if_neg (by decide)]; exact q7⟩, ⟨hv, b4.2⟩, fun i hi0 => ⟨⟨?_, ?_, ?_, fun k k1 k2 => ?_⟩, FlatOk_1 (b5 i hi0).2⟩, fun r hr => ?_⟩
  · rw [u1_x]; exact (b5 i hi0).1.1
  · rw [u1_x]; exact (b5 i hi0).1.2.1
  · rw [pl_c (n := i + 1) (fun j _ => u1_x) (by omega)]; exact (b5 i hi0).1.2.2.1
  · rw [u1_x]; exact (b5 i hi0).1.2.2.2 k k1 k2
  · rw [u1_cnt]; exact b6 r hr
theorem MG_1 {w : Wd} {n : Nat} {v : Int32} (h : MG w n) : MG (si w 77 1 v) n := by
  have e : (si w 77 1 v).1 77 = u1 (w.1 77) v := by rw [si_77]; rfl
  unfold MG at h ⊢
  rw [e]
  refine ⟨e, fun i hi0 => ?_⟩
  obtain ⟨x1, x2, x3, x4⟩ := h.2 i hi0
  obtain ⟨c1, c2, c3, c4⟩ := nbs_c (g := w.1 77) (g' := u1 (w.1 77) v) (n := n) (fun j _ => u1_x) hi0
  rw [si_n (show (80 : Nat) ≠ 77 by decide), si_n (show (81 : Nat) ≠ 77 by decide), si_n (show (82 : Nat) ≠ 77 by decide), si_n (show (83 : Nat) ≠ 77 by decide), si_n (show (86 : Nat) ≠ 77 by decide), si_n (show (87 : Nat) ≠ 77 by decide), si_n (show (88 : Nat) ≠ 77 by decide), c1, c2, c3, c4]
  refine ⟨x1, ?_, ?_, ?_⟩
  · rw [x2]
    exact (flw_c (u1_o (by decide)) (fun j k _ _ => u1_x) (fun j _ => u1_x) hi0).symm
  · rw [x3]
    exact (lkf_c (n := n) (fun j k _ _ => u1_x) hi0).symm
  · rw [x4]
    exact u1_x.symm
def WG (c : Nat → Int64) (n h : Nat) (g : Nat → Int32) : Nat → (Nat → Int32) × Nat
  | 0 => (g, 0)
  | i + 1 => if 2000 ≤ h + (WG c n h g i).2 then WG c n h g i else if lg_cmp (c i) (-300) < 0 then WG c n h g i else if 0 < lg_cmp (c i) 400 then WG c n h g i else (hG (u1 (WG c n h g i).1 (c i).toInt32) n, (WG c n h g i).2 + 1)
theorem WG_s {c : Nat → Int64} {n h : Nat} {g : Nat → Int32} {i : Nat} : WG c n h g (i + 1) = if 2000 ≤ h + (WG c n h g i).2 then WG c n h g i else if lg_cmp (c i) (-300) < 0 then WG c n h g i else if 0 < lg_cmp (c i) 400 then WG c n h g i else (hG (u1 (WG c n h g i).1 (c i).toInt32) n, (WG c n h g i).2 + 1) := rfl
theorem WG_st {c : Nat → Int64} {n h : Nat} {g : Nat → Int32} {i : Nat} (q : 2000 ≤ h + (WG c n h g i).2) : ∀ {j : Nat}, i ≤ j → WG c n h g j = WG c n h g i := by
  intro j hj
  induction j with
  | zero => have e : i = 0 := by omega
            subst e; rfl
  | succ j ih =>
    rcases Nat.lt_or_ge j i with z | z
    · have e : i = j + 1 := by omega
      subst e; rfl
    · have e := ih z
      rw [WG_s, e, if_pos q]
theorem WG_ok {c : Nat → Int64} {n h : Nat} {g : Nat → Int32} (hn : n ≤ 12) (h4 : g 4 = nI n) (h0 : g 0 = nI h) (hh : h ≤ 2000) (hok : ∀ j, j < n → FlatOk g h j) (he : rng (g 1) (-300) 400 ∧ rng (g 2) 0 999 ∧ rng (g 3) 0 900) : ∀ i, (WG c n h g i).2 ≤ i ∧ h + (WG c n h g i).2 ≤ 2000 ∧ (WG c n h g i).1 0 = nI (h + (WG c n h g i).2) ∧ (∀ j, j < n → FlatOk (WG c n h g i).1 (h + (WG c n h g i).2) j) ∧ (rng ((WG c n h g i).1 1) (-300) 400 ∧ rng ((WG c n h g i).1 2) 0 999 ∧ rng ((WG c n h g i).1 3) 0 900) ∧ (∀ y, (4 ≤ y ∧ y < 7) ∨ 139 ≤ y → (WG c n h g i).1 y = g y) ∧ (∀ j, j < n → gx (WG c n h g i).1 j 1 = gx g j 1) ∧ ((WG c n h g i).2 = 0 → (WG c n h g i).1 = g)
  | 0 => ⟨Nat.le_refl _, hh, h0, hok, he, fun _ _ => rfl, fun _ _ => rfl, fun _ => rfl⟩
  | i + 1 => by
    obtain ⟨a0, a1, a2, a3, a4, a5, a6, a7⟩ := WG_ok (c := c) hn h4 h0 hh hok he i
    rw [WG_s]
    by_cases z1 : 2000 ≤ h + (WG c n h g i).2
    · rw [if_pos z1]; exact ⟨by omega, a1, a2, a3, a4, a5, a6, a7⟩
    · rw [if_neg z1]
      by_cases z2 : lg_cmp (c i) (-300) < 0
      · rw [if_pos z2]; exact ⟨by omega, a1, a2, a3, a4, a5, a6, a7⟩
      · rw [if_neg z2]
        by_cases z3 : 0 < lg_cmp (c i) 400
        · rw [if_pos z3]; exact ⟨by omega, a1, a2, a3, a4, a5, a6, a7⟩
        · rw [if_neg z3]
          have hv := l32 (cmp_lo z2 z3)
          have he' : rng (u1 (WG c n h g i).1 (c i).toInt32 1) (-300) 400 ∧ rng (u1 (WG c n h g i).1 (c i).toInt32 2) 0 999 ∧ rng (u1 (WG c n h g i).1 (c i).toInt32 3) 0 900 := ⟨hv, a4.2⟩
          refine ⟨by simp only; omega, by simp only; omega, ?_, fun j hj => hG_ok (h := h + (WG c n h g i).2) hn (by omega) hj (fun k hk => FlatOk_1 (a3 k hk)) he', ?_, fun y hy => ?_, fun j hj => ?_, fun q => ?_⟩
          · show u1 (WG c n h g i).1 _ 0 + 1 = _
            rw [u1_o (by decide), a2, nI_1]
            rfl
          · simp only
            rw [hG_o hn (by decide) (by omega), hG_o hn (by decide) (by omega), hG_o hn (by decide) (by omega)]
            exact he'
          · simp only
            rw [hG_o hn (by omega) (by omega), u1_o (by omega), a5 y hy]
          · simp only
            rw [hG_r j hj, u1_x, a6 j hj]
          · simp at q
theorem op_weather {w : Wd} (h : Inv w) (v1 : Int32) : Op (f_X10_weather v1) (f_X11_weather v1) w := by
  obtain ⟨n, hh, cc, hB, hC, hR⟩ := h.b
  obtain ⟨b1, b2, ⟨q1, q2, q3, q4, q5, q6, q7⟩, b4, b5, b6⟩ := id hB
  rcases win_01 v1 0 3 with q | q
  · refine op_no h (k := 0) (by decide) fc0 ?_ fun v => ?_
    · simp [f_X10_weather, sh_e, q, bd_e]
    · simp [f_X11_weather, sh_m, q, bd_e]
  obtain ⟨s, -, hs, rfl⟩ := win_nI q (A := 0) (B := 3) (by decide) (by decide) (by decide)
  have hs4 : s < 4 := by omega
  obtain ⟨i1, i2, z, hz, i3, i4⟩ := h.2.2.1 s hs4
  by_cases m0 : w.1 74 s = 0
  · refine op_no h (k := 5) (by decide) fc5 ?_ fun v => ?_
    · unfold f_X10_weather f_X6_isMissing
      rw [sh_e, q, bd1, if_neg (by decide), gd_in hs4 (by decide), cl_n (by omega), if_pos m0, bd1, if_neg (by decide)]
      exact bd_e
    · unfold f_X11_weather
      rw [sh_m, q, bd1, if_neg (by decide), gd_in hs4 (by decide), cl_n (by omega), s16 (by decide), ← i1, if_pos m0]
      exact bd_e
  have hok : ∀ j, j < n → FlatOk (w.1 77) hh j := fun j hj => (b5 j hj).2
  have hWG := WG_ok (c := fun i => w.2 (70 + s) i) b1 q2 q4 b2 hok b4
  have H : ∃ o, lp (f_X10_weather_L37 (nI s)) FU (0, 0, w) = some o ∧ (o.1 = nI (WG (fun i => w.2 (70 + s) i) n hh (w.1 77) z).2 ∧ (∀ y, y ≠ 3 → ¬ (35 ≤ y ∧ y < 47) → ¬ Tc y → o.2.2.1 y = w.1 y) ∧ o.2.2.2 = w.2 ∧ ZF (fun i => o.2.2.1 (35 + i)) ∧ BI (o.2.2.1 3) (fun i => o.2.2.1 (35 + i)) (o.2.2.1 19) (WG (fun i => w.2 (70 + s) i) n hh (w.1 77) z).1 n (hh + (WG (fun i => w.2 (70 + s) i) n hh (w.1 77) z).2)) := by
    refine lp_n (fun i x => x.1 = nI (WG (fun i => w.2 (70 + s) i) n hh (w.1 77) i).2 ∧ x.2.1 = nI i ∧ (∀ y, y ≠ 3 → ¬ (35 ≤ y ∧ y < 47) → ¬ Tc y → x.2.2.1 y = w.1 y) ∧ x.2.2.2 = w.2 ∧ ZF (fun i => x.2.2.1 (35 + i)) ∧ BI (x.2.2.1 3) (fun i => x.2.2.1 (35 + i)) (x.2.2.1 19) (WG (fun i => w.2 (70 + s) i) n hh (w.1 77) i).1 n (hh + (WG (fun i => w.2 (70 + s) i) n hh (w.1 77) i).2)) z _ ⟨rfl, rfl, fun _ _ _ _ => rfl, rfl, h.z, hB⟩ (FU_lt (by omega)) ?_ ?_
    · rintro i ⟨a, x, U⟩ hi0 ⟨e0, e1, e2, e3, eZ, e4⟩
      simp only at e0 e1 e2 e3 eZ e4
      subst e0 e1
      obtain ⟨a0, a1, -⟩ := hWG i
      have u33 : U.1 3 3 = nI (hh + (WG (fun i => w.2 (70 + s) i) n hh (w.1 77) i).2) := e4.2.2.1.2.2.1
      have u75 : U.1 75 s = nI z := by rw [e2 75 (by decide) (by omega) (by unfold Tc; omega)]; exact i3
      unfold f_X10_weather_L37
      simp only
      rw [gd_in hs4 (by decide), cl_n (by omega), u75, if_neg (nle hi0 (by omega)), u33, e3]
      by_cases z1 : 2000 ≤ hh + (WG (fun i => w.2 (70 + s) i) n hh (w.1 77) i).2
      · rw [if_pos (show (2000 : Int32) ≤ nI (hh + (WG (fun i => w.2 (70 + s) i) n hh (w.1 77) i).2) from nI_le (a := 2000) z1 (by omega))]
        have es := WG_st z1 (Nat.le_of_lt hi0)
        refine Or.inr ⟨_, rfl, ?_⟩
        rw [es]
        exact ⟨rfl, e2, e3, eZ, e4⟩
      · rw [if_neg (show ¬ (2000 : Int32) ≤ nI (hh + (WG (fun i => w.2 (70 + s) i) n hh (w.1 77) i).2) from nle (n := 2000) (by omega) (by decide)), gd_in hs4 (by decide), gd_in (by omega) (by decide), cl_n (by omega)]
        left
        by_cases z2 : lg_cmp (w.2 (70 + s) i) (-300) < 0
        · rw [if_pos z2, nI_1 i]
          refine ⟨_, rfl, ?_⟩
          rw [WG_s, if_neg z1, if_pos z2]
          exact ⟨rfl, rfl, e2, e3, eZ, e4⟩
        · rw [if_neg z2]
          by_cases z3 : 0 < lg_cmp (w.2 (70 + s) i) 400
          · rw [if_pos z3, nI_1 i]
            refine ⟨_, rfl, ?_⟩
            rw [WG_s, if_neg z1, if_neg z2, if_pos z3]
            exact ⟨rfl, rfl, e2, e3, eZ, e4⟩
          · rw [if_neg z3, lw_e]
            have hv := l32 (cmp_lo z2 z3)
            have hB1 : BI ((si U 3 4 (w.2 (70 + s) i).toInt32).1 3) (fun j => (si U 3 4 (w.2 (70 + s) i).toInt32).1 (35 + j)) ((si U 3 4 (w.2 (70 + s) i).toInt32).1 19) (u1 (WG (fun i => w.2 (70 + s) i) n hh (w.1 77) i).1 (w.2 (70 + s) i).toInt32) n (hh + (WG (fun i => w.2 (70 + s) i) n hh (w.1 77) i).2) := by
              rw [si_n (show (19 : Nat) ≠ 3 by decide)]
              refine BI_1 (BI_F e4 fun j hj => si_n (by omega)) (fun y => ?_) hv
              rw [si_g]
              simp
            obtain ⟨W, p1, p2, p3, p4⟩ := begX hB1
            obtain ⟨V, r1, r2, r3, r4, r5, r6⟩ := liveX (by omega) (BI_Tc hB1 p2) (CS_CG p4)
            rw [p1, bd1, r1, bd1, nI_1, nI_1]
            refine ⟨_, rfl, ?_⟩
            rw [WG_s, if_neg z1, if_neg z2, if_neg z3]
            refine ⟨rfl, rfl, fun y y1 y2 y3 => ?_, ?_, fun j hj => by have := eZ j hj; simp only at this ⊢; rw [r6 j 5 hj (by omega), r6 j 6 hj (by omega), p2 _ (by unfold Tc; omega), si_n (by omega)]; exact this, r4⟩
            · have y3' := y3
              unfold Tc at y3'
              show V.1 y = _
              rw [r2 y y1 y2 (by omega) (by omega) (by omega), p2 y y3, si_n y1, e2 y y1 y2 y3]
            · exact r3.trans (p3.trans e3)
    · rintro ⟨a, x, U⟩ ⟨e0, e1, e2, e3, eZ, e4⟩
      simp only at e0 e1 e2 e3 eZ e4
      subst e0 e1
      have u75 : U.1 75 s = nI z := by rw [e2 75 (by decide) (by omega) (by unfold Tc; omega)]; exact i3
      refine ⟨(nI (WG (fun i => w.2 (70 + s) i) n hh (w.1 77) z).2, nI z, U), ?_, rfl, e2, e3, eZ, e4⟩
      unfold f_X10_weather_L37
      simp only
      rw [gd_in hs4 (by decide), cl_n (by omega), u75, if_pos (nle' z)]
  obtain ⟨⟨a, x, X⟩, s1, s0, s2, s3, sZ, s4⟩ := H
  simp only at s0 s2 s3 sZ s4
  subst s0
  have X77 : X.1 77 = w.1 77 := s2 77 (by decide) (by omega) (by unfold Tc; omega)
  have X76 : X.1 76 = w.1 76 := s2 76 (by decide) (by omega) (by unfold Tc; omega)
  have X100 : X.1 100 = w.1 100 := s2 100 (by decide) (by omega) (by unfold Tc; omega)
  have X101 : X.1 101 = w.1 101 := s2 101 (by decide) (by omega) (by unfold Tc; omega)
  obtain ⟨M0, m1, m2, m3, m4⟩ := asM (w := X) b1 (by rw [X77]; exact q2)
  have hc : ∀ i, i < z → M0.2 102 (40 * s + i) = w.2 (70 + s) i := fun i hi0 => by rw [m3, s3]; exact (i4 i hi0).symm
  have H2 : ∃ o, lp (f_X11_weather_L39 (nI s)) FU (0, 0, M0) = some o ∧ (o.1 = nI (WG (fun i => w.2 (70 + s) i) n hh (w.1 77) z).2 ∧ (∀ y, y ≠ 77 → y ≠ 76 → ¬ Sc y → o.2.2.1 y = X.1 y) ∧ o.2.2.2 = X.2 ∧ (∀ j, j ≠ 30 → o.2.2.1 76 j = w.1 76 j) ∧ ((WG (fun i => w.2 (70 + s) i) n hh (w.1 77) z).2 = 0 ∧ o.2.2.1 76 30 = w.1 76 30 ∨ o.2.2.1 76 30 = 0) ∧ o.2.2.1 77 = (WG (fun i => w.2 (70 + s) i) n hh (w.1 77) z).1) := by
    refine lp_n (fun i x => x.1 = nI (WG (fun i => w.2 (70 + s) i) n hh (w.1 77) i).2 ∧ x.2.1 = nI i ∧ (∀ y, y ≠ 77 → y ≠ 76 → ¬ Sc y → x.2.2.1 y = X.1 y) ∧ x.2.2.2 = X.2 ∧ (∀ j, j ≠ 30 → x.2.2.1 76 j = w.1 76 j) ∧ ((WG (fun i => w.2 (70 + s) i) n hh (w.1 77) i).2 = 0 ∧ x.2.2.1 76 30 = w.1 76 30 ∨ x.2.2.1 76 30 = 0) ∧ x.2.2.1 77 = (WG (fun i => w.2 (70 + s) i) n hh (w.1 77) i).1 ∧ MG x.2.2 n) z _ ⟨rfl, rfl, fun y _ _ y3 => m2 y y3, m3, fun j _ => by rw [m2 76 (by unfold Sc; omega), X76], Or.inl ⟨rfl, by rw [m2 76 (by unfold Sc; omega), X76]⟩, by rw [m2 77 (by unfold Sc; omega), X77]; rfl, m4⟩ (FU_lt (by omega)) ?_ ?_
    · rintro i ⟨a, x, U⟩ hi0 ⟨e0, e1, e2, e3, e4, e5, e6, e7⟩
      simp only at e0 e1 e2 e3 e4 e5 e6 e7
      subst e0 e1
      obtain ⟨a0, a1, a2, a3, a4, a5, a6, a7⟩ := hWG i
      have u770 : U.1 77 0 = nI (hh + (WG (fun i => w.2 (70 + s) i) n hh (w.1 77) i).2) := by rw [e6]; exact a2
      have u774 : U.1 77 4 = nI n := by rw [e6, a5 4 (by omega)]; exact q2
      have u101 : U.1 101 s = nI z := by rw [e2 101 (by decide) (by decide) (by unfold Sc; omega), X101, ← i2]; exact i3
      have ui : U.2 102 (40 * s + i) = w.2 (70 + s) i := by rw [e3, ← m3]; exact hc i hi0
      have ix : 40 * nI s + nI i = nI (40 * s + i) := by
        show nI 40 * nI s + nI i = _
        rw [nI_mul, nI_add]
      unfold f_X11_weather_L39
      simp only
      rw [gd_in hs4 (by decide), cl_n (by omega), u101, if_neg (nle hi0 (by omega)), u770, ix, cl_n (by omega), ui]
      by_cases z1 : 2000 ≤ hh + (WG (fun i => w.2 (70 + s) i) n hh (w.1 77) i).2
      · rw [if_pos (show (2000 : Int32) ≤ nI (hh + (WG (fun i => w.2 (70 + s) i) n hh (w.1 77) i).2) from nI_le (a := 2000) z1 (by omega))]
        have es := WG_st z1 (Nat.le_of_lt hi0)
        refine Or.inr ⟨_, rfl, ?_⟩
        rw [es]
        exact ⟨rfl, e2, e3, e4, e5, e6⟩
      · rw [if_neg (show ¬ (2000 : Int32) ≤ nI (hh + (WG (fun i => w.2 (70 + s) i) n hh (w.1 77) i).2) from nle (n := 2000) (by omega) (by decide)), gd_in (by omega) (by decide)]
        left
        by_cases z2 : lg_cmp (w.2 (70 + s) i) (-300) < 0
        · rw [if_pos z2, nI_1 i]
          refine ⟨_, rfl, ?_⟩
          rw [WG_s, if_neg z1, if_pos z2]
          exact ⟨rfl, rfl, e2, e3, e4, e5, e6, e7⟩
        · rw [if_neg z2]
          by_cases z3 : 0 < lg_cmp (w.2 (70 + s) i) 400
          · rw [if_pos z3, nI_1 i]
            refine ⟨_, rfl, ?_⟩
            rw [WG_s, if_neg z1, if_neg z2, if_pos z3]
            exact ⟨rfl, rfl, e2, e3, e4, e5, e6, e7⟩
          · rw [if_neg z3, lw_e]
            have ev : (si U 77 1 (w.2 (70 + s) i).toInt32).1 77 = u1 (WG (fun i => w.2 (70 + s) i) n hh (w.1 77) i).1 (w.2 (70 + s) i).toInt32 := by
              rw [si_77, e6]; rfl
            obtain ⟨V, r1, r2, r3, r4, r5, r6⟩ := anHourM (w := si U 77 1 (w.2 (70 + s) i).toInt32) (h := hh + (WG (fun i => w.2 (70 + s) i) n hh (w.1 77) i).2) b1 (by rw [si_o (by decide)]; exact u774) (MG_1 e7) (by rw [ev]; exact fun j hj => FlatOk_1 (a3 j hj))
            rw [r1, bd1, nI_1, nI_1]
            refine ⟨_, rfl, ?_⟩
            rw [WG_s, if_neg z1, if_neg z2, if_neg z3]
            refine ⟨rfl, rfl, fun y y1 y2 y3 => ?_, r3.trans e3, fun j hj => ?_, Or.inr ?_, ?_, r6⟩
            · show V.1 y = _
              rw [r2 y y1 y2 y3, si_n y1, e2 y y1 y2 y3]
            · show V.1 76 j = _
              rw [r4, if_neg hj, si_n (by decide), e4 j hj]
            · show V.1 76 30 = _
              rw [r4, if_pos rfl]
            · show V.1 77 = _
              rw [r5, ev]
    · rintro ⟨a, x, U⟩ ⟨e0, e1, e2, e3, e4, e5, e6, e7⟩
      simp only at e0 e1 e2 e3 e4 e5 e6 e7
      subst e0 e1
      have u101 : U.1 101 s = nI z := by rw [e2 101 (by decide) (by decide) (by unfold Sc; omega), X101, ← i2]; exact i3
      refine ⟨(nI (WG (fun i => w.2 (70 + s) i) n hh (w.1 77) z).2, nI z, U), ?_, rfl, e2, e3, e4, e5, e6⟩
      unfold f_X11_weather_L39
      simp only
      rw [gd_in hs4 (by decide), cl_n (by omega), u101, if_pos (nle' z)]
  obtain ⟨⟨a, x', V⟩, t1, t0, t2, t3, t4, t5, t6⟩ := H2
  simp only at t0 t2 t3 t4 t5 t6
  subst t0
  obtain ⟨a0, a1, a2, a3, a4, a5, a6, a7⟩ := hWG z
  have vy : ∀ y, y ≠ 77 → y ≠ 76 → ¬ Sc y → y ≠ 3 → ¬ (35 ≤ y ∧ y < 47) → ¬ Tc y → V.1 y = w.1 y := fun y y1 y2 y3 y4 y5 y6 => (t2 y y1 y2 y3).trans (s2 y y4 y5 y6)
  have ag : ∀ L : List Nat, (∀ y, y ∈ L → y ≠ 77 ∧ y ≠ 76 ∧ y ≠ 3 ∧ y ≠ 13 ∧ (y < 35 ∨ 47 ≤ y) ∧ (y < 59 ∨ 67 < y) ∧ (y < 80 ∨ 91 < y)) → AgL L w V := fun L hL y hy => by
    have := hL y hy
    exact vy y (by omega) (by omega) (by unfold Sc; omega) (by omega) (by omega) (by unfold Tc; omega)
  refine ⟨nI (WG (fun i => w.2 (70 + s) i) n hh (w.1 77) z).2, X, V, ?_, ?_, Inv_blk (n := n) (h' := hh + (WG (fun i => w.2 (70 + s) i) n hh (w.1 77) z).2) h q2 ?_ (ag _ (by decide)) (ag _ (by decide)) (ag _ (by decide)) (ag _ (by decide)) (ag _ (by decide)) (t3.trans s3) (by rw [vy 0 (by decide) (by decide) (by unfold Sc; omega) (by decide) (by omega) (by unfold Tc; omega)]) (fun j hj => t4 j (by omega)) (fun y hy => by rw [t6, a5 y (by omega)]) (fun j hj => by rw [t6]; exact a6 j hj) (fun i hi0 => by have := sZ i hi0; simp only at this ⊢; rw [t2 _ (by omega) (by omega) (by unfold Sc; omega)]; exact this) ?_⟩
  · unfold f_X10_weather f_X6_isMissing
    rw [sh_e, q, bd1, if_neg (by decide), gd_in hs4 (by decide), cl_n (by omega), if_neg m0, bd1, if_pos rfl, s1]
    rfl
  · unfold f_X11_weather
    rw [sh_m, q, bd1, if_neg (by decide), gd_in hs4 (by decide), cl_n (by omega), X100, ← i1, if_neg m0, m1, bd1, t1]
    rfl
  · have e3 : V.1 3 = X.1 3 := t2 3 (by decide) (by decide) (by unfold Sc; omega)
    have e19 : V.1 19 = X.1 19 := t2 19 (by decide) (by decide) (by unfold Sc; omega)
    rw [e3, e19, t6]
    exact BI_F s4 fun i hi0 => t2 _ (by omega) (by omega) (by unfold Sc; omega)
  · rcases t5 with ⟨y0, y1⟩ | y1
    · refine FC_a h.2.2.2.2.2 (by rw [t6]; exact a7 y0) fun j h1 h2 => ?_
      by_cases e : j = 30
      · subst e; exact y1
      · exact t4 j e
    · exact FC_0 y1

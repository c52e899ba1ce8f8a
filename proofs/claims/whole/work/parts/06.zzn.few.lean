section FEWM
theorem RFw_76 {w V : Wd} {g : Nat → Int32} {n j : Nat} {x : Int32} {op : Nat → Int32} (hC : RFw w V g n op) : RFw (si w 76 j x) (si V 76 j x) g n op := by
  obtain ⟨c1, c2, c3, c4⟩ := hC
  refine ⟨fun y hy => ?_, c2, by rw [si_n (by decide)]; exact c3, fun i hi0 => ?_⟩
  · funext k
    rw [si_g, si_g, c1 y hy]
  · rw [si_n (show (80 : Nat) ≠ 76 by decide), si_n (show (81 : Nat) ≠ 76 by decide), si_n (show (82 : Nat) ≠ 76 by decide), si_n (show (83 : Nat) ≠ 76 by decide), si_n (show (84 : Nat) ≠ 76 by decide), si_n (show (85 : Nat) ≠ 76 by decide), si_n (show (87 : Nat) ≠ 76 by decide)]
    exact c4 i hi0
def few0 (V : Wd) (b : Int32) (hrs : Nat) : Wd := si (si (si V 76 30 1) 76 31 b) 76 32 (nI hrs)
def FewW (V W : Wd) (g : Nat → Int32) (n : Nat) (b : Int32) (hrs : Nat) : Prop := (∀ y, ¬ Sc y → y ≠ 76 → W.1 y = V.1 y) ∧ W.2 = V.2 ∧ (∀ j, j < 30 ∨ 37 < j → W.1 76 j = V.1 76 j) ∧ FRes (few g n b hrs) (W.1 76) ∧ W.1 76 30 = 1 ∧ W.1 76 31 = b ∧ W.1 76 32 = nI hrs
theorem fewF {V W : Wd} {g : Nat → Int32} {n : Nat} {b x : Int32} {hrs : Nat} (e1 : ∀ y, ¬ Sc y → y ≠ 76 → W.1 y = (si (few0 V b hrs) 76 33 x).1 y) (e2 : W.2 = V.2) (e3 : ∀ j, j < 33 ∨ 37 < j → W.1 76 j = (si (few0 V b hrs) 76 33 x).1 76 j) (e4 : FRes (few g n b hrs) (W.1 76)) : FewW V W g n b hrs := by
  refine ⟨fun y y1 y2 => ?_, e2, fun j hj => ?_, e4, ?_, ?_, ?_⟩
  · rw [e1 y y1 y2, si_n y2]
    unfold few0
    rw [si_n y2, si_n y2, si_n y2]
  · rw [e3 j (by omega), si_o (by omega)]
    unfold few0
    rw [si_o (by omega), si_o (by omega), si_o (by omega)]
  · rw [e3 30 (by omega), si_o (by omega)]
    unfold few0
    rw [si_o (by omega), si_o (by omega), si_s]
  · rw [e3 31 (by omega), si_o (by omega)]
    unfold few0
    rw [si_o (by omega), si_s]
  · rw [e3 32 (by omega), si_o (by omega)]
    unfold few0
    rw [si_s]
theorem few58 {V : Wd} {g : Nat → Int32} {n h : Nat} {b : Int32} {hrs : Nat} (hn : n ≤ 12) (hN : hrs ≤ 8) (h77 : V.1 77 = g) (h4 : g 4 = nI n) (hok : ∀ j, j < n → FlatOk g h j) : ∃ W, f_X11_findFew_J24 b (nI hrs) V = some W ∧ FewW V W g n b hrs := by
  have e77 : (few0 V b hrs).1 77 = g := by
    unfold few0
    rw [si_n (by decide), si_n (by decide), si_n (by decide)]
    exact h77
  have e2 : (few0 V b hrs).2 = V.2 := rfl
  obtain ⟨W0, m1, m2, m3, m4, m5⟩ := asideM (w := few0 V b hrs) hn (by rw [e77]; exact h4)
  rw [e77] at m4 m5
  have hR0 : RFw (few0 V b hrs) W0 g n (fun j => gx g j 3) := ⟨m2, m3, m4.1, fun i hi0 => ⟨(m4.2 i hi0).1, (m5 i hi0).1, (m5 i hi0).2, (m4.2 i hi0).2.2.1⟩⟩
  obtain ⟨V2, t1, t2⟩ := goodM (b := b) hn hN h4 hok hR0
  have e24 : f_X11_findFew_J24 b (nI hrs) V = if (if good g n b hrs (fun j => gx g j 3) = true then (1 : Int32) else 0) = 0 then f_X11_findFew_J58 b (nI hrs) (-1) V2 else f_X11_findFew_J58 b (nI hrs) 0 V2 := by
    unfold f_X11_findFew_J24
    simp only [lw_e]
    rw [show f_X11_setsAside (si (si (si V 76 30 1) 76 31 b) 76 32 (nI hrs)) = some W0 from m1, bd1, t1, bd1]
  rw [e24]
  by_cases hg : good g n b hrs (fun j => gx g j 3) = true
  · have ef : few g n b hrs = some [] := by unfold few; rw [if_pos hg]
    rw [if_pos hg, if_neg (by decide)]
    have hR := RFw_76 (j := 33) (x := 0) t2
    refine ⟨si V2 76 33 0, ?_, fewF (x := 0) (fun y y1 _ => hR.1 y y1) (hR.2.1.trans e2) (fun j _ => by rw [hR.1 76 (by unfold Sc; omega)]) ?_⟩
    · unfold f_X11_findFew_J58
      rw [lw_e, if_pos si_s]
    · rw [ef]
      exact si_s
  · have ef : few g n b hrs = (few1 g n b hrs).or (few2 g n b hrs) := by unfold few; rw [if_neg hg]
    rw [if_neg hg, if_pos rfl]
    have hR := RFw_76 (j := 33) (x := -1) t2
    obtain ⟨r, V3, a1, a2⟩ := oneX (b := b) hn hN h4 hok hR
    have e58 : f_X11_findFew_J58 b (nI hrs) (-1) V2 = if r = 0 then (lp (f_X11_findFew_L80 b (nI hrs)) FU (1, V3)).bind fun o30 => sm o30 (fun x32 => some x32.2) (fun y33 => some y33) else some V3 := by
      unfold f_X11_findFew_J58
      rw [lw_e, if_neg (by rw [si_s]; decide), a1, bd1]
    rw [e58]
    rcases a2 with ⟨rfl, x1, x2⟩ | ⟨rfl, f, v, x1, x2⟩
    · rw [if_pos rfl]
      obtain ⟨q, l1, l2⟩ := twoX (b := b) hn hN h4 hok x2
      rw [l1, bd1]
      rw [x1] at ef
      rcases l2 with ⟨z, V4, rfl, y1, y2⟩ | ⟨V4, f, v, k, u, rfl, y1, y2⟩
      · refine ⟨V4, rfl, fewF (x := -1) (fun y y1 _ => y2.1 y y1) (y2.2.1.trans e2) (fun j _ => by rw [y2.1 76 (by unfold Sc; omega)]) ?_⟩
        rw [ef, y1]
        show V4.1 76 33 = -1
        rw [y2.1 76 (by unfold Sc; omega)]
        exact si_s
      · refine ⟨V4, rfl, fewF (x := -1) y2.1 (y2.2.1.trans e2) y2.2.2.2 ?_⟩
        rw [ef, y1]
        exact y2.2.2.1
    · rw [if_neg (by decide)]
      refine ⟨V3, rfl, fewF (x := -1) x2.1 (x2.2.1.trans e2) x2.2.2.2 ?_⟩
      rw [ef, x1]
      exact x2.2.2.1
theorem fewM {V : Wd} {g : Nat → Int32} {n h : Nat} {b : Int32} {hrs : Nat} (hn : n ≤ 12) (hN : hrs ≤ 8) (h77 : V.1 77 = g) (h4 : g 4 = nI n) (hok : ∀ j, j < n → FlatOk g h j) (hF : FC V) : ∃ W, f_X11_findFew b (nI hrs) V = some W ∧ FewW V W g n b hrs := by
  obtain ⟨W, w1, w2⟩ := few58 (b := b) hn hN h77 h4 hok
  unfold f_X11_findFew
  rcases hF with e | ⟨e, n', hrs', c1, c2, c3, c4, c5⟩
  · rw [if_pos e]
    exact ⟨W, w1, w2⟩
  · rw [if_neg (by rw [e]; decide)]
    by_cases q : V.1 76 31 = b
    · rw [if_pos q]
      by_cases q2 : V.1 76 32 = nI hrs
      · rw [if_pos q2]
        have en : n' = n := (nI_eq (by omega) (by omega)).mp (c3.symm.trans (by rw [h77]; exact h4))
        have eh : hrs' = hrs := (nI_eq (by omega) (by omega)).mp (c4.symm.trans q2)
        subst en eh
        rw [h77, q] at c5
        exact ⟨V, rfl, fun _ _ _ => rfl, rfl, fun _ _ => rfl, c5, e, q, q2⟩
      · rw [if_neg q2]
        exact ⟨W, w1, w2⟩
    · rw [if_neg q]
      exact ⟨W, w1, w2⟩
def fewE (v3 : Int32) (o14 : Wd) : Option (Int32 × Wd) :=
  if 0 ≤ (o14.1 76 33) then
    if v3 = 0 then
      some (o14.1 76 33, o14)
    else
    if v3 = 1 then
      if (o14.1 76 33) ≤ 0 then
        f_X11_few_J106 0 o14
      else
        f_X11_few_J106 (1 <<< ((o14.1 76 34) &&& 31)) o14
    else
    if v3 = 2 then
      if (o14.1 76 33) ≤ 0 then
        f_X11_few_J149 0 o14
      else
        (f_X11_turnsOf (o14.1 76 34) (o14.1 76 36) o14).bind fun o26 =>
        f_X11_few_J149 o26 o14
    else
    if v3 = 3 then
      if (o14.1 76 33) ≤ 0 then
        some ((-1), o14)
      else
        some (o14.1 76 36, o14)
    else
    if (o14.1 76 33) ≤ 1 then
      some ((-1), o14)
    else
      some (o14.1 76 37, o14)
  else
    (f_X11_finds (-1000000004) o14).bind fun o31 =>
    some (o31.1, o31.2)
theorem fewT {W : Wd} {g : Nat → Int32} {n v3 : Nat} {L : List (Nat × Nat)} (hn : n ≤ 12) (hL : okL n L) (hF : FRes (some L) (W.1 76)) (h77 : W.1 77 = g) (hv : v3 ≤ 4) : fewE (nI v3) W = some (tl (fun j => gx g j 3) L (nI v3), W) := by
  have t : ∀ f v, f < n → f_X11_turnsOf (nI f) (nI v) W = some (if 0 ≤ nI v - gx g f 3 then nI v - gx g f 3 else 0 - (nI v - gx g f 3)) := fun f v hf => by
    unfold f_X11_turnsOf
    rw [get_3 (by omega), bd1, h77]
    by_cases q : 0 ≤ nI v - gx g f 3
    · rw [if_pos q, if_pos q]
    · rw [if_neg q, if_neg q, Int32.zero_sub]
  have n0 : nI 0 = 0 := rfl
  have n1 : nI 1 = 1 := rfl
  have n2 : nI 2 = 2 := rfl
  have n3 : nI 3 = 3 := rfl
  have n4 : nI 4 = 4 := rfl
  rcases hL with rfl | ⟨f, v, rfl, hf, hv9⟩ | ⟨f, v, k, u, rfl, hfk, hk, hv9, hu9⟩
  · have e : W.1 76 33 = 0 := hF
    rcases (by omega : v3 = 0 ∨ v3 = 1 ∨ v3 = 2 ∨ v3 = 3 ∨ v3 = 4) with q | q | q | q | q <;> subst q
    · simp [fewE, tl, e, n0]
    · simp [fewE, f_X11_few_J106, tl, e, n1]
    · simp [fewE, f_X11_few_J149, tl, e, n2]
    · simp [fewE, tl, e, n3]
    · simp [fewE, tl, e, n4]
  · obtain ⟨e1, e2, e3⟩ : W.1 76 33 = 1 ∧ W.1 76 34 = nI f ∧ W.1 76 36 = nI v := hF
    rcases (by omega : v3 = 0 ∨ v3 = 1 ∨ v3 = 2 ∨ v3 = 3 ∨ v3 = 4) with q | q | q | q | q <;> subst q
    · simp [fewE, tl, e1, n0]
    · simp [fewE, f_X11_few_J106, tl, e1, e2, n1]
    · simp [fewE, f_X11_few_J149, tl, e1, e2, e3, n2, t f v hf]
    · simp [fewE, tl, e1, e3, n3]
    · simp [fewE, tl, e1, n4]
  · obtain ⟨e1, e2, e3, e4, e5⟩ : W.1 76 33 = 2 ∧ W.1 76 34 = nI f ∧ W.1 76 36 = nI v ∧ W.1 76 35 = nI k ∧ W.1 76 37 = nI u := hF
    rcases (by omega : v3 = 0 ∨ v3 = 1 ∨ v3 = 2 ∨ v3 = 3 ∨ v3 = 4) with q | q | q | q | q <;> subst q
    · simp [fewE, tl, e1, n0]
    · simp [fewE, f_X11_few_J106, tl, e1, e2, e4, n1]
    · simp [fewE, f_X11_few_J149, tl, e1, e2, e3, e4, e5, n2, t f v (by omega), t k u hk]
    · simp [fewE, tl, e1, e3, n3]
    · simp [fewE, tl, e1, e5, n4]
theorem si_id {w : Wd} {a k : Nat} {x v : Int32} (h : w.1 a k = v) : si (si w a k x) a k v = w := by
  refine Prod.ext (funext fun p => funext fun q => ?_) rfl
  rw [si_g, si_g]
  by_cases e : p = a ∧ q = k
  · rw [if_pos e, e.1, e.2, h]
  · rw [if_neg e, if_neg e]
theorem Inv_few {w U : Wd} {n : Nat} {b : Int32} {hrs : Nat} (h : Inv w) (hn : n ≤ 12) (hN : hrs ≤ 8) (h4 : w.1 77 4 = nI n) (e : ∀ y, ¬ Tc y → ¬ Sc y → y ≠ 14 → y ≠ 68 → y ≠ 76 → U.1 y = w.1 y) (e2 : U.2 = w.2) (e3 : ∀ j, j < 30 ∨ 37 < j → U.1 76 j = w.1 76 j) (f1 : FRes (few (w.1 77) n b hrs) (U.1 76)) (f2 : U.1 76 30 = 1) (f3 : U.1 76 31 = b) (f4 : U.1 76 32 = nI hrs) : Inv U := by
  obtain ⟨a, t, c, d, k, _⟩ := h
  have h1 : ∀ k, Ess k = true → U.1 k = w.1 k := fun k hk => e k (Ess_no hk).1 (Ess_no hk).2.1 (Ess_no hk).2.2.2.1 (Ess_no hk).2.2.2.2 (Ess_no hk).2.2.1
  refine ⟨IF_a a (h1 16 rfl) (h1 79 rfl) (e3 4 (by omega)), IT_a t (h1 7 rfl) (h1 23 rfl) (h1 92 rfl) (e3 18 (by omega)), IS_a c (h1 74 rfl) (h1 75 rfl) (h1 100 rfl) (h1 101 rfl) e2, SRm_a d h1, IK_a k h1 (e3 2 (by omega)), Or.inr ⟨f2, n, hrs, hn, hN, ?_, f4, ?_⟩⟩
  · rw [h1 77 rfl]
    exact h4
  · rw [h1 77 rfl, f3]
    exact f1
theorem op_few {w : Wd} (h : Inv w) (v1 v2 v3 : Int32) : Op (f_X10_few v1 v2 v3) (f_X11_few v1 v2 v3) w := by
  rcases win_01 v1 0 999999 with z | z
  · refine op_no h (k := 0) (by decide) fc0 ?_ fun v => ?_
    · simp [f_X10_few, ab_e, z, bd_e]
    · simp [f_X11_few, ab_m, z, bd_e]
  rcases win_01 v2 1 8 with y | y
  · refine op_no h (k := 0) (by decide) fc0 ?_ fun v => ?_
    · simp [f_X10_few, ab_e, z, y, bd_e]
    · simp [f_X11_few, ab_m, in_e, z, y, bd_e]
  rcases win_01 v3 0 4 with x | x
  · refine op_no h (k := 0) (by decide) fc0 ?_ fun v => ?_
    · simp [f_X10_few, ab_e, z, y, x, bd_e]
    · simp [f_X11_few, ab_m, in_e, z, y, x, bd_e]
  obtain ⟨hrs, -, hN, rfl⟩ := win_nI y (A := 1) (B := 8) (by decide) (by decide) (by decide)
  obtain ⟨m3, -, hm, rfl⟩ := win_nI x (A := 0) (B := 4) (by decide) (by decide) (by decide)
  obtain ⟨n', _, b1, q1, q2, -, -, -, -, hl, -⟩ := ready h
  obtain ⟨n, hh, c, hB, -⟩ := h.2.2.2.1
  have en : n' = n := (nI_eq (by omega) (by have := hB.1; omega)).mp (q1.symm.trans hB.2.2.1.1)
  subst en
  have hok : ∀ j, j < n' → FlatOk (w.1 77) hh j := fun j hj => (hB.2.2.2.2.1 j hj).2
  obtain ⟨r, V, nw, s1, s2, s3, s4⟩ := seekX (b := v1) b1 hN hB hl
  have eC : f_X10_few v1 (nI hrs) (nI m3) w = if r = 0 then (f_X10_finding (-1000000004) V).bind (fun o19 => some (o19.1, o19.2)) else (f_X3_tell (nI m3) V).bind fun o17 => some (o17, V) := by
    unfold f_X10_few
    rw [ab_e, z, bd1, if_neg (by decide), y, bd1, if_neg (by decide), x, bd1, if_neg (by decide), s1, bd1]
  have eR : ∀ {V W : Wd}, f_X11_findFew v1 (nI hrs) V = some W → f_X11_few v1 (nI hrs) (nI m3) V = fewE (nI m3) W := fun {V W} e => by
    unfold f_X11_few
    rw [ab_m, z, bd1, if_neg (by decide), in_e, y, bd1, if_neg (by decide), in_e, x, bd1, if_neg (by decide), e, bd1]
    rfl
  rcases hfew : few (w.1 77) n' v1 hrs with - | L
  · obtain ⟨rfl, x0, hO⟩ := s3 hfew
    have oy : ∀ y, ¬ Tc y → y ≠ 14 → y ≠ 68 → y ≠ 16 → (si V 16 3 (V.1 16 3 + 1)).1 y = w.1 y := fun y y1 y2 y3 y4 => by rw [si_n y4, hO.1 y y1 y2 y3]
    obtain ⟨W, f1, g1, g2, g3, g4, g5, g6, g7⟩ := fewM (V := si V 16 3 (V.1 16 3 + 1)) (b := v1) b1 hN (oy 77 (by unfold Tc; omega) (by decide) (by decide) (by decide)) q2 hok (FC_a h.2.2.2.2.2 (oy 77 (by unfold Tc; omega) (by decide) (by decide) (by decide)) (fun j _ _ => by rw [oy 76 (by unfold Tc; omega) (by decide) (by decide) (by decide)]))
    have w16 : W.1 16 3 = V.1 16 3 + 1 := by rw [g1 16 (by unfold Sc; omega) (by decide), si_s]
    have g33 : W.1 76 33 = -1 := by
      rw [hfew] at g4
      exact g4
    have hU : Inv (si W 16 3 (V.1 16 3)) := by
      refine Inv_few h b1 hN q2 (b := v1) (hrs := hrs) (fun y y1 y2 y3 y4 y5 => ?_) (g2.trans hO.2.1) (fun j hj => ?_) ?_ ?_ ?_ ?_
      · by_cases e : y = 16
        · subst e
          funext k
          rw [si_g, g1 16 y2 y5, si_g, ← hO.1 16 y1 y3 y4]
          by_cases e : k = 3
          · rw [if_pos ⟨rfl, e⟩, e]
          · rw [if_neg (fun z => e z.2), if_neg (fun z => e z.2)]
        · rw [si_n e, g1 y y2 y5, oy y y1 y3 y4 e]
      · rw [si_n (by decide), g3 j hj, oy 76 (by unfold Tc; omega) (by decide) (by decide) (by decide)]
      · rw [si_n (by decide)]
        exact g4
      · rw [si_n (by decide)]
        exact g5
      · rw [si_n (by decide)]
        exact g6
      · rw [si_n (by decide)]
        exact g7
    have hI := refuse (k := 3) hU (by decide)
    rw [show (si W 16 3 (V.1 16 3)).1 16 3 = V.1 16 3 from si_s, si_id w16] at hI
    refine ⟨fcode 3, si V 16 3 (V.1 16 3 + 1), _, ?_, ?_, hI⟩
    · show f_X10_few v1 (nI hrs) (nI m3) w = _
      rw [eC, if_pos rfl, bd_e, fc3, fnd (by decide)]
    · show f_X11_few v1 (nI hrs) (nI m3) _ = _
      rw [eR f1]
      unfold fewE
      rw [g33, if_neg (by decide), bd_e, fc3, fds (by decide)]
  · obtain ⟨rfl, hL, hO⟩ := s4 L hfew
    obtain ⟨W, f1, g1, g2, g3, g4, g5, g6, g7⟩ := fewM (V := V) (b := v1) b1 hN (hO.1 77 (by unfold Tc; omega) (by decide) (by decide)) q2 hok (FC_a h.2.2.2.2.2 (hO.1 77 (by unfold Tc; omega) (by decide) (by decide)) (fun j _ _ => by rw [hO.1 76 (by unfold Tc; omega) (by decide) (by decide)]))
    have eT : f_X3_tell (nI m3) V = some (tl (fun j => gx (w.1 77) j 3) L (nI m3)) := by
      refine tellX b1 ?_ (fun i hi0 => ?_) hL hO.2.2 s2 hm
      · rw [hO.1 3 (by unfold Tc; omega) (by decide) (by decide)]
        exact q1
      · rw [hO.1 (35 + i) (by unfold Tc; omega) (by omega) (by omega)]
        exact (hB.2.2.2.2.1 i hi0).1.2.2.2 3 (by decide) (by decide)
    refine ⟨tl (fun j => gx (w.1 77) j 3) L (nI m3), V, W, ?_, ?_, Inv_few h b1 hN q2 (b := v1) (hrs := hrs) (fun y y1 y2 y3 y4 y5 => ?_) (g2.trans hO.2.1) (fun j hj => ?_) g4 g5 g6 g7⟩
    · show f_X10_few v1 (nI hrs) (nI m3) w = _
      rw [eC, if_neg (by decide), eT, bd1]
    · show f_X11_few v1 (nI hrs) (nI m3) V = _
      rw [eR f1]
      refine fewT b1 hL (by rw [← hfew]; exact g4) ?_ hm
      rw [g1 77 (by unfold Sc; omega) (by decide), hO.1 77 (by unfold Tc; omega) (by decide) (by decide)]
    · rw [g1 y y2 y5, hO.1 y y1 y3 y4]
    · rw [g3 j hj, hO.1 76 (by unfold Tc; omega) (by decide) (by decide)]
end FEWM

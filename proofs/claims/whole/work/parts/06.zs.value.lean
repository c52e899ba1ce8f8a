/-! the rule's value of a flat -/
def fvX (g : Nat → Int32) (i : Nat) (k : Nat) : Int32 := if k = 0 then gx g i 7 else if k = 1 then gx g i 8 else if k = 2 then gx g i 9 else if k = 3 then gx g i 2 else if k = 4 then gx g i 0 else if k = 5 then nI i else if k = 6 then gx g i 1 else nI (pl g i)
theorem nm8 {c : Int32} {k : Nat} (hn : nmI c = some k) : k < 8 := by
  unfold nmI at hn
  repeat' split at hn
  all_goals cases hn
  all_goals decide
theorem pF_v {tb : Nat → Int32} {s : Nat} {vals vals' : Nat → Int32} (h : ∀ k, k < 8 → vals' k = vals k) {S : Nat → Nat × Bool → Int32 × (Nat × Bool)} {d : Nat} : pF tb s vals' S d = pF tb s vals S d := by
  funext st
  unfold pF
  rcases hn : nmI (tkn tb s st) with - | k
  · rfl
  · rw [show (some k).elim (0, (st.1, true)) (fun k => (vals' k, (st.1 + 1, st.2))) = (some k).elim (0, (st.1, true)) (fun k => (vals k, (st.1 + 1, st.2))) from (by
      show (vals' k, _) = (vals k, _)
      rw [h k (nm8 hn)])]
theorem pS_v {tb : Nat → Int32} {s : Nat} {vals vals' : Nat → Int32} (h : ∀ k, k < 8 → vals' k = vals k) : ∀ n, pS tb s vals' n = pS tb s vals n
  | 0 => rfl
  | n + 1 => funext fun d => funext fun st => by
    show pS1 tb s (pP tb s (pF tb s vals' (pS tb s vals' n) d)) 80 (pP tb s (pF tb s vals' (pS tb s vals' n) d) st) = pS1 tb s (pP tb s (pF tb s vals (pS tb s vals n) d)) 80 (pP tb s (pF tb s vals (pS tb s vals n) d) st)
    rw [pS_v h n, pF_v h]
theorem valX {w : Wd} {s i : Nat} (hi0 : i < 12) (hs : s ≤ 80) (h1 : w.1 5 1 = nI s) (hb : ∀ i, i < s → ∃ b, b < 256 ∧ w.1 21 i = nI b) (hF : FlatEq (w.1 (35 + i)) (w.1 77) i) : ∃ W, f_X5_value 10 (nI i) w = some ((pS (w.1 21) s (fvX (w.1 77) i) 5 0 (0, false)).1, W) ∧ (∀ y, y ≠ 10 → y ≠ 32 → W.1 y = w.1 y) ∧ W.2 = w.2 := by
  have r1 : rf 10 1 = 32 := rfl
  obtain ⟨f0, f1, f2, f3⟩ := hF
  have f7 := f3 7 (by decide) (by decide)
  have f8 := f3 8 (by decide) (by decide)
  have f9 := f3 9 (by decide) (by decide)
  have f22 := f3 2 (by decide) (by decide)
  have nF : ∀ {V : Wd} {k : Nat} {v : Int32}, (si V 32 k v).1 (35 + i) = V.1 (35 + i) := si_n (by omega)
  generalize hV : si (si (si (si (si (si (si (si w 32 0 (w.1 (35 + i) 8)) 32 1 (w.1 (35 + i) 9)) 32 2 (w.1 (35 + i) 10)) 32 3 (w.1 (35 + i) 3)) 32 4 (w.1 (35 + i) 0)) 32 5 (nI i)) 32 6 (w.1 (35 + i) 1)) 32 7 (w.1 (35 + i) 2) = V
  have nV : ∀ y, y ≠ 32 → V.1 y = w.1 y := fun y hy => by rw [← hV, si_n hy, si_n hy, si_n hy, si_n hy, si_n hy, si_n hy, si_n hy, si_n hy]
  have vv : ∀ k, k < 8 → V.1 32 k = fvX (w.1 77) i k := fun k hk => by
    rw [← hV]
    rcases (by omega : k = 0 ∨ k = 1 ∨ k = 2 ∨ k = 3 ∨ k = 4 ∨ k = 5 ∨ k = 6 ∨ k = 7) with e | e | e | e | e | e | e | e <;> subst e <;> simp [si_g, fvX, f0, f1, f2, f7, f8, f9, f22]
  have H : PH V 10 (w.1 21) s (V.1 32) := ⟨⟨by decide, by decide, by decide⟩, by rw [show rf 10 0 = 5 from rfl, nV 5 (by decide)]; exact h1, hs, hb, by rw [show rf (rf 10 0) 0 = 21 from rfl, nV 21 (by decide)], rfl⟩
  obtain ⟨p1, p2⟩ := sumN H 5 0 (by decide) (by decide) (0, false) (Nat.zero_le _)
  rw [pS_v vv 5] at p1
  refine ⟨PW V 10 (pS (w.1 21) s (fvX (w.1 77) i) 5 0 (0, false)).2, ?_, fun y y1 y2 => by rw [PW_n y1, nV y y2], ?_⟩
  · unfold f_X5_value
    rw [gd_in hi0 (by decide), cl_n (by omega), r1]
    simp only [lw_e]
    simp only [nF]
    rw [hV, show si (si V 10 2 0) 10 3 (-1) = PW V 10 (0, false) from rfl, show f_X5_readSum 5 10 0 (PW V 10 (0, false)) = _ from p1, bd1]
  · show V.2 = _
    rw [← hV]
    rfl
theorem div_m1 (a : Int32) : a / (-1) = -a := by
  have h : (-1 : Int32).toInt = -1 := by decide
  rw [i_eq, Int32.toInt_div, h, Int.tdiv_neg, Int.tdiv_one, Int32.toInt_neg]
theorem doneX (c a b : Int32) : f_X11_done c a b = some (dn c a b) := by
  unfold f_X11_done dn
  by_cases h1 : c = 10100
  · rw [if_pos h1, if_pos h1]
  rw [if_neg h1, if_neg h1]
  by_cases h2 : c = 10101
  · rw [if_pos h2, if_pos h2]
  rw [if_neg h2, if_neg h2]
  by_cases h3 : c = 10102
  · rw [if_pos h3, if_pos h3]
  rw [if_neg h3, if_neg h3]
  by_cases h4 : b = 0
  · rw [if_pos h4, if_pos h4]
  rw [if_neg h4, if_neg h4]
  by_cases h5 : b = -1
  · rw [if_pos h5, h5, div_m1]
  · rw [if_neg h5, gd_nz h4]
theorem factX {w : Wd} {i : Nat} {c : Int32} (hi0 : i < 12) (h0 : ¬ c < 10000) (h1 : c < 10100) : f_X11_factOf (nI i) (c - 10000) w = some (fvX (w.1 77) i (c - 10000).toNatClampNeg) := by
  have k1 : (10000 : Int32).toInt = 10000 := by decide
  have k2 : (10100 : Int32).toInt = 10100 := by decide
  rw [i_lt] at h0 h1
  obtain ⟨j, j1, j2⟩ := nI_rng (v := c - 10000) (a := 99) (by decide) (by rw [i_sub (by omega) (by omega)]; omega) (by rw [i_sub (by omega) (by omega)]; omega)
  rw [j2, cl_n (by omega)]
  have ne : ∀ k : Nat, k < 100 → (nI j = nI k ↔ j = k) := fun k hk => nI_eq (by omega) (by omega)
  unfold f_X11_factOf fvX
  by_cases e0 : j = 0
  · subst e0
    rw [if_pos (show nI 0 = 0 from rfl), get_7 hi0]
    rfl
  rw [if_neg (show ¬ nI j = 0 from fun z => e0 ((ne 0 (by decide)).mp z)), if_neg e0]
  by_cases e1 : j = 1
  · subst e1
    rw [if_pos (show nI 1 = 1 from rfl), get_8 hi0]
    rfl
  rw [if_neg (show ¬ nI j = 1 from fun z => e1 ((ne 1 (by decide)).mp z)), if_neg e1]
  by_cases e2 : j = 2
  · subst e2
    rw [if_pos (show nI 2 = 2 from rfl), get_9 hi0]
    rfl
  rw [if_neg (show ¬ nI j = 2 from fun z => e2 ((ne 2 (by decide)).mp z)), if_neg e2]
  by_cases e3 : j = 3
  · subst e3
    rw [if_pos (show nI 3 = 3 from rfl), get_2 hi0]
    rfl
  rw [if_neg (show ¬ nI j = 3 from fun z => e3 ((ne 3 (by decide)).mp z)), if_neg e3]
  by_cases e4 : j = 4
  · subst e4
    rw [if_pos (show nI 4 = 4 from rfl), get_0 hi0]
    rfl
  rw [if_neg (show ¬ nI j = 4 from fun z => e4 ((ne 4 (by decide)).mp z)), if_neg e4]
  by_cases e5 : j = 5
  · subst e5
    rw [if_pos (show nI 5 = 5 from rfl)]
    rfl
  rw [if_neg (show ¬ nI j = 5 from fun z => e5 ((ne 5 (by decide)).mp z)), if_neg e5]
  by_cases e6 : j = 6
  · subst e6
    rw [if_pos (show nI 6 = 6 from rfl), get_1 hi0]
    rfl
  rw [if_neg (show ¬ nI j = 6 from fun z => e6 ((ne 6 (by decide)).mp z)), if_neg e6, placeM hi0]
  rfl
def cdl (g : Nat → Int32) (i : Nat) : Nat → List Int32
  | 0 => []
  | k + 1 => g (211 + i) :: cdl g (i + 1) k
theorem cdl_e (g : Nat → Int32) : ∀ (k i : Nat), (List.range k).map (fun j => g (211 + (i + j))) = cdl g i k
  | 0, _ => rfl
  | k + 1, i => by
    rw [List.range_succ_eq_map, List.map_cons, List.map_map]
    show g (211 + (i + 0)) :: _ = g (211 + i) :: cdl g (i + 1) k
    rw [← cdl_e g k (i + 1)]
    congr 1
    apply List.map_congr_left
    intro j _
    show g (211 + (i + (j + 1))) = g (211 + (i + 1 + j))
    congr 1
    omega
theorem codes_d (g : Nat → Int32) (t : Nat) : codes g t = cdl g 0 t := by
  rw [← cdl_e]
  unfold codes
  apply List.map_congr_left
  intro j _
  rw [Nat.zero_add]
theorem saysL {w : Wd} {v t : Nat} (hv : v < 12) (ht : t ≤ 80) (h6 : w.1 77 6 = nI t) : ∀ (k i : Nat) (P R : List Int32) (W : Wd) (F : Nat), i + k = t → P.length ≤ i → rrun (fvX (w.1 77) v) (cdl (w.1 77) i k) P = some R → k < F → (∀ y, y ≠ 95 → W.1 y = w.1 y) → W.2 = w.2 → Stk (W.1 95) P → ∃ q W', lp (f_X11_says_L4 (nI v)) F (nI P.length, nI i, W) = some (nI R.length, q, W') ∧ (∀ y, y ≠ 95 → W'.1 y = w.1 y) ∧ W'.2 = w.2 ∧ Stk (W'.1 95) R
  | _, _, _, _, _, 0, _, _, _, hF, _, _, _ => absurd hF (Nat.not_lt_zero _)
  | 0, i, P, R, W, F + 1, hi0, _, hr, _, h1, h2, h3 => by
    have e : i = t := by omega
    subst e
    have eR : P = R := Option.some.inj hr
    subst eR
    refine ⟨nI i, W, ?_, h1, h2, h3⟩
    show (f_X11_says_L4 _ _).bind _ = _
    unfold f_X11_says_L4
    simp only
    rw [h1 77 (by decide), h6, if_pos (nle' i)]
    rfl
  | k + 1, i, P, R, W, F + 1, hi0, hP, hr, hF, h1, h2, h3 => by
    have e77 := h1 77 (by decide)
    have step : ∀ (P' : List Int32) (W' : Wd), rstep (fvX (w.1 77) v) (w.1 77 (211 + i)) P = some P' → P'.length ≤ P.length + 1 → f_X11_says_L4 (nI v) (nI P.length, nI i, W) = some (.inl (nI P'.length, nI (i + 1), W')) → (∀ y, y ≠ 95 → W'.1 y = w.1 y) → W'.2 = w.2 → Stk (W'.1 95) P' → ∃ q W', lp (f_X11_says_L4 (nI v)) (F + 1) (nI P.length, nI i, W) = some (nI R.length, q, W') ∧ (∀ y, y ≠ 95 → W'.1 y = w.1 y) ∧ W'.2 = w.2 ∧ Stk (W'.1 95) R := by
      intro P' W' a1 a2 a3 a4 a5 a6
      have hr2 : (rstep (fvX (w.1 77) v) (w.1 77 (211 + i)) P).bind (rrun (fvX (w.1 77) v) (cdl (w.1 77) (i + 1) k)) = some R := hr
      rw [a1] at hr2
      obtain ⟨q, W'', b1, b2⟩ := saysL hv ht h6 k (i + 1) P' R W' F (by omega) (by omega) hr2 (by omega) a4 a5 a6
      refine ⟨q, W'', ?_, b2⟩
      show (f_X11_says_L4 _ _).bind _ = _
      rw [a3]
      exact b1
    have hr2 : (rstep (fvX (w.1 77) v) (w.1 77 (211 + i)) P).bind (rrun (fvX (w.1 77) v) (cdl (w.1 77) (i + 1) k)) = some R := hr
    generalize hc : w.1 77 (211 + i) = c at *
    have k1 : (10000 : Int32).toInt = 10000 := by decide
    have k2 : (10100 : Int32).toInt = 10100 := by decide
    have e0 : f_X11_says_L4 (nI v) (nI P.length, nI i, W) = (if 10000 ≤ c then
      if 10100 ≤ c then
        if c = 10104 then
          gd (inB ((nI P.length + (-2)) - 1) 80) <|
          if (W.1 95 (((nI P.length + (-2)) - 1).toNatClampNeg)) = 0 then
            gd (inB ((nI P.length + (-2)) + 1) 80) <|
            gd (inB ((nI P.length + (-2)) - 1) 80) <|
            lw (si W 95 ((nI P.length + (-2)) - 1).toNatClampNeg (W.1 95 (((nI P.length + (-2)) + 1).toNatClampNeg))) fun w16 =>
            some (.inl (nI P.length + (-2), nI i + 1, w16))
          else
            gd (inB (nI P.length + (-2)) 80) <|
            gd (inB ((nI P.length + (-2)) - 1) 80) <|
            lw (si W 95 ((nI P.length + (-2)) - 1).toNatClampNeg (W.1 95 ((nI P.length + (-2)).toNatClampNeg))) fun w19 =>
            some (.inl (nI P.length + (-2), nI i + 1, w19))
        else
          gd (inB ((nI P.length + (-1)) - 1) 80) <|
          gd (inB (nI P.length + (-1)) 80) <|
          (f_X11_done c (W.1 95 (((nI P.length + (-1)) - 1).toNatClampNeg)) (W.1 95 ((nI P.length + (-1)).toNatClampNeg))).bind fun o8 =>
          gd (inB ((nI P.length + (-1)) - 1) 80) <|
          lw (si W 95 ((nI P.length + (-1)) - 1).toNatClampNeg o8) fun w11 =>
          some (.inl (nI P.length + (-1), nI i + 1, w11))
      else
        (f_X11_factOf (nI v) (c - 10000) W).bind fun o20 =>
        gd (inB (nI P.length) 80) <|
        lw (si W 95 (nI P.length).toNatClampNeg o20) fun w23 =>
        some (.inl (nI P.length + 1, nI i + 1, w23))
    else
      gd (inB (nI P.length) 80) <|
      lw (si W 95 (nI P.length).toNatClampNeg c) fun w25 =>
      some (.inl (nI P.length + 1, nI i + 1, w25))) := by
      unfold f_X11_says_L4
      simp only
      rw [e77, h6, if_neg (nle (show i < t by omega) (by omega)), show (211 : Int32) + nI i = nI (211 + i) from nI_add 211 i, gd_in (by omega) (by decide), cl_n (by omega), hc]
    have push : ∀ x : Int32, (∀ y, y ≠ 95 → (si W 95 P.length x).1 y = w.1 y) ∧ (si W 95 P.length x).2 = w.2 ∧ Stk ((si W 95 P.length x).1 95) (x :: P) := fun x => ⟨fun y hy => (si_n hy).trans (h1 y hy), h2, si_s, Stk_c (fun j hj => si_o (by omega)) h3⟩
    by_cases c1 : c < 10000
    · refine step (c :: P) (si W 95 P.length c) (by unfold rstep; rw [if_pos c1]) (Nat.le_refl _) ?_ (push c).1 (push c).2.1 (push c).2.2
      rw [e0, if_neg (by rw [i_le]; rw [i_lt] at c1; omega), gd_in (by omega) (by decide), cl_n (by omega), lw_e, nI_1, nI_1]
      rfl
    by_cases c2 : c < 10100
    · refine step (fvX (w.1 77) v (c - 10000).toNatClampNeg :: P) (si W 95 P.length (fvX (w.1 77) v (c - 10000).toNatClampNeg)) (by unfold rstep; rw [if_neg c1, if_pos c2]) (Nat.le_refl _) ?_ (push _).1 (push _).2.1 (push _).2.2
      rw [e0, if_pos (by rw [i_le]; rw [i_lt] at c1; omega), if_neg (by rw [i_le]; rw [i_lt] at c2; omega), factX hv c1 c2, e77, bd1, gd_in (by omega) (by decide), cl_n (by omega), lw_e, nI_1, nI_1]
      rfl
    have c3 : 10000 ≤ c := by rw [i_le]; rw [i_lt] at c1; omega
    have c4 : 10100 ≤ c := by rw [i_le]; rw [i_lt] at c2; omega
    clear hr
    rcases P with - | ⟨z, - | ⟨y, Q⟩⟩
    · have : rstep (fvX (w.1 77) v) c [] = none := by unfold rstep; rw [if_neg c1, if_neg c2]
      rw [this] at hr2
      cases hr2
    · have : rstep (fvX (w.1 77) v) c [z] = none := by unfold rstep; rw [if_neg c1, if_neg c2]
      rw [this] at hr2
      cases hr2
    · have l2 : (z :: y :: Q).length = Q.length + 2 := rfl
      have s1 : nI (z :: y :: Q).length + (-1) = nI (Q.length + 1) := by rw [← Int32.sub_eq_add_neg]; exact nI_pred _
      have s2 : nI (z :: y :: Q).length + (-2) = nI Q.length := by
        rw [← Int32.sub_eq_add_neg]
        exact nI_sub (a := Q.length + 2) (b := 2) (by omega)
      have s3 : nI (Q.length + 1) - 1 = nI Q.length := nI_pred _
      have hQ : Q.length + 2 ≤ i := hP
      obtain ⟨st1, st2, st3⟩ := h3
      have st1' : W.1 95 (Q.length + 1) = z := st1
      have repl : ∀ x : Int32, (∀ y, y ≠ 95 → (si W 95 Q.length x).1 y = w.1 y) ∧ (si W 95 Q.length x).2 = w.2 ∧ Stk ((si W 95 Q.length x).1 95) (x :: Q) := fun x => ⟨fun y hy => (si_n hy).trans (h1 y hy), h2, si_s, Stk_c (fun j hj => si_o (by omega)) st3⟩
      by_cases c5 : c = 10104
      · rcases Q with - | ⟨x, Q⟩
        · have : rstep (fvX (w.1 77) v) c [z, y] = none := by unfold rstep; rw [if_neg c1, if_neg c2]; simp only; rw [if_pos c5]
          rw [this] at hr2
          cases hr2
        · have l3 : (x :: Q).length = Q.length + 1 := rfl
          have s4 : nI (x :: Q).length - 1 = nI Q.length := nI_pred _
          have s5 : nI (x :: Q).length + 1 = nI (Q.length + 2) := nI_1 _
          have st2' : W.1 95 (Q.length + 1) = y := st2
          have st1'' : W.1 95 (Q.length + 2) = z := st1'
          have repl3 : ∀ x : Int32, (∀ y, y ≠ 95 → (si W 95 Q.length x).1 y = w.1 y) ∧ (si W 95 Q.length x).2 = w.2 ∧ Stk ((si W 95 Q.length x).1 95) (x :: Q) := fun x => ⟨fun y hy => (si_n hy).trans (h1 y hy), h2, si_s, Stk_c (fun j hj => si_o (by omega)) st3.2⟩
          refine step ((if x = 0 then z else y) :: Q) (si W 95 Q.length (if x = 0 then z else y)) (by unfold rstep; rw [if_neg c1, if_neg c2]; simp only; rw [if_pos c5]) (by simp only [List.length_cons]; omega) ?_ (repl3 _).1 (repl3 _).2.1 (repl3 _).2.2
          rw [e0, if_pos c3, if_pos c4, if_pos c5, s2, s4, s5, gd_in (by omega) (by decide), cl_n (by omega), st3.1]
          by_cases x0 : x = 0
          · rw [if_pos x0, if_pos x0, gd_in (by omega) (by decide), gd_in (by omega) (by decide), cl_n (by omega), lw_e, st1'', nI_1]
            rfl
          · rw [if_neg x0, if_neg x0, gd_in (by omega) (by decide), gd_in (by omega) (by decide), l3, cl_n (by omega), lw_e, st2', nI_1]
            rfl
      · refine step (dn c y z :: Q) (si W 95 Q.length (dn c y z)) (by unfold rstep; rw [if_neg c1, if_neg c2]; simp only; rw [if_neg c5]) (by simp only [List.length_cons]; omega) ?_ (repl _).1 (repl _).2.1 (repl _).2.2
        rw [e0, if_pos c3, if_pos c4, if_neg c5, s1, s3, gd_in (by omega) (by decide), gd_in (by omega) (by decide), cl_n (by omega), cl_n (by omega), st2, st1', doneX, bd1, gd_in (by omega) (by decide), lw_e, nI_1]
        rfl
theorem saysM {w : Wd} {v t : Nat} {x : Int32} (hv : v < 12) (ht : t ≤ 80) (h6 : w.1 77 6 = nI t) (hr : rrun (fvX (w.1 77) v) (codes (w.1 77) t) [] = some [x]) : ∃ W, f_X11_says (nI v) w = some (x, W) ∧ (∀ y, y ≠ 95 → W.1 y = w.1 y) ∧ W.2 = w.2 := by
  rw [codes_d] at hr
  obtain ⟨q, W, a1, a2, a3, a4⟩ := saysL hv ht h6 t 0 [] [x] w FU (by omega) (Nat.le_refl _) hr (by unfold FU; omega) (fun _ _ => rfl) rfl trivial
  refine ⟨W, ?_, a2, a3⟩
  unfold f_X11_says
  rw [show ((0 : Int32), (0 : Int32), w) = (nI ([] : List Int32).length, nI 0, w) from rfl, a1, bd1, show W.1 95 0 = x from a4.1]

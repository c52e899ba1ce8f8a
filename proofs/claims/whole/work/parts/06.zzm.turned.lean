section TURNED
variable {w : Wd} {g : Nat → Int32} {n h : Nat} {b : Int32} {hrs : Nat}
theorem upf_4 {o : Nat → Int32} {f k : Nat} {x y v u : Int32} : upf (upf (upf (upf o f x) k y) f v) k u = upf (upf o f v) k u := by
  funext j
  by_cases e : j = k <;> by_cases e2 : j = f <;> simp [upf, e, e2]
theorem turnI {V : Wd} {f k v : Nat} (hn : n ≤ 12) (hN : hrs ≤ 8) (hf : f < k) (hk : k < n) (h4 : g 4 = nI n) (hok : ∀ j, j < n → FlatOk g h j) (hC : ∃ x y, RFw w V g n (upf (upf (fun j => gx g j 3) f x) k y)) : ∃ r, lp (f_X11_areTurned_L13 (nI f) (nI k) b (nI hrs) (nI v)) FU (0, V) = some r ∧ ((∃ z V', r = .inl (z, V') ∧ ff (fun u => fewB g n b hrs f k v u) 9 = none ∧ ∃ x y, RFw w V' g n (upf (upf (fun j => gx g j 3) f x) k y)) ∨ ∃ V' u, r = .inr (1, V') ∧ ff (fun u => fewB g n b hrs f k v u) 9 = some [(f, v), (k, u)] ∧ OutR w V' [(f, v), (k, u)]) := by
  refine lp_n (fun u z => z.1 = nI u ∧ ff (fun u => fewB g n b hrs f k v u) u = none ∧ ∃ x y, RFw w z.2 g n (upf (upf (fun j => gx g j 3) f x) k y)) 9 _ ⟨rfl, rfl, hC⟩ (FU_lt (by omega)) ?_ ?_
  · rintro u ⟨a, U⟩ hu ⟨e1, e2, x, y, e3⟩
    simp only at e1 e3
    subst e1
    have hR : RFw w (si (si U 85 f (nI v)) 85 k (nI u)) g n (upf (upf (fun j => gx g j 3) f (nI v)) k (nI u)) := by
      have := RFw_5 (f := k) (x := nI u) (RFw_5 (f := f) (x := nI v) e3)
      rw [upf_4] at this
      exact this
    have n9 : ¬ (9 : Int32) ≤ nI u := nle (n := 9) hu (by decide)
    unfold f_X11_areTurned_L13
    simp only
    rw [if_neg n9, gd_in (by omega) (by decide), cl_n (by omega), lw_e, gd_in (by omega) (by decide), cl_n (by omega), lw_e, get_3 (by omega), bd1, hR.2.2.1]
    by_cases q : nI v = gx g f 3
    · rw [if_pos q]
      exact Or.inl ⟨(nI (u + 1), si (si U 85 f (nI v)) 85 k (nI u)), by rw [nI_1], rfl, ff_0 e2 (by unfold fewB; rw [if_pos (Or.inl q)]), nI v, nI u, hR⟩
    · rw [if_neg q, get_3 (by omega), bd1, hR.2.2.1]
      by_cases q2 : nI u = gx g k 3
      · rw [if_pos q2]
        exact Or.inl ⟨(nI (u + 1), si (si U 85 f (nI v)) 85 k (nI u)), by rw [nI_1], rfl, ff_0 e2 (by unfold fewB; rw [if_pos (Or.inr q2)]), nI v, nI u, hR⟩
      · rw [if_neg q2]
        obtain ⟨V', t1, t2⟩ := goodM (b := b) hn hN h4 hok hR
        rw [t1, bd1]
        have qq : ¬ (nI v = gx g f 3 ∨ nI u = gx g k 3) := fun z => z.elim q q2
        cases hQ : good g n b hrs (upf (upf (fun j => gx g j 3) f (nI v)) k (nI u)) with
        | false =>
          refine Or.inl ⟨(nI (u + 1), V'), ?_, rfl, ff_0 e2 (by unfold fewB; rw [if_neg qq, if_neg (by rw [hQ]; decide)]), nI v, nI u, t2⟩
          rw [← nI_1]
          rfl
        | true =>
          refine Or.inr ⟨.inr (1, si (si (si (si (si V' 76 33 2) 76 34 (nI f)) 76 35 (nI k)) 76 36 (nI v)) 76 37 (nI u)), ?_, Or.inr ⟨_, u, rfl, ?_, fun y y1 y2 => ?_, t2.2.1, ?_, fun j hj => ?_⟩⟩
          · rfl
          · have := ff_1 (x := [(f, v), (k, u)]) e2 (by unfold fewB; rw [if_neg qq, if_pos hQ]) (9 - (u + 1))
            rw [show u + 1 + (9 - (u + 1)) = 9 by omega] at this
            exact this
          · rw [si_n y2, si_n y2, si_n y2, si_n y2, si_n y2]
            exact t2.1 y y1
          · refine ⟨?_, ?_, ?_, ?_, ?_⟩
            · rw [si_o (by decide), si_o (by decide), si_o (by decide), si_o (by decide), si_s]
            · rw [si_o (by decide), si_o (by decide), si_o (by decide), si_s]
            · rw [si_o (by decide), si_s]
            · rw [si_o (by decide), si_o (by decide), si_s]
            · rw [si_s]
          · rw [si_o (by omega), si_o (by omega), si_o (by omega), si_o (by omega), si_o (by omega), t2.1 76 (by unfold Sc; omega)]
  · rintro ⟨a, U⟩ ⟨e1, e2, e3⟩
    simp only at e1 e3
    subst e1
    refine ⟨.inl (nI 9, U), ?_, Or.inl ⟨nI 9, U, rfl, e2, e3⟩⟩
    unfold f_X11_areTurned_L13
    rw [if_pos (show (9 : Int32) ≤ nI 9 by decide)]
theorem turnX {V : Wd} {f k : Nat} (hn : n ≤ 12) (hN : hrs ≤ 8) (hf : f < k) (hk : k < n) (h4 : g 4 = nI n) (hok : ∀ j, j < n → FlatOk g h j) (hC : RFw w V g n (fun j => gx g j 3)) : ∃ r V', f_X11_areTurned (nI f) (nI k) b (nI hrs) V = some (r, V') ∧ (r = 0 ∧ ff (fun v => ff (fun u => fewB g n b hrs f k v u) 9) 9 = none ∧ RFw w V' g n (fun j => gx g j 3) ∨ r = 1 ∧ ∃ v u, ff (fun v => ff (fun u => fewB g n b hrs f k v u) 9) 9 = some [(f, v), (k, u)] ∧ OutR w V' [(f, v), (k, u)]) := by
  have H : ∃ r, lp (f_X11_areTurned_L3 (nI f) (nI k) b (nI hrs)) FU (0, V) = some r ∧ ((∃ z V', r = .inl (z, V') ∧ ff (fun v => ff (fun u => fewB g n b hrs f k v u) 9) 9 = none ∧ ∃ x y, RFw w V' g n (upf (upf (fun j => gx g j 3) f x) k y)) ∨ ∃ V' v u, r = .inr (1, V') ∧ ff (fun v => ff (fun u => fewB g n b hrs f k v u) 9) 9 = some [(f, v), (k, u)] ∧ OutR w V' [(f, v), (k, u)]) := by
    refine lp_n (fun v z => z.1 = nI v ∧ ff (fun v => ff (fun u => fewB g n b hrs f k v u) 9) v = none ∧ ∃ x y, RFw w z.2 g n (upf (upf (fun j => gx g j 3) f x) k y)) 9 _ ⟨rfl, rfl, gx g f 3, gx g k 3, ?_⟩ (FU_lt (by omega)) ?_ ?_
    · rw [upf_i (f := fun j => gx g j 3) rfl, upf_i (f := fun j => gx g j 3) rfl]
      exact hC
    · rintro v ⟨a, U⟩ hv ⟨e1, e2, e3⟩
      simp only at e1 e3
      subst e1
      have n9 : ¬ (9 : Int32) ≤ nI v := nle (n := 9) hv (by decide)
      obtain ⟨r, l1, l2⟩ := turnI (b := b) (v := v) hn hN hf hk h4 hok e3
      unfold f_X11_areTurned_L3
      simp only
      rw [if_neg n9, l1, bd1]
      rcases l2 with ⟨z, V', rfl, x1, x2⟩ | ⟨V', u, rfl, x1, x2⟩
      · refine Or.inl ⟨(nI (v + 1), V'), ?_, rfl, ff_0 e2 x1, x2⟩
        rw [← nI_1]
        rfl
      · refine Or.inr ⟨.inr (1, V'), rfl, Or.inr ⟨V', v, u, rfl, ?_, x2⟩⟩
        have := ff_1 e2 x1 (9 - (v + 1))
        rw [show v + 1 + (9 - (v + 1)) = 9 by omega] at this
        exact this
    · rintro ⟨a, U⟩ ⟨e1, e2, e3⟩
      simp only at e1 e3
      subst e1
      refine ⟨.inl (nI 9, U), ?_, Or.inl ⟨nI 9, U, rfl, e2, e3⟩⟩
      unfold f_X11_areTurned_L3
      rw [if_pos (show (9 : Int32) ≤ nI 9 by decide)]
  obtain ⟨r, l1, l2⟩ := H
  unfold f_X11_areTurned
  rw [l1, bd1]
  rcases l2 with ⟨z, V', rfl, e1, x, y, e2⟩ | ⟨V', v, u, rfl, e1, e2⟩
  · have hR : RFw w (si (si V' 85 f (gx g f 3)) 85 k (gx g k 3)) g n (fun j => gx g j 3) := by
      have := RFw_5 (f := k) (x := gx g k 3) (RFw_5 (f := f) (x := gx g f 3) e2)
      rw [upf_4, upf_i (f := fun j => gx g j 3) rfl, upf_i (f := fun j => gx g j 3) rfl] at this
      exact this
    have h77 : (si V' 85 f (gx g f 3)).1 77 = g := by rw [si_n (by decide)]; exact e2.2.2.1
    refine ⟨0, si (si V' 85 f (gx g f 3)) 85 k (gx g k 3), ?_, Or.inl ⟨rfl, e1, hR⟩⟩
    show (f_X11_get (nI f) 3 V').bind _ = _
    rw [get_3 (by omega), bd1, gd_in (by omega) (by decide), cl_n (by omega), lw_e, get_3 (by omega), bd1, gd_in (by omega) (by decide), cl_n (by omega), lw_e, e2.2.2.1, h77]
  · exact ⟨1, V', rfl, Or.inr ⟨rfl, v, u, e1, e2⟩⟩
theorem oneX {V : Wd} (hn : n ≤ 12) (hN : hrs ≤ 8) (h4 : g 4 = nI n) (hok : ∀ j, j < n → FlatOk g h j) (hC : RFw w V g n (fun j => gx g j 3)) : ∃ r V', f_X11_findOne b (nI hrs) V = some (r, V') ∧ (r = 0 ∧ few1 g n b hrs = none ∧ RFw w V' g n (fun j => gx g j 3) ∨ r = 1 ∧ ∃ f v, few1 g n b hrs = some [(f, v)] ∧ OutR w V' [(f, v)]) := by
  have H : ∃ r, lp (f_X11_findOne_L2 b (nI hrs)) FU (0, V) = some r ∧ ((∃ z V', r = .inl (z, V') ∧ few1 g n b hrs = none ∧ RFw w V' g n (fun j => gx g j 3)) ∨ ∃ V' f v, r = .inr (1, V') ∧ few1 g n b hrs = some [(f, v)] ∧ OutR w V' [(f, v)]) := by
    refine lp_n (fun f z => z.1 = nI f ∧ ff (fun f => if gx g f 4 = 0 then ff (fun v => fewA g n b hrs (fun j => gx g j 3) f v) 9 else none) f = none ∧ RFw w z.2 g n (fun j => gx g j 3)) n _ ⟨rfl, rfl, hC⟩ (FU_lt (by omega)) ?_ ?_
    · rintro f ⟨a, U⟩ hf ⟨e1, e2, e3⟩
      simp only at e1 e3
      subst e1
      obtain ⟨r, l1, l2⟩ := oneI (b := b) hn hN hf h4 hok e3
      unfold f_X11_findOne_L2
      simp only
      rw [e3.2.2.1, h4, if_neg (nle hf (by omega)), l1, bd1]
      rcases l2 with ⟨z, V', rfl, x1, x, x2⟩ | ⟨V', v, rfl, x1, x2⟩
      · have hR : RFw w (si V' 85 f (gx g f 3)) g n (fun j => gx g j 3) := by
          have := RFw_5 (f := f) (x := gx g f 3) x2
          rw [upf_u, upf_i (f := fun j => gx g j 3) rfl] at this
          exact this
        refine Or.inl ⟨(nI (f + 1), si V' 85 f (gx g f 3)), ?_, rfl, ff_0 e2 x1, hR⟩
        show f_X11_findOne_J83 b (nI hrs) (nI f) V' = _
        unfold f_X11_findOne_J83
        rw [get_3 (by omega), bd1, gd_in (by omega) (by decide), cl_n (by omega), lw_e, x2.2.2.1, nI_1]
      · refine Or.inr ⟨.inr (1, V'), rfl, Or.inr ⟨V', f, v, rfl, ?_, x2⟩⟩
        have := ff_1 e2 x1 (n - (f + 1))
        rw [show f + 1 + (n - (f + 1)) = n by omega] at this
        exact this
    · rintro ⟨a, U⟩ ⟨e1, e2, e3⟩
      simp only at e1 e3
      subst e1
      refine ⟨.inl (nI n, U), ?_, Or.inl ⟨nI n, U, rfl, e2, e3⟩⟩
      unfold f_X11_findOne_L2
      simp only
      rw [e3.2.2.1, h4, if_pos (nle' n)]
  obtain ⟨r, l1, l2⟩ := H
  unfold f_X11_findOne
  rw [l1, bd1]
  rcases l2 with ⟨z, V', rfl, e1, e2⟩ | ⟨V', f, v, rfl, e1, e2⟩
  · exact ⟨0, V', rfl, Or.inl ⟨rfl, e1, e2⟩⟩
  · exact ⟨1, V', rfl, Or.inr ⟨rfl, f, v, e1, e2⟩⟩
theorem ff_non {α : Type} {P : Nat → Option α} : ∀ {m : Nat}, (∀ i, i < m → P i = none) → ff P m = none
  | 0, _ => rfl
  | m + 1, h => ff_0 (ff_non fun i hi0 => h i (by omega)) (h m (by omega))
theorem twoI {V : Wd} {k : Nat} (hn : n ≤ 12) (hN : hrs ≤ 8) (hk : k < n) (h4 : g 4 = nI n) (hok : ∀ j, j < n → FlatOk g h j) (hC : RFw w V g n (fun j => gx g j 3)) : ∃ r, lp (f_X11_findFew_L93 b (nI hrs) (nI k)) FU (0, V) = some r ∧ ((∃ z V', r = .inl (z, V') ∧ ff (pFK g n b hrs k) k = none ∧ RFw w V' g n (fun j => gx g j 3)) ∨ ∃ V' f v u, r = .inr V' ∧ ff (pFK g n b hrs k) k = some [(f, v), (k, u)] ∧ OutR w V' [(f, v), (k, u)]) := by
  by_cases hh : gx g k 4 = 0
  · refine lp_n (fun f z => z.1 = nI f ∧ ff (pFK g n b hrs k) f = none ∧ RFw w z.2 g n (fun j => gx g j 3)) k _ ⟨rfl, rfl, hC⟩ (FU_lt (by omega)) ?_ ?_
    · rintro f ⟨a, U⟩ hf ⟨e1, e2, e3⟩
      simp only at e1 e3
      subst e1
      unfold f_X11_findFew_L93
      simp only
      rw [if_neg (nle hf (by omega)), get_4 (by omega), bd1, e3.2.2.1, if_pos hh, get_4 (by omega), bd1, e3.2.2.1]
      by_cases q : gx g f 4 = 0
      · have ep : pFK g n b hrs k f = ff (fun v => ff (fun u => fewB g n b hrs f k v u) 9) 9 := by
          unfold pFK
          rw [if_pos ⟨q, hh⟩]
        obtain ⟨r, V', l1, l2⟩ := turnX (b := b) hn hN hf hk h4 hok e3
        rw [if_pos q, l1, bd1]
        rcases l2 with ⟨rfl, x1, x2⟩ | ⟨rfl, v, u, x1, x2⟩
        · refine Or.inl ⟨(nI (f + 1), V'), ?_, rfl, ff_0 e2 (ep.trans x1), x2⟩
          rw [← nI_1]
          rfl
        · refine Or.inr ⟨.inr V', rfl, Or.inr ⟨V', f, v, u, rfl, ?_, x2⟩⟩
          have := ff_1 e2 (ep.trans x1) (k - (f + 1))
          rw [show f + 1 + (k - (f + 1)) = k by omega] at this
          exact this
      · rw [if_neg q]
        exact Or.inl ⟨(nI (f + 1), U), by rw [nI_1], rfl, ff_0 e2 (by unfold pFK; rw [if_neg (fun z => q z.1)]), e3⟩
    · rintro ⟨a, U⟩ ⟨e1, e2, e3⟩
      simp only at e1 e3
      subst e1
      refine ⟨.inl (nI k, U), ?_, Or.inl ⟨nI k, U, rfl, e2, e3⟩⟩
      unfold f_X11_findFew_L93
      simp only
      rw [if_pos (nle' k)]
  · refine ⟨.inl (0, V), ?_, Or.inl ⟨0, V, rfl, ff_non fun f _ => by unfold pFK; rw [if_neg (fun z => hh z.2)], hC⟩⟩
    show (f_X11_findFew_L93 b (nI hrs) (nI k) (0, V)).bind _ = _
    unfold f_X11_findFew_L93
    simp only
    by_cases q : nI k ≤ 0
    · rw [if_pos q]
      rfl
    · rw [if_neg q, get_4 (by omega), bd1, hC.2.2.1, if_neg hh]
      rfl
theorem twoX {V : Wd} (hn : n ≤ 12) (hN : hrs ≤ 8) (h4 : g 4 = nI n) (hok : ∀ j, j < n → FlatOk g h j) (hC : RFw w V g n (fun j => gx g j 3)) : ∃ r, lp (f_X11_findFew_L80 b (nI hrs)) FU (1, V) = some r ∧ ((∃ z V', r = .inl (z, V') ∧ few2 g n b hrs = none ∧ RFw w V' g n (fun j => gx g j 3)) ∨ ∃ V' f v k u, r = .inr V' ∧ few2 g n b hrs = some [(f, v), (k, u)] ∧ OutR w V' [(f, v), (k, u)]) := by
  refine lp_n (fun i z => z.1 = nI (1 + i) ∧ ff (fun k => ff (pFK g n b hrs k) k) (1 + i) = none ∧ RFw w z.2 g n (fun j => gx g j 3)) (n - 1) _ ⟨rfl, rfl, hC⟩ (FU_lt (by omega)) ?_ ?_
  · rintro i ⟨a, U⟩ hi0 ⟨e1, e2, e3⟩
    simp only at e1 e3
    subst e1
    obtain ⟨r, l1, l2⟩ := twoI (b := b) (k := 1 + i) hn hN (by omega) h4 hok e3
    unfold f_X11_findFew_L80
    simp only
    rw [e3.2.2.1, h4, if_neg (nle (show 1 + i < n by omega) (by omega)), l1, bd1]
    rcases l2 with ⟨z, V', rfl, x1, x2⟩ | ⟨V', f, v, u, rfl, x1, x2⟩
    · refine Or.inl ⟨(nI (1 + (i + 1)), V'), ?_, rfl, ff_0 e2 x1, x2⟩
      show some (Sum.inl (nI (1 + i) + 1, V')) = _
      rw [nI_1]
      rfl
    · refine Or.inr ⟨.inr V', rfl, Or.inr ⟨V', f, v, 1 + i, u, rfl, ?_, x2⟩⟩
      have := ff_1 e2 x1 (n - (1 + i + 1))
      rw [show 1 + i + 1 + (n - (1 + i + 1)) = n by omega] at this
      exact this
  · rintro ⟨a, U⟩ ⟨e1, e2, e3⟩
    simp only at e1 e3
    subst e1
    refine ⟨.inl (nI (1 + (n - 1)), U), ?_, Or.inl ⟨_, U, rfl, ?_, e3⟩⟩
    · unfold f_X11_findFew_L80
      simp only
      rw [e3.2.2.1, h4, if_pos (nI_le (by omega) (by omega))]
    · rcases Nat.eq_zero_or_pos n with z | z
      · rw [z]
        rfl
      · rw [show 1 + (n - 1) = n by omega] at e2
        exact e2
end TURNED

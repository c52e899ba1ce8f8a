/-! helpers of both sides; the calls that set one thing -/
theorem bd_e {α β : Type} {x : Option (α × β)} : (x.bind fun o => some (o.1, o.2)) = x := by cases x <;> rfl
theorem has_y {w : Wd} {n i : Nat} (hB : w.1 3 1 = nI n) (hn : n ≤ 12) (hi : i < n) : f_X0_has (nI i) w = some 1 := by
  unfold f_X0_has
  have e : nI n - 1 = nI (n - 1) := nI_sub (a := n) (b := 1) (by omega)
  rw [hB, e, win_of (by rw [nI_toInt (by omega)]; exact Int.natCast_nonneg i) (by rw [nI_toInt (by omega), nI_toInt (by omega)]; omega)]
  exact gd_z (Or.inr rfl)
theorem no_flat {v : Int32} {n : Nat} (hn : n ≤ 12) (h : ∀ i, i < n → v ≠ nI i) : f_X10_within v 0 (nI n - 1) = some 0 := by
  apply win_not
  intro q
  rcases Nat.eq_zero_or_pos n with e | e
  · subst e
    have : (nI 0 - 1 : Int32).toInt = -1 := by decide
    rw [this] at q
    have : (0 : Int32).toInt = 0 := by decide
    omega
  · have e1 : nI n - 1 = nI (n - 1) := nI_sub (a := n) (b := 1) (by omega)
    rw [e1, nI_toInt (by omega)] at q
    obtain ⟨j, hj, ej⟩ := nI_rng (v := v) (a := n - 1) (by omega) q.1 q.2
    exact h j (by omega) ej
theorem has_n {w : Wd} {n : Nat} {v : Int32} (hB : w.1 3 1 = nI n) (hn : n ≤ 12) (h : ∀ i, i < n → v ≠ nI i) : f_X0_has v w = some 0 := by
  unfold f_X0_has
  rw [hB, no_flat hn h]
  exact gd_z (Or.inl rfl)
theorem isF_y {w : Wd} {n i : Nat} (hB : w.1 77 4 = nI n) (hn : n ≤ 12) (hi : i < n) : f_X11_isFlat (nI i) w = some 1 := by
  unfold f_X11_isFlat
  have e : nI n - 1 = nI (n - 1) := nI_sub (a := n) (b := 1) (by omega)
  rw [hB, e, in_e, win_of (by rw [nI_toInt (by omega)]; exact Int.natCast_nonneg i) (by rw [nI_toInt (by omega), nI_toInt (by omega)]; omega)]
  exact gd_z (Or.inr rfl)
theorem isF_n {w : Wd} {n : Nat} {v : Int32} (hB : w.1 77 4 = nI n) (hn : n ≤ 12) (h : ∀ i, i < n → v ≠ nI i) : f_X11_isFlat v w = some 0 := by
  unfold f_X11_isFlat
  rw [hB, in_e, no_flat hn h]
  exact gd_z (Or.inl rfl)
theorem fl_cases (n : Nat) (v : Int32) : (∃ i, i < n ∧ v = nI i) ∨ ∀ i, i < n → v ≠ nI i := by
  rcases Classical.em (∃ i, i < n ∧ v = nI i) with h | h
  · exact Or.inl h
  · exact Or.inr fun i hi e => h ⟨i, hi, e⟩
theorem ix_e (i k : Nat) : (7 + 11 * nI i) + nI k = nI (7 + 11 * i + k) := by
  show (nI 7 + nI 11 * nI i) + nI k = _
  rw [nI_mul, nI_add, nI_add]
theorem ix_0 (i : Nat) : (7 + 11 * nI i) = nI (7 + 11 * i) := by
  show (nI 7 + nI 11 * nI i) = _
  rw [nI_mul, nI_add]
theorem get_e {i k : Nat} {v : Int32} (hi : i < 12) (hk : k < 11) (e : v = nI k) (w : Wd) : f_X11_get (nI i) v w = some (gx (w.1 77) i k) := by
  unfold f_X11_get
  subst e
  rw [ix_e, gd_in (by omega) (by decide), cl_n (by omega)]
  rfl
theorem bec_e {i k : Nat} {v x : Int32} (hi : i < 12) (hk : k < 11) (e : v = nI k) (w : Wd) : f_X11_becomes (nI i) v x w = some (gx (w.1 77) i k, si (si w 77 (7 + 11 * i + k) x) 76 30 0) := by
  unfold f_X11_becomes
  rw [get_e hi hk e]
  subst e
  simp only [Option.bind_some]
  rw [ix_e, gd_in (by omega) (by decide), cl_n (by omega)]
  rfl
theorem get_0 {i : Nat} (hi : i < 12) (w : Wd) : f_X11_get (nI i) 0 w = some (gx (w.1 77) i 0) := get_e hi (by decide) rfl w
theorem get_1 {i : Nat} (hi : i < 12) (w : Wd) : f_X11_get (nI i) 1 w = some (gx (w.1 77) i 1) := get_e hi (by decide) rfl w
theorem get_2 {i : Nat} (hi : i < 12) (w : Wd) : f_X11_get (nI i) 2 w = some (gx (w.1 77) i 2) := get_e hi (by decide) rfl w
theorem get_3 {i : Nat} (hi : i < 12) (w : Wd) : f_X11_get (nI i) 3 w = some (gx (w.1 77) i 3) := get_e hi (by decide) rfl w
theorem get_4 {i : Nat} (hi : i < 12) (w : Wd) : f_X11_get (nI i) 4 w = some (gx (w.1 77) i 4) := get_e hi (by decide) rfl w
theorem get_5 {i : Nat} (hi : i < 12) (w : Wd) : f_X11_get (nI i) 5 w = some (gx (w.1 77) i 5) := get_e hi (by decide) rfl w
theorem get_6 {i : Nat} (hi : i < 12) (w : Wd) : f_X11_get (nI i) 6 w = some (gx (w.1 77) i 6) := get_e hi (by decide) rfl w
theorem get_7 {i : Nat} (hi : i < 12) (w : Wd) : f_X11_get (nI i) 7 w = some (gx (w.1 77) i 7) := get_e hi (by decide) rfl w
theorem get_8 {i : Nat} (hi : i < 12) (w : Wd) : f_X11_get (nI i) 8 w = some (gx (w.1 77) i 8) := get_e hi (by decide) rfl w
theorem get_9 {i : Nat} (hi : i < 12) (w : Wd) : f_X11_get (nI i) 9 w = some (gx (w.1 77) i 9) := get_e hi (by decide) rfl w
theorem get_10 {i : Nat} (hi : i < 12) (w : Wd) : f_X11_get (nI i) 10 w = some (gx (w.1 77) i 10) := get_e hi (by decide) rfl w
theorem bec_3 {i : Nat} (hi : i < 12) (x : Int32) (w : Wd) : f_X11_becomes (nI i) 3 x w = some (gx (w.1 77) i 3, si (si w 77 (7 + 11 * i + 3) x) 76 30 0) := bec_e hi (by decide) rfl w
theorem bec_4 {i : Nat} (hi : i < 12) (x : Int32) (w : Wd) : f_X11_becomes (nI i) 4 x w = some (gx (w.1 77) i 4, si (si w 77 (7 + 11 * i + 4) x) 76 30 0) := bec_e hi (by decide) rfl w
theorem bec_5 {i : Nat} (hi : i < 12) (x : Int32) (w : Wd) : f_X11_becomes (nI i) 5 x w = some (gx (w.1 77) i 5, si (si w 77 (7 + 11 * i + 5) x) 76 30 0) := bec_e hi (by decide) rfl w
theorem bec_10 {i : Nat} (hi : i < 12) (x : Int32) (w : Wd) : f_X11_becomes (nI i) 10 x w = some (gx (w.1 77) i 10, si (si w 77 (7 + 11 * i + 10) x) 76 30 0) := bec_e hi (by decide) rfl w
theorem gx_u {g : Nat → Int32} {i k j m : Nat} {x : Int32} (hk : k < 11) (hm : m < 11) : gx (fun y => if y = 7 + 11 * i + k then x else g y) j m = if j = i ∧ m = k then x else gx g j m := by
  unfold gx
  show (if 7 + 11 * j + m = 7 + 11 * i + k then x else g (7 + 11 * j + m)) = _
  by_cases h : j = i ∧ m = k
  · rw [if_pos h, if_pos (by omega)]
  · rw [if_neg h, if_neg (by omega)]
theorem si_77 {w : Wd} {p : Nat} {x : Int32} : (si w 77 p x).1 77 = fun y => if y = p then x else w.1 77 y := by
  funext y
  rw [si_g]
  simp
/-- what the tie gives at once -/
theorem Inv.b {w : Wd} (h : Inv w) : ∃ n hh c, BI (w.1 3) (fun i => w.1 (35 + i)) (w.1 19) (w.1 77) n hh ∧ CC (w.1 8) (w.1 24) (w.1 25) (w.1 26) (w.1 27) (w.1 77) n c ∧ RI (w.1 5) (w.1 21) (w.1 77) := by
  obtain ⟨n, hh, c, a, b, r, -⟩ := h.2.2.2.1
  exact ⟨n, hh, c, a, b, r⟩
theorem Inv.z {w : Wd} (h : Inv w) : ZF (fun i => w.1 (35 + i)) := by
  obtain ⟨_, _, _, _, _, _, z⟩ := h.2.2.2.1
  exact z
/-- a flat's cell (no riser, no place), on both sides -/
theorem Inv_set {w : Wd} {i k n hh c : Nat} {x : Int32} (h : Inv w) (hB : BI (w.1 3) (fun i => w.1 (35 + i)) (w.1 19) (w.1 77) n hh) (hC : CC (w.1 8) (w.1 24) (w.1 25) (w.1 26) (w.1 27) (w.1 77) n c) (hR : RI (w.1 5) (w.1 21) (w.1 77)) (hi : i < n) (hk : 2 ≤ k) (hk2 : k ≤ 10) (hok : ∀ g', (∀ m, m ≤ 10 → m ≠ k → gx g' i m = gx (w.1 77) i m) → gx g' i k = x → FlatOk g' hh i) : Inv (si (si (si w (35 + i) (k + 1) x) 77 (7 + 11 * i + k) x) 76 30 0) := by
  obtain ⟨b1, b2, b3, b4, b5, b6⟩ := hB
  have hZ := h.z
  obtain ⟨a, b, c', d, e, f⟩ := h
  have hi12 : i < 12 := by omega
  have hn : ∀ y, y ≠ 35 + i → y ≠ 77 → y ≠ 76 → (si (si (si w (35 + i) (k + 1) x) 77 (7 + 11 * i + k) x) 76 30 0).1 y = w.1 y := fun y p q r => by rw [si_n r, si_n q, si_n p]
  have h77 : (si (si (si w (35 + i) (k + 1) x) 77 (7 + 11 * i + k) x) 76 30 0).1 77 = fun y => if y = 7 + 11 * i + k then x else w.1 77 y := by
    rw [si_n (by decide), si_77, si_n (by omega)]
  have hj : ∀ j, j ≠ 30 → (si (si (si w (35 + i) (k + 1) x) 77 (7 + 11 * i + k) x) 76 30 0).1 76 j = w.1 76 j := fun j q => by rw [si_o q, si_n (by decide), si_n (by omega)]
  have hg : ∀ j m, m ≤ 10 → gx (fun y => if y = 7 + 11 * i + k then x else w.1 77 y) j m = if j = i ∧ m = k then x else gx (w.1 77) j m := fun j m hm => gx_u (by omega) (by omega)
  have hr : ∀ j, gx (fun y => if y = 7 + 11 * i + k then x else w.1 77 y) j 1 = gx (w.1 77) j 1 := fun j => by rw [hg j 1 (by decide), if_neg (by omega)]
  have hlow : ∀ y, y < 7 ∨ 139 ≤ y → (fun y => if y = 7 + 11 * i + k then x else w.1 77 y) y = w.1 77 y := fun y q => if_neg (by omega)
  refine ⟨IF_a a (hn 16 (by omega) (by decide) (by decide)) ?_ (hj 4 (by decide)), IT_a b (hn 7 (by omega) (by decide) (by decide)) (hn 23 (by omega) (by decide) (by decide)) (hn 92 (by omega) (by decide) (by decide)) (hj 18 (by decide)), IS_a c' (hn 74 (by omega) (by decide) (by decide)) (hn 75 (by omega) (by decide) (by decide)) (hn 100 (by omega) (by decide) (by decide)) (hn 101 (by omega) (by decide) (by decide)) rfl, ?_, ?_, Or.inl si_s⟩
  · rw [si_n (by decide), si_n (by decide), si_n (by omega)]
  · unfold SRm
    rw [h77, hn 3 (by omega) (by decide) (by decide), hn 19 (by omega) (by decide) (by decide), hn 5 (by omega) (by decide) (by decide), hn 21 (by omega) (by decide) (by decide), hn 8 (by omega) (by decide) (by decide), hn 24 (by omega) (by decide) (by decide), hn 25 (by omega) (by decide) (by decide), hn 26 (by omega) (by decide) (by decide), hn 27 (by omega) (by decide) (by decide)]
    refine SR_mk (n := n) (h := hh) (c := c) ⟨b1, b2, ?_, ?_, fun j hj2 => ⟨?_, ?_⟩, fun r hr2 => ?_⟩ (CC_c hC b1 (Nat.le_refl n) (hlow 5 (by decide)) (fun k j hk hj => hlow _ (by omega)) fun j _ => hr j) (RI_c hR (hlow 6 (by decide)) fun k hk => hlow _ (by omega)) (fun j h1 h2 => hn _ (by omega) (by omega) (by omega)) hZ
    · rw [hlow 4 (by decide), hlow 0 (by decide), hlow 1 (by decide), hlow 2 (by decide), hlow 3 (by decide)]
      exact b3
    · rw [hlow 1 (by decide), hlow 2 (by decide), hlow 3 (by decide)]
      exact b4
    · obtain ⟨⟨q0, q1, q2, q3⟩, -⟩ := b5 j hj2
      have hF : ∀ y, (si (si (si w (35 + i) (k + 1) x) 77 (7 + 11 * i + k) x) 76 30 0).1 (35 + j) y = if j = i ∧ y = k + 1 then x else w.1 (35 + j) y := fun y => by
        rw [si_n (by omega), si_n (by omega), si_g]
        by_cases q : j = i ∧ y = k + 1
        · rw [if_pos q, if_pos (by omega)]
        · rw [if_neg q, if_neg (by omega)]
      refine ⟨?_, ?_, ?_, fun m hm1 hm2 => ?_⟩
      · show (si _ _ _ _).1 (35 + j) 0 = _
        rw [hF, if_neg (by omega), hg j 0 (by decide), if_neg (by omega)]; exact q0
      · show (si _ _ _ _).1 (35 + j) 1 = _
        rw [hF, if_neg (by omega), hr j]; exact q1
      · show (si _ _ _ _).1 (35 + j) 2 = _
        rw [hF, if_neg (by omega), pl_c (n := 12) (fun j _ => hr j) (by omega)]; exact q2
      · show (si _ _ _ _).1 (35 + j) (m + 1) = _
        rw [hF, hg j m hm2]
        by_cases q : j = i ∧ m = k
        · rw [if_pos q, if_pos (by omega)]
        · rw [if_neg q, if_neg (by omega)]; exact q3 m hm1 hm2
    · by_cases q : j = i
      · subst q
        exact hok _ (fun m h1 h2 => by rw [hg j m h1, if_neg (by omega)]) (by rw [hg j k hk2, if_pos ⟨rfl, rfl⟩])
      · have e : ∀ m, m ≤ 10 → gx (fun y => if y = 7 + 11 * i + k then x else w.1 77 y) j m = gx (w.1 77) j m := fun m hm => by rw [hg j m hm, if_neg (by omega)]
        obtain ⟨-, q4⟩ := b5 j hj2
        unfold FlatOk at q4 ⊢
        rw [e 0 (by decide), e 1 (by decide), e 2 (by decide), e 3 (by decide), e 4 (by decide), e 5 (by decide), e 6 (by decide), e 7 (by decide), e 8 (by decide), e 10 (by decide)]
        exact q4
    · rw [cnt_c (fun j _ => hr j)]
      exact b6 r hr2
  · unfold IK at e ⊢
    rw [hn 0 (by omega) (by decide) (by decide), hj 2 (by decide)]
    rcases e with e | ⟨e1, e2, e3⟩
    · exact Or.inl e
    · refine Or.inr ⟨e1, e2, ?_⟩
      unfold SRk at e3 ⊢
      rw [hn 4 (by omega) (by decide) (by decide), hn 20 (by omega) (by decide) (by decide), hn 6 (by omega) (by decide) (by decide), hn 22 (by omega) (by decide) (by decide), hn 9 (by omega) (by decide) (by decide), hn 28 (by omega) (by decide) (by decide), hn 29 (by omega) (by decide) (by decide), hn 30 (by omega) (by decide) (by decide), hn 31 (by omega) (by decide) (by decide), hn 78 (by omega) (by decide) (by decide)]
      exact SR_F e3 fun j hj => hn _ (by omega) (by omega) (by omega)
/-- FlatOk with one cell changed -/
theorem FlatOk_u {g g' : Nat → Int32} {h i k : Nat} (H : FlatOk g h i) (e : ∀ m, m ≤ 10 → m ≠ k → gx g' i m = gx g i m) (hx : (k = 3 ∧ rng (gx g' i 3) 0 8) ∨ (k = 4 ∧ (gx g' i 4 = 0 ∨ gx g' i 4 = 1)) ∨ (k = 5 ∧ (gx g' i 5 = 0 ∨ gx g' i 5 = 1)) ∨ (k = 10 ∧ rng (gx g' i 10) 0 200)) : FlatOk g' h i := by
  obtain ⟨p0, p1, p2, p3, p4, p5, p6, p7, p8, p10⟩ := H
  unfold FlatOk
  rcases hx with ⟨rfl, hx⟩ | ⟨rfl, hx⟩ | ⟨rfl, hx⟩ | ⟨rfl, hx⟩
  · rw [e 0 (by decide) (by decide), e 1 (by decide) (by decide), e 2 (by decide) (by decide), e 4 (by decide) (by decide), e 5 (by decide) (by decide), e 6 (by decide) (by decide), e 7 (by decide) (by decide), e 8 (by decide) (by decide), e 10 (by decide) (by decide)]
    exact ⟨p0, p1, p2, hx, p4, p5, p6, p7, p8, p10⟩
  · rw [e 0 (by decide) (by decide), e 1 (by decide) (by decide), e 2 (by decide) (by decide), e 3 (by decide) (by decide), e 5 (by decide) (by decide), e 6 (by decide) (by decide), e 7 (by decide) (by decide), e 8 (by decide) (by decide), e 10 (by decide) (by decide)]
    exact ⟨p0, p1, p2, p3, hx, p5, p6, p7, p8, p10⟩
  · rw [e 0 (by decide) (by decide), e 1 (by decide) (by decide), e 2 (by decide) (by decide), e 3 (by decide) (by decide), e 4 (by decide) (by decide), e 6 (by decide) (by decide), e 7 (by decide) (by decide), e 8 (by decide) (by decide), e 10 (by decide) (by decide)]
    exact ⟨p0, p1, p2, p3, p4, hx, p6, p7, p8, p10⟩
  · rw [e 0 (by decide) (by decide), e 1 (by decide) (by decide), e 2 (by decide) (by decide), e 3 (by decide) (by decide), e 4 (by decide) (by decide), e 5 (by decide) (by decide), e 6 (by decide) (by decide), e 7 (by decide) (by decide), e 8 (by decide) (by decide)]
    exact ⟨p0, p1, p2, p3, p4, p5, p6, p7, p8, hx⟩

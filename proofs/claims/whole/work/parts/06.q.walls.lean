/-! the class's walls -/
theorem adj_sym {g : Nat → Int32} {i k : Nat} : adj g i k = adj g k i := by
  unfold adj
  apply decide_eq_decide.mpr
  omega
theorem adj_ii {g : Nat → Int32} {i : Nat} : adj g i i = false := by
  unfold adj
  apply decide_eq_false
  omega
def cb (P : Nat → Bool) : Nat → Nat
  | 0 => 0
  | m + 1 => cb P m + (if P m = true then 1 else 0)
theorem cb_0 {P : Nat → Bool} : ∀ {m : Nat}, (∀ k, k < m → P k = false) → cb P m = 0
  | 0, _ => rfl
  | m + 1, h => by
    show cb P m + (if P m = true then 1 else 0) = 0
    rw [cb_0 fun k hk => h k (by omega), h m (by omega)]
    rfl
theorem cb_1 {P : Nat → Bool} : ∀ {m : Nat}, (∀ a b, a < m → b < m → P a = true → P b = true → a = b) → cb P m ≤ 1
  | 0, _ => Nat.zero_le _
  | m + 1, h => by
    show cb P m + (if P m = true then 1 else 0) ≤ 1
    by_cases q : P m = true
    · have z : cb P m = 0 := cb_0 fun k hk => by
        cases e : P k with
        | false => rfl
        | true => have := h k m (by omega) (by omega) e q; omega
      rw [if_pos q, z]
      exact Nat.le_refl _
    · rw [if_neg q]
      have := cb_1 (P := P) (m := m) fun a b ha hb => h a b (by omega) (by omega)
      omega
theorem cb_3 {P Q1 Q2 Q3 : Nat → Bool} : ∀ {m : Nat}, (∀ k, k < m → P k = true → Q1 k = true ∨ Q2 k = true ∨ Q3 k = true) → cb P m ≤ cb Q1 m + cb Q2 m + cb Q3 m
  | 0, _ => Nat.le_refl _
  | m + 1, h => by
    have ih := cb_3 (P := P) (Q1 := Q1) (Q2 := Q2) (Q3 := Q3) (m := m) fun k hk => h k (by omega)
    show cb P m + (if P m = true then 1 else 0) ≤ (cb Q1 m + (if Q1 m = true then 1 else 0)) + (cb Q2 m + (if Q2 m = true then 1 else 0)) + (cb Q3 m + (if Q3 m = true then 1 else 0))
    by_cases q : P m = true
    · rw [if_pos q]
      rcases h m (by omega) q with z | z | z <;> rw [if_pos z] <;> omega
    · rw [if_neg q]
      omega
theorem cb_adj {g : Nat → Int32} {n h i m : Nat} (hi0 : i < n) (hm : m ≤ i) (hok : ∀ j, j < n → FlatOk g h j) : cb (fun k => adj g k i) m ≤ 3 := by
  have hr : ∀ a b, a < n → b < n → rs g a = rs g b → gx g a 1 = gx g b 1 := fun a b ha hb e => by rw [(rs_e (hok a ha)).2, (rs_e (hok b hb)).2, e]
  have e := cb_3 (P := fun k => adj g k i) (Q1 := fun k => decide (rs g k = rs g i ∧ pl g i = pl g k + 1)) (Q2 := fun k => decide (pl g k = pl g i ∧ rs g k = rs g i + 1)) (Q3 := fun k => decide (pl g k = pl g i ∧ rs g i = rs g k + 1)) (m := m) fun k hk q => by
    unfold adj at q
    rw [decide_eq_true_eq] at q
    simp only [decide_eq_true_eq]
    rcases q with ⟨q1, q2 | q2⟩ | ⟨q1, q2 | q2⟩
    · have := pl_lt (show k < i by omega) (hr k i (by omega) hi0 q1)
      omega
    · exact Or.inl ⟨q1, q2⟩
    · exact Or.inr (Or.inl ⟨q1, q2⟩)
    · exact Or.inr (Or.inr ⟨q1, q2⟩)
  have u1 : cb (fun k => decide (rs g k = rs g i ∧ pl g i = pl g k + 1)) m ≤ 1 := cb_1 fun a b ha hb qa qb => by
    simp only [decide_eq_true_eq] at qa qb
    exact pl_inj (hr a b (by omega) (by omega) (by omega)) (by omega)
  have u2 : cb (fun k => decide (pl g k = pl g i ∧ rs g k = rs g i + 1)) m ≤ 1 := cb_1 fun a b ha hb qa qb => by
    simp only [decide_eq_true_eq] at qa qb
    exact pl_inj (hr a b (by omega) (by omega) (by omega)) (by omega)
  have u3 : cb (fun k => decide (pl g k = pl g i ∧ rs g i = rs g k + 1)) m ≤ 1 := cb_1 fun a b ha hb qa qb => by
    simp only [decide_eq_true_eq] at qa qb
    exact pl_inj (hr a b (by omega) (by omega) (by omega)) (by omega)
  omega
theorem abs1 {a b : Nat} (ha : a < 2 ^ 20) (hb : b < 2 ^ 20) : (if 0 ≤ nI a - nI b then nI a - nI b else 0 - (nI a - nI b)) = 1 ↔ (a = b + 1 ∨ b = a + 1) := by
  have e : (nI a - nI b).toInt = (a : Int) - b := pk_sub_toInt (by omega) (by omega)
  have z : (0 : Int32).toInt = 0 := by decide
  have o : (1 : Int32).toInt = 1 := by decide
  by_cases q : 0 ≤ nI a - nI b
  · rw [if_pos q, i_eq, e, o]
    rw [i_le, e, z] at q
    omega
  · rw [if_neg q, i_eq, i_sub (by rw [e, z]; omega) (by rw [e, z]; omega), e, z, o]
    rw [i_le, e, z] at q
    omega
theorem rabX {w : Wd} {g : Nat → Int32} {n h i k : Nat} (hn : n ≤ 12) (hi0 : i < n) (hk : k < n) (f1 : ∀ j, j < n → w.1 (35 + j) 1 = gx g j 1 ∧ w.1 (35 + j) 2 = nI (pl g j)) (hok : ∀ j, j < n → FlatOk g h j) : f_X4_isRightAboveOrBelow (35 + i) (35 + k) w = some (if rs g i = rs g k ∧ (pl g i = pl g k + 1 ∨ pl g k = pl g i + 1) then 1 else 0) := by
  unfold f_X4_isRightAboveOrBelow
  have p1 : pl g i ≤ i := pl_le
  have p2 : pl g k ≤ k := pl_le
  have a := abs1 (a := pl g i) (b := pl g k) (by omega) (by omega)
  rw [(f1 i hi0).1, (f1 k hk).1, (f1 i hi0).2, (f1 k hk).2]
  have r : gx g i 1 = gx g k 1 ↔ rs g i = rs g k := by
    rw [(rs_e (hok i hi0)).2, (rs_e (hok k hk)).2]
    have := (rs_e (hok i hi0)).1
    have := (rs_e (hok k hk)).1
    rw [nI_eq (by omega) (by omega)]
  by_cases q : gx g i 1 = gx g k 1
  · rw [if_pos q]
    by_cases q2 : pl g i = pl g k + 1 ∨ pl g k = pl g i + 1
    · rw [if_pos (a.mpr q2), if_pos ⟨r.mp q, q2⟩]
    · rw [if_neg (fun z => q2 (a.mp z)), if_neg (fun z => q2 z.2)]
  · rw [if_neg q, if_neg (fun z => q (r.mpr z.1))]
theorem besX {w : Wd} {g : Nat → Int32} {n h i k : Nat} (hn : n ≤ 12) (hi0 : i < n) (hk : k < n) (f1 : ∀ j, j < n → w.1 (35 + j) 1 = gx g j 1 ∧ w.1 (35 + j) 2 = nI (pl g j)) (hok : ∀ j, j < n → FlatOk g h j) : f_X4_isBeside (35 + i) (35 + k) w = some (if pl g i = pl g k ∧ (rs g i = rs g k + 1 ∨ rs g k = rs g i + 1) then 1 else 0) := by
  unfold f_X4_isBeside
  have p1 : pl g i ≤ i := pl_le
  have p2 : pl g k ≤ k := pl_le
  have s1 := (rs_e (hok i hi0)).1
  have s2 := (rs_e (hok k hk)).1
  have a := abs1 (a := rs g i) (b := rs g k) (by omega) (by omega)
  rw [(f1 i hi0).1, (f1 k hk).1, (f1 i hi0).2, (f1 k hk).2, (rs_e (hok i hi0)).2, (rs_e (hok k hk)).2]
  have r : nI (pl g i) = nI (pl g k) ↔ pl g i = pl g k := nI_eq (by omega) (by omega)
  by_cases q : nI (pl g i) = nI (pl g k)
  · rw [if_pos q]
    by_cases q2 : rs g i = rs g k + 1 ∨ rs g k = rs g i + 1
    · rw [if_pos (a.mpr q2), if_pos ⟨r.mp q, q2⟩]
    · rw [if_neg (fun z => q2 (a.mp z)), if_neg (fun z => q2 z.2)]
  · rw [if_neg q, if_neg (fun z => q (r.mpr z.1))]
/-- the walls so far: those of the flats below i, and of i those with the flats below k -/
def dsm (g : Nat → Int32) (φ : Nat → Nat → Int32) (i : Nat) : Int32 := ws (fun k => if adj g k i = true then φ k i else 0) i
def CW (w : Wd) (g : Nat → Int32) (n i k : Nat) : Prop := ∃ m, m ≤ 3 * i + cb (fun k => adj g k i) k ∧ w.1 13 13 = nI m ∧ (∀ j, j < m → ∃ a b, a < b ∧ b < n ∧ w.1 66 j = nI a ∧ w.1 67 j = nI b) ∧ ∀ φ : Nat → Nat → Int32, ws (fun j => φ (w.1 66 j).toNatClampNeg (w.1 67 j).toNatClampNeg) m = ws (dsm g φ) i + ws (fun k => if adj g k i = true then φ k i else 0) k
theorem l96 {w : Wd} {g : Nat → Int32} {n h i : Nat} (hn : n ≤ 12) (hi0 : i < n) (f1 : ∀ j, j < n → w.1 (35 + j) 1 = gx g j 1 ∧ w.1 (35 + j) 2 = nI (pl g j)) (hok : ∀ j, j < n → FlatOk g h j) (hW : CW w g n i 0) : ∃ (z : Int32) (W : Wd), lp (f_X2_begin_L96 (nI i) (35 + i)) FU (0, w) = some (z, W) ∧ (∀ y, y ≠ 66 → y ≠ 67 → y ≠ 13 → W.1 y = w.1 y) ∧ (∀ j, j ≠ 13 → W.1 13 j = w.1 13 j) ∧ W.2 = w.2 ∧ CW W g n i i := by
  have H : ∃ o, lp (f_X2_begin_L96 (nI i) (35 + i)) FU (0, w) = some o ∧ ((∀ y, y ≠ 66 → y ≠ 67 → y ≠ 13 → o.2.1 y = w.1 y) ∧ (∀ j, j ≠ 13 → o.2.1 13 j = w.1 13 j) ∧ o.2.2 = w.2 ∧ CW o.2 g n i i) := by
    refine lp_n (fun k z => z.1 = nI k ∧ (∀ y, y ≠ 66 → y ≠ 67 → y ≠ 13 → z.2.1 y = w.1 y) ∧ (∀ j, j ≠ 13 → z.2.1 13 j = w.1 13 j) ∧ z.2.2 = w.2 ∧ CW z.2 g n i k) i _ ⟨rfl, fun _ _ _ _ => rfl, fun _ _ => rfl, rfl, hW⟩ (FU_lt (by omega)) ?_ ?_
    · rintro k ⟨x, W⟩ hk ⟨e1, e2, e3, e4, m, c1, c2, c3, c4⟩
      simp only at e1 e2 e3 e4
      subst e1
      have hc := cb_adj (m := k) hi0 (by omega) hok
      have ff1 : ∀ j, j < n → W.1 (35 + j) 1 = gx g j 1 ∧ W.1 (35 + j) 2 = nI (pl g j) := fun j hj => by rw [e2 _ (by omega) (by omega) (by omega)]; exact f1 j hj
      have hcs : cb (fun k => adj g k i) (k + 1) = cb (fun k => adj g k i) k + (if adj g k i = true then 1 else 0) := rfl
      have hws : ∀ φ : Nat → Nat → Int32, ws (fun k => if adj g k i = true then φ k i else 0) (k + 1) = ws (fun k => if adj g k i = true then φ k i else 0) k + (if adj g k i = true then φ k i else 0) := fun φ => rfl
      have yes : adj g i k = true → ∃ s', f_X2_begin_J130 (nI i) (35 + i) (nI k) W = some (.inl s') ∧ (s'.1 = nI (k + 1) ∧ (∀ y, y ≠ 66 → y ≠ 67 → y ≠ 13 → s'.2.1 y = w.1 y) ∧ (∀ j, j ≠ 13 → s'.2.1 13 j = w.1 13 j) ∧ s'.2.2 = w.2 ∧ CW s'.2 g n i (k + 1)) := by
        intro ha
        rw [adj_sym] at ha
        unfold f_X2_begin_J130 f_X2_addWall
        rw [c2, if_neg (show ¬ (48 : Int32) ≤ nI m from nle (n := 48) (by omega) (by decide)), gd_in (by omega) (by decide), cl_n (by omega)]
        simp only [lw_e]
        have e13 : (si W 66 m (nI k)).1 13 13 = nI m := by rw [si_n (by decide)]; exact c2
        have e13' : (si (si W 66 m (nI k)) 67 m (nI i)).1 13 13 = nI m := by rw [si_n (by decide)]; exact e13
        rw [e13, gd_in (by omega) (by decide), cl_n (by omega), e13', nI_1, nI_1, bd1]
        have x66 : ∀ v y, (si (si (si W 66 m (nI k)) 67 m (nI i)) 13 13 v).1 66 y = if y = m then nI k else W.1 66 y := fun v y => by
          rw [si_n (show (66 : Nat) ≠ 13 by decide), si_n (show (66 : Nat) ≠ 67 by decide), si_g]
          simp
        have x67 : ∀ v y, (si (si (si W 66 m (nI k)) 67 m (nI i)) 13 13 v).1 67 y = if y = m then nI i else W.1 67 y := fun v y => by
          rw [si_n (show (67 : Nat) ≠ 13 by decide), si_g, si_n (show (67 : Nat) ≠ 66 by decide)]
          simp
        refine ⟨_, rfl, rfl, fun y y1 y2 y3 => ?_, fun j hj => ?_, e4, m + 1, ?_, si_s, fun j hj => ?_, fun φ => ?_⟩
        · show (si _ _ _ _).1 y = _
          rw [si_n y3, si_n y2, si_n y1, e2 y y1 y2 y3]
        · show (si _ _ _ _).1 13 j = _
          rw [si_o hj, si_n (by decide), si_n (by decide), e3 j hj]
        · rw [hcs, if_pos ha]
          omega
        · show ∃ a b, a < b ∧ b < n ∧ (si _ _ _ _).1 66 j = nI a ∧ (si _ _ _ _).1 67 j = nI b
          rw [x66, x67]
          by_cases q : j = m
          · rw [if_pos q, if_pos q]
            exact ⟨k, i, by omega, by omega, rfl, rfl⟩
          · rw [if_neg q, if_neg q]
            exact c3 j (by omega)
        · have l : ∀ j, j < m → (fun j => φ ((si (si (si W 66 m (nI k)) 67 m (nI i)) 13 13 (nI (m + 1))).1 66 j).toNatClampNeg ((si (si (si W 66 m (nI k)) 67 m (nI i)) 13 13 (nI (m + 1))).1 67 j).toNatClampNeg) j = (fun j => φ (W.1 66 j).toNatClampNeg (W.1 67 j).toNatClampNeg) j := fun j hj => by
            show φ ((si _ _ _ _).1 66 j).toNatClampNeg ((si _ _ _ _).1 67 j).toNatClampNeg = _
            rw [x66, x67, if_neg (by omega), if_neg (by omega)]
          show ws _ m + φ ((si _ _ _ _).1 66 m).toNatClampNeg ((si _ _ _ _).1 67 m).toNatClampNeg = _
          rw [ws_c l, c4 φ, hws, if_pos ha, x66, x67, if_pos rfl, if_pos rfl, cl_n (by omega), cl_n (by omega)]
          grind
      unfold f_X2_begin_L96
      simp only
      rw [if_neg (nle hk (by omega)), gd_in (by omega) (by decide), gd_in (by omega) (by decide), cl_n (by omega), rabX hn hi0 (by omega) ff1 hok, besX hn hi0 (by omega) ff1 hok, bd1]
      left
      by_cases q1 : rs g i = rs g k ∧ (pl g i = pl g k + 1 ∨ pl g k = pl g i + 1)
      · rw [if_pos q1, if_neg (by decide)]
        exact yes (decide_eq_true (Or.inl q1))
      · rw [if_neg q1, if_pos rfl, bd1]
        by_cases q2 : pl g i = pl g k ∧ (rs g i = rs g k + 1 ∨ rs g k = rs g i + 1)
        · rw [if_pos q2, if_neg (by decide)]
          exact yes (decide_eq_true (Or.inr q2))
        · rw [if_neg q2, if_pos rfl]
          have ha : adj g k i = false := by
            rw [adj_sym]
            unfold adj
            apply decide_eq_false
            rintro (z | z)
            · exact q1 z
            · exact q2 z
          refine ⟨(nI (k + 1), W), by rw [nI_1], rfl, e2, e3, e4, m, ?_, c2, c3, fun φ => ?_⟩
          · rw [hcs, ha]
            simp
            omega
          · rw [c4 φ, hws, ha]
            simp
    · rintro ⟨x, W⟩ ⟨e1, e2, e3, e4, e5⟩
      simp only at e1 e2 e3 e4 e5
      subst e1
      refine ⟨(nI i, W), ?_, e2, e3, e4, e5⟩
      unfold f_X2_begin_L96
      simp only
      rw [if_pos (nle' i)]
  obtain ⟨⟨z, W⟩, h1, h2, h3, h5, h6⟩ := H
  exact ⟨z, W, h1, h2, h3, h5, h6⟩

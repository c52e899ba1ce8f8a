/-! bounds: warmth stays between -300 and 1500 -/
theorem td (a d : Int) (hd : 0 < d) : (0 ≤ a → 0 ≤ a.tdiv d ∧ d * a.tdiv d ≤ a ∧ a < d * a.tdiv d + d) ∧ (a ≤ 0 → a.tdiv d ≤ 0 ∧ a ≤ d * a.tdiv d ∧ d * a.tdiv d < a + d) := by
  have P : ∀ b : Int, 0 ≤ b → 0 ≤ b.tdiv d ∧ d * b.tdiv d ≤ b ∧ b < d * b.tdiv d + d := fun b hb => by
    rw [Int.tdiv_eq_ediv_of_nonneg hb]
    have h1 := Int.mul_ediv_add_emod b d
    have h2 := Int.emod_nonneg b (by omega : d ≠ 0)
    have h3 := Int.emod_lt_of_pos b hd
    have h4 : 0 ≤ b / d := Int.ediv_nonneg hb (by omega)
    omega
  refine ⟨P a, fun h => ?_⟩
  obtain ⟨h1, h2, h3⟩ := P (-a) (by omega)
  rw [Int.neg_tdiv] at h1 h2 h3
  rw [Int.mul_neg] at h2 h3
  omega
theorem mul_up {a b A B : Int} (ha0 : 0 ≤ a) (ha : a ≤ A) (hb : b ≤ B) (hB : 0 ≤ B) : a * b ≤ A * B := by
  rcases Int.le_total 0 b with q | q
  · exact Int.mul_le_mul ha hb q (by omega)
  · have h1 : a * b ≤ 0 := Int.mul_nonpos_of_nonneg_of_nonpos ha0 q
    have h2 : 0 ≤ A * B := Int.mul_nonneg (by omega) hB
    omega
theorem mul_lo {a b A B : Int} (ha0 : 0 ≤ a) (ha : a ≤ A) (hb : -B ≤ b) (hB : 0 ≤ B) : -(A * B) ≤ a * b := by
  have := mul_up (a := a) (b := -b) (A := A) (B := B) ha0 ha (by omega) hB
  rw [Int.mul_neg] at this
  omega
theorem cb_le {P : Nat → Bool} : ∀ {m : Nat}, cb P m ≤ m
  | 0 => Nat.le_refl _
  | m + 1 => by
    show cb P m + (if P m = true then 1 else 0) ≤ m + 1
    have := @cb_le P m
    split <;> omega
theorem ws_bd {f : Nat → Int32} {P : Nat → Bool} {U L : Int} (hU : 0 ≤ U) (hU2 : U ≤ 100) (hL : 0 ≤ L) (hL2 : L ≤ 100) : ∀ {m : Nat}, m ≤ 12 → (∀ k, k < m → P k = true → -L ≤ (f k).toInt ∧ (f k).toInt ≤ U) → (∀ k, k < m → P k = false → f k = 0) → -((cb P m : Int) * L) ≤ (ws f m).toInt ∧ (ws f m).toInt ≤ (cb P m : Int) * U
  | 0, _, _, _ => by
    show -((0 : Int) * L) ≤ (0 : Int32).toInt ∧ (0 : Int32).toInt ≤ (0 : Int) * U
    have z : (0 : Int32).toInt = 0 := by decide
    rw [z, Int.zero_mul, Int.zero_mul]
    omega
  | m + 1, hm, h1, h2 => by
    obtain ⟨i1, i2⟩ := ws_bd (f := f) (P := P) hU hU2 hL hL2 (m := m) (by omega) (fun k hk => h1 k (by omega)) (fun k hk => h2 k (by omega))
    have c : cb P m ≤ m := cb_le
    have b1 : (cb P m : Int) * U ≤ 12 * 100 := Int.mul_le_mul (by omega) hU2 hU (by omega)
    have b2 : (cb P m : Int) * L ≤ 12 * 100 := Int.mul_le_mul (by omega) hL2 hL (by omega)
    show -(((cb P m + (if P m = true then 1 else 0) : Nat) : Int) * L) ≤ (ws f m + f m).toInt ∧ (ws f m + f m).toInt ≤ ((cb P m + (if P m = true then 1 else 0) : Nat) : Int) * U
    by_cases q : P m = true
    · rw [if_pos q]
      obtain ⟨q1, q2⟩ := h1 m (by omega) q
      rw [i_add (by omega) (by omega)]
      have e1 : (((cb P m + 1 : Nat) : Int) * L) = (cb P m : Int) * L + L := by
        rw [Int.natCast_add, Int.add_mul]
        simp
      have e2 : (((cb P m + 1 : Nat) : Int) * U) = (cb P m : Int) * U + U := by
        rw [Int.natCast_add, Int.add_mul]
        simp
      rw [e1, e2]
      omega
    · rw [if_neg q, h2 m (by omega) (by simpa using q), Int32.add_zero, Nat.add_zero]
      exact ⟨i1, i2⟩
theorem cb_4 {P Q1 Q2 Q3 Q4 : Nat → Bool} : ∀ {m : Nat}, (∀ k, k < m → P k = true → Q1 k = true ∨ Q2 k = true ∨ Q3 k = true ∨ Q4 k = true) → cb P m ≤ cb Q1 m + cb Q2 m + cb Q3 m + cb Q4 m
  | 0, _ => Nat.le_refl _
  | m + 1, h => by
    have ih := cb_4 (P := P) (Q1 := Q1) (Q2 := Q2) (Q3 := Q3) (Q4 := Q4) (m := m) fun k hk => h k (by omega)
    show cb P m + (if P m = true then 1 else 0) ≤ (cb Q1 m + (if Q1 m = true then 1 else 0)) + (cb Q2 m + (if Q2 m = true then 1 else 0)) + (cb Q3 m + (if Q3 m = true then 1 else 0)) + (cb Q4 m + (if Q4 m = true then 1 else 0))
    by_cases q : P m = true
    · rw [if_pos q]
      rcases h m (by omega) q with z | z | z | z <;> rw [if_pos z] <;> omega
    · rw [if_neg q]
      omega
theorem cb_adj4 {g : Nat → Int32} {n h i : Nat} (hok : ∀ j, j < n → FlatOk g h j) : cb (adj g i) n ≤ 4 := by
  have hr : ∀ a b, a < n → b < n → rs g a = rs g b → gx g a 1 = gx g b 1 := fun a b ha hb e => by rw [(rs_e (hok a ha)).2, (rs_e (hok b hb)).2, e]
  have e := cb_4 (P := adj g i) (Q1 := fun k => decide (rs g i = rs g k ∧ pl g i = pl g k + 1)) (Q2 := fun k => decide (rs g i = rs g k ∧ pl g k = pl g i + 1)) (Q3 := fun k => decide (pl g i = pl g k ∧ rs g i = rs g k + 1)) (Q4 := fun k => decide (pl g i = pl g k ∧ rs g k = rs g i + 1)) (m := n) fun k hk q => by
    unfold adj at q
    rw [decide_eq_true_eq] at q
    simp only [decide_eq_true_eq]
    omega
  have u : ∀ Q : Nat → Bool, (∀ a b, a < n → b < n → Q a = true → Q b = true → rs g a = rs g b ∧ pl g a = pl g b) → cb Q n ≤ 1 := fun Q hQ => cb_1 fun a b ha hb qa qb => pl_inj (hr a b ha hb (hQ a b ha hb qa qb).1) (hQ a b ha hb qa qb).2
  have u1 := u (fun k => decide (rs g i = rs g k ∧ pl g i = pl g k + 1)) fun a b ha hb qa qb => by simp only [decide_eq_true_eq] at qa qb; omega
  have u2 := u (fun k => decide (rs g i = rs g k ∧ pl g k = pl g i + 1)) fun a b ha hb qa qb => by simp only [decide_eq_true_eq] at qa qb; omega
  have u3 := u (fun k => decide (pl g i = pl g k ∧ rs g i = rs g k + 1)) fun a b ha hb qa qb => by simp only [decide_eq_true_eq] at qa qb; omega
  have u4 := u (fun k => decide (pl g i = pl g k ∧ rs g k = rs g i + 1)) fun a b ha hb qa qb => by simp only [decide_eq_true_eq] at qa qb; omega
  omega
theorem hin_bd {fl wm : Nat → Int32} {bo : Int32} {i : Nat} (hw : rng (wm i) (-300) 1500) (hf : rng (fl i) 0 999) (hb : rng bo 0 900) : 0 ≤ (hin fl bo wm i).toInt ∧ (hin fl bo wm i).toInt ≤ 1200 ∧ ((wm i).toInt < 900 → 1000 * (hin fl bo wm i).toInt ≤ 999 * (900 - (wm i).toInt)) ∧ (900 ≤ (wm i).toInt → (hin fl bo wm i).toInt = 0) := by
  unfold rng at hw hf hb
  have z : (0 : Int32).toInt = 0 := by decide
  have k : (1000 : Int32).toInt = 1000 := by decide
  have e : (bo - wm i).toInt = bo.toInt - (wm i).toInt := i_sub (by omega) (by omega)
  unfold hin
  by_cases q : 0 < bo - wm i
  · rw [if_pos q]
    rw [i_lt, e, z] at q
    have m1 : (fl i).toInt * (bo - wm i).toInt ≤ 999 * (900 - (wm i).toInt) := mul_up hf.1 hf.2 (by omega) (by omega)
    have m0 : 0 ≤ (fl i).toInt * (bo - wm i).toInt := Int.mul_nonneg hf.1 (by omega)
    have em : (fl i * (bo - wm i)).toInt = (fl i).toInt * (bo - wm i).toInt := i_mul (by omega) (by omega)
    rw [i_div (by rw [k]; decide), em, k]
    have t := (td ((fl i).toInt * (bo - wm i).toInt) 1000 (by decide)).1 m0
    omega
  · rw [if_neg q, Int32.mul_zero]
    have e0 : (0 / 1000 : Int32).toInt = 0 := by decide
    rw [e0]
    omega
theorem hst_bd {g : Nat → Int32} {n h i : Nat} {fl lks wm : Nat → Int32} {bo ou : Int32} (hn : n ≤ 12) (hi0 : i < n) (hok : ∀ j, j < n → FlatOk g h j) (hw : ∀ j, j < n → rng (wm j) (-300) 1500) (hf : rng (fl i) 0 999) (hl : rng (lks i) 0 268) (hb : rng bo 0 900) (ho : rng ou (-300) 400) : rng (hst (adj g) n fl lks bo ou wm i) (-300) 1500 := by
  obtain ⟨n1, n2, n3, n4⟩ := hin_bd (hw i hi0) hf hb
  have hwi := hw i hi0
  have c4 := cb_adj4 (i := i) hok
  have k : (1000 : Int32).toInt = 1000 := by decide
  have e20 : (20 : Int32).toInt = 20 := by decide
  unfold rng at hwi hl ho
  have T := ws_bd (f := fun k => if adj g i k = true then (wm k - wm i) / 20 else 0) (P := adj g i) (U := (1500 - (wm i).toInt) / 20) (L := ((wm i).toInt + 300) / 20) (by omega) (by omega) (by omega) (by omega) (m := n) hn (fun j hj hA => by
    rw [if_pos hA]
    have hj2 := hw j hj
    unfold rng at hj2
    have e : (wm j - wm i).toInt = (wm j).toInt - (wm i).toInt := i_sub (by omega) (by omega)
    rw [i_div (by rw [e20]; decide), e, e20]
    have t := td ((wm j).toInt - (wm i).toInt) 20 (by decide)
    rcases Int.le_total 0 ((wm j).toInt - (wm i).toInt) with q | q
    · have := t.1 q; omega
    · have := t.2 q; omega) (fun j hj hA => by
    rw [hA]
    rfl)
  obtain ⟨T1, T2⟩ := T
  have U1 : (cb (adj g i) n : Int) * ((1500 - (wm i).toInt) / 20) ≤ 4 * ((1500 - (wm i).toInt) / 20) := Int.mul_le_mul_of_nonneg_right (by omega) (by omega)
  have U2 : (cb (adj g i) n : Int) * (((wm i).toInt + 300) / 20) ≤ 4 * (((wm i).toInt + 300) / 20) := Int.mul_le_mul_of_nonneg_right (by omega) (by omega)
  have ed : (wm i - ou).toInt = (wm i).toInt - ou.toInt := i_sub (by omega) (by omega)
  have m1 : (lks i).toInt * (wm i - ou).toInt ≤ 268 * ((wm i).toInt + 300) := mul_up hl.1 hl.2 (by omega) (by omega)
  have m2 : (wm i).toInt < 400 → -(268 * (400 - (wm i).toInt)) ≤ (lks i).toInt * (wm i - ou).toInt := fun q => mul_lo hl.1 hl.2 (by omega) (by omega)
  have m3 : 400 ≤ (wm i).toInt → 0 ≤ (lks i).toInt * (wm i - ou).toInt := fun q => Int.mul_nonneg hl.1 (by omega)
  have em : (lks i * (wm i - ou)).toInt = (lks i).toInt * (wm i - ou).toInt := by
    rcases (by omega : (wm i).toInt < 400 ∨ 400 ≤ (wm i).toInt) with q | q
    · have := m2 q; exact i_mul (by omega) (by omega)
    · have := m3 q; exact i_mul (by omega) (by omega)
  have eo : (lks i * (wm i - ou) / 1000).toInt = ((lks i).toInt * (wm i - ou).toInt).tdiv 1000 := by rw [i_div (by rw [k]; decide), em, k]
  generalize hX : (lks i).toInt * (wm i - ou).toInt = X at m1 m2 m3 eo
  have t := td X 1000 (by decide)
  have hT : (hth (adj g) n wm i).toInt = (ws (fun k => if adj g i k = true then (wm k - wm i) / 20 else 0) n).toInt := rfl
  generalize (ws (fun k => if adj g i k = true then (wm k - wm i) / 20 else 0) n).toInt = T at T1 T2 hT
  have B : -300 ≤ (wm i).toInt + ((hin fl bo wm i).toInt - X.tdiv 1000 + T) ∧ (wm i).toInt + ((hin fl bo wm i).toInt - X.tdiv 1000 + T) ≤ 1500 := by
    rcases Int.le_total 0 X with q | q
    · have := t.1 q; omega
    · have := t.2 q; omega
  unfold hst rng
  have s1 : (hin fl bo wm i - lks i * (wm i - ou) / 1000).toInt = (hin fl bo wm i).toInt - X.tdiv 1000 := by
    rw [i_sub, eo] <;> rw [eo] <;> (rcases Int.le_total 0 X with q | q) <;> first | (have := t.1 q; omega) | (have := t.2 q; omega)
  have s2 : (hin fl bo wm i - lks i * (wm i - ou) / 1000 + hth (adj g) n wm i).toInt = (hin fl bo wm i).toInt - X.tdiv 1000 + T := by
    rw [i_add, s1, hT] <;> rw [s1, hT] <;> omega
  rw [i_add, s2] <;> first | rw [s2] | skip
  all_goals omega

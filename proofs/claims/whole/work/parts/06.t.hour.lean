/-! an hour that is lived -/
theorem wt_bd {g : Nat → Int32} {n i : Nat} {o : Int32} (hn : n ≤ 12) (ho : rng o 0 8) : rng (wt g n i o) 0 80 := by
  unfold rng at ho
  have two : (2 : Int32).toInt = 2 := by decide
  have ten : (10 : Int32).toInt = 10 := by decide
  have one : (1 : Int32).toInt = 1 := by decide
  have z : (0 : Int32).toInt = 0 := by decide
  have m : rng (if 2 < o then 2 else o) 0 2 := by
    unfold rng
    by_cases q : 2 < o
    · rw [if_pos q]; omega
    · rw [if_neg q]; rw [i_lt] at q; omega
  unfold rng at m
  have t : rng (tk (gx g i 0) o) 0 8 := by
    unfold tk rng
    by_cases q : gx g i 0 = 3
    · rw [if_pos q]; omega
    · rw [if_neg q]
      by_cases q2 : gx g i 0 = 5
      · rw [if_pos q2, i_add (by omega) (by omega)]; omega
      · rw [if_neg q2]; omega
  unfold rng at t
  have hh : hi g n i ≤ 12 := by
    unfold hi
    have := @cnt_le g (gx g i 1) n
    omega
  have e1 : (10 * tk (gx g i 0) o).toInt = 10 * (tk (gx g i 0) o).toInt := by rw [i_mul (by rw [ten]; omega) (by rw [ten]; omega), ten]
  have e2 : (2 * nI (hi g n i)).toInt = 2 * (hi g n i : Int) := by rw [i_mul (by rw [two, nI_toInt (by omega)]; omega) (by rw [two, nI_toInt (by omega)]; omega), two, nI_toInt (by omega)]
  have e3 : (10 * tk (gx g i 0) o - 2 * nI (hi g n i)).toInt = 10 * (tk (gx g i 0) o).toInt - 2 * (hi g n i : Int) := by rw [i_sub (by rw [e1, e2]; omega) (by rw [e1, e2]; omega), e1, e2]
  unfold wt rng
  by_cases q : 0 < 10 * tk (gx g i 0) o - 2 * nI (hi g n i)
  · rw [if_pos q, e3]
    rw [i_lt, e3, z] at q
    omega
  · rw [if_neg q, z]; omega
theorem ws_nn {f : Nat → Int32} {i : Nat} : ∀ {n : Nat}, n ≤ 12 → (∀ k, k < n → rng (f k) 0 80) → rng (ws f n) 0 (80 * n) ∧ (i < n → (f i).toInt ≤ (ws f n).toInt)
  | 0, _, _ => ⟨by show (0 : Int) ≤ (0 : Int32).toInt ∧ (0 : Int32).toInt ≤ 80 * ((0 : Nat) : Int); decide, fun h => absurd h (Nat.not_lt_zero _)⟩
  | n + 1, hn, h => by
    obtain ⟨h1, h2⟩ := ws_nn (f := f) (i := i) (n := n) (by omega) (fun k hk => h k (by omega))
    have h3 := h n (by omega)
    unfold rng at h1 h3 ⊢
    have e : (ws f (n + 1)).toInt = (ws f n).toInt + (f n).toInt := i_add (by omega) (by omega)
    rw [e]
    refine ⟨by omega, fun hi0 => ?_⟩
    rcases Nat.lt_or_ge i n with q | q
    · have := h2 q; omega
    · have e : i = n := by omega
      subst e; omega
theorem flo_bd {p x a : Int32} (hp : rng p 0 999) (hx : rng x 0 80) (ha : a.toInt ≤ 960) (hxa : x.toInt ≤ a.toInt) : rng (flo p x a) 0 999 := by
  unfold rng at hp hx ⊢
  have z : (0 : Int32).toInt = 0 := by decide
  unfold flo
  by_cases q : a = 0
  · rw [if_pos q, z]; omega
  · rw [if_neg q]
    have a0 : 0 < a.toInt := by
      rcases (by omega : a.toInt ≤ 0 ∨ 0 < a.toInt) with y | y
      · exact absurd ((i_eq a 0).mpr (by rw [z]; omega)) q
      · exact y
    have m0 : 0 ≤ p.toInt * x.toInt := Int.mul_nonneg hp.1 hx.1
    have m1 : p.toInt * x.toInt ≤ 999 * 80 := mul_up hp.1 hp.2 hx.2 (by omega)
    have m2 : p.toInt * x.toInt ≤ 999 * a.toInt := mul_up hp.1 hp.2 hxa (by omega)
    have em : (p * x).toInt = p.toInt * x.toInt := i_mul (by omega) (by omega)
    rw [i_div a0, em]
    have t := (td (p.toInt * x.toInt) a.toInt a0).1 m0
    refine ⟨t.1, ?_⟩
    rcases (by omega : (p.toInt * x.toInt).tdiv a.toInt ≤ 999 ∨ 1000 ≤ (p.toInt * x.toInt).tdiv a.toInt) with y | y
    · exact y
    · have : a.toInt * 1000 ≤ a.toInt * (p.toInt * x.toInt).tdiv a.toInt := Int.mul_le_mul_of_nonneg_left y (by omega)
      omega
theorem flw_bd {g : Nat → Int32} {n i : Nat} {op : Nat → Int32} (hn : n ≤ 12) (hi0 : i < n) (hp : rng (g 2) 0 999) (ho : ∀ j, j < n → rng (op j) 0 8) : rng (flw g n op i) 0 999 := by
  unfold flw
  obtain ⟨h1, h2⟩ := ws_nn (f := fun j => wt g n j (op j)) (i := i) hn fun k hk => wt_bd hn (ho k hk)
  unfold rng at h1
  exact flo_bd hp (wt_bd hn (ho i hi0)) (by omega) (h2 hi0)
theorem lk_bd {kind wall win : Int32} (hw : rng wall 1 99) (hv : win = 0 ∨ win = 1) : rng (lk kind wall win) 0 268 := by
  unfold rng at hw
  have two : (2 : Int32).toInt = 2 := by decide
  have three : (3 : Int32).toInt = 3 := by decide
  have one : (1 : Int32).toInt = 1 := by decide
  have tw : (20 : Int32).toInt = 20 := by decide
  have d2 : (wall / 2).toInt = wall.toInt.tdiv 2 := by rw [i_div (by rw [two]; decide), two]
  have d3 : (wall / 3).toInt = wall.toInt.tdiv 3 := by rw [i_div (by rw [three]; decide), three]
  have t2 := (td wall.toInt 2 (by decide)).1 (by omega)
  have t3 := (td wall.toInt 3 (by decide)).1 (by omega)
  have hwin : 0 ≤ (100 * win).toInt ∧ (100 * win).toInt ≤ 100 := by rcases hv with rfl | rfl <;> decide
  have b : rng (if kind = 1 then wall + wall / 2 else if kind = 2 then wall - wall / 3 + 1 else if kind = 4 then wall + wall / 2 + 20 else wall) 0 168 := by
    have s1 : (wall + wall / 2).toInt = wall.toInt + wall.toInt.tdiv 2 := by rw [i_add (by rw [d2]; omega) (by rw [d2]; omega), d2]
    have s2 : (wall - wall / 3).toInt = wall.toInt - wall.toInt.tdiv 3 := by rw [i_sub (by rw [d3]; omega) (by rw [d3]; omega), d3]
    unfold rng
    by_cases q1 : kind = 1
    · rw [if_pos q1, s1]; omega
    · rw [if_neg q1]
      by_cases q2 : kind = 2
      · rw [if_pos q2, i_add (by rw [s2]; omega) (by rw [s2]; omega), s2]; omega
      · rw [if_neg q2]
        by_cases q4 : kind = 4
        · rw [if_pos q4, i_add (by rw [s1]; omega) (by rw [s1]; omega), s1]; omega
        · rw [if_neg q4]; omega
  unfold rng at b ⊢
  unfold lk
  rw [i_add (by omega) (by omega)]
  omega
theorem lkf_bd {g : Nat → Int32} {h i : Nat} (H : FlatOk g h i) : rng (lkf g i) 0 268 := lk_bd H.2.2.1 H.2.2.2.2.2.1
/-- the row an hour later -/
def opg (g : Nat → Int32) (j : Nat) : Int32 := gx g j 3
def wmg (g : Nat → Int32) (j : Nat) : Int32 := gx g j 6
def hG (g : Nat → Int32) (n : Nat) (y : Nat) : Int32 := if y = 0 then g 0 + 1 else if 7 ≤ y ∧ (y - 7) / 11 < n then (if (y - 7) % 11 = 6 then hst (adj g) n (flw g n (opg g)) (lkf g) (g 3) (g 1) (wmg g) ((y - 7) / 11) else if (y - 7) % 11 = 7 then g y + hin (flw g n (opg g)) (g 3) (wmg g) ((y - 7) / 11) * gx g ((y - 7) / 11) 10 / 100 else if (y - 7) % 11 = 8 then g y + hin (flw g n (opg g)) (g 3) (wmg g) ((y - 7) / 11) else if (y - 7) % 11 = 9 then g y + hth (adj g) n (wmg g) ((y - 7) / 11) else g y) else g y
theorem hG_0 {g : Nat → Int32} {n : Nat} : hG g n 0 = g 0 + 1 := rfl
theorem hG_o {g : Nat → Int32} {n y : Nat} (hn : n ≤ 12) (h0 : y ≠ 0) (h : y < 7 ∨ 139 ≤ y) : hG g n y = g y := by
  unfold hG
  rw [if_neg h0, if_neg (by omega)]
theorem hG_x {g : Nat → Int32} {n i k : Nat} (hk : k < 11) (hi0 : i < n) : gx (hG g n) i k = if k = 6 then hst (adj g) n (flw g n (opg g)) (lkf g) (g 3) (g 1) (wmg g) i else if k = 7 then gx g i 7 + hin (flw g n (opg g)) (g 3) (wmg g) i * gx g i 10 / 100 else if k = 8 then gx g i 8 + hin (flw g n (opg g)) (g 3) (wmg g) i else if k = 9 then gx g i 9 + hth (adj g) n (wmg g) i else gx g i k := by
  have e1 : (7 + 11 * i + k - 7) / 11 = i := by omega
  have e2 : (7 + 11 * i + k - 7) % 11 = k := by omega
  show hG g n (7 + 11 * i + k) = _
  unfold hG
  rw [if_neg (by omega), if_pos ⟨by omega, by rw [e1]; exact hi0⟩, e1, e2]
  by_cases q6 : k = 6
  · rw [if_pos q6, if_pos q6]
  · rw [if_neg q6, if_neg q6]
    by_cases q7 : k = 7
    · rw [if_pos q7, if_pos q7, q7]; rfl
    · rw [if_neg q7, if_neg q7]
      by_cases q8 : k = 8
      · rw [if_pos q8, if_pos q8, q8]; rfl
      · rw [if_neg q8, if_neg q8]
        by_cases q9 : k = 9
        · rw [if_pos q9, if_pos q9, q9]; rfl
        · rw [if_neg q9, if_neg q9]; rfl
theorem hG_k {g : Nat → Int32} {n i k : Nat} (hk : k ≤ 5 ∨ k = 10) (hi0 : i < n) : gx (hG g n) i k = gx g i k := by
  rw [hG_x (by omega) hi0, if_neg (by omega), if_neg (by omega), if_neg (by omega), if_neg (by omega)]
theorem hG_r {g : Nat → Int32} {n : Nat} : ∀ j, j < n → gx (hG g n) j 1 = gx g j 1 := fun j hj => hG_k (by omega) hj
theorem hG_fl {g : Nat → Int32} {n i : Nat} (hn : n ≤ 12) (hi0 : i < n) : flw (hG g n) n (opg (hG g n)) i = flw g n (opg g) i := by
  unfold flw
  rw [hG_o hn (by decide) (by omega), wt_c hG_r (hG_k (by omega) hi0) hi0, show opg (hG g n) i = opg g i from hG_k (by omega) hi0]
  congr 1
  apply ws_c
  intro j hj
  rw [wt_c hG_r (hG_k (by omega) hj) hj, show opg (hG g n) j = opg g j from hG_k (by omega) hj]
theorem hG_lk {g : Nat → Int32} {n i : Nat} (hi0 : i < n) : lkf (hG g n) i = lkf g i := by
  unfold lkf
  rw [hG_k (by omega) hi0, hG_k (by omega) hi0, hG_k (by omega) hi0]
theorem hG_ok {g : Nat → Int32} {n h i : Nat} (hn : n ≤ 12) (hh : h < 2000) (hi0 : i < n) (hok : ∀ j, j < n → FlatOk g h j) (he : rng (g 1) (-300) 400 ∧ rng (g 2) 0 999 ∧ rng (g 3) 0 900) : FlatOk (hG g n) (h + 1) i := by
  have hf : rng (flw g n (opg g) i) 0 999 := flw_bd hn hi0 he.2.1 fun j hj => (hok j hj).2.2.2.1
  have hw : ∀ j, j < n → rng (wmg g j) (-300) 1500 := fun j hj => (hok j hj).2.2.2.2.2.2.1
  have hs := hst_bd hn hi0 hok hw hf (lkf_bd (hok i hi0)) he.2.2 he.1
  obtain ⟨n1, n2, -, -⟩ := hin_bd (hw i hi0) hf he.2.2
  obtain ⟨p0, p1, p2, p3, p4, p5, p6, p7, p8, p10⟩ := hok i hi0
  unfold FlatOk
  rw [hG_k (by omega) hi0, hG_k (by omega) hi0, hG_k (by omega) hi0, hG_k (by omega) hi0, hG_k (by omega) hi0, hG_k (by omega) hi0, hG_k (k := 10) (by omega) hi0, hG_x (k := 6) (by decide) hi0, hG_x (k := 7) (by decide) hi0, hG_x (k := 8) (by decide) hi0]
  simp only [if_true, if_false, show ¬ (7 : Nat) = 6 by decide, show ¬ (8 : Nat) = 6 by decide, show ¬ (8 : Nat) = 7 by decide]
  refine ⟨p0, p1, p2, p3, p4, p5, hs, ?_, ?_, p10⟩
  · unfold rng at p7 p10 ⊢
    have m0 := Int.mul_nonneg n1 p10.1
    have m1 : (hin (flw g n (opg g)) (g 3) (wmg g) i).toInt * (gx g i 10).toInt ≤ 1200 * 200 := mul_up n1 n2 p10.2 (by omega)
    have em : (hin (flw g n (opg g)) (g 3) (wmg g) i * gx g i 10).toInt = (hin (flw g n (opg g)) (g 3) (wmg g) i).toInt * (gx g i 10).toInt := i_mul (by omega) (by omega)
    have hd : (100 : Int32).toInt = 100 := by decide
    have ed : (hin (flw g n (opg g)) (g 3) (wmg g) i * gx g i 10 / 100).toInt = ((hin (flw g n (opg g)) (g 3) (wmg g) i).toInt * (gx g i 10).toInt).tdiv 100 := by rw [i_div (by rw [hd]; decide), em, hd]
    have t := (td _ 100 (by decide)).1 m0
    rw [i_add (by rw [ed]; omega) (by rw [ed]; omega), ed]
    omega
  · unfold rng at p8 ⊢
    rw [i_add (by omega) (by omega)]
    omega

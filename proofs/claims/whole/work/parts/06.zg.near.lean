/-! complaints -/
theorem near_sym {g : Nat → Int32} {a b : Nat} (h : near g a b) : near g b a := by
  obtain ⟨h1, h2, h3⟩ := h
  refine ⟨h1.symm, ⟨h2.2, h2.1⟩, ?_⟩
  rcases h3 with h3 | ⟨h3, h4⟩
  · exact Or.inl h3.symm
  · exact Or.inr ⟨h3.symm, h4.symm⟩
theorem Reach_n {g : Nat → Int32} {c a b : Nat} (ha : a < c) (hb : b < c) (h : near g a b) : Reach g c a b := fun X hX => hX a b ha hb h
theorem Reach_t {g : Nat → Int32} {c a b d : Nat} (h1 : Reach g c a b) (h2 : Reach g c b d) : Reach g c a d := fun X hX => (h1 X hX).trans (h2 X hX)
theorem Reach_s {g : Nat → Int32} {c a b : Nat} (h1 : Reach g c a b) : Reach g c b a := fun X hX => (h1 X hX).symm
theorem Reach_r {g : Nat → Int32} {c a : Nat} : Reach g c a a := fun _ _ => rfl
/-- labels: one a group, the least -/
def Lab (g : Nat → Int32) (c : Nat) (f : Nat → Int32) : Prop := ∀ k, k < c → ∃ m, m ≤ k ∧ f k = nI m ∧ Reach g c k m
def Clo (g : Nat → Int32) (c : Nat) (f : Nat → Int32) : Prop := ∀ a b, a < c → b < c → near g a b → f a = f b
theorem Lab_u {g : Nat → Int32} {c : Nat} {f f' : Nat → Int32} (hc : c ≤ 24) (h1 : Lab g c f) (h2 : Clo g c f) (h1' : Lab g c f') (h2' : Clo g c f') : ∀ k, k < c → f k = f' k := by
  have key : ∀ {f f' : Nat → Int32}, Lab g c f → Lab g c f' → Clo g c f' → ∀ k m m', k < c → f k = nI m → m ≤ k → Reach g c k m → f' k = nI m' → m' ≤ k → m' ≤ m := by
    intro f f' h1 h1' h2' k m m' hk e hm hr e' hm'
    have hX := hr (fun j => (f' j).toNatClampNeg) fun a b ha hb q => by simp only [h2' a b ha hb q]
    obtain ⟨p, p1, p2, -⟩ := h1' m (by omega)
    rw [e', p2, cl_n (by omega), cl_n (by omega)] at hX
    omega
  intro k hk
  obtain ⟨m, a1, a2, a3⟩ := h1 k hk
  obtain ⟨m', b1, b2, b3⟩ := h1' k hk
  have := key h1 h1' h2' k m m' hk a2 a1 a3 b2 b1
  have := key h1' h1 h2 k m' m hk b2 b1 b3 a2 a1
  have e : m = m' := by omega
  rw [a2, b2, e]
theorem CC_lab {Cz cf cs ch cg g : Nat → Int32} {n c : Nat} (h : CC Cz cf cs ch cg g n c) : Lab g c cg ∧ Clo g c cg := ⟨fun k hk => (h.2.2.2.1 k hk).2.2.2.2.2.2, h.2.2.2.2⟩
/-- what a complaint is about -/
def CO (g : Nat → Int32) (n c : Nat) : Prop := ∀ k, k < c → (∃ f, f < n ∧ cx g k 0 = nI f) ∧ (cx g k 1 = 1 ∨ cx g k 1 = 2) ∧ rng (cx g k 2) 0 2000
theorem about_e {w : Wd} {k j : Nat} {v : Int32} (hk : k < 24) (hj : j < 3) (e : v = nI j) : f_X11_about (nI k) v w = some (cx (w.1 77) k j) := by
  unfold f_X11_about
  subst e
  have i : (139 + 3 * nI k) + nI j = nI (139 + 3 * k + j) := by
    show (nI 139 + nI 3 * nI k) + nI j = _
    rw [nI_mul, nI_add, nI_add]
  rw [i, gd_in (by omega) (by decide), cl_n (by omega)]
  rfl
theorem areNear_e {x y m : Int32} (h1 : -100000 ≤ x.toInt ∧ x.toInt ≤ 100000) (h2 : -100000 ≤ y.toInt ∧ y.toInt ≤ 100000) : f_X11_areNear x y m = some (if x.toInt - y.toInt ≤ m.toInt ∧ y.toInt - x.toInt ≤ m.toInt then 1 else 0) := by
  unfold f_X11_areNear
  have e1 : (x - y).toInt = x.toInt - y.toInt := i_sub (by omega) (by omega)
  have e2 : (y - x).toInt = y.toInt - x.toInt := i_sub (by omega) (by omega)
  by_cases q1 : m < x - y
  · rw [if_pos q1, if_neg (by rw [i_lt, e1] at q1; omega)]
  · rw [if_neg q1]
    by_cases q2 : m < y - x
    · rw [if_pos q2, if_neg (by rw [i_lt, e2] at q2; omega)]
    · rw [if_neg q2, if_pos (by rw [i_lt, e1] at q1; rw [i_lt, e2] at q2; omega)]
theorem joinM {w : Wd} {n h c a b : Nat} (hn : n ≤ 12) (hc : c ≤ 24) (ha : a < c) (hb : b < c) (hO : CO (w.1 77) n c) (hok : ∀ i, i < n → FlatOk (w.1 77) h i) : (near (w.1 77) a b → f_X11_join (nI a) (nI b) w = some 1) ∧ (¬ near (w.1 77) a b → f_X11_join (nI a) (nI b) w = some 0) := by
  obtain ⟨⟨fa, a1, a2⟩, a3, a4⟩ := hO a ha
  obtain ⟨⟨fb, b1, b2⟩, b3, b4⟩ := hO b hb
  unfold rng at a4 b4
  have t3 : (3 : Int32).toInt = 3 := by decide
  have t1 : (1 : Int32).toInt = 1 := by decide
  have pa : pl (w.1 77) fa ≤ fa := pl_le
  have pb : pl (w.1 77) fb ≤ fb := pl_le
  have J1 : f_X11_join_J60 (nI a) (nI b) 1 w = some (if cx (w.1 77) a 1 = cx (w.1 77) b 1 ∧ ((cx (w.1 77) a 2).toInt - (cx (w.1 77) b 2).toInt ≤ 3 ∧ (cx (w.1 77) b 2).toInt - (cx (w.1 77) a 2).toInt ≤ 3) then 1 else 0) := by
    unfold f_X11_join_J60
    rw [if_neg (by decide), about_e (v := 1) (j := 1) (by omega) (by decide) rfl, about_e (v := 1) (j := 1) (by omega) (by decide) rfl, bd1, bd1]
    by_cases q : cx (w.1 77) a 1 = cx (w.1 77) b 1
    · rw [if_pos q, about_e (v := 2) (j := 2) (by omega) (by decide) rfl, about_e (v := 2) (j := 2) (by omega) (by decide) rfl, bd1, bd1, areNear_e (by omega) (by omega), t3, bd1]
      by_cases q2 : (cx (w.1 77) a 2).toInt - (cx (w.1 77) b 2).toInt ≤ 3 ∧ (cx (w.1 77) b 2).toInt - (cx (w.1 77) a 2).toInt ≤ 3
      · rw [if_pos q2, if_neg (by decide), if_pos ⟨q, q2⟩]
      · rw [if_neg q2, if_pos rfl, if_neg (fun z => q2 z.2)]
    · rw [if_neg q, if_neg (fun z => q z.1)]
  have J0 : f_X11_join_J60 (nI a) (nI b) 0 w = some 0 := by
    unfold f_X11_join_J60
    rw [if_pos rfl]
  have cfa : cfl (w.1 77) a = fa := by unfold cfl; rw [a2, cl_n (by omega)]
  have cfb : cfl (w.1 77) b = fb := by unfold cfl; rw [b2, cl_n (by omega)]
  unfold f_X11_join
  rw [about_e (v := 0) (j := 0) (by omega) (by decide) rfl, about_e (v := 0) (j := 0) (by omega) (by decide) rfl, bd1, bd1]
  unfold near
  rw [cfa, cfb]
  by_cases q : cx (w.1 77) a 0 = cx (w.1 77) b 0
  · rw [if_pos q]
    unfold f_X11_join_J55
    rw [J1]
    refine ⟨fun z => by rw [if_pos ⟨z.1, z.2.1⟩], fun z => by rw [if_neg (fun y => z ⟨y.1, y.2, Or.inl q⟩)]⟩
  · rw [if_neg q, a2, b2, get_1 (by omega), get_1 (by omega), bd1, bd1]
    have ne : fa ≠ fb := fun e => q (by rw [a2, b2, e])
    rw [a2, b2] at q
    by_cases q2 : gx (w.1 77) fa 1 = gx (w.1 77) fb 1
    · rw [if_pos q2, placeM (by omega), placeM (by omega), bd1, bd1, areNear_e (by rw [nI_toInt (by omega)]; omega) (by rw [nI_toInt (by omega)]; omega), t1, nI_toInt (by omega), nI_toInt (by omega), bd1]
      have pne : pl (w.1 77) fa ≠ pl (w.1 77) fb := fun e => ne (pl_inj q2 e)
      by_cases q3 : pl (w.1 77) fa = pl (w.1 77) fb + 1 ∨ pl (w.1 77) fb = pl (w.1 77) fa + 1
      · have cc : ((pl (w.1 77) fa : Nat) : Int) - ((pl (w.1 77) fb : Nat) : Int) ≤ 1 ∧ ((pl (w.1 77) fb : Nat) : Int) - ((pl (w.1 77) fa : Nat) : Int) ≤ 1 := by omega
        rw [if_pos cc, if_neg (by decide)]
        unfold f_X11_join_J55
        rw [J1]
        refine ⟨fun z => by rw [if_pos ⟨z.1, z.2.1⟩], fun z => by rw [if_neg (fun y => z ⟨y.1, y.2, Or.inr ⟨q2, q3⟩⟩)]⟩
      · have cc : ¬ (((pl (w.1 77) fa : Nat) : Int) - ((pl (w.1 77) fb : Nat) : Int) ≤ 1 ∧ ((pl (w.1 77) fb : Nat) : Int) - ((pl (w.1 77) fa : Nat) : Int) ≤ 1) := by omega
        rw [if_neg cc, if_pos rfl]
        unfold f_X11_join_J59
        rw [J0]
        refine ⟨fun z => ?_, fun _ => rfl⟩
        rcases z.2.2 with y | y
        · exact absurd y q
        · exact absurd y.2 q3
    · rw [if_neg q2]
      unfold f_X11_join_J59
      rw [J0]
      refine ⟨fun z => ?_, fun _ => rfl⟩
      rcases z.2.2 with y | y
      · exact absurd y q
      · exact absurd y.1 q2
theorem abs3 {x y : Int32} (h1 : 0 ≤ x.toInt ∧ x.toInt ≤ 2000) (h2 : 0 ≤ y.toInt ∧ y.toInt ≤ 2000) : (if 0 ≤ x - y then x - y else 0 - (x - y)) ≤ 3 ↔ (x.toInt - y.toInt ≤ 3 ∧ y.toInt - x.toInt ≤ 3) := by
  have e : (x - y).toInt = x.toInt - y.toInt := i_sub (by omega) (by omega)
  have z : (0 : Int32).toInt = 0 := by decide
  have o : (3 : Int32).toInt = 3 := by decide
  by_cases q : 0 ≤ x - y
  · rw [if_pos q, i_le, e, o]
    rw [i_le, e, z] at q
    omega
  · rw [if_neg q, i_le, i_sub (by rw [e, z]; omega) (by rw [e, z]; omega), e, z, o]
    rw [i_le, e, z] at q
    omega
theorem nearX {w : Wd} {g : Nat → Int32} {n h c a b : Nat} (hn : n ≤ 12) (hc : c ≤ 24) (ha : a < c) (hb : b < c) (hO : CO g n c) (hA : ∀ k, k < c → w.1 24 k = cx g k 0 ∧ w.1 25 k = cx g k 1 ∧ w.1 26 k = cx g k 2) (hF : ∀ j, j < n → w.1 (35 + j) 1 = gx g j 1 ∧ w.1 (35 + j) 2 = nI (pl g j)) (hok : ∀ i, i < n → FlatOk g h i) : (near g a b → f_X1_isNear (nI a) (nI b) w = some 1) ∧ (¬ near g a b → f_X1_isNear (nI a) (nI b) w = some 0) := by
  obtain ⟨⟨fa, a1, a2⟩, a3, a4⟩ := hO a ha
  obtain ⟨⟨fb, b1, b2⟩, b3, b4⟩ := hO b hb
  obtain ⟨x1, x2, x3⟩ := hA a ha
  obtain ⟨y1, y2, y3⟩ := hA b hb
  have cfa : cfl g a = fa := by unfold cfl; rw [a2, cl_n (by omega)]
  have cfb : cfl g b = fb := by unfold cfl; rw [b2, cl_n (by omega)]
  unfold f_X1_isNear near
  rw [cfa, cfb, gd_in (by omega) (by decide), gd_in (by omega) (by decide), gd_in (by omega) (by decide), gd_in (by omega) (by decide), gd_in (by omega) (by decide), gd_in (by omega) (by decide), gd_in (by omega) (by decide), cl_n (by omega), cl_n (by omega), x1, x2, x3, y1, y2, y3, a2, b2]
  have A := abs3 (x := cx g a 2) (y := cx g b 2) a4 b4
  by_cases q : cx g a 1 = cx g b 1
  · rw [if_pos q]
    by_cases q2 : (cx g a 2).toInt - (cx g b 2).toInt ≤ 3 ∧ (cx g b 2).toInt - (cx g a 2).toInt ≤ 3
    · rw [if_pos (A.mpr q2)]
      by_cases q3 : nI fa = nI fb
      · rw [if_pos q3]
        exact ⟨fun _ => rfl, fun z => absurd ⟨q, q2, Or.inl q3⟩ z⟩
      · rw [if_neg q3, gd_in (by omega) (by decide), gd_in (by omega) (by decide), gd_in (by omega) (by decide), cl_n (by omega), cl_n (by omega), rabX hn a1 b1 hF hok, bd1]
        have r : gx g fa 1 = gx g fb 1 ↔ rs g fa = rs g fb := by
          rw [(rs_e (hok fa a1)).2, (rs_e (hok fb b1)).2]
          have := (rs_e (hok fa a1)).1
          have := (rs_e (hok fb b1)).1
          exact nI_eq (by omega) (by omega)
        by_cases q4 : rs g fa = rs g fb ∧ (pl g fa = pl g fb + 1 ∨ pl g fb = pl g fa + 1)
        · rw [if_pos q4, if_neg (by decide)]
          exact ⟨fun _ => rfl, fun z => absurd ⟨q, q2, Or.inr ⟨r.mpr q4.1, q4.2⟩⟩ z⟩
        · rw [if_neg q4, if_pos rfl]
          refine ⟨fun z => ?_, fun _ => rfl⟩
          rcases z.2.2 with y | y
          · exact absurd y q3
          · exact absurd ⟨r.mp y.1, y.2⟩ q4
    · rw [if_neg (fun z => q2 (A.mp z))]
      exact ⟨fun z => absurd z.2.1 q2, fun _ => rfl⟩
  · rw [if_neg q]
    exact ⟨fun z => absurd z.1 q, fun _ => rfl⟩

/-! what leaves the tie as it is -/
theorem cnt_c {g g' : Nat → Int32} {r : Int32} : ∀ {m : Nat}, (∀ j, j < m → gx g' j 1 = gx g j 1) → cnt g' r m = cnt g r m
  | 0, _ => rfl
  | m + 1, h => by
    unfold cnt
    rw [cnt_c (fun j hj => h j (Nat.lt_succ_of_lt hj)), h m (Nat.lt_succ_self m)]
theorem pl_c {g g' : Nat → Int32} {n i : Nat} (h : ∀ j, j < n → gx g' j 1 = gx g j 1) (hi : i < n) : pl g' i = pl g i := by
  unfold pl
  rw [h i hi]
  exact cnt_c fun j hj => h j (Nat.lt_trans hj hi)
theorem cnt_le {g : Nat → Int32} {r : Int32} : ∀ {m : Nat}, cnt g r m ≤ m
  | 0 => Nat.le_refl _
  | m + 1 => by
    unfold cnt
    have := @cnt_le g r m
    split <;> omega
theorem cnt_mono {g : Nat → Int32} {r : Int32} {a b : Nat} (h : a ≤ b) : cnt g r a ≤ cnt g r b := by
  induction b with
  | zero => have e : a = 0 := by omega
            subst e; exact Nat.le_refl _
  | succ b ih =>
    rcases Nat.lt_or_ge a (b + 1) with q | q
    · exact Nat.le_trans (ih (by omega)) (Nat.le_add_right _ _)
    · have e : a = b + 1 := by omega
      subst e; exact Nat.le_refl _
theorem cl_lt {f n : Nat} (h : f < n) (hn : n ≤ 12) : (nI f).toNatClampNeg = f := cl_n (by omega)
theorem near_c {g g' : Nat → Int32} {n a b : Nat} (hn : n ≤ 12) (hr : ∀ j, j < n → gx g' j 1 = gx g j 1) (ha : ∀ j, j < 3 → cx g' a j = cx g a j) (hb : ∀ j, j < 3 → cx g' b j = cx g b j) (fa : ∃ f, f < n ∧ cx g a 0 = nI f) (fb : ∃ f, f < n ∧ cx g b 0 = nI f) : near g' a b ↔ near g a b := by
  obtain ⟨f, hf, ef⟩ := fa
  obtain ⟨k, hk, ek⟩ := fb
  unfold near cfl
  rw [ha 0 (by decide), ha 1 (by decide), ha 2 (by decide), hb 0 (by decide), hb 1 (by decide), hb 2 (by decide), ef, ek, cl_lt hf hn, cl_lt hk hn, hr f hf, hr k hk, pl_c hr hf, pl_c hr hk]
theorem CC_c {Cz cf cs ch cg g g' : Nat → Int32} {n n' c : Nat} (h : CC Cz cf cs ch cg g n c) (hn : n ≤ 12) (hnn : n ≤ n') (h5 : g' 5 = g 5) (hc : ∀ k j, k < 24 → j < 3 → cx g' k j = cx g k j) (hr : ∀ j, j < n → gx g' j 1 = gx g j 1) : CC Cz cf cs ch cg g' n' c := by
  obtain ⟨h0, h1, h2, h3, h4⟩ := h
  have hN : ∀ a b, a < c → b < c → (near g' a b ↔ near g a b) := fun a b ha hb => near_c hn hr (fun j hj => hc a j (by omega) hj) (fun j hj => hc b j (by omega) hj) (h3 a ha).2.2.2.1 (h3 b hb).2.2.2.1
  refine ⟨h0, h1, h5.trans h2, fun k hk => ?_, fun a b ha hb q => h4 a b ha hb ((hN a b ha hb).mp q)⟩
  obtain ⟨q1, q2, q3, ⟨f, q4, q5⟩, q6, q7, m, q8, q9, q10⟩ := h3 k hk
  rw [hc k 0 (by omega) (by decide), hc k 1 (by omega) (by decide), hc k 2 (by omega) (by decide)]
  exact ⟨q1, q2, q3, ⟨f, by omega, q5⟩, q6, q7, m, q8, q9, fun X hX => q10 X fun a b ha hb q => hX a b ha hb ((hN a b ha hb).mpr q)⟩
theorem codes_c {g g' : Nat → Int32} {t : Nat} (ht : t ≤ 80) (h : ∀ k, k < 80 → g' (211 + k) = g (211 + k)) : codes g' t = codes g t := by
  unfold codes
  apply List.map_congr_left
  intro k hk
  exact h k (by have := List.mem_range.mp hk; omega)
theorem RI_c {T tb g g' : Nat → Int32} (h : RI T tb g) (h6 : g' 6 = g 6) (hs : ∀ k, k < 80 → g' (211 + k) = g (211 + k)) : RI T tb g' := by
  obtain ⟨s, t, q1, q2, q3, q4, q5, q6, q7⟩ := h
  refine ⟨s, t, q1, q2, q3, h6.trans q4, q5, q6, fun p => ?_⟩
  rw [codes_c q2 hs]
  exact q7 p
theorem BI_F {B : Nat → Int32} {F F' : Nat → Nat → Int32} {Hh g : Nat → Int32} {n h : Nat} (H : BI B F Hh g n h) (e : ∀ i, i < 12 → F' i = F i) : BI B F' Hh g n h := by
  obtain ⟨h1, h2, h3, h4, h5, h6⟩ := H
  exact ⟨h1, h2, h3, h4, fun i hi => by rw [e i (by omega)]; exact h5 i hi, h6⟩
theorem SR_F {B : Nat → Int32} {F F' : Nat → Nat → Int32} {Hh T tb Cz cf cs ch cg g : Nat → Int32} (H : SR B F Hh T tb Cz cf cs ch cg g) (e : ∀ i, i < 12 → F' i = F i) : SR B F' Hh T tb Cz cf cs ch cg g := by
  obtain ⟨n, h, c, q1, q2, q3, q4⟩ := H
  exact ⟨n, h, c, BI_F q1 e, q2, q3, fun i hi0 => by rw [e i hi0]; exact q4 i hi0⟩
theorem ZF_of {F F' : Nat → Nat → Int32} {g : Nat → Int32} {n h : Nat} (H : ∀ i, i < n → FlatEq (F' i) g i ∧ FlatOk g h i) (e : ∀ j, n ≤ j → j < 12 → F' j = F j) (Z : ZF F) : ZF F' := fun i hi0 => by
  rcases Nat.lt_or_ge i n with q | q
  · obtain ⟨⟨-, -, -, a⟩, -, -, -, -, b, c, -⟩ := H i q
    rw [a 4 (by decide) (by decide), a 5 (by decide) (by decide)]
    exact ⟨b, c⟩
  · rw [e i q hi0]
    exact Z i hi0
theorem SR_mk {B : Nat → Int32} {F F0 : Nat → Nat → Int32} {Hh T tb Cz cf cs ch cg g : Nat → Int32} {n h c : Nat} (hB : BI B F Hh g n h) (hC : CC Cz cf cs ch cg g n c) (hR : RI T tb g) (e : ∀ j, n ≤ j → j < 12 → F j = F0 j) (Z : ZF F0) : SR B F Hh T tb Cz cf cs ch cg g := ⟨n, h, c, hB, hC, hR, ZF_of hB.2.2.2.2.1 e Z⟩
def Ess (k : Nat) : Bool := k == 0 || (Nat.ble 3 k && Nat.ble k 9) || k == 16 || (Nat.ble 19 k && Nat.ble k 31) || (Nat.ble 35 k && Nat.ble k 58) || k == 74 || k == 75 || (Nat.ble 77 k && Nat.ble k 79) || k == 92 || k == 100 || k == 101
def E76 (j : Nat) : Bool := j == 2 || j == 4 || j == 18 || (Nat.ble 30 j && Nat.ble j 37)
theorem Ess_F {k : Nat} (h : 35 ≤ k) (h2 : k ≤ 58) : Ess k = true := by
  unfold Ess
  have e1 : Nat.ble 35 k = true := Nat.ble_eq.mpr h
  have e2 : Nat.ble k 58 = true := Nat.ble_eq.mpr h2
  simp [e1, e2]
theorem SRm_a {w w' : Wd} (h : SRm w) (h1 : ∀ k, Ess k = true → w'.1 k = w.1 k) : SRm w' := by
  unfold SRm at h ⊢
  rw [h1 3 rfl, h1 19 rfl, h1 5 rfl, h1 21 rfl, h1 8 rfl, h1 24 rfl, h1 25 rfl, h1 26 rfl, h1 27 rfl, h1 77 rfl]
  exact SR_F h fun i hi => h1 (35 + i) (Ess_F (by omega) (by omega))
theorem SRk_a {w w' : Wd} (h : SRk w) (h1 : ∀ k, Ess k = true → w'.1 k = w.1 k) : SRk w' := by
  unfold SRk at h ⊢
  rw [h1 4 rfl, h1 20 rfl, h1 6 rfl, h1 22 rfl, h1 9 rfl, h1 28 rfl, h1 29 rfl, h1 30 rfl, h1 31 rfl, h1 78 rfl]
  exact SR_F h fun i hi => h1 (47 + i) (Ess_F (by omega) (by omega))
theorem FRes_c {r : Option (List (Nat × Nat))} {F F' : Nat → Int32} (h : FRes r F) (e : ∀ j, 33 ≤ j → j ≤ 37 → F' j = F j) : FRes r F' := by
  unfold FRes at h ⊢
  rcases r with _ | (_ | ⟨⟨f, v⟩, _ | ⟨⟨k, u⟩, t⟩⟩)
  · exact (e 33 (by decide) (by decide)).trans h
  · exact (e 33 (by decide) (by decide)).trans h
  · exact ⟨(e 33 (by decide) (by decide)).trans h.1, (e 34 (by decide) (by decide)).trans h.2.1, (e 36 (by decide) (by decide)).trans h.2.2⟩
  · exact ⟨(e 33 (by decide) (by decide)).trans h.1, (e 34 (by decide) (by decide)).trans h.2.1, (e 36 (by decide) (by decide)).trans h.2.2.1, (e 35 (by decide) (by decide)).trans h.2.2.2.1, (e 37 (by decide) (by decide)).trans h.2.2.2.2⟩
theorem E76_r {j : Nat} (h : 30 ≤ j) (h2 : j ≤ 37) : E76 j = true := by
  unfold E76
  have e1 : Nat.ble 30 j = true := Nat.ble_eq.mpr h
  have e2 : Nat.ble j 37 = true := Nat.ble_eq.mpr h2
  simp [e1, e2]
theorem FC_a {w w' : Wd} (h : FC w) (h77 : w'.1 77 = w.1 77) (h76 : ∀ j, 30 ≤ j → j ≤ 37 → w'.1 76 j = w.1 76 j) : FC w' := by
  unfold FC at h ⊢
  rw [h76 30 (by decide) (by decide), h77, h76 32 (by decide) (by decide), h76 31 (by decide) (by decide)]
  rcases h with h | ⟨h, n, hrs, q1, q2, q3, q4, q5⟩
  · exact Or.inl h
  · exact Or.inr ⟨h, n, hrs, q1, q2, q3, q4, FRes_c q5 fun j a b => h76 j (by omega) b⟩
theorem IK_a {w w' : Wd} (h : IK w) (h1 : ∀ k, Ess k = true → w'.1 k = w.1 k) (h76 : w'.1 76 2 = w.1 76 2) : IK w' := by
  unfold IK at h ⊢
  rw [h1 0 rfl, h76]
  rcases h with h | ⟨a, b, h⟩
  · exact Or.inl h
  · exact Or.inr ⟨a, b, SRk_a h h1⟩
theorem IT_a {w w' : Wd} (h : IT w) (h7 : w'.1 7 = w.1 7) (h23 : w'.1 23 = w.1 23) (h92 : w'.1 92 = w.1 92) (h76 : w'.1 76 18 = w.1 76 18) : IT w' := by
  unfold IT at h ⊢
  rw [h7, h23, h92, h76]
  exact h
theorem IS_a {w w' : Wd} (h : IS w) (h74 : w'.1 74 = w.1 74) (h75 : w'.1 75 = w.1 75) (h100 : w'.1 100 = w.1 100) (h101 : w'.1 101 = w.1 101) (h2 : w'.2 = w.2) : IS w' := by
  unfold IS at h ⊢
  rw [h74, h75, h100, h101, h2]
  exact h
theorem IF_a {w w' : Wd} (h : IF w) (h16 : w'.1 16 = w.1 16) (h79 : w'.1 79 = w.1 79) (h76 : w'.1 76 4 = w.1 76 4) : IF w' := by
  unfold IF at h ⊢
  rw [h16, h79, h76]
  exact h
theorem Inv_a {w w' : Wd} (h : Inv w) (h1 : ∀ k, Ess k = true → w'.1 k = w.1 k) (h76 : ∀ j, E76 j = true → w'.1 76 j = w.1 76 j) (h2 : w'.2 = w.2) : Inv w' := by
  obtain ⟨a, b, c, d, e, f⟩ := h
  exact ⟨IF_a a (h1 16 rfl) (h1 79 rfl) (h76 4 rfl), IT_a b (h1 7 rfl) (h1 23 rfl) (h1 92 rfl) (h76 18 rfl), IS_a c (h1 74 rfl) (h1 75 rfl) (h1 100 rfl) (h1 101 rfl) h2, SRm_a d h1, IK_a e h1 (h76 2 rfl), FC_a f (h1 77 rfl) fun j p q => h76 j (E76_r p q)⟩
/-- two calls, one of the class, then one of the reference: one answer, and the tie holds -/
def Op (fc fr : Wd → Option (Int32 × Wd)) (w : Wd) : Prop := ∃ r w1 w2, fc w = some (r, w1) ∧ fr w1 = some (r, w2) ∧ Inv w2
/-- the seven findings -/
def fcode (k : Nat) : Int32 := -1000000001 - nI k
theorem fcode_k {k : Nat} (h : k < 7) : -1000000001 - fcode k = nI k := by
  unfold fcode
  grind
theorem fnd {k : Nat} (h : k < 7) (w : Wd) : f_X10_finding (fcode k) w = some (fcode k, si w 16 k (w.1 16 k + 1)) := by
  unfold f_X10_finding
  rw [fcode_k h, win_of (by rw [nI_toInt (by omega)]; exact Int.natCast_nonneg k) (by rw [nI_toInt (by omega)]; show (k : Int) ≤ 6; omega)]
  simp only [Option.bind_some]
  rw [if_neg (by decide), gd_in h (by decide), gd_in h (by decide), cl_n (by omega)]
  rfl
theorem fds {k : Nat} (h : k < 7) (w : Wd) : f_X11_finds (fcode k) w = some (fcode k, si (si w 79 k (w.1 79 k + 1)) 76 4 (w.1 76 4 + 1)) := by
  unfold f_X11_finds
  rw [fcode_k h, gd_in h (by decide), gd_in h (by decide), cl_n (by omega)]
  rfl
theorem ws_up {f : Nat → Int32} {k : Nat} {v : Int32} : ∀ {n : Nat}, ws (fun j => if j = k then v else f j) n = if k < n then ws f n + (v - f k) else ws f n
  | 0 => rfl
  | n + 1 => by
    show ws (fun j => if j = k then v else f j) n + (if n = k then v else f n) = if k < n + 1 then (ws f n + f n) + (v - f k) else ws f n + f n
    rw [ws_up]
    rcases Nat.lt_trichotomy k n with h | h | h
    · rw [if_pos h, if_pos (show k < n + 1 by omega), if_neg (show ¬ n = k by omega)]
      grind
    · subst h
      rw [if_neg (Nat.lt_irrefl k), if_pos (Nat.lt_succ_self k), if_pos rfl]
      grind
    · rw [if_neg (show ¬ k < n by omega), if_neg (show ¬ k < n + 1 by omega), if_neg (show ¬ n = k by omega)]
theorem refuse {w : Wd} {k : Nat} (h : Inv w) (hk : k < 7) : Inv (si (si (si w 16 k (w.1 16 k + 1)) 79 k ((si w 16 k (w.1 16 k + 1)).1 79 k + 1)) 76 4 ((si w 16 k (w.1 16 k + 1)).1 76 4 + 1)) := by
  obtain ⟨a, b, c, d, e, f⟩ := h
  have hn : ∀ x, x ≠ 16 → x ≠ 79 → x ≠ 76 → (si (si (si w 16 k (w.1 16 k + 1)) 79 k ((si w 16 k (w.1 16 k + 1)).1 79 k + 1)) 76 4 ((si w 16 k (w.1 16 k + 1)).1 76 4 + 1)).1 x = w.1 x := fun x p q r => by rw [si_n r, si_n q, si_n p]
  have hj : ∀ j, j ≠ 4 → (si (si (si w 16 k (w.1 16 k + 1)) 79 k ((si w 16 k (w.1 16 k + 1)).1 79 k + 1)) 76 4 ((si w 16 k (w.1 16 k + 1)).1 76 4 + 1)).1 76 j = w.1 76 j := fun j q => by rw [si_o q, si_n (by decide), si_n (by decide)]
  have hF : ∀ {x : Nat}, (3 ≤ x ∧ x ≤ 9 ∨ 19 ≤ x ∧ x ≤ 58 ∨ x = 77 ∨ x = 78) → (si (si (si w 16 k (w.1 16 k + 1)) 79 k ((si w 16 k (w.1 16 k + 1)).1 79 k + 1)) 76 4 ((si w 16 k (w.1 16 k + 1)).1 76 4 + 1)).1 x = w.1 x := fun q => hn _ (by omega) (by omega) (by omega)
  have hm : SRm (si (si (si w 16 k (w.1 16 k + 1)) 79 k ((si w 16 k (w.1 16 k + 1)).1 79 k + 1)) 76 4 ((si w 16 k (w.1 16 k + 1)).1 76 4 + 1)) := by
    unfold SRm at d ⊢
    rw [hF (x := 3) (by omega), hF (x := 19) (by omega), hF (x := 5) (by omega), hF (x := 21) (by omega), hF (x := 8) (by omega), hF (x := 24) (by omega), hF (x := 25) (by omega), hF (x := 26) (by omega), hF (x := 27) (by omega), hF (x := 77) (by omega)]
    exact SR_F d fun i hi => hF (by omega)
  have hk2 : SRk w → SRk (si (si (si w 16 k (w.1 16 k + 1)) 79 k ((si w 16 k (w.1 16 k + 1)).1 79 k + 1)) 76 4 ((si w 16 k (w.1 16 k + 1)).1 76 4 + 1)) := fun d => by
    unfold SRk at d ⊢
    rw [hF (x := 4) (by omega), hF (x := 20) (by omega), hF (x := 6) (by omega), hF (x := 22) (by omega), hF (x := 9) (by omega), hF (x := 28) (by omega), hF (x := 29) (by omega), hF (x := 30) (by omega), hF (x := 31) (by omega), hF (x := 78) (by omega)]
    exact SR_F d fun i hi => hF (by omega)
  refine ⟨⟨fun i hi => ?_, ?_⟩, IT_a b (hF (by omega)) (hF (by omega)) (hn 92 (by decide) (by decide) (by decide)) (hj 18 (by decide)), IS_a c (hn 74 (by decide) (by decide) (by decide)) (hn 75 (by decide) (by decide) (by decide)) (hn 100 (by decide) (by decide) (by decide)) (hn 101 (by decide) (by decide) (by decide)) rfl, hm, ?_, FC_a f (hF (by omega)) fun j q _ => hj j (by omega)⟩
  · rw [si_n (by decide), si_n (by decide), si_n (show (79 : Nat) ≠ 76 by decide), si_n (show (79 : Nat) ≠ 16 by decide), si_g, si_g]
    simp only [true_and]
    rw [a.1 k hk, si_n (by decide)]
    by_cases q : i = k
    · rw [if_pos q, if_pos q]
    · rw [if_neg q, if_neg q]; exact a.1 i hi
  · rw [si_s, si_n (show (76 : Nat) ≠ 16 by decide), si_n (show (79 : Nat) ≠ 76 by decide), si_n (show (79 : Nat) ≠ 16 by decide), a.2]
    have e2 : (si (si w 16 k (w.1 16 k + 1)) 79 k (w.1 79 k + 1)).1 79 = fun j => if j = k then w.1 79 k + 1 else w.1 79 j := by
      funext j
      rw [si_g, si_n (by decide)]
      simp
    rw [e2, ws_up, if_pos hk, Int32.add_comm (w.1 79 k) 1, Int32.add_sub_cancel]
  · unfold IK at e ⊢
    rw [hn 0 (by decide) (by decide) (by decide), hj 2 (by decide)]
    rcases e with e | ⟨e1, e2, e3⟩
    · exact Or.inl e
    · exact Or.inr ⟨e1, e2, hk2 e3⟩

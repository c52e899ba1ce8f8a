/-! warmth through walls: the reference's four neighbours are the adjacent flats -/
theorem ws_add {f g : Nat → Int32} : ∀ {n : Nat}, ws (fun k => f k + g k) n = ws f n + ws g n
  | 0 => rfl
  | n + 1 => by
    show ws (fun k => f k + g k) n + (f n + g n) = (ws f n + f n) + (ws g n + g n)
    rw [ws_add]
    grind
theorem ws_0 {f : Nat → Int32} : ∀ {n : Nat}, (∀ k, k < n → f k = 0) → ws f n = 0
  | 0, _ => rfl
  | n + 1, h => by
    show ws f n + f n = 0
    rw [ws_0 fun k hk => h k (by omega), h n (by omega)]
    rfl
theorem ff_some {Q : Nat → Prop} {D : ∀ m, Decidable (Q m)} {o : Nat} : ∀ {n : Nat}, ff (fun m => @ite _ (Q m) (D m) (some m) none) n = some o → o < n ∧ Q o
  | n + 1, h => by
    have h : (ff (fun m => @ite _ (Q m) (D m) (some m) none) n).or (@ite _ (Q n) (D n) (some n) none) = some o := h
    cases e : ff (fun m => @ite _ (Q m) (D m) (some m) none) n with
    | none =>
      rw [e] at h
      have h : @ite _ (Q n) (D n) (some n) none = some o := h
      by_cases q : Q n
      · rw [if_pos q] at h
        cases h
        exact ⟨Nat.lt_succ_self _, q⟩
      · rw [if_neg q] at h
        cases h
    | some x =>
      rw [e] at h
      cases h
      exact ⟨Nat.lt_succ_of_lt (ff_some e).1, (ff_some e).2⟩
theorem ff_none {Q : Nat → Prop} {D : ∀ m, Decidable (Q m)} : ∀ {n : Nat}, ff (fun m => @ite _ (Q m) (D m) (some m) none) n = none → ∀ k, k < n → ¬ Q k
  | n + 1, h, k, hk => by
    have h : (ff (fun m => @ite _ (Q m) (D m) (some m) none) n).or (@ite _ (Q n) (D n) (some n) none) = none := h
    cases e : ff (fun m => @ite _ (Q m) (D m) (some m) none) n with
    | none =>
      rw [e] at h
      have h : @ite _ (Q n) (D n) (some n) none = none := h
      rcases Nat.lt_or_ge k n with q | q
      · exact ff_none e k q
      · have ek : k = n := by omega
        subst ek
        intro z
        rw [if_pos z] at h
        cases h
    | some x =>
      rw [e] at h
      cases h
theorem ws_one {f : Nat → Int32} {o : Nat} : ∀ {n : Nat}, o < n → (∀ k, k < n → k ≠ o → f k = 0) → ws f n = f o
  | n + 1, ho, h => by
    show ws f n + f n = f o
    rcases Nat.lt_or_ge o n with q | q
    · rw [ws_one q fun k hk ne => h k (by omega) ne, h n (by omega) (by omega), Int32.add_zero]
    · have e : o = n := by omega
      subst e
      rw [ws_0 fun k hk => h k (by omega) (by omega), Int32.zero_add]
theorem ws_uni {Q : Nat → Prop} {D D2 : ∀ m, Decidable (Q m)} {x : Nat → Int32} {n : Nat} (hu : ∀ a b, a < n → b < n → Q a → Q b → a = b) : ws (fun k => @ite _ (Q k) (D2 k) (x k) 0) n = (ff (fun m => @ite _ (Q m) (D m) (some m) none) n).elim 0 x := by
  cases e : ff (fun m => @ite _ (Q m) (D m) (some m) none) n with
  | none =>
    rw [ws_0 fun k hk => if_neg (ff_none e k hk)]
    rfl
  | some o =>
    obtain ⟨h1, h2⟩ := ff_some e
    rw [ws_one h1 fun k hk ne => if_neg fun q => ne (hu k o hk h1 q h2), if_pos h2]
    rfl
theorem pl_lt {g : Nat → Int32} {a b : Nat} (h : a < b) (hr : gx g a 1 = gx g b 1) : pl g a < pl g b := by
  have h1 : cnt g (gx g a 1) (a + 1) ≤ cnt g (gx g a 1) b := cnt_mono h
  rw [cnt_i] at h1
  unfold pl at h1 ⊢
  rw [← hr]
  omega
theorem pl_inj {g : Nat → Int32} {a b : Nat} (hr : gx g a 1 = gx g b 1) (h : pl g a = pl g b) : a = b := by
  rcases Nat.lt_trichotomy a b with q | q | q
  · have := pl_lt q hr; omega
  · exact q
  · have := pl_lt q hr.symm; omega
theorem pl_le {g : Nat → Int32} {i : Nat} : pl g i ≤ i := cnt_le
def xo (x : Nat → Int32) (o : Int32) : Int32 := if 0 ≤ o then x o.toNatClampNeg else 0
theorem xo_oI {x : Nat → Int32} {n : Nat} (hn : n ≤ 12) {o : Option Nat} (ho : ∀ k, o = some k → k < n) : xo x (oI o) = o.elim 0 x := by
  cases o with
  | none =>
    show (if (0 : Int32) ≤ -1 then _ else _) = _
    rw [if_neg (by decide)]
    rfl
  | some k =>
    have := ho k rfl
    show (if (0 : Int32) ≤ nI k then x (nI k).toNatClampNeg else 0) = _
    rw [if_pos (nI_pos' (by omega)), cl_n (by omega)]
    rfl
theorem xo_nb {g : Nat → Int32} {n : Nat} {r p : Int32} {x : Nat → Int32} (hn : n ≤ 12) : xo x (nb g n r p) = (ff (fP g r p) n).elim 0 x := by
  unfold nb
  exact xo_oI hn fun k e => (ff_some (Q := fun m => gx g m 1 = r ∧ nI (cnt g r m) = p) e).1
theorem nb_sum {g : Nat → Int32} {n : Nat} {r p : Int32} {x : Nat → Int32} (hn : n ≤ 12) : xo x (nb g n r p) = ws (fun k => if gx g k 1 = r ∧ nI (cnt g r k) = p then x k else 0) n := by
  rw [xo_nb hn]
  refine (ws_uni fun a b ha hb qa qb => ?_).symm
  refine pl_inj (qa.1.trans qb.1.symm) ?_
  have e : nI (pl g a) = nI (pl g b) := by
    unfold pl
    rw [qa.1, qb.1, qa.2, qb.2]
  have h1 : pl g a ≤ a := pl_le
  have h2 : pl g b ≤ b := pl_le
  exact (nI_eq (by omega) (by omega)).mp e
theorem thr_e {g : Nat → Int32} {n h f : Nat} {wm : Nat → Int32} (hn : n ≤ 12) (hf : f < n) (hok : ∀ i, i < n → FlatOk g h i) : xo (fun k => (wm k - wm f) / 20) (nbA g n f) + xo (fun k => (wm k - wm f) / 20) (nbB g n f) + xo (fun k => (wm k - wm f) / 20) (nbC g n f) + xo (fun k => (wm k - wm f) / 20) (nbD g n f) = hth (adj g) n wm f := by
  have hp : ∀ k, k < n → pl g k < 2 ^ 31 - 1 := fun k hk => by have : pl g k ≤ k := pl_le; omega
  have hB : xo (fun k => (wm k - wm f) / 20) (nbB g n f) = ws (fun k => if rs g k = rs g f ∧ pl g f = pl g k + 1 then (wm k - wm f) / 20 else 0) n := by
    unfold nbB
    by_cases q : nI (pl g f) = 0
    · rw [if_pos q]
      have q0 : pl g f = 0 := (nI_eq (b := 0) (by have := hp f hf; omega) (by decide)).mp q
      rw [ws_0 fun k hk => if_neg (by omega)]
      show (if (0 : Int32) ≤ -1 then _ else _) = _
      rw [if_neg (by decide)]
    · rw [if_neg q, nb_sum hn]
      have q0 : 0 < pl g f := Nat.pos_of_ne_zero fun z => q (by rw [z]; rfl)
      apply ws_c
      intro k hk
      obtain ⟨r1, r2⟩ := rs_e (hok k hk)
      obtain ⟨s1, s2⟩ := rs_e (hok f hf)
      have := hp k hk
      have := hp f hf
      by_cases z : gx g k 1 = gx g f 1
      · have z2 : rs g k = rs g f := by unfold rs; rw [z]
        have e : cnt g (gx g f 1) k = pl g k := by unfold pl; rw [z]
        rw [e, nI_m1 q0]
        by_cases y : pl g f = pl g k + 1
        · rw [if_pos ⟨z, by rw [y]; rfl⟩, if_pos ⟨z2, y⟩]
        · rw [if_neg (fun u => y (by have := (nI_eq (by omega) (by omega)).mp u.2; omega)), if_neg (fun u => y u.2)]
      · rw [if_neg (fun u => z u.1), if_neg (fun u => z (by rw [r2, s2, u.1]))]
  have hA : xo (fun k => (wm k - wm f) / 20) (nbA g n f) = ws (fun k => if rs g k = rs g f ∧ pl g k = pl g f + 1 then (wm k - wm f) / 20 else 0) n := by
    unfold nbA
    rw [nb_sum hn]
    apply ws_c
    intro k hk
    obtain ⟨r1, r2⟩ := rs_e (hok k hk)
    obtain ⟨s1, s2⟩ := rs_e (hok f hf)
    have := hp k hk
    have := hp f hf
    by_cases z : gx g k 1 = gx g f 1
    · have z2 : rs g k = rs g f := by unfold rs; rw [z]
      have e : cnt g (gx g f 1) k = pl g k := by unfold pl; rw [z]
      rw [e, nI_1]
      by_cases y : pl g k = pl g f + 1
      · rw [if_pos ⟨z, by rw [y]⟩, if_pos ⟨z2, y⟩]
      · rw [if_neg (fun u => y ((nI_eq (by omega) (by omega)).mp u.2)), if_neg (fun u => y u.2)]
    · rw [if_neg (fun u => z u.1), if_neg (fun u => z (by rw [r2, s2, u.1]))]
  have hC : xo (fun k => (wm k - wm f) / 20) (nbC g n f) = ws (fun k => if pl g k = pl g f ∧ rs g f = rs g k + 1 then (wm k - wm f) / 20 else 0) n := by
    unfold nbC
    rw [nb_sum hn]
    apply ws_c
    intro k hk
    obtain ⟨r1, r2⟩ := rs_e (hok k hk)
    obtain ⟨s1, s2⟩ := rs_e (hok f hf)
    have := hp k hk
    have := hp f hf
    have zz : gx g k 1 = gx g f 1 - 1 ↔ rs g f = rs g k + 1 := by
      rw [r2, s2]
      constructor
      · intro y
        rw [i_eq, i_sub (by rw [nI_toInt (by omega)]; have : (1 : Int32).toInt = 1 := by decide
                            omega) (by rw [nI_toInt (by omega)]; have : (1 : Int32).toInt = 1 := by decide
                                       omega), nI_toInt (by omega), nI_toInt (by omega)] at y
        have : (1 : Int32).toInt = 1 := by decide
        omega
      · intro y
        rw [y]
        exact (nI_pred _).symm
    by_cases z : gx g k 1 = gx g f 1 - 1
    · have z2 := zz.mp z
      have e : cnt g (gx g f 1 - 1) k = pl g k := by unfold pl; rw [z]
      rw [e]
      by_cases y : pl g k = pl g f
      · rw [if_pos ⟨z, by rw [y]⟩, if_pos ⟨y, z2⟩]
      · rw [if_neg (fun u => y ((nI_eq (by omega) (by omega)).mp u.2)), if_neg (fun u => y u.1)]
    · rw [if_neg (fun u => z u.1), if_neg (fun u => z (zz.mpr u.2))]
  have hD : xo (fun k => (wm k - wm f) / 20) (nbD g n f) = ws (fun k => if pl g k = pl g f ∧ rs g k = rs g f + 1 then (wm k - wm f) / 20 else 0) n := by
    unfold nbD
    rw [nb_sum hn]
    apply ws_c
    intro k hk
    obtain ⟨r1, r2⟩ := rs_e (hok k hk)
    obtain ⟨s1, s2⟩ := rs_e (hok f hf)
    have := hp k hk
    have := hp f hf
    have zz : gx g k 1 = gx g f 1 + 1 ↔ rs g k = rs g f + 1 := by
      rw [r2, s2, nI_1]
      exact ⟨fun y => (nI_eq (by omega) (by omega)).mp y, fun y => by rw [y]⟩
    by_cases z : gx g k 1 = gx g f 1 + 1
    · have z2 := zz.mp z
      have e : cnt g (gx g f 1 + 1) k = pl g k := by unfold pl; rw [z]
      rw [e]
      by_cases y : pl g k = pl g f
      · rw [if_pos ⟨z, by rw [y]⟩, if_pos ⟨y, z2⟩]
      · rw [if_neg (fun u => y ((nI_eq (by omega) (by omega)).mp u.2)), if_neg (fun u => y u.1)]
    · rw [if_neg (fun u => z u.1), if_neg (fun u => z (zz.mpr u.2))]
  rw [hA, hB, hC, hD, ← ws_add, ← ws_add, ← ws_add]
  unfold hth
  apply ws_c
  intro k hk
  generalize (wm k - wm f) / 20 = v
  unfold adj
  by_cases a1 : rs g k = rs g f ∧ pl g k = pl g f + 1
  · rw [if_pos a1, if_neg (by omega), if_neg (by omega), if_neg (by omega), if_pos (decide_eq_true (by omega))]
    grind
  · by_cases a2 : rs g k = rs g f ∧ pl g f = pl g k + 1
    · rw [if_neg a1, if_pos a2, if_neg (by omega), if_neg (by omega), if_pos (decide_eq_true (by omega))]
      grind
    · by_cases a3 : pl g k = pl g f ∧ rs g f = rs g k + 1
      · rw [if_neg a1, if_neg a2, if_pos a3, if_neg (by omega), if_pos (decide_eq_true (by omega))]
        grind
      · by_cases a4 : pl g k = pl g f ∧ rs g k = rs g f + 1
        · rw [if_neg a1, if_neg a2, if_neg a3, if_pos a4, if_pos (decide_eq_true (by omega))]
          grind
        · rw [if_neg a1, if_neg a2, if_neg a3, if_neg a4, if_neg (by rw [decide_eq_true_eq]; omega)]
          grind

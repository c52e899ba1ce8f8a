/-! the reference's reader is the machine -/
def Stk (f : Nat → Int32) : List Int32 → Prop
  | [] => True
  | c :: S => f S.length = c ∧ Stk f S
theorem Stk_c {f f' : Nat → Int32} : ∀ {S : List Int32}, (∀ i, i < S.length → f' i = f i) → Stk f S → Stk f' S
  | [], _, _ => trivial
  | c :: S, h, ⟨h1, h2⟩ => ⟨(h _ (Nat.lt_succ_self _)).trans h1, Stk_c (fun i hi => h i (Nat.lt_succ_of_lt hi)) h2⟩
def Rp (w0 W : Wd) (p : Nat) (S : List Int32) (o : Int32) (E : List Int32) (f : Bool) : Prop := W.2 = w0.2 ∧ (∀ x, x ≠ 76 → x ≠ 93 → x ≠ 94 → W.1 x = w0.1 x) ∧ (∀ j, j < 20 ∨ j = 21 ∨ 26 ≤ j → W.1 76 j = w0.1 76 j) ∧ W.1 76 24 = nI p ∧ W.1 76 22 = nI S.length ∧ W.1 76 23 = o ∧ W.1 76 20 = nI E.length ∧ W.1 76 25 = (if f = true then 1 else 0) ∧ Stk (W.1 94) S ∧ E = (List.range E.length).map (W.1 93)
section REF
variable {w0 W : Wd} {p : Nat} {S : List Int32} {o : Int32} {E : List Int32} {f : Bool}
theorem rp_at (h : Rp w0 W p S o E f) (q : Nat) : Rp w0 (si W 76 24 (nI q)) q S o E f := by
  obtain ⟨h1, h2, h3, h4, h5, h6, h7, h8, h9, h10⟩ := h
  refine ⟨h1, fun x x1 x2 x3 => (si_n x1).trans (h2 x x1 x2 x3), fun j hj => (si_o (by omega)).trans (h3 j hj), si_s, (si_o (by decide)).trans h5, (si_o (by decide)).trans h6, (si_o (by decide)).trans h7, (si_o (by decide)).trans h8, ?_, ?_⟩
  · rw [si_n (by decide)]; exact h9
  · rw [si_n (by decide)]; exact h10
theorem rp_o (h : Rp w0 W p S o E f) (v : Int32) : Rp w0 (si W 76 23 v) p S v E f := by
  obtain ⟨h1, h2, h3, h4, h5, h6, h7, h8, h9, h10⟩ := h
  refine ⟨h1, fun x x1 x2 x3 => (si_n x1).trans (h2 x x1 x2 x3), fun j hj => (si_o (by omega)).trans (h3 j hj), (si_o (by decide)).trans h4, (si_o (by decide)).trans h5, si_s, (si_o (by decide)).trans h7, (si_o (by decide)).trans h8, ?_, ?_⟩
  · rw [si_n (by decide)]; exact h9
  · rw [si_n (by decide)]; exact h10
theorem rp_f (h : Rp w0 W p S o E f) (b : Bool) : Rp w0 (si W 76 25 (if b = true then 1 else 0)) p S o E b := by
  obtain ⟨h1, h2, h3, h4, h5, h6, h7, h8, h9, h10⟩ := h
  refine ⟨h1, fun x x1 x2 x3 => (si_n x1).trans (h2 x x1 x2 x3), fun j hj => (si_o (by omega)).trans (h3 j hj), (si_o (by decide)).trans h4, (si_o (by decide)).trans h5, (si_o (by decide)).trans h6, (si_o (by decide)).trans h7, si_s, ?_, ?_⟩
  · rw [si_n (by decide)]; exact h9
  · rw [si_n (by decide)]; exact h10
theorem rp_pop {c : Int32} (h : Rp w0 W p (c :: S) o E f) : Rp w0 (si W 76 22 (W.1 76 22 - 1)) p S o E f := by
  obtain ⟨h1, h2, h3, h4, h5, h6, h7, h8, h9, h10⟩ := h
  refine ⟨h1, fun x x1 x2 x3 => (si_n x1).trans (h2 x x1 x2 x3), fun j hj => (si_o (by omega)).trans (h3 j hj), (si_o (by decide)).trans h4, ?_, (si_o (by decide)).trans h6, (si_o (by decide)).trans h7, (si_o (by decide)).trans h8, ?_, ?_⟩
  · rw [si_s, h5]
    exact nI_pred _
  · rw [si_n (by decide)]; exact h9.2
  · rw [si_n (by decide)]; exact h10
theorem rp_emit (h : Rp w0 W p S o E f) (hE : E.length < 80) (c : Int32) : ∃ W', f_X11_emit c W = some W' ∧ Rp w0 W' p S o (E ++ [c]) f := by
  obtain ⟨h1, h2, h3, h4, h5, h6, h7, h8, h9, h10⟩ := h
  have e20 : (si W 93 E.length c).1 76 20 = nI E.length := by rw [si_n (by decide)]; exact h7
  refine ⟨si (si W 93 E.length c) 76 20 (nI (E.length + 1)), ?_, h1, fun x x1 x2 x3 => ?_, fun j hj => ?_, ?_, ?_, ?_, ?_, ?_, ?_, ?_⟩
  · unfold f_X11_emit
    rw [h7, gd_in hE (by decide), cl_n (by omega)]
    simp only [lw_e]
    rw [e20, nI_1]
  · rw [si_n x1, si_n x2]; exact h2 x x1 x2 x3
  · rw [si_o (by omega), si_n (by decide)]; exact h3 j hj
  · rw [si_o (by decide), si_n (by decide)]; exact h4
  · rw [si_o (by decide), si_n (by decide)]; exact h5
  · rw [si_o (by decide), si_n (by decide)]; exact h6
  · rw [si_s, List.length_append]
    rfl
  · rw [si_o (by decide), si_n (by decide)]; exact h8
  · rw [si_n (by decide), si_n (by decide)]; exact h9
  · rw [si_n (by decide), List.length_append]
    show _ = (List.range (E.length + 1)).map _
    rw [List.range_succ, List.map_append]
    congr 1
    · refine h10.trans (List.map_congr_left fun i hi => ?_)
      rw [si_o (by have := List.mem_range.mp hi; omega)]
    · show [c] = [_]
      rw [si_s]
theorem rp_push (h : Rp w0 W p S o E f) (hS : S.length < 80) (c : Int32) : ∃ W', f_X11_waits c W = some W' ∧ Rp w0 W' (p + 1) (c :: S) o E f := by
  obtain ⟨h1, h2, h3, h4, h5, h6, h7, h8, h9, h10⟩ := h
  have e22 : (si W 94 S.length c).1 76 22 = nI S.length := by rw [si_n (by decide)]; exact h5
  have e24 : (si (si W 94 S.length c) 76 22 (nI (S.length + 1))).1 76 24 = nI p := by rw [si_o (by decide), si_n (by decide)]; exact h4
  refine ⟨si (si (si W 94 S.length c) 76 22 (nI (S.length + 1))) 76 24 (nI (p + 1)), ?_, h1, fun x x1 x2 x3 => ?_, fun j hj => ?_, ?_, ?_, ?_, ?_, ?_, ?_, ?_⟩
  · unfold f_X11_waits
    rw [h5, gd_in hS (by decide), cl_n (by omega)]
    simp only [lw_e]
    rw [e22, nI_1, e24, nI_1]
  · rw [si_n x1, si_n x1, si_n x3]; exact h2 x x1 x2 x3
  · rw [si_o (by omega), si_o (by omega), si_n (by decide)]; exact h3 j hj
  · exact si_s
  · rw [si_o (by decide), si_s]
    rfl
  · rw [si_o (by decide), si_o (by decide), si_n (by decide)]; exact h6
  · rw [si_o (by decide), si_o (by decide), si_n (by decide)]; exact h7
  · rw [si_o (by decide), si_o (by decide), si_n (by decide)]; exact h8
  · rw [si_n (by decide), si_n (by decide)]
    exact ⟨si_s, Stk_c (fun i hi => si_o (by omega)) h9⟩
  · rw [si_n (by decide), si_n (by decide), si_n (by decide)]; exact h10
theorem rp_top (h : Rp w0 W p S o E f) (hS : S.length ≤ 80) : f_X11_top W = some (topL S) := by
  obtain ⟨h1, h2, h3, h4, h5, h6, h7, h8, h9, h10⟩ := h
  unfold f_X11_top
  cases S with
  | nil =>
    rw [h5, if_pos (show nI ([] : List Int32).length = 0 from rfl)]
    rfl
  | cons c S =>
    rw [h5, if_neg (fun z => by have := (nI_eq (a := (c :: S).length) (b := 0) (by have := hS; omega) (by decide)).mp z; cases this), show nI (c :: S).length - 1 = nI S.length from nI_pred _, gd_in (by have := hS; simp only [List.length_cons] at this; omega) (by decide), cl_n (by have := hS; simp only [List.length_cons] at this; omega), h9.1]
    rfl
theorem rp_rep {c : Int32} (h : Rp w0 W p (c :: S) o E f) (hS : (c :: S).length ≤ 80) (v : Int32) : W.1 76 22 - 1 = nI S.length ∧ S.length < 80 ∧ Rp w0 (si W 94 S.length v) p (v :: S) o E f := by
  obtain ⟨h1, h2, h3, h4, h5, h6, h7, h8, h9, h10⟩ := h
  refine ⟨by rw [h5]; exact nI_pred _, hS, h1, fun x x1 x2 x3 => ?_, fun j hj => ?_, ?_, ?_, ?_, ?_, ?_, ?_, ?_⟩
  · rw [si_n x3]; exact h2 x x1 x2 x3
  · rw [si_n (by decide)]; exact h3 j hj
  · rw [si_n (by decide)]; exact h4
  · rw [si_n (by decide)]; exact h5
  · rw [si_n (by decide)]; exact h6
  · rw [si_n (by decide)]; exact h7
  · rw [si_n (by decide)]; exact h8
  · exact ⟨si_s, Stk_c (fun i hi => si_o (by omega)) h9.2⟩
  · rw [si_n (by decide)]; exact h10
theorem rp_stlL (v t : Int32) (hv : (v = 1 ∧ t = 10100) ∨ (v = 2 ∧ t = 10102)) : ∀ (S : List Int32) (F : Nat) (W : Wd) (E : List Int32), S.length < F → Rp w0 W p S o E f → S.length + E.length ≤ 80 → ∃ W', lp (f_X11_settles_L0 v) F W = some W' ∧ Rp w0 W' p (stl t S E).1 o (stl t S E).2 f
  | _, 0, _, _, hF, _, _ => absurd hF (Nat.not_lt_zero _)
  | [], F + 1, W, E, _, h, _ => by
    refine ⟨W, ?_, h⟩
    show (f_X11_settles_L0 v W).bind _ = _
    unfold f_X11_settles_L0
    rw [h.2.2.2.2.1, if_pos (show nI ([] : List Int32).length ≤ 0 by decide)]
    rfl
  | c :: S, F + 1, W, E, hF, h, hb => by
    have hb2 : S.length + 1 + E.length ≤ 80 := hb
    obtain ⟨h1, h2, h3, h4, h5, h6, h7, h8, h9, h10⟩ := id h
    have e5 : nI (c :: S).length - 1 = nI S.length := nI_pred _
    have e1 : ¬ nI (c :: S).length ≤ 0 := nle (n := (c :: S).length) (i := 0) (Nat.succ_pos _) (by omega)
    have k1 : (10100 : Int32).toInt = 10100 := by decide
    have k2 : (10102 : Int32).toInt = 10102 := by decide
    have step : f_X11_settles_L0 v W = if c < t then some (.inr W) else f_X11_settles_J46 v W := by
      unfold f_X11_settles_L0
      rw [h5, e5, if_neg e1, gd_in (by omega) (by decide), cl_n (by omega), h9.1]
      rcases hv with ⟨q1, q2⟩ | ⟨q1, q2⟩
      · subst q1 q2
        rw [if_pos (show (1 : Int32) = 1 from rfl)]
      · subst q1 q2
        rw [if_neg (show ¬ (2 : Int32) = 1 by decide), gd_in (by omega) (by decide)]
        by_cases q : c < 10100
        · rw [if_pos q, if_pos (by rw [i_lt] at q ⊢; omega)]
        · rw [if_neg q]
    unfold stl
    by_cases q : c < t
    · refine ⟨W, ?_, ?_⟩
      · show (f_X11_settles_L0 v W).bind _ = _
        rw [step, if_pos q]
        rfl
      · rw [if_pos q]; exact h
    · have hp := rp_pop h
      rw [h5, e5] at hp
      obtain ⟨W1, m1, m2⟩ := rp_emit hp (by omega) c
      obtain ⟨W2, m3, m4⟩ := rp_stlL v t hv S F W1 (E ++ [c]) (by simp only [List.length_cons] at hF; omega) m2 (by rw [List.length_append, List.length_singleton]; omega)
      refine ⟨W2, ?_, ?_⟩
      · show (f_X11_settles_L0 v W).bind _ = _
        rw [step, if_neg q]
        unfold f_X11_settles_J46
        rw [h5, e5]
        simp only [lw_e]
        rw [show (si W 76 22 (nI S.length)).1 76 22 = nI S.length from si_s, gd_in (by omega) (by decide), cl_n (by omega), show (si W 76 22 (nI S.length)).1 94 S.length = c from (by rw [si_n (by decide)]; exact h9.1), m1]
        exact m3
      · rw [if_neg q]; exact m4
theorem rp_stl (v t : Int32) (hv : (v = 1 ∧ t = 10100) ∨ (v = 2 ∧ t = 10102)) (h : Rp w0 W p S o E f) (hb : S.length + E.length ≤ 80) : ∃ W', f_X11_settles v W = some W' ∧ Rp w0 W' p (stl t S E).1 o (stl t S E).2 f := by
  obtain ⟨W', h1, h2⟩ := rp_stlL v t hv S FU W E (by unfold FU; omega) h hb
  exact ⟨W', by unfold f_X11_settles; rw [h1]; rfl, h2⟩
theorem stl_len {t : Int32} : ∀ {S E : List Int32}, (stl t S E).1.length + (stl t S E).2.length = S.length + E.length
  | [], E => rfl
  | c :: S, E => by
    unfold stl
    by_cases q : c < t
    · rw [if_pos q]
    · rw [if_neg q, stl_len, List.length_append, List.length_singleton, List.length_cons]
      omega
end REF

theorem ff_m {α β : Type} {P : Nat → Option α} {F : α → β} : ∀ m, ff (fun v => (P v).map F) m = (ff P m).map F
  | 0 => rfl
  | m + 1 => by
    show (ff _ m).or _ = ((ff P m).or (P m)).map F
    rw [ff_m m]
    cases ff P m <;> rfl
theorem ff_1 {α : Type} {P : Nat → Option α} {m : Nat} {x : α} (h0 : ff P m = none) (h1 : P m = some x) : ∀ k, ff P (m + 1 + k) = some x
  | 0 => by
    show (ff P m).or (P m) = _
    rw [h0, h1]
    rfl
  | k + 1 => by
    show (ff P (m + 1 + k)).or _ = _
    rw [ff_1 h0 h1 k]
    rfl
theorem ff_0 {α : Type} {P : Nat → Option α} {m : Nat} (h0 : ff P m = none) (h1 : P m = none) : ff P (m + 1) = none := by
  show (ff P m).or (P m) = _
  rw [h0, h1]
  rfl
section SEEK
variable {w : Wd} {g : Nat → Int32} {n h : Nat} {b : Int32} {hrs : Nat}
theorem seek1X {V : Wd} {nw : Nat → Int32} (hn : n ≤ 12) (hN : hrs ≤ 8) (hB : BI (w.1 3) (fun i => w.1 (35 + i)) (w.1 19) g n h) (hl : ∀ i, i < n → rng (lkf g i) 0 268) (hC : CFw w V g n b hrs (fun j => gx g j 3)) (h68 : V.1 68 = nw) (hnw : ∀ j, j < n → nw j = -1) : ∃ r V', f_X3_seekOne V = some (r, V') ∧ (few1 g n b hrs = none → r = 0 ∧ CFw w V' g n b hrs (fun j => gx g j 3) ∧ V'.1 68 = nw) ∧ ∀ L, few1 g n b hrs = some L → r = 1 ∧ ∃ f v, L = [(f, v)] ∧ f < n ∧ v < 9 ∧ OutF w V' (upf nw f (nI v)) := by
  have ho : ∀ j, j < n → rng ((fun j => gx g j 3) j) 0 8 := fun j hj => (hB.2.2.2.2.1 j hj).2.2.2.2.1
  have lt9 : ∀ {own : Int32} {Q : Nat → Bool} {m v : Nat}, ff (fsP own Q) m = some v → v < m := by
    intro own Q m
    induction m with
    | zero => intro v e; cases e
    | succ m ih =>
      intro v e
      have e2 : (ff (fsP own Q) m).or (fsP own Q m) = some v := e
      rcases hq : ff (fsP own Q) m with - | x
      · rw [hq] at e2
        have e3 : fsP own Q m = some v := e2
        unfold fsP at e3
        split at e3
        · cases e3
        · split at e3
          · cases e3
            omega
          · cases e3
      · rw [hq] at e2
        cases e2
        have := ih hq
        omega
  have eA : ∀ f, ff (fun v => fewA g n b hrs (fun j => gx g j 3) f v) 9 = (ff (fsP (gx g f 3) (fun u => good g n b hrs (upf (fun j => gx g j 3) f (nI u)))) 9).map (fun v => [(f, v)]) := fun f => by
    rw [← ff_m]
    congr 1
    funext v
    unfold fewA fsP
    by_cases q : nI v = gx g f 3
    · rw [if_pos q, if_pos q]
      rfl
    · rw [if_neg q, if_neg q]
      by_cases q2 : good g n b hrs (upf (fun j => gx g j 3) f (nI v)) = true
      · rw [if_pos q2, if_pos q2]
        rfl
      · rw [if_neg q2, if_neg q2]
        rfl
  have H : ∃ r, lp f_X3_seekOne_L2 FU (0, V) = some r ∧ ((∃ z V', r = .inl (z, V') ∧ few1 g n b hrs = none ∧ CFw w V' g n b hrs (fun j => gx g j 3) ∧ V'.1 68 = nw) ∨ ∃ V' f v, r = .inr (1, V') ∧ few1 g n b hrs = some [(f, v)] ∧ f < n ∧ v < 9 ∧ OutF w V' (upf nw f (nI v))) := by
    refine lp_n (fun f z => z.1 = nI f ∧ ff (fun f => if gx g f 4 = 0 then ff (fun v => fewA g n b hrs (fun j => gx g j 3) f v) 9 else none) f = none ∧ CFw w z.2 g n b hrs (fun j => gx g j 3) ∧ z.2.1 68 = nw) n _ ⟨rfl, rfl, hC, h68⟩ (FU_lt (by omega)) ?_ ?_
    · rintro f ⟨a, U⟩ hf ⟨e1, e2, e3, e4⟩
      simp only at e1 e3 e4
      subst e1
      have u3 : U.1 3 1 = nI n := by rw [e3.1 3 (by unfold Tc; omega) (by decide) (by decide)]; exact hB.2.2.1.1
      have u5 : U.1 (35 + f) 5 = gx g f 4 := by
        rw [e3.1 (35 + f) (by unfold Tc; omega) (by omega) (by omega)]
        exact (hB.2.2.2.2.1 f hf).1.2.2.2 4 (by decide) (by decide)
      unfold f_X3_seekOne_L2
      simp only
      rw [u3, if_neg (nle hf (by omega)), gd_in (by omega) (by decide), cl_n (by omega), u5]
      by_cases q : gx g f 4 = 0
      · rw [if_pos q]
        obtain ⟨r, V', a1, a2, a3⟩ := h1X hn hN hf hB hl ho rfl (nw := nw) (hnw f hf) e3 e4
        rw [a1, bd1]
        rcases hq : ff (fsP (gx g f 3) (fun u => good g n b hrs (upf (fun j => gx g j 3) f (nI u)))) 9 with - | v
        · obtain ⟨x1, x2, x3⟩ := a2 hq
          subst x1
          refine Or.inl ⟨(nI (f + 1), V'), ?_, rfl, ff_0 e2 ?_, x2, x3⟩
          · rw [← nI_1]
            rfl
          · rw [if_pos q, eA, hq]
            rfl
        · obtain ⟨x1, x2⟩ := a3 v hq
          subst x1
          refine Or.inr ⟨.inr (1, V'), ?_, Or.inr ⟨V', f, v, rfl, ?_, hf, lt9 hq, x2⟩⟩
          · rw [if_neg (show ¬ (1 : Int32) = 0 by decide)]
          · have := ff_1 (x := [(f, v)]) e2 (by
              rw [if_pos q, eA, hq]
              rfl) (n - (f + 1))
            rw [show f + 1 + (n - (f + 1)) = n by omega] at this
            exact this
      · rw [if_neg q]
        refine Or.inl ⟨(nI (f + 1), U), by rw [nI_1], rfl, ff_0 e2 ?_, e3, e4⟩
        rw [if_neg q]
    · rintro ⟨a, U⟩ ⟨e1, e2, e3, e4⟩
      simp only at e1 e3 e4
      subst e1
      have u3 : U.1 3 1 = nI n := by rw [e3.1 3 (by unfold Tc; omega) (by decide) (by decide)]; exact hB.2.2.1.1
      refine ⟨.inl (nI n, U), ?_, Or.inl ⟨nI n, U, rfl, e2, e3, e4⟩⟩
      unfold f_X3_seekOne_L2
      simp only
      rw [u3, if_pos (nle' n)]
  obtain ⟨r, l1, l2⟩ := H
  unfold f_X3_seekOne
  rw [l1, bd1]
  rcases l2 with ⟨z, V', rfl, e1, e2, e3⟩ | ⟨V', f, v, rfl, e1, e2⟩
  · exact ⟨0, V', rfl, (fun _ => ⟨rfl, e2, e3⟩), (fun L e => by rw [e1] at e; cases e)⟩
  · refine ⟨1, V', rfl, (fun e => by rw [e1] at e; cases e), fun L e => ?_⟩
    rw [e1] at e
    cases e
    exact ⟨rfl, f, v, rfl, e2⟩
end SEEK

section SEEK2
variable {w : Wd} {g : Nat → Int32} {n h : Nat} {b : Int32} {hrs : Nat}
noncomputable def rIn (g : Nat → Int32) (n : Nat) (b : Int32) (hrs f k : Nat) (v : Nat) : Option Nat := ff (fsP (gx g k 3) (fun u => good g n b hrs (upf (upf (fun j => gx g j 3) f (nI v)) k (nI u)))) 9
noncomputable def pFK (g : Nat → Int32) (n : Nat) (b : Int32) (hrs k f : Nat) : Option (List (Nat × Nat)) := if gx g f 4 = 0 ∧ gx g k 4 = 0 then ff (fun v => ff (fun u => fewB g n b hrs f k v u) 9) 9 else none
theorem eB {f k : Nat} : ff (fun v => ff (fun u => fewB g n b hrs f k v u) 9) 9 = (ff (fsP (gx g f 3) (fun v => (rIn g n b hrs f k v).isSome)) 9).bind (fun v => (rIn g n b hrs f k v).map (fun u => [(f, v), (k, u)])) := by
  rw [← ff_b (R := rIn g n b hrs f k) (F := fun v u => [(f, v), (k, u)])]
  congr 1
  funext v
  by_cases q : nI v = gx g f 3
  · rw [if_pos q]
    have : ∀ m, ff (fun u => fewB g n b hrs f k v u) m = none := fun m => by
      induction m with
      | zero => rfl
      | succ m ih => exact ff_0 ih (by unfold fewB; rw [if_pos (Or.inl q)])
    exact this 9
  · rw [if_neg q]
    unfold rIn
    rw [← ff_m]
    congr 1
    funext u
    unfold fewB fsP
    by_cases q1 : nI u = gx g k 3
    · rw [if_pos (Or.inr q1), if_pos q1]
      rfl
    · rw [if_neg (fun z => z.elim q q1), if_neg q1]
      by_cases q2 : good g n b hrs (upf (upf (fun j => gx g j 3) f (nI v)) k (nI u)) = true
      · rw [if_pos q2, if_pos q2]
        rfl
      · rw [if_neg q2, if_neg q2]
        rfl
theorem seek2I {V : Wd} {nw : Nat → Int32} {k : Nat} (hn : n ≤ 12) (hN : hrs ≤ 8) (hk : k < n) (hB : BI (w.1 3) (fun i => w.1 (35 + i)) (w.1 19) g n h) (hl : ∀ i, i < n → rng (lkf g i) 0 268) (hC : CFw w V g n b hrs (fun j => gx g j 3)) (h68 : V.1 68 = nw) (hnw : ∀ j, j < n → nw j = -1) : ∃ r, lp (f_X3_seekTwo_L15 (nI k)) FU (0, V) = some r ∧ ((∃ z V', r = .inl (z, V') ∧ ff (pFK g n b hrs k) k = none ∧ CFw w V' g n b hrs (fun j => gx g j 3) ∧ V'.1 68 = nw) ∨ ∃ V' f v u, r = .inr (1, V') ∧ ff (pFK g n b hrs k) k = some [(f, v), (k, u)] ∧ f < k ∧ v < 9 ∧ u < 9 ∧ OutF w V' (upf (upf nw f (nI v)) k (nI u))) := by
  have ho : ∀ j, j < n → rng ((fun j => gx g j 3) j) 0 8 := fun j hj => (hB.2.2.2.2.1 j hj).2.2.2.2.1
  refine lp_n (fun f z => z.1 = nI f ∧ ff (pFK g n b hrs k) f = none ∧ CFw w z.2 g n b hrs (fun j => gx g j 3) ∧ z.2.1 68 = nw) k _ ⟨rfl, rfl, hC, h68⟩ (FU_lt (by omega)) ?_ ?_
  · rintro f ⟨a, U⟩ hf ⟨e1, e2, e3, e4⟩
    simp only at e1 e3 e4
    subst e1
    have u5 : ∀ i, i < n → U.1 (35 + i) 5 = gx g i 4 := fun i hi0 => by
      rw [e3.1 (35 + i) (by unfold Tc; omega) (by omega) (by omega)]
      exact (hB.2.2.2.2.1 i hi0).1.2.2.2 4 (by decide) (by decide)
    unfold f_X3_seekTwo_L15
    simp only
    rw [if_neg (nle hf (by omega)), gd_in (by omega) (by decide), cl_n (by omega), u5 f (by omega)]
    have skip : pFK g n b hrs k f = none → f_X3_seekTwo_J50 (nI k) (nI f) U = some (.inl (nI (f + 1), U)) ∧ ff (pFK g n b hrs k) (f + 1) = none := fun hp => ⟨by
      unfold f_X3_seekTwo_J50 f_X3_seekTwo_J55
      rw [if_neg (by decide), nI_1], ff_0 e2 hp⟩
    by_cases q : gx g f 4 = 0
    · rw [if_pos q, gd_in (by omega) (by decide), cl_n (by omega), u5 k hk]
      by_cases q2 : gx g k 4 = 0
      · rw [if_pos q2]
        have ep : pFK g n b hrs k f = (ff (fsP (gx g f 3) (fun v => (rIn g n b hrs f k v).isSome)) 9).bind (fun v => (rIn g n b hrs f k v).map (fun u => [(f, v), (k, u)])) := by
          unfold pFK
          rw [if_pos ⟨q, q2⟩, eB]
        obtain ⟨r, V', a1, a2, a3⟩ := h2X hn hN (show f < n by omega) hk (by omega) hB hl ho rfl rfl (nw := nw) (hnw f (by omega)) (hnw k hk) e3 e4
        unfold f_X3_seekTwo_J55
        rw [if_pos rfl, a1, bd1]
        rcases hq : ff (fsP (gx g f 3) (fun v => (rIn g n b hrs f k v).isSome)) 9 with - | v
        · obtain ⟨x1, x2, x3⟩ := a2 hq
          subst x1
          refine Or.inl ⟨(nI (f + 1), V'), ?_, rfl, ff_0 e2 ?_, x2, x3⟩
          · rw [← nI_1]
            rfl
          · rw [ep, hq]
            rfl
        · obtain ⟨x1, u, x2, x3⟩ := a3 v hq
          subst x1
          refine Or.inr ⟨.inr (1, V'), ?_, Or.inr ⟨V', f, v, u, rfl, ?_, hf, (fsP_Q hq).1, (fsP_Q x2).1, x3⟩⟩
          · rw [if_neg (show ¬ (1 : Int32) = 0 by decide)]
          · have x2' : rIn g n b hrs f k v = some u := x2
            have := ff_1 (x := [(f, v), (k, u)]) e2 (by
              rw [ep, hq]
              show (rIn g n b hrs f k v).map _ = _
              rw [x2']
              rfl) (k - (f + 1))
            rw [show f + 1 + (k - (f + 1)) = k by omega] at this
            exact this
      · rw [if_neg q2]
        have := skip (by unfold pFK; rw [if_neg (fun z => q2 z.2)])
        exact Or.inl ⟨(nI (f + 1), U), this.1, rfl, this.2, e3, e4⟩
    · rw [if_neg q]
      have := skip (by unfold pFK; rw [if_neg (fun z => q z.1)])
      exact Or.inl ⟨(nI (f + 1), U), this.1, rfl, this.2, e3, e4⟩
  · rintro ⟨a, U⟩ ⟨e1, e2, e3, e4⟩
    simp only at e1 e3 e4
    subst e1
    refine ⟨.inl (nI k, U), ?_, Or.inl ⟨nI k, U, rfl, e2, e3, e4⟩⟩
    unfold f_X3_seekTwo_L15
    simp only
    rw [if_pos (nle' k)]
end SEEK2

theorem tellX {o nw : Nat → Int32} {W : Wd} {n : Nat} {v3 : Nat} {L : List (Nat × Nat)} (hn : n ≤ 12) (h3 : W.1 3 1 = nI n) (ho : ∀ i, i < n → W.1 (35 + i) 4 = o i) (hL : okL n L) (h68 : W.1 68 = nwL nw L) (hnw : ∀ j, j < n → nw j = -1) (hv : v3 ≤ 4) : f_X3_tell (nI v3) W = some (tl o L (nI v3)) := by
  have neg : (-1 : Int32) < 0 := by decide
  have loop : lp (f_X3_tell_L16 (nI v3) W) FU (0, 0, 0, (-1), (-1), 0) = some (tS6 o L n) := by
    have stop : ∀ X, f_X3_tell_L16 (nI v3) W (tS6 o X n) = some (.inr (tS6 o X n)) := fun X => by
      unfold f_X3_tell_L16 tS6
      simp only
      rw [h3, if_pos (nle' n)]
    rcases hL with rfl | ⟨f, v, rfl, hf, hv9⟩ | ⟨f, v, k, u, rfl, hfk, hk, hv9, hu9⟩
    · refine lp_for (fun i => tS6 o [] i) n _ (FU_lt (by omega)) (fun i hi0 => tl_step0 hn hi0 h3 ?_) (stop [])
      rw [h68]
      show nw i < 0
      rw [hnw i hi0]
      exact neg
    · have e68 : ∀ i, W.1 68 i = upf nw f (nI v) i := fun i => by rw [h68]; rfl
      have := lp_for (step := f_X3_tell_L16 (nI v3) W) (fun i => tS6 o (if f < i then [(f, v)] else []) i) n (tS6 o [(f, v)] n) (FU_lt (by omega)) (fun i hi0 => ?_) ?_
      · simp only [Nat.not_lt_zero, if_false] at this
        exact this
      · by_cases e : i = f
        · subst e
          rw [if_neg (Nat.lt_irrefl i), if_pos (Nat.lt_succ_self i)]
          exact tl_step1 hn hi0 hv9 h3 (by rw [e68, upf_s]) (ho i hi0)
        · have s := tl_step0 (o := o) (v1 := nI v3) (L := if f < i then [(f, v)] else []) hn hi0 h3 (by rw [e68, upf_o e, hnw i hi0]; exact neg)
          rw [s]
          by_cases q : f < i
          · rw [if_pos q, if_pos (by omega)]
          · rw [if_neg q, if_neg (by omega)]
      · rw [if_pos hf]
        exact stop _
    · have e68 : ∀ i, W.1 68 i = upf (upf nw f (nI v)) k (nI u) i := fun i => by rw [h68]; rfl
      have := lp_for (step := f_X3_tell_L16 (nI v3) W) (fun i => tS6 o (if k < i then [(f, v), (k, u)] else if f < i then [(f, v)] else []) i) n (tS6 o [(f, v), (k, u)] n) (FU_lt (by omega)) (fun i hi0 => ?_) ?_
      · simp only [Nat.not_lt_zero, if_false] at this
        exact this
      · by_cases e : i = f
        · subst e
          rw [if_neg (by omega), if_neg (Nat.lt_irrefl i), if_neg (by omega), if_pos (Nat.lt_succ_self i)]
          exact tl_step1 hn hi0 hv9 h3 (by rw [e68, upf_o (by omega), upf_s]) (ho i hi0)
        · by_cases e2 : i = k
          · subst e2
            rw [if_neg (Nat.lt_irrefl i), if_pos hfk, if_pos (Nat.lt_succ_self i)]
            exact tl_step2 hn hi0 hu9 h3 (by rw [e68, upf_s]) (ho i hi0)
          · have s := tl_step0 (o := o) (v1 := nI v3) (L := if k < i then [(f, v), (k, u)] else if f < i then [(f, v)] else []) hn hi0 h3 (by rw [e68, upf_o e2, upf_o e, hnw i hi0]; exact neg)
            rw [s]
            by_cases q : k < i
            · rw [if_pos q, if_pos (by omega)]
            · rw [if_neg q, if_neg (show ¬ k < i + 1 by omega)]
              by_cases q2 : f < i
              · rw [if_pos q2, if_pos (by omega)]
              · rw [if_neg q2, if_neg (by omega)]
      · rw [if_pos hk]
        exact stop _
  unfold f_X3_tell
  rw [loop, bd1]
  rcases (by omega : v3 = 0 ∨ v3 = 1 ∨ v3 = 2 ∨ v3 = 3 ∨ v3 = 4) with e | e | e | e | e <;> subst e <;> rfl

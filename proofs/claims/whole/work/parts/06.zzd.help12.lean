def OutF (w V : Wd) (x : Nat → Int32) : Prop := (∀ y, ¬ Tc y → y ≠ 14 → y ≠ 68 → V.1 y = w.1 y) ∧ V.2 = w.2 ∧ V.1 68 = x
theorem CFw.out {w V : Wd} {g : Nat → Int32} {n : Nat} {b : Int32} {hrs : Nat} {op x : Nat → Int32} (h : CFw w V g n b hrs op) (e : V.1 68 = x) : OutF w V x := ⟨h.1, h.2.1, e⟩
section HELP12
variable {w : Wd} {g : Nat → Int32} {n h : Nat} {b : Int32} {hrs : Nat}
theorem rng_u {op : Nat → Int32} {k v : Nat} (ho : ∀ j, j < n → rng (op j) 0 8) (hv : v < 9) : ∀ j, j < n → rng (upf op k (nI v) j) 0 8 := fun j hj => by
  unfold upf
  by_cases e : j = k
  · rw [if_pos e]
    unfold rng
    rw [nI_toInt (by omega)]
    omega
  · rw [if_neg e]
    exact ho j hj
theorem h1X {k : Nat} {op nw : Nat → Int32} {V : Wd} (hn : n ≤ 12) (hN : hrs ≤ 8) (hk : k < n) (hB : BI (w.1 3) (fun i => w.1 (35 + i)) (w.1 19) g n h) (hl : ∀ i, i < n → rng (lkf g i) 0 268) (ho : ∀ j, j < n → rng (op j) 0 8) (hop : op k = gx g k 3) (hnw : nw k = -1) (hC : CFw w V g n b hrs op) (h68 : V.1 68 = nw) : ∃ r V', f_X3_isOneEnough (nI k) V = some (r, V') ∧ (ff (fsP (gx g k 3) (fun u => good g n b hrs (upf op k (nI u)))) 9 = none → r = 0 ∧ CFw w V' g n b hrs op ∧ V'.1 68 = nw) ∧ ∀ u, ff (fsP (gx g k 3) (fun u => good g n b hrs (upf op k (nI u)))) 9 = some u → r = 1 ∧ OutF w V' (upf nw k (nI u)) := by
  rw [hpF_1]
  refine helpsX (B := f_X3_isGood) (Q := fun u => good g n b hrs (upf op k (nI u))) (Post := fun u V' => OutF w V' (upf nw k (nI u))) hn hk hB hop hnw (fun v U hv hU h6 => ?_) hC h68
  obtain ⟨V', a1, a2, a3⟩ := goodX hn hN (fun j hj => (hB.2.2.2.2.1 j hj).2) hB.2.2.2.1 (fun j hj => (hB.2.2.2.2.1 j hj).2.2.2.2.2.2.2.1) hl (rng_u ho hv) hU
  exact ⟨V', a1, fun _ => a2.out (a3.trans h6), fun _ => ⟨a2, a3⟩⟩
theorem h2X {f k : Nat} {op nw : Nat → Int32} {V : Wd} (hn : n ≤ 12) (hN : hrs ≤ 8) (hf : f < n) (hk : k < n) (hfk : k ≠ f) (hB : BI (w.1 3) (fun i => w.1 (35 + i)) (w.1 19) g n h) (hl : ∀ i, i < n → rng (lkf g i) 0 268) (ho : ∀ j, j < n → rng (op j) 0 8) (hof : op f = gx g f 3) (hok : op k = gx g k 3) (hnf : nw f = -1) (hnk : nw k = -1) (hC : CFw w V g n b hrs op) (h68 : V.1 68 = nw) : ∃ r V', f_X3_areTwoEnough (nI f) (nI k) V = some (r, V') ∧ (ff (fsP (gx g f 3) (fun v => (ff (fsP (gx g k 3) (fun u => good g n b hrs (upf (upf op f (nI v)) k (nI u)))) 9).isSome)) 9 = none → r = 0 ∧ CFw w V' g n b hrs op ∧ V'.1 68 = nw) ∧ ∀ v, ff (fsP (gx g f 3) (fun v => (ff (fsP (gx g k 3) (fun u => good g n b hrs (upf (upf op f (nI v)) k (nI u)))) 9).isSome)) 9 = some v → r = 1 ∧ ∃ u, ff (fsP (gx g k 3) (fun u => good g n b hrs (upf (upf op f (nI v)) k (nI u)))) 9 = some u ∧ OutF w V' (upf (upf nw f (nI v)) k (nI u)) := by
  rw [hpF_2]
  refine helpsX (B := f_X3_isOneEnough (nI k)) (Q := fun v => (ff (fsP (gx g k 3) (fun u => good g n b hrs (upf (upf op f (nI v)) k (nI u)))) 9).isSome) (Post := fun v V' => ∃ u, ff (fsP (gx g k 3) (fun u => good g n b hrs (upf (upf op f (nI v)) k (nI u)))) 9 = some u ∧ OutF w V' (upf (upf nw f (nI v)) k (nI u))) hn hf hB hof hnf (fun v U hv hU h6 => ?_) hC h68
  obtain ⟨r, V', a1, a2, a3⟩ := h1X hn hN hk hB hl (rng_u ho hv) (by rw [upf_o hfk]; exact hok) (nw := upf nw f (nI v)) (by rw [upf_o hfk]; exact hnk) hU h6
  rcases hq : ff (fsP (gx g k 3) (fun u => good g n b hrs (upf (upf op f (nI v)) k (nI u)))) 9 with - | u
  · obtain ⟨e1, e2, e3⟩ := a2 hq
    subst e1
    exact ⟨V', a1, (fun z => by cases z), fun _ => ⟨e2, e3.trans h6.symm⟩⟩
  · obtain ⟨e1, e2⟩ := a3 u hq
    subst e1
    exact ⟨V', a1, (fun _ => ⟨u, rfl, e2⟩), (fun z => by cases z)⟩
end HELP12

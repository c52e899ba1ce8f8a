def fsP (own : Int32) (Q : Nat → Bool) (v : Nat) : Option Nat := if nI v = own then none else if Q v = true then some v else none
theorem upf_s {f : Nat → Int32} {k : Nat} {v : Int32} : upf f k v k = v := if_pos rfl
theorem upf_o {f : Nat → Int32} {k j : Nat} {v : Int32} (h : j ≠ k) : upf f k v j = f j := if_neg h
theorem upf_u {f : Nat → Int32} {k : Nat} {v x : Int32} : upf (upf f k x) k v = upf f k v := by
  funext j
  unfold upf
  by_cases h : j = k
  · rw [if_pos h, if_pos h]
  · rw [if_neg h, if_neg h, if_neg h]
theorem upf_i {f : Nat → Int32} {k : Nat} {v : Int32} (h : f k = v) : upf f k v = f := by
  funext j
  unfold upf
  by_cases e : j = k
  · rw [if_pos e, e, h]
  · rw [if_neg e]
/-- the loop and the body that isOneEnough (B: isGood) and areTwoEnough (B: isOneEnough of the greater) share -/
def hpL (B : Wd → Option (Int32 × Wd)) (v1 : Int32) (v3 : Int32) (z : Int32 × Wd) : Option ((Int32 × Wd) ⊕ ((Int32 × Wd) ⊕ (Int32 × Wd))) :=
  if 8 < z.1 then
    some (.inr (.inl (z.1, z.2)))
  else
    if z.1 = v3 then
      some (.inl (z.1 + 1, z.2))
    else
      gd (inB v1 12) <|
      lw (si z.2 68 v1.toNatClampNeg z.1) fun w5 =>
      (f_X0_weight v1 z.1 w5).bind fun o6 =>
      gd (inB v1 12) <|
      lw (si w5 62 v1.toNatClampNeg o6) fun w9 =>
      (B w9).bind fun o10 =>
      if o10.1 = 0 then
        some (.inl (z.1 + 1, o10.2))
      else
        some (.inr (.inr (1, o10.2)))
def hpF (B : Wd → Option (Int32 × Wd)) (v1 : Int32) (w : Wd) : Option (Int32 × Wd) :=
  gd (inB v1 12) <|
  (lp (hpL B v1 (w.1 (35 + v1.toNatClampNeg) 4)) FU (0, w)).bind fun o13 =>
  sm o13 (fun x15 =>
    gd (inB v1 12) <|
    lw (si x15.2 68 v1.toNatClampNeg (-1)) fun w18 =>
    (f_X0_weight v1 (w.1 (35 + v1.toNatClampNeg) 4) w18).bind fun o19 =>
    gd (inB v1 12) <|
    lw (si w18 62 v1.toNatClampNeg o19) fun w22 =>
    some (0, w22)
    ) (fun y16 => some y16)
theorem hpL_1 {v1 v2 : Int32} : f_X3_isOneEnough_L15 v1 v2 = hpL f_X3_isGood v1 v2 := rfl
theorem hpL_2 {v1 v2 v3 : Int32} : f_X3_areTwoEnough_L16 v1 v2 v3 = hpL (f_X3_isOneEnough v2) v1 v3 := rfl
theorem hpF_1 {v1 : Int32} {w : Wd} : f_X3_isOneEnough v1 w = hpF f_X3_isGood v1 w := by
  unfold f_X3_isOneEnough hpF
  rw [hpL_1]
theorem hpF_2 {v1 v2 : Int32} {w : Wd} : f_X3_areTwoEnough v1 v2 w = hpF (f_X3_isOneEnough v2) v1 w := by
  unfold f_X3_areTwoEnough hpF
  rw [hpL_2]
section HELPS
variable {w : Wd} {g : Nat → Int32} {n h : Nat} {b : Int32} {hrs : Nat}
theorem CFw_1 {V : Wd} {op : Nat → Int32} {f : Nat} {x : Int32} (hC : CFw w V g n b hrs op) : CFw w (si V 68 f x) g n b hrs op := by
  obtain ⟨c1, c2, c3, c4, c5, c6⟩ := hC
  refine ⟨fun y y1 y2 y3 => (si_n y3).trans (c1 y y1 y2 y3), c2, ?_, ?_, CW_c c5 ?_ ?_ ?_, fun i hi0 => ?_⟩
  · rw [si_n (by decide)]; exact c3
  · rw [si_n (by decide)]; exact c4
  · rw [si_n (by decide)]
  · rw [si_n (by decide)]
  · rw [si_n (by decide)]
  · rw [si_n (by decide), si_n (by decide), si_n (by decide)]; exact c6 i hi0
theorem CFw_2 {V : Wd} {op : Nat → Int32} {f : Nat} {x : Int32} (hC : CFw w V g n b hrs op) : CFw w (si V 62 f (wt g n f x)) g n b hrs (upf op f x) := by
  obtain ⟨c1, c2, c3, c4, c5, c6⟩ := hC
  refine ⟨fun y y1 y2 y3 => (si_n (fun z => y1 (by rw [z]; unfold Tc; omega))).trans (c1 y y1 y2 y3), c2, ?_, ?_, CW_c c5 ?_ ?_ ?_, fun i hi0 => ?_⟩
  · rw [si_n (by decide)]; exact c3
  · rw [si_n (by decide)]; exact c4
  · rw [si_n (by decide)]
  · rw [si_n (by decide)]
  · rw [si_n (by decide)]
  · rw [si_n (by decide), si_n (by decide), si_g]
    refine ⟨(c6 i hi0).1, (c6 i hi0).2.1, ?_⟩
    by_cases q : i = f
    · rw [if_pos ⟨rfl, q⟩, q, upf_s]
    · rw [if_neg (fun z => q z.2), upf_o q]
      exact (c6 i hi0).2.2
theorem wtV {V : Wd} {op : Nat → Int32} {f : Nat} {o x : Int32} (hn : n ≤ 12) (hf : f < n) (hB : BI (w.1 3) (fun i => w.1 (35 + i)) (w.1 19) g n h) (hC : CFw w V g n b hrs op) : f_X0_weight (nI f) o (si V 68 f x) = some (wt g n f o) := by
  obtain ⟨b1, b2, b3, b4, b5, b6⟩ := hB
  have e : ∀ y, ¬ Tc y → y ≠ 14 → y ≠ 68 → (si V 68 f x).1 y = w.1 y := fun y y1 y2 y3 => (si_n y3).trans (hC.1 y y1 y2 y3)
  have eF := e (35 + f) (by unfold Tc; omega) (by omega) (by omega)
  have e19 := e 19 (by unfold Tc; omega) (by decide) (by decide)
  have F := (b5 f hf).1
  exact wtX (h := h) hn hf (by rw [eF]; exact F.1) (by rw [eF]; exact F.2.1) (by rw [eF]; exact F.2.2.1) (b5 f hf).2 (by rw [e19]; exact b6)
theorem helpsX {B : Wd → Option (Int32 × Wd)} {f : Nat} {op nw : Nat → Int32} {Q : Nat → Bool} {Post : Nat → Wd → Prop} {V : Wd} (hn : n ≤ 12) (hf : f < n) (hB : BI (w.1 3) (fun i => w.1 (35 + i)) (w.1 19) g n h) (hop : op f = gx g f 3) (hnw : nw f = -1) (body : ∀ v V, v < 9 → CFw w V g n b hrs (upf op f (nI v)) → V.1 68 = upf nw f (nI v) → ∃ V', B V = some (if Q v = true then 1 else 0, V') ∧ (Q v = true → Post v V') ∧ (Q v = false → CFw w V' g n b hrs (upf op f (nI v)) ∧ V'.1 68 = V.1 68)) (hC : CFw w V g n b hrs op) (h68 : V.1 68 = nw) : ∃ r V', hpF B (nI f) V = some (r, V') ∧ (ff (fsP (gx g f 3) Q) 9 = none → r = 0 ∧ CFw w V' g n b hrs op ∧ V'.1 68 = nw) ∧ ∀ v, ff (fsP (gx g f 3) Q) 9 = some v → r = 1 ∧ Post v V' := by
  have own : V.1 (35 + f) 4 = gx g f 3 := by
    rw [hC.1 (35 + f) (by unfold Tc; omega) (by omega) (by omega)]
    exact (hB.2.2.2.2.1 f hf).1.2.2.2 3 (by decide) (by decide)
  have H : ∃ r, lp (hpL B (nI f) (gx g f 3)) FU (0, V) = some r ∧ ((∃ z V', r = .inl (z, V') ∧ ff (fsP (gx g f 3) Q) 9 = none ∧ (∃ x, CFw w V' g n b hrs (upf op f x)) ∧ ∀ j, j ≠ f → V'.1 68 j = nw j) ∨ ∃ v V', r = .inr (1, V') ∧ ff (fsP (gx g f 3) Q) 9 = some v ∧ Post v V') := by
    have mono : ∀ (k m v : Nat), ff (fsP (gx g f 3) Q) m = some v → ff (fsP (gx g f 3) Q) (m + k) = some v := fun k m v e => by
      induction k with
      | zero => exact e
      | succ k ih =>
        show (ff _ (m + k)).or _ = _
        rw [ih]
        rfl
    refine lp_n (fun v z => z.1 = nI v ∧ ff (fsP (gx g f 3) Q) v = none ∧ (∃ x, CFw w z.2 g n b hrs (upf op f x)) ∧ ∀ j, j ≠ f → z.2.1 68 j = nw j) 9 _ ⟨rfl, rfl, ⟨gx g f 3, by rw [upf_i hop]; exact hC⟩, fun j _ => by rw [h68]⟩ (FU_lt (by omega)) ?_ ?_
    · rintro v ⟨a, U⟩ hv ⟨e1, e2, ⟨x, e3⟩, e4⟩
      simp only at e1 e3 e4
      subst e1
      have n8 : ¬ (8 : Int32) < nI v := fun z => by
        rw [i_lt, nI_toInt (by omega)] at z
        have k8 : (8 : Int32).toInt = 8 := by decide
        omega
      by_cases q : nI v = gx g f 3
      · refine Or.inl ⟨(nI (v + 1), U), ?_, rfl, ?_, ⟨x, e3⟩, e4⟩
        · unfold hpL
          simp only
          rw [if_neg n8, if_pos q, nI_1]
        · show (ff _ v).or (fsP _ Q v) = none
          rw [e2]
          unfold fsP
          rw [if_pos q]
          rfl
      · have hC2 : CFw w (si (si U 68 f (nI v)) 62 f (wt g n f (nI v))) g n b hrs (upf op f (nI v)) := by
          have := CFw_2 (f := f) (x := nI v) (CFw_1 (f := f) (x := nI v) e3)
          rw [upf_u] at this
          exact this
        have h682 : (si (si U 68 f (nI v)) 62 f (wt g n f (nI v))).1 68 = upf nw f (nI v) := by
          rw [si_n (by decide)]
          funext j
          rw [si_g]
          by_cases z : j = f
          · rw [if_pos ⟨rfl, z⟩, z, upf_s]
          · rw [if_neg (fun y => z y.2), upf_o z]
            exact e4 j z
        obtain ⟨V', t1, t2, t3⟩ := body v _ hv hC2 h682
        have step : hpL B (nI f) (gx g f 3) (nI v, U) = if (if Q v = true then (1 : Int32) else 0) = 0 then some (.inl (nI v + 1, V')) else some (.inr (.inr (1, V'))) := by
          unfold hpL
          simp only
          rw [if_neg n8, if_neg q, gd_in (by omega) (by decide), cl_n (by omega)]
          simp only [lw_e]
          rw [wtV hn hf hB e3, bd1, gd_in (by omega) (by decide)]
          rw [t1, bd1]
        rw [step]
        cases hQ : Q v with
        | true =>
          refine Or.inr ⟨.inr (1, V'), ?_, Or.inr ⟨v, V', rfl, ?_, t2 hQ⟩⟩
          · rw [if_neg (by decide)]
          · have : ff (fsP (gx g f 3) Q) (v + 1) = some v := by
              show (ff _ v).or (fsP _ Q v) = _
              rw [e2]
              unfold fsP
              rw [if_neg q, if_pos hQ]
              rfl
            have := mono (9 - (v + 1)) (v + 1) v this
            rw [show v + 1 + (9 - (v + 1)) = 9 by omega] at this
            exact this
        | false =>
          refine Or.inl ⟨(nI (v + 1), V'), ?_, rfl, ?_, ⟨nI v, (t3 hQ).1⟩, fun j hj => ?_⟩
          · rw [if_pos (by decide), nI_1]
          · show (ff _ v).or (fsP _ Q v) = none
            rw [e2]
            unfold fsP
            rw [if_neg q, if_neg (by rw [hQ]; decide)]
            rfl
          · rw [(t3 hQ).2, h682, upf_o hj]
    · rintro ⟨a, U⟩ ⟨e1, e2, e3, e4⟩
      simp only at e1 e3 e4
      subst e1
      refine ⟨.inl (nI 9, U), ?_, Or.inl ⟨nI 9, U, rfl, e2, e3, e4⟩⟩
      unfold hpL
      rw [if_pos (show (8 : Int32) < nI 9 by decide)]
  obtain ⟨r, l1, l2⟩ := H
  unfold hpF
  rw [gd_in (by omega) (by decide), cl_n (by omega), own, l1, bd1]
  rcases l2 with ⟨z, V', rfl, e1, ⟨x, e2⟩, e3⟩ | ⟨v, V', rfl, e1, e2⟩
  · refine ⟨0, si (si V' 68 f (-1)) 62 f (wt g n f (gx g f 3)), ?_, fun _ => ⟨rfl, ?_, ?_⟩, fun v e => by rw [e1] at e; cases e⟩
    · show gd (inB (nI f) 12) _ = _
      rw [gd_in (by omega) (by decide)]
      simp only [lw_e]
      rw [wtV hn hf hB e2, bd1, gd_in (by omega) (by decide)]
    · have := CFw_2 (f := f) (x := gx g f 3) (CFw_1 (f := f) (x := -1) e2)
      rw [upf_u, upf_i hop] at this
      exact this
    · rw [si_n (by decide)]
      funext j
      rw [si_g]
      by_cases y : j = f
      · rw [if_pos ⟨rfl, y⟩, y, hnw]
      · rw [if_neg (fun u => y u.2)]
        exact e3 j y
  · refine ⟨1, V', rfl, (fun e => by rw [e1] at e; cases e), fun u e => ?_⟩
    rw [e1] at e
    cases e
    exact ⟨rfl, e2⟩
end HELPS

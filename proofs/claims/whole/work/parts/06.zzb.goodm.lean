/-! few turns: the reference's try -/
def RFw (w V : Wd) (g : Nat → Int32) (n : Nat) (op : Nat → Int32) : Prop := (∀ y, ¬ Sc y → V.1 y = w.1 y) ∧ V.2 = w.2 ∧ V.1 77 = g ∧ ∀ i, i < n → (V.1 80 i = nbA g n i ∧ V.1 81 i = nbB g n i ∧ V.1 82 i = nbC g n i ∧ V.1 83 i = nbD g n i) ∧ V.1 84 i = nI (hi g n i) ∧ V.1 85 i = op i ∧ V.1 87 i = lkf g i
theorem allM {V : Wd} {n : Nat} {b : Int32} {wm : Nat → Int32} (hn : n ≤ 12) (h0 : V.1 77 4 = nI n) (h88 : ∀ i, i < n → V.1 88 i = wm i) : ∃ r, lp (f_X11_areEven_L22 b V) FU 0 = some r ∧ sm r (fun _ => some ((1 : Int32), V)) (fun y => some y) = some (@ite _ (∀ i, i < n → evn b (wm i)) (Classical.propDecidable _) 1 0, V) := by
  have H : ∃ r, lp (f_X11_areEven_L22 b V) FU 0 = some r ∧ ((∃ x, r = .inl x) ∧ (∀ i, i < n → evn b (wm i)) ∨ r = .inr (0, V) ∧ ¬ ∀ i, i < n → evn b (wm i)) := by
    refine lp_n (fun i z => z = nI i ∧ ∀ j, j < i → evn b (wm j)) n _ ⟨rfl, fun j hj => absurd hj (Nat.not_lt_zero _)⟩ (FU_lt (by omega)) ?_ ?_
    · rintro i z hi0 ⟨rfl, e⟩
      unfold f_X11_areEven_L22
      rw [h0, if_neg (nle hi0 (by omega)), isEvM hn hi0 (h88 i hi0) (D := Classical.propDecidable _), bd1]
      by_cases q : evn b (wm i)
      · rw [if_pos q, if_neg (by decide)]
        refine Or.inl ⟨nI (i + 1), by rw [nI_1], rfl, fun j hj => ?_⟩
        rcases Nat.lt_or_ge j i with z | z
        · exact e j z
        · have ej : j = i := by omega
          rw [ej]
          exact q
      · rw [if_neg q, if_pos rfl]
        exact Or.inr ⟨.inr (0, V), rfl, Or.inr ⟨rfl, fun z => q (z i hi0)⟩⟩
    · rintro z ⟨rfl, e⟩
      refine ⟨.inl (nI n), ?_, Or.inl ⟨⟨_, rfl⟩, e⟩⟩
      unfold f_X11_areEven_L22
      rw [h0, if_pos (nle' n)]
  obtain ⟨r, l1, l2⟩ := H
  refine ⟨r, l1, ?_⟩
  rcases l2 with ⟨⟨x, rfl⟩, e⟩ | ⟨rfl, e⟩
  · rw [if_pos e]
    rfl
  · rw [if_neg e]
    rfl
theorem goodM {w V : Wd} {g : Nat → Int32} {n h : Nat} {b : Int32} {hrs : Nat} {op : Nat → Int32} (hn : n ≤ 12) (hN : hrs ≤ 8) (h4 : g 4 = nI n) (hok : ∀ j, j < n → FlatOk g h j) (hC : RFw w V g n op) : ∃ V', f_X11_areEven b (nI hrs) V = some (if good g n b hrs op = true then 1 else 0, V') ∧ RFw w V' g n op := by
  obtain ⟨c1, c2, c3, c4⟩ := hC
  obtain ⟨W1, a1, a2, a3, a4⟩ := warmM (w := V) hn (by rw [c3]; exact h4)
  have w77 : W1.1 77 = g := (a2 77 (by decide)).trans c3
  obtain ⟨W2, b1, b2, b3, b4⟩ := flowsM (w := W1) (op := op) hn (by rw [w77]; exact h4) (fun i hi0 => by rw [a2 84 (by decide), w77]; exact (c4 i hi0).2.1) (fun i hi0 => by rw [a2 85 (by decide)]; exact (c4 i hi0).2.2.1)
  rw [w77] at b4
  rw [c3] at a4
  have hM : MS W2 g n (flw g n op) (lkf g) (fun j => gx g j 6) := by
    refine ⟨(b2 77 (by decide)).trans w77, fun i hi0 => ⟨?_, b4 i hi0, ?_, ?_⟩⟩
    · rw [b2 80 (by decide), b2 81 (by decide), b2 82 (by decide), b2 83 (by decide), a2 80 (by decide), a2 81 (by decide), a2 82 (by decide), a2 83 (by decide)]
      exact (c4 i hi0).1
    · rw [b2 87 (by decide), a2 87 (by decide)]
      exact (c4 i hi0).2.2.2
    · rw [b2 88 (by decide), a4, if_pos hi0]
  obtain ⟨M1, s1, s2, s3, s4⟩ := goAllM (N := hrs) (bo := g 3) hn (by omega) h4 hM hok
  obtain ⟨r, l1, l2⟩ := allM (V := M1) (b := b) hn (by rw [s4.1]; exact h4) (fun i hi0 => (s4.2 i hi0).2.2.2)
  refine ⟨M1, ?_, fun y hy => ?_, s3.trans (b3.trans (a3.trans c2)), s4.1, fun i hi0 => ⟨(s4.2 i hi0).1, ?_, ?_, (s4.2 i hi0).2.2.1⟩⟩
  · unfold f_X11_areEven
    rw [a1, bd1, b1, bd1, hM.1, s1, bd1]
    simp only
    rw [l1, bd1, l2]
    unfold good
    by_cases q : ∀ i, i < n → evn b (hrun (adj g) n (flw g n op) (lkf g) (g 3) (g 1) (fun j => gx g j 6) hrs i)
    · rw [if_pos q, if_pos (@decide_eq_true _ (Classical.propDecidable _) q)]
    · rw [if_neg q, if_neg (fun z => q (@of_decide_eq_true _ (Classical.propDecidable _) z))]
  · unfold Sc at hy
    rw [s2 y (by omega), b2 y (by omega), a2 y (by omega)]
    exact c1 y (by unfold Sc; omega)
  · rw [s2 84 (by decide), b2 84 (by decide), a2 84 (by decide)]
    exact (c4 i hi0).2.1
  · rw [s2 85 (by decide), b2 85 (by decide), a2 85 (by decide)]
    exact (c4 i hi0).2.2.1

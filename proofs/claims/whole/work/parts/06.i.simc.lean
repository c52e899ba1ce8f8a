theorem hth_c {A A' : Nat → Nat → Bool} {n : Nat} {wm wm' : Nat → Int32} {i : Nat} (hA : ∀ k, k < n → A' i k = A i k) (hw : ∀ k, k < n → wm' k = wm k) (hi : i < n) : hth A' n wm' i = hth A n wm i := by
  unfold hth
  apply ws_c
  intro k hk
  rw [hA k hk, hw k hk, hw i hi]
theorem hst_c {A A' : Nat → Nat → Bool} {n : Nat} {fl fl' lks lks' wm wm' : Nat → Int32} {bo ou : Int32} {i : Nat} (hA : ∀ k, k < n → A' i k = A i k) (hf : fl' i = fl i) (hl : lks' i = lks i) (hw : ∀ k, k < n → wm' k = wm k) (hi : i < n) : hst A' n fl' lks' bo ou wm' i = hst A n fl lks bo ou wm i := by
  unfold hst hin
  rw [hth_c hA hw hi, hf, hl, hw i hi]
theorem hrun_c {A A' : Nat → Nat → Bool} {n : Nat} {fl fl' lks lks' wm wm' : Nat → Int32} {bo ou : Int32} (hA : ∀ i k, i < n → k < n → A' i k = A i k) (hf : ∀ i, i < n → fl' i = fl i) (hl : ∀ i, i < n → lks' i = lks i) (hw : ∀ k, k < n → wm' k = wm k) : ∀ (t i : Nat), i < n → hrun A' n fl' lks' bo ou wm' t i = hrun A n fl lks bo ou wm t i
  | 0, i, hi => hw i hi
  | t + 1, i, hi => hst_c (fun k hk => hA i k hi hk) (hf i hi) (hl i hi) (fun k hk => hrun_c hA hf hl hw t k hk) hi
theorem hi_c {g g' : Nat → Int32} {n i : Nat} (hr : ∀ j, j < n → gx g' j 1 = gx g j 1) (hi0 : i < n) : hi g' n i = hi g n i := by
  unfold hi
  rw [hr i hi0, cnt_c hr, cnt_c fun j hj => hr j (by omega)]
theorem wt_c {g g' : Nat → Int32} {n i : Nat} {o : Int32} (hr : ∀ j, j < n → gx g' j 1 = gx g j 1) (hk : gx g' i 0 = gx g i 0) (hi0 : i < n) : wt g' n i o = wt g n i o := by
  unfold wt
  rw [hi_c hr hi0, hk]
theorem flw_c {g g' op op' : Nat → Int32} {n i : Nat} (h2 : g' 2 = g 2) (hg : ∀ j k, j < n → k ≤ 10 → gx g' j k = gx g j k) (ho : ∀ j, j < n → op' j = op j) (hi0 : i < n) : flw g' n op' i = flw g n op i := by
  unfold flw
  rw [h2, ho i hi0, wt_c (fun j hj => hg j 1 hj (by decide)) (hg i 0 hi0 (by decide)) hi0]
  congr 1
  apply ws_c
  intro j hj
  rw [ho j hj, wt_c (fun j hj => hg j 1 hj (by decide)) (hg j 0 hj (by decide)) hj]
theorem adj_c {g g' : Nat → Int32} {n i k : Nat} (hr : ∀ j, j < n → gx g' j 1 = gx g j 1) (hi0 : i < n) (hk : k < n) : adj g' i k = adj g i k := by
  unfold adj rs
  rw [hr i hi0, hr k hk, pl_c hr hi0, pl_c hr hk]
theorem lkf_c {g g' : Nat → Int32} {n i : Nat} (hg : ∀ j k, j < n → k ≤ 10 → gx g' j k = gx g j k) (hi0 : i < n) : lkf g' i = lkf g i := by
  unfold lkf
  rw [hg i 0 hi0 (by decide), hg i 2 hi0 (by decide), hg i 5 hi0 (by decide)]
theorem good_c {g g' op op' : Nat → Int32} {n hrs : Nat} {b : Int32} (h1 : g' 1 = g 1) (h2 : g' 2 = g 2) (h3 : g' 3 = g 3) (hg : ∀ j k, j < n → k ≤ 10 → gx g' j k = gx g j k) (ho : ∀ j, j < n → op' j = op j) : good g' n b hrs op' = good g n b hrs op := by
  unfold good
  have e : (∀ i, i < n → evn b (hrun (adj g') n (flw g' n op') (lkf g') (g' 3) (g' 1) (fun j => gx g' j 6) hrs i)) ↔ (∀ i, i < n → evn b (hrun (adj g) n (flw g n op) (lkf g) (g 3) (g 1) (fun j => gx g j 6) hrs i)) := by
    refine forall_congr' fun i => ?_
    constructor
    · intro h hi0
      have := h hi0
      rw [h1, h3, hrun_c (fun i k a b => adj_c (fun j hj => hg j 1 hj (by decide)) a b) (fun i a => flw_c h2 hg ho a) (fun i a => lkf_c hg a) (fun k a => hg k 6 a (by decide)) hrs i hi0] at this
      exact this
    · intro h hi0
      have := h hi0
      rw [h1, h3, hrun_c (fun i k a b => adj_c (fun j hj => hg j 1 hj (by decide)) a b) (fun i a => flw_c h2 hg ho a) (fun i a => lkf_c hg a) (fun k a => hg k 6 a (by decide)) hrs i hi0]
      exact this
  exact (@decide_eq_decide _ _ (Classical.propDecidable _) (Classical.propDecidable _)).mpr e
theorem ff_c {α : Type} {P Q : Nat → Option α} : ∀ {m : Nat}, (∀ i, i < m → P i = Q i) → ff P m = ff Q m
  | 0, _ => rfl
  | m + 1, h => by
    show (ff P m).or (P m) = (ff Q m).or (Q m)
    rw [ff_c fun i hi => h i (by omega), h m (by omega)]
theorem upf_c {f f' : Nat → Int32} {n k : Nat} {v : Int32} (h : ∀ j, j < n → f' j = f j) : ∀ j, j < n → upf f' k v j = upf f k v j := fun j hj => by
  unfold upf
  rw [h j hj]
theorem few_c {g g' : Nat → Int32} {n hrs : Nat} {b : Int32} (h1 : g' 1 = g 1) (h2 : g' 2 = g 2) (h3 : g' 3 = g 3) (hg : ∀ j k, j < n → k ≤ 10 → gx g' j k = gx g j k) : few g' n b hrs = few g n b hrs := by
  have o3 : ∀ j, j < n → (fun j => gx g' j 3) j = (fun j => gx g j 3) j := fun j hj => hg j 3 hj (by decide)
  have e1 : few1 g' n b hrs = few1 g n b hrs := by
    unfold few1
    apply ff_c
    intro f hf
    rw [hg f 4 hf (by decide)]
    have : ff (fun v => fewA g' n b hrs (fun j => gx g' j 3) f v) 9 = ff (fun v => fewA g n b hrs (fun j => gx g j 3) f v) 9 := by
      apply ff_c
      intro v _
      unfold fewA
      rw [hg f 3 hf (by decide), good_c h1 h2 h3 hg (upf_c o3)]
    rw [this]
  have e2 : few2 g' n b hrs = few2 g n b hrs := by
    unfold few2
    apply ff_c
    intro k hk
    apply ff_c
    intro f hf
    rw [hg f 4 (by omega) (by decide), hg k 4 hk (by decide)]
    have : ff (fun v => ff (fun u => fewB g' n b hrs f k v u) 9) 9 = ff (fun v => ff (fun u => fewB g n b hrs f k v u) 9) 9 := by
      apply ff_c
      intro v _
      apply ff_c
      intro u _
      unfold fewB
      rw [hg f 3 (by omega) (by decide), hg k 3 hk (by decide), good_c h1 h2 h3 hg (upf_c (upf_c o3))]
    rw [this]
  unfold few
  rw [e1, e2, good_c h1 h2 h3 hg o3]
theorem FC_c {w w' : Wd} (h : FC w) (h76 : ∀ j, 30 ≤ j → j ≤ 37 → w'.1 76 j = w.1 76 j) (hg : ∀ y, 1 ≤ y → y < 139 → y ≠ 5 → y ≠ 6 → w'.1 77 y = w.1 77 y) : FC w' := by
  unfold FC at h ⊢
  rw [h76 30 (by decide) (by decide), h76 32 (by decide) (by decide), h76 31 (by decide) (by decide), hg 4 (by decide) (by decide) (by decide) (by decide)]
  rcases h with h | ⟨h, n, hrs, q1, q2, q3, q4, q5⟩
  · exact Or.inl h
  · refine Or.inr ⟨h, n, hrs, q1, q2, q3, q4, ?_⟩
    rw [few_c (hg 1 (by decide) (by decide) (by decide) (by decide)) (hg 2 (by decide) (by decide) (by decide) (by decide)) (hg 3 (by decide) (by decide) (by decide) (by decide)) (fun j k hj hk => hg _ (by omega) (by omega) (by omega) (by omega))]
    exact FRes_c q5 fun j a b => h76 j (by omega) b
/-- the row's upper part changed (complaints, rule), the flats untouched -/
theorem BI_c {B : Nat → Int32} {F : Nat → Nat → Int32} {Hh g g' : Nat → Int32} {n h : Nat} (H : BI B F Hh g n h) (hg : ∀ y, y < 139 → y ≠ 5 → y ≠ 6 → g' y = g y) : BI B F Hh g' n h := by
  obtain ⟨b1, b2, ⟨q1, q2, q3, q4, q5, q6, q7⟩, b4, b5, b6⟩ := H
  have hx : ∀ i m, i < n → m ≤ 10 → gx g' i m = gx g i m := fun i m hi hm => hg _ (by omega) (by omega) (by omega)
  have hr : ∀ j, j < n → gx g' j 1 = gx g j 1 := fun j hj => hx j 1 hj (by decide)
  refine ⟨b1, b2, ⟨q1, ?_, q3, ?_, ?_, ?_, ?_⟩, ?_, fun i hi0 => ?_, fun r hr2 => ?_⟩
  · rw [hg 4 (by decide) (by decide) (by decide)]; exact q2
  · rw [hg 0 (by decide) (by decide) (by decide)]; exact q4
  · rw [hg 1 (by decide) (by decide) (by decide)]; exact q5
  · rw [hg 2 (by decide) (by decide) (by decide)]; exact q6
  · rw [hg 3 (by decide) (by decide) (by decide)]; exact q7
  · rw [hg 1 (by decide) (by decide) (by decide), hg 2 (by decide) (by decide) (by decide), hg 3 (by decide) (by decide) (by decide)]; exact b4
  · obtain ⟨⟨p0, p1, p2, p3⟩, p4⟩ := b5 i hi0
    refine ⟨⟨?_, ?_, ?_, fun m m1 m2 => ?_⟩, ?_⟩
    · rw [hx i 0 hi0 (by decide)]; exact p0
    · rw [hx i 1 hi0 (by decide)]; exact p1
    · rw [pl_c hr hi0]; exact p2
    · rw [hx i m hi0 m2]; exact p3 m m1 m2
    · unfold FlatOk at p4 ⊢
      rw [hx i 0 hi0 (by decide), hx i 1 hi0 (by decide), hx i 2 hi0 (by decide), hx i 3 hi0 (by decide), hx i 4 hi0 (by decide), hx i 5 hi0 (by decide), hx i 6 hi0 (by decide), hx i 7 hi0 (by decide), hx i 8 hi0 (by decide), hx i 10 hi0 (by decide)]
      exact p4
  · rw [cnt_c hr]; exact b6 r hr2
/-- a new rule (or none), a new tape -/
theorem Inv_rule {w w' : Wd} (h : Inv w) (hm : AgL [3, 19, 8, 24, 25, 26, 27, 35, 36, 37, 38, 39, 40, 41, 42, 43, 44, 45, 46] w w') (hk : AgL kIds w w') (hf : AgL [16, 79] w w') (hs : AgL [74, 75, 100, 101] w w') (h2 : w'.2 = w.2) (h0 : w'.1 0 2 = w.1 0 2) (h76 : ∀ j, j = 2 ∨ j = 4 ∨ 30 ≤ j ∧ j ≤ 37 → w'.1 76 j = w.1 76 j) (hg : ∀ y, y < 211 → y ≠ 6 → w'.1 77 y = w.1 77 y) (hT : IT w') (hR : RI (w'.1 5) (w'.1 21) (w'.1 77)) : Inv w' := by
  have hZ := h.z
  obtain ⟨a, b, c, d, e, f⟩ := h
  refine ⟨IF_l a hf (h76 4 (by decide)), hT, IS_l c hs h2, ?_, IK_l e h0 (h76 2 (by decide)) hk, FC_c f (fun j x y => h76 j (by omega)) fun y _ h1 _ h3 => hg y (by omega) h3⟩
  obtain ⟨n, hh, cc, hB, hC, -⟩ := d
  unfold SRm
  rw [hm 3 (by decide), hm 19 (by decide), hm 8 (by decide), hm 24 (by decide), hm 25 (by decide), hm 26 (by decide), hm 27 (by decide)]
  have hn := hB.1
  have hFm : ∀ i, i < 12 → w'.1 (35 + i) = w.1 (35 + i) := fun i hi0 => hm _ ((by decide : ∀ i, i < 12 → 35 + i ∈ [3, 19, 8, 24, 25, 26, 27, 35, 36, 37, 38, 39, 40, 41, 42, 43, 44, 45, 46]) i hi0)
  exact SR_mk (n := n) (h := hh) (c := cc) (BI_F (BI_c hB fun y h1 _ h3 => hg y (by omega) h3) fun i hi0 => hFm i hi0) (CC_c hC hn (Nat.le_refl n) (hg 5 (by decide) (by decide)) (fun k j h1 h2 => hg _ (by omega) (by omega)) fun j hj => hg _ (by omega) (by omega)) hR (fun j _ h2 => hFm j h2) hZ

def Sk (y : Nat) : Prop := y ≠ 10 ∧ y ≠ 32 ∧ y ≠ 12 ∧ y ≠ 34 ∧ y ≠ 95 ∧ y ≠ 96 ∧ y ≠ 97 ∧ y ≠ 98
theorem Inv_sk {w V : Wd} (h : Inv w) (e : ∀ y, Sk y → V.1 y = w.1 y) (e2 : V.2 = w.2) : Inv V := Inv_sc h (fun y a b c d e' f g i => e y ⟨a, b, c, d, e', f, g, i⟩) e2
theorem op_no2 {fc fr : Wd → Option (Int32 × Wd)} {w W : Wd} {k : Nat} {x : Int32} (h : Inv w) (hk : k < 7) (ex : x = fcode k) (eW : ∀ y, Sk y → W.1 y = w.1 y) (eW2 : W.2 = w.2) (h1 : fc w = f_X10_finding x W) (h2 : ∀ v, ∃ V, fr (si W 16 k v) = f_X11_finds x V ∧ (∀ y, Sk y → V.1 y = (si W 16 k v).1 y) ∧ V.2 = W.2) : Op fc fr w := by
  subst ex
  obtain ⟨V, a1, a2, a3⟩ := h2 (W.1 16 k + 1)
  refine ⟨_, _, _, h1.trans (fnd hk W), a1.trans (fds hk V), Inv_sk (refuse h hk) (fun y hy => ?_) ?_⟩
  · have s16' : W.1 16 = w.1 16 := eW 16 (by unfold Sk; decide)
    have v79 : V.1 79 = w.1 79 := by rw [a2 79 (by unfold Sk; decide), si_n (by decide), eW 79 (by unfold Sk; decide)]
    have v76 : V.1 76 = w.1 76 := by rw [a2 76 (by unfold Sk; decide), si_n (by decide), eW 76 (by unfold Sk; decide)]
    funext z
    have q79 : (si w 16 k (w.1 16 k + 1)).1 79 = w.1 79 := si_n (by decide)
    have q76 : (si w 16 k (w.1 16 k + 1)).1 76 = w.1 76 := si_n (by decide)
    rw [q79, q76, v79, v76]
    simp only [si_g]
    rw [a2 y hy, si_g, s16', eW y hy]
  · show V.2 = w.2
    rw [a3, eW2]
def pq (pr : Int32) (f : Nat → Int32) (n i : Nat) : Int32 := pyv pr (ws f n) f i + (if rk (fun j => (rsv pr (ws f n) f j).toInt) n i < (pr - ws (pyv pr (ws f n) f) n).toNatClampNeg then 1 else 0)
theorem ws_p {f : Nat → Int32} {n : Nat} (hn : n ≤ 12) (hf : ∀ i, i < n → rng (f i) 0 99999) : 0 ≤ (ws f n).toInt ∧ (ws f n ≠ 0 → 0 < (ws f n).toInt) := by
  have k0 : (0 : Int32).toInt = 0 := by decide
  have e := ws_i (f := f) (B := 99999) (n := n) hn (by decide) (by decide) hf
  have b := isum_b (f := fun i => (f i).toInt) (B := 99999) (n := n) hf
  refine ⟨by rw [e]; exact b.1, fun h => ?_⟩
  have : (ws f n).toInt ≠ 0 := fun z => h (by rw [i_eq]; omega)
  rw [e] at this ⊢
  have := b.1
  omega
theorem fpM {W : Wd} {pr : Int32} {f : Nat → Int32} {n : Nat} (hn : n ≤ 12) (hp : rng pr 0 9999) (hf : ∀ i, i < n → rng (f i) 0 99999) (h4 : W.1 77 4 = nI n) (h96 : ∀ i, i < n → W.1 96 i = f i) : ∃ V, f_X11_findPays pr W = some (if ws f n = 0 then 0 else 1, V) ∧ (∀ y, y ≠ 97 → y ≠ 98 → V.1 y = W.1 y) ∧ V.2 = W.2 ∧ (ws f n ≠ 0 → ∀ i, i < n → V.1 97 i = pq pr f n i) := by
  by_cases z : ws f n = 0
  · refine ⟨W, ?_, fun _ _ _ => rfl, rfl, fun q => absurd z q⟩
    unfold f_X11_findPays
    rw [sumM hn h4 h96, bd1]
    simp only
    rw [if_pos z, if_pos z]
  · have ht := (ws_p hn hf).2 z
    obtain ⟨L, hL, eL⟩ := lft_n hn hp hf ht
    obtain ⟨V, a1, a2, a3, a4⟩ := splM hn hp hf ht h4 h96
    have P := pay_i hn hp hf ht
    obtain ⟨X, b1, b2, b3, b4⟩ := giveM (W := V) (py := pyv pr (ws f n) f) (rr := rsv pr (ws f n) f) hn hL (by rw [a2 77 (by decide) (by decide)]; exact h4) a4 (fun i hi0 => (P i hi0).2.2.1)
    refine ⟨X, ?_, fun y y1 y2 => (b2 y y1 y2).trans (a2 y y1 y2), b3.trans a3, fun _ i hi0 => ?_⟩
    · unfold f_X11_findPays
      rw [sumM hn h4 h96, bd1]
      simp only
      rw [if_neg z, if_neg z, a1, bd1]
      simp only
      rw [eL, b1, bd1]
    · rw [b4 i hi0]
      unfold pq
      rw [eL, cl_n (by omega)]
theorem pyX {W : Wd} {pr : Int32} {f : Nat → Int32} {n i : Nat} (hn : n ≤ 12) (hp : rng pr 0 9999) (hf : ∀ i, i < n → rng (f i) 0 99999) (z : ws f n ≠ 0) (h1 : W.1 12 1 = nI n) (h2 : W.1 12 2 = pr) (h3 : W.1 12 3 = ws f n) (h4 : ∀ i, i < n → W.1 34 i = f i) (hi0 : i < n) : f_X7_pays (nI i) W = some (pq pr f n i) := by
  have ht := (ws_p hn hf).2 z
  obtain ⟨L, hL, eL⟩ := lft_n hn hp hf ht
  rw [paysX hn hp hf ht h1 h2 h3 h4 eL hL hi0]
  unfold pq
  rw [eL, cl_n (by omega)]
theorem op_bill {w : Wd} (h : Inv w) (v1 v2 : Int32) : Op (f_X10_bill v1 v2) (f_X11_bill v1 v2) w := by
  obtain ⟨n, s, H⟩ := h.sh
  obtain ⟨h1, h2, h3, h4, h5, h6, h7, h8⟩ := id H
  rcases win_01 v1 0 9999 with q | q
  · refine op_no h (k := 0) (by decide) fc0 ?_ fun v => ?_
    · unfold f_X10_bill
      rw [q, bd1, if_pos rfl]
      exact bd_e
    · unfold f_X11_bill
      rw [in_e, q, bd1, if_pos rfl]
      exact bd_e
  have hp : rng v1 0 9999 := win_yes q
  rcases fl_cases n v2 with ⟨i, hi0, rfl⟩ | hno
  · generalize hb : decide (0 < s) = b
    have hf : ∀ i, i < n → rng (shv b (w.1 21) s (w.1 77) i) 0 99999 := fun i _ => c5_b _
    obtain ⟨W, c1, c2, c3, c4, c5, c6, c7⟩ := splX (v1 := v1) (v2 := if 0 < s then 1 else 0) H b (by
      rw [← hb]
      by_cases z : 0 < s
      · rw [if_pos (decide_eq_true z), if_pos z]; decide
      · rw [if_neg (by rw [decide_eq_true_eq]; exact z), if_neg z])
    have sk : ∀ y, Sk y → W.1 y = w.1 y := fun y hy => c2 y hy.1 hy.2.1 hy.2.2.1 hy.2.2.2.1
    have cls : f_X10_bill v1 (nI i) w = if ws (shv b (w.1 21) s (w.1 77)) n = 0 then f_X10_finding (-1000000004) W else some (pq v1 (shv b (w.1 21) s (w.1 77)) n i, W) := by
      unfold f_X10_bill
      rw [q, bd1, if_neg (by decide), has_y h3 h1 hi0, bd1, if_neg (by decide), rldE h2 h5, bd1, c1, bd1, nobX c6 (ws_p h1 hf).1, bd1]
      by_cases z : ws (shv b (w.1 21) s (w.1 77)) n = 0
      · rw [if_pos z, if_pos z, if_neg (by decide)]
        exact bd_e
      · rw [if_neg z, if_neg z, if_pos rfl, pyX h1 hp hf z c4 c5 c6 c7 hi0]
        rfl
    have ref : ∀ U : Wd, (∀ y, y ≠ 16 → U.1 y = W.1 y) → U.2 = W.2 → ∃ V, f_X11_bill v1 (nI i) U = (if ws (shv b (w.1 21) s (w.1 77)) n = 0 then f_X11_finds (-1000000004) V else some (pq v1 (shv b (w.1 21) s (w.1 77)) n i, V)) ∧ (∀ y, Sk y → V.1 y = U.1 y) ∧ V.2 = U.2 := by
      intro U u1 u2
      have u21 : U.1 21 = w.1 21 := by rw [u1 21 (by decide), sk 21 (by unfold Sk; decide)]
      have u77 : U.1 77 = w.1 77 := by rw [u1 77 (by decide), sk 77 (by unfold Sk; decide)]
      have HU : ShH U n s := ShH_c H fun y hy => by rw [u1 y (by omega), sk y (by unfold Sk; omega)]
      obtain ⟨V1, d1, d2, d3, d4⟩ := fshM (v1 := 1) HU b (by
        rw [← hb]
        by_cases z : 0 < s
        · rw [if_pos (decide_eq_true z)]; exact ⟨by decide, z⟩
        · rw [if_neg (by rw [decide_eq_true_eq]; exact z)]; exact Or.inr (by omega))
      rw [u21, u77] at d4
      obtain ⟨V, e1, e2, e3, e4⟩ := fpM (W := V1) (pr := v1) h1 hp hf (by rw [d2 77 (by decide) (by decide), u77]; exact h4) d4
      refine ⟨V, ?_, fun y hy => by rw [e2 y hy.2.2.2.2.2.2.1 hy.2.2.2.2.2.2.2, d2 y hy.2.2.2.2.1 hy.2.2.2.2.2.1], e3.trans d3⟩
      unfold f_X11_bill
      rw [in_e, q, bd1, if_neg (by decide), isF_y (by rw [u77]; exact h4) h1 hi0, bd1, if_neg (by decide), d1, bd1, e1, bd1]
      by_cases z : ws (shv b (w.1 21) s (w.1 77)) n = 0
      · rw [if_pos z, if_pos z, if_pos rfl]
        exact bd_e
      · rw [if_neg z, if_neg z, if_neg (show ¬ (1 : Int32) = 0 by decide), gd_in (by omega) (by decide), cl_n (by omega), e4 z i hi0]
    by_cases z : ws (shv b (w.1 21) s (w.1 77)) n = 0
    · rw [if_pos z] at cls
      refine op_no2 h (k := 3) (by decide) fc3 sk c3 cls fun v => ?_
      obtain ⟨V, r1, r2, r3⟩ := ref (si W 16 3 v) (fun y hy => si_n hy) rfl
      rw [if_pos z] at r1
      exact ⟨V, r1, r2, r3⟩
    · rw [if_neg z] at cls
      obtain ⟨V, r1, r2, r3⟩ := ref W (fun _ _ => rfl) rfl
      rw [if_neg z] at r1
      exact ⟨_, W, V, cls, r1, Inv_sk h (fun y hy => (r2 y hy).trans (sk y hy)) (r3.trans c3)⟩
  · refine op_no h (k := 0) (by decide) fc0 ?_ fun v => ?_
    · unfold f_X10_bill
      rw [q, bd1, if_neg (by decide), has_n h3 h1 hno, bd1, if_pos rfl]
      exact bd_e
    · unfold f_X11_bill
      rw [in_e, q, bd1, if_neg (by decide), isF_n (by rw [s16 (by decide)]; exact h4) h1 hno, bd1, if_pos rfl]
      exact bd_e

section PAYS
variable {pr : Int32} {f : Nat → Int32} {n : Nat}
theorem nobX {W : Wd} (h3 : W.1 12 3 = ws f n) (h0 : 0 ≤ (ws f n).toInt) : f_X7_nobodyPays W = some (if ws f n = 0 then 1 else 0) := by
  have k0 : (0 : Int32).toInt = 0 := by decide
  unfold f_X7_nobodyPays
  rw [h3]
  by_cases h : ws f n = 0
  · rw [if_pos h, h, if_neg (by decide)]
  · rw [if_neg h, if_pos]
    rw [i_lt]
    rw [i_eq] at h
    omega
theorem paysX {W : Wd} {L i : Nat} (hn : n ≤ 12) (hp : rng pr 0 9999) (hf : ∀ i, i < n → rng (f i) 0 99999) (ht : 0 < (ws f n).toInt) (h1 : W.1 12 1 = nI n) (h2 : W.1 12 2 = pr) (h3 : W.1 12 3 = ws f n) (h4 : ∀ i, i < n → W.1 34 i = f i) (hL : pr - ws (pyv pr (ws f n) f) n = nI L) (hLn : L < n) (hi0 : i < n) : f_X7_pays (nI i) W = some (pyv pr (ws f n) f i + (if rk (fun j => (rsv pr (ws f n) f j).toInt) n i < L then 1 else 0)) := by
  have k0 : (0 : Int32).toInt = 0 := by decide
  have hz : ¬ ws f n = 0 := fun z => by rw [z] at ht; omega
  have hle : ¬ ws f n ≤ 0 := by rw [i_le]; omega
  have loop : lp (f_X7_pays_L51 (nI i) (rsv pr (ws f n) f i) W) FU (pr, 0, 0) = some (nI L, nI (rk (fun j => (rsv pr (ws f n) f j).toInt) n i), nI n) := by
    have e0 : (pr, (0 : Int32), (0 : Int32)) = (fun j => (pr - ws (pyv pr (ws f n) f) j, nI (cB (fun k => bef (fun j => (rsv pr (ws f n) f j).toInt) k i) j), nI j)) 0 := by
      show _ = (pr - 0, _, _)
      rw [Int32.sub_zero]
      rfl
    rw [e0]
    refine lp_for (fun j => (pr - ws (pyv pr (ws f n) f) j, nI (cB (fun k => bef (fun j => (rsv pr (ws f n) f j).toInt) k i) j), nI j)) n _ (FU_lt (by omega)) (fun j hj => ?_) ?_
    · have ew : pr - ws (pyv pr (ws f n) f) j - pr * f j / ws f n = pr - ws (pyv pr (ws f n) f) (j + 1) := by
        show _ = pr - (ws (pyv pr (ws f n) f) j + pyv pr (ws f n) f j)
        unfold pyv
        grind
      have hr : pr * f j - pr * f j / ws f n * ws f n = rsv pr (ws f n) f j := rfl
      unfold f_X7_pays_L51
      simp only
      rw [h1, if_neg (nle hj (by omega)), gd_in (by omega) (by decide), h3, gd_nz hz, gd_in (by omega) (by decide), gd_nz hz, cl_n (by omega), h2, h4 j hj, hr, ew, nI_1, nI_1]
      have cS : cB (fun k => bef (fun j => (rsv pr (ws f n) f j).toInt) k i) (j + 1) = cB (fun k => bef (fun j => (rsv pr (ws f n) f j).toInt) k i) j + (if bef (fun j => (rsv pr (ws f n) f j).toInt) j i = true then 1 else 0) := rfl
      rw [cS]
      by_cases q1 : rsv pr (ws f n) f i < rsv pr (ws f n) f j
      · rw [if_pos q1, if_pos (bef_t.mpr (Or.inl ((i_lt _ _).mp q1)))]
      · rw [if_neg q1]
        by_cases q2 : rsv pr (ws f n) f j = rsv pr (ws f n) f i
        · rw [if_pos q2]
          rcases Nat.lt_or_ge j i with q3 | q3
          · rw [if_neg (nle q3 (by omega)), if_pos (bef_t.mpr (Or.inr ⟨by rw [q2], q3⟩))]
          · rw [if_pos (nI_le q3 (by omega)), if_neg (fun z => by
              rw [bef_t] at z
              rw [i_lt] at q1
              omega)]
            rfl
        · rw [if_neg q2, if_neg (fun z => by
            rw [bef_t] at z
            rw [i_lt] at q1
            rw [i_eq] at q2
            omega)]
          rfl
    · unfold f_X7_pays_L51
      simp only
      rw [h1, if_pos (nle' n), hL]
      rfl
  unfold f_X7_pays
  rw [h3, if_neg hle, h1, win_of (by rw [nI_toInt (by omega)]; exact Int.natCast_nonneg _) (by
    rw [nI_m1 (by omega), nI_toInt (by omega), nI_toInt (by omega)]
    omega), bd1, if_neg (by decide), gd_in (by omega) (by decide), gd_nz hz, cl_n (by omega), h2, h4 i hi0, show pr * f i - pr * f i / ws f n * ws f n = rsv pr (ws f n) f i from rfl, loop, bd1, gd_in (by omega) (by decide), gd_nz hz]
  simp only
  have rb := cB_le (P := fun k => bef (fun j => (rsv pr (ws f n) f j).toInt) k i) n
  rcases Nat.lt_or_ge (rk (fun j => (rsv pr (ws f n) f j).toInt) n i) L with q | q
  · rw [if_neg (nle q (by omega)), if_pos q]
    rfl
  · rw [if_pos (nI_le q (by unfold rk; omega)), if_neg (by omega)]
    rfl
theorem lgd {a b c : Int32} (ha : 0 ≤ a.toInt * b.toInt) (hb : a.toInt * b.toInt < 2147483648) (hc : 0 < c.toInt) : ((a.toInt64 * b.toInt64) / c.toInt64).toInt32 = a * b / c ∧ ((a.toInt64 * b.toInt64) - (a.toInt64 * b.toInt64) / c.toInt64 * c.toInt64).toInt32 = a * b - a * b / c * c := by
  have x1 : ∀ y : Int32, y.toInt64.toInt = y.toInt := fun y => Int32.toInt_toInt64 y
  have b64 : ∀ z : Int, -9223372036854775808 ≤ z → z < 9223372036854775808 → z.bmod (2 ^ 64) = z := fun z h1 h2 => Int.bmod_eq_of_le (by omega) (by omega)
  have e1 : (a.toInt64 * b.toInt64).toInt = a.toInt * b.toInt := by rw [Int64.toInt_mul, x1, x1, b64 _ (by omega) (by omega)]
  have d0 : 0 ≤ (a.toInt * b.toInt).tdiv c.toInt := Int.tdiv_nonneg ha (Int.le_of_lt hc)
  have d1 : (a.toInt * b.toInt).tdiv c.toInt ≤ a.toInt * b.toInt := Int.tdiv_le_self _ ha
  have e2 : ((a.toInt64 * b.toInt64) / c.toInt64).toInt = (a.toInt * b.toInt).tdiv c.toInt := by rw [Int64.toInt_div, e1, x1, b64 _ (by omega) (by omega)]
  have f1 : (a * b).toInt = a.toInt * b.toInt := i_mul (by omega) hb
  have f2 : (a * b / c).toInt = (a.toInt * b.toInt).tdiv c.toInt := by rw [i_div hc, f1]
  have g1 : ((a.toInt64 * b.toInt64) / c.toInt64).toInt32 = a * b / c := by
    rw [i_eq, Int64.toInt_toInt32, e2, f2, bm (by omega) (by omega)]
  refine ⟨g1, ?_⟩
  rw [Int64.toInt32_sub, Int64.toInt32_mul, Int64.toInt32_mul, g1]
  simp
end PAYS

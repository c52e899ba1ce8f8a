/-! what the class tells of the turns -/
def tl (o : Nat → Int32) (L : List (Nat × Nat)) (v3 : Int32) : Int32 := match L with
  | [] => if v3 = 0 then 0 else if v3 = 1 then 0 else if v3 = 2 then 0 else -1
  | [(f, v)] => if v3 = 0 then 1 else if v3 = 1 then 1 <<< (nI f &&& 31) else if v3 = 2 then (if 0 ≤ nI v - o f then nI v - o f else 0 - (nI v - o f)) else if v3 = 3 then nI v else -1
  | (f, v) :: (k, u) :: _ => if v3 = 0 then 2 else if v3 = 1 then (1 <<< (nI f &&& 31)) ||| (1 <<< (nI k &&& 31)) else if v3 = 2 then (if 0 ≤ nI v - o f then nI v - o f else 0 - (nI v - o f)) + (if 0 ≤ nI u - o k then nI u - o k else 0 - (nI u - o k)) else if v3 = 3 then nI v else nI u
def tS6 (o : Nat → Int32) (L : List (Nat × Nat)) (i : Nat) : Int32 × Int32 × Int32 × Int32 × Int32 × Int32 := (tl o L 0, tl o L 1, tl o L 2, tl o L 3, tl o L 4, nI i)
theorem tl_step0 {o : Nat → Int32} {W : Wd} {n i : Nat} {v1 : Int32} {L : List (Nat × Nat)} (hn : n ≤ 12) (hi0 : i < n) (h3 : W.1 3 1 = nI n) (h68 : W.1 68 i < 0) : f_X3_tell_L16 v1 W (tS6 o L i) = some (.inl (tS6 o L (i + 1))) := by
  unfold f_X3_tell_L16 tS6
  simp only
  rw [h3, if_neg (nle hi0 (by omega)), gd_in (by omega) (by decide), cl_n (by omega), if_pos h68, nI_1]
theorem tl_step1 {o : Nat → Int32} {W : Wd} {n i v : Nat} {v1 : Int32} (hn : n ≤ 12) (hi0 : i < n) (hv : v < 9) (h3 : W.1 3 1 = nI n) (h68 : W.1 68 i = nI v) (ho : W.1 (35 + i) 4 = o i) : f_X3_tell_L16 v1 W (tS6 o [] i) = some (.inl (tS6 o [(i, v)] (i + 1))) := by
  have e : ¬ nI v < 0 := fun z => by
    rw [i_lt, nI_toInt (by omega)] at z
    have k0 : (0 : Int32).toInt = 0 := by decide
    omega
  unfold f_X3_tell_L16 tS6
  simp only
  rw [h3, if_neg (nle hi0 (by omega)), gd_in (by omega) (by decide), cl_n (by omega), h68, if_neg e, gd_in (by omega) (by decide), gd_in (by omega) (by decide), gd_in (by omega) (by decide), ho, nI_1]
  simp [tl]
theorem tl_step2 {o : Nat → Int32} {W : Wd} {n i v f x : Nat} {v1 : Int32} (hn : n ≤ 12) (hi0 : i < n) (hv : v < 9) (h3 : W.1 3 1 = nI n) (h68 : W.1 68 i = nI v) (ho : W.1 (35 + i) 4 = o i) : f_X3_tell_L16 v1 W (tS6 o [(f, x)] i) = some (.inl (tS6 o [(f, x), (i, v)] (i + 1))) := by
  have e : ¬ nI v < 0 := fun z => by
    rw [i_lt, nI_toInt (by omega)] at z
    have k0 : (0 : Int32).toInt = 0 := by decide
    omega
  unfold f_X3_tell_L16 tS6
  simp only
  rw [h3, if_neg (nle hi0 (by omega)), gd_in (by omega) (by decide), cl_n (by omega), h68, if_neg e, gd_in (by omega) (by decide), gd_in (by omega) (by decide), gd_in (by omega) (by decide), ho, nI_1]
  simp [tl]
  exact gd_in (by omega) (by decide)

/-! the first world -/
def adF (hx : Nat) (ux : FX10) (hm : Nat) (um : FX11) (a104 a105 a106 : Nat) : Nat → Nat := fun k => (((hx) :: (ux.1.1) :: (ux.2.1.1) :: (ux.1.2.1.1) :: (ux.2.1.2.1.1) :: (ux.1.2.2.1.1) :: (ux.2.1.2.2.1.1) :: (ux.2.2.1.1) :: (ux.1.2.2.2.1) :: (ux.2.1.2.2.2.1) :: (ux.2.2.2.1.1) :: (ux.2.2.2.2.1.1) :: (ux.2.2.2.2.2.1.1) :: (ux.2.2.2.2.2.2.1.1) :: (ux.2.2.2.2.2.2.2.1.1) :: (ux.2.2.2.2.2.2.2.2.1.1) :: (ux.2.2.2.2.2.2.2.2.2) :: ((ux.1.2.1.2) 0) :: ((ux.2.1.2.1.2) 0) :: ((ux.1.2.1.2) 1) :: ((ux.2.1.2.1.2) 1) :: ((ux.1.2.2.1.2) 0) :: ((ux.2.1.2.2.1.2) 0) :: ((ux.2.2.1.2) 0) :: ((ux.1.2.2.2.2) 0) :: ((ux.1.2.2.2.2) 1) :: ((ux.1.2.2.2.2) 2) :: ((ux.1.2.2.2.2) 3) :: ((ux.2.1.2.2.2.2) 0) :: ((ux.2.1.2.2.2.2) 1) :: ((ux.2.1.2.2.2.2) 2) :: ((ux.2.1.2.2.2.2) 3) :: ((ux.2.2.2.1.2) 0) :: ((ux.2.2.2.2.1.2) 0) :: ((ux.2.2.2.2.2.1.2) 0) :: ((ux.1.2.1.2) 2) :: ((ux.1.2.1.2) 3) :: ((ux.1.2.1.2) 4) :: ((ux.1.2.1.2) 5) :: ((ux.1.2.1.2) 6) :: ((ux.1.2.1.2) 7) :: ((ux.1.2.1.2) 8) :: ((ux.1.2.1.2) 9) :: ((ux.1.2.1.2) 10) :: ((ux.1.2.1.2) 11) :: ((ux.1.2.1.2) 12) :: ((ux.1.2.1.2) 13) :: ((ux.2.1.2.1.2) 2) :: ((ux.2.1.2.1.2) 3) :: ((ux.2.1.2.1.2) 4) :: ((ux.2.1.2.1.2) 5) :: ((ux.2.1.2.1.2) 6) :: ((ux.2.1.2.1.2) 7) :: ((ux.2.1.2.1.2) 8) :: ((ux.2.1.2.1.2) 9) :: ((ux.2.1.2.1.2) 10) :: ((ux.2.1.2.1.2) 11) :: ((ux.2.1.2.1.2) 12) :: ((ux.2.1.2.1.2) 13) :: ((ux.2.2.2.2.2.2.1.2) 0) :: ((ux.2.2.2.2.2.2.1.2) 1) :: ((ux.2.2.2.2.2.2.1.2) 2) :: ((ux.2.2.2.2.2.2.1.2) 3) :: ((ux.2.2.2.2.2.2.1.2) 4) :: ((ux.2.2.2.2.2.2.1.2) 5) :: ((ux.2.2.2.2.2.2.1.2) 6) :: ((ux.2.2.2.2.2.2.1.2) 7) :: ((ux.2.2.2.2.2.2.1.2) 8) :: ((ux.2.2.2.2.2.2.2.1.2) 0) :: ((ux.2.2.2.2.2.2.2.2.1.2) 0) :: ((ux.2.2.2.2.2.2.2.2.1.2) 0 + 1 + 0) :: ((ux.2.2.2.2.2.2.2.2.1.2) 0 + 1 + 1) :: ((ux.2.2.2.2.2.2.2.2.1.2) 0 + 1 + 2) :: ((ux.2.2.2.2.2.2.2.2.1.2) 0 + 1 + 3) :: ((ux.2.2.2.2.2.2.2.2.1.2) 1) :: ((ux.2.2.2.2.2.2.2.2.1.2) 2) :: (hm) :: (um 0) :: (um 1) :: (um 2) :: (um 3) :: (um 4) :: (um 5) :: (um 6) :: (um 7) :: (um 8) :: (um 9) :: (um 10) :: (um 11) :: (um 12) :: (um 13) :: (um 14) :: (um 15) :: (um 16) :: (um 17) :: (um 18) :: (um 19) :: (um 20) :: (um 21) :: (um 22) :: (um 23) :: (um 24) :: (um 25) :: (um 26) :: (a104) :: (a105) :: (a106) :: []) : List Nat).getD k 0
def gF : Nat → Nat := fun k => (((0) :: (1) :: (24) :: (2) :: (25) :: (17) :: (40) :: (47) :: (19) :: (42) :: (49) :: (51) :: (53) :: (55) :: (65) :: (67) :: (75) :: (3) :: (26) :: (4) :: (27) :: (18) :: (41) :: (48) :: (20) :: (21) :: (22) :: (23) :: (43) :: (44) :: (45) :: (46) :: (50) :: (52) :: (54) :: (5) :: (6) :: (7) :: (8) :: (9) :: (10) :: (11) :: (12) :: (13) :: (14) :: (15) :: (16) :: (28) :: (29) :: (30) :: (31) :: (32) :: (33) :: (34) :: (35) :: (36) :: (37) :: (38) :: (39) :: (56) :: (57) :: (58) :: (59) :: (60) :: (61) :: (62) :: (63) :: (64) :: (66) :: (68) :: (69) :: (70) :: (71) :: (72) :: (73) :: (74) :: (76) :: (77) :: (78) :: (79) :: (80) :: (81) :: (82) :: (83) :: (84) :: (85) :: (86) :: (87) :: (88) :: (89) :: (90) :: (91) :: (92) :: (93) :: (94) :: (95) :: (96) :: (97) :: (98) :: (99) :: (100) :: (101) :: (102) :: (103) :: []) : List Nat).getD k 0
def w0 : Wd := (fun k y => if k = 77 then upd (upd (upd (fun _ => 0) 1 50) 2 100) 3 600 y else if k = 3 then (if y = 4 then 50 else if y = 5 then 100 else if y = 6 then 600 else 0) else if k = 4 then (if y = 4 then 50 else if y = 5 then 100 else if y = 6 then 600 else 0) else 0, fun _ _ => 0)
theorem cE_o {ad : Nat → Nat} {ca : Nat → ClassId} {w : Wd} {k ci : Nat} {sl : List (Option Nat)} (hO : IsO k ci sl) : cE ad ca w k = .inr (ci, sl.zipIdx.map (fv ad w k)) := by unfold cE; rw [hO.2]
theorem cE_i {ad : Nat → Nat} {ca : Nat → ClassId} {w : Wd} {k n b : Nat} (hA : IsA k 0 n b) : cE ad ca w k = .inl (ca 0, n, .inl (w.1 k)) := by unfold cE; rw [hA.2]; rfl
theorem cE_l {ad : Nat → Nat} {ca : Nat → ClassId} {w : Wd} {k n b : Nat} (hA : IsA k 1 n b) : cE ad ca w k = .inl (ca 1, n, .inr (.inl (w.2 k))) := by unfold cE; rw [hA.2]; rfl
theorem cE_q {ad : Nat → Nat} {ca : Nat → ClassId} {w : Wd} {k n b : Nat} (hA : IsA k 2 n b) : cE ad ca w k = .inl (ca 2, n, .inr (.inr (.inr (.inr (fun j => if j < n then some (ad (b + j)) else none))))) := by unfold cE; rw [hA.2]; rfl
theorem cE_g {ad : Nat → Nat} {ca : Nat → ClassId} {w : Wd} {k n b : Nat} (hA : IsA k 3 n b) : cE ad ca w k = .inl (ca 3, n, .inr (.inr (.inr (.inr (fun j => if j < n then some (ad (b + j)) else none))))) := by unfold cE; rw [hA.2]; rfl
theorem ifj {n : Nat} {f g : Nat → Nat} (h : ∀ j, j < n → f j = g j) : (fun j => if j < n then some (f j) else none) = (fun j => if j < n then some (g j) else none) := by
  funext j
  by_cases z : j < n
  · rw [if_pos z, if_pos z, h j z]
  · rw [if_neg z, if_neg z]
theorem al0 {P : Nat → Prop} : ∀ k, k < 0 → P k := fun _ h => absurd h (Nat.not_lt_zero _)
theorem alS {P : Nat → Prop} {n : Nat} (h : ∀ k, k < n → P k) (hn : P n) : ∀ k, k < n + 1 → P k := fun k hk => (Nat.lt_or_ge k n).elim (h k) fun q => by
  have e : k = n := by omega
  rw [e]
  exact hn
abbrev bigW (ca : Nat → ClassId) (hx : Nat) (ux : FX10) (hm : Nat) (um : FX11) : va_W := pX10 ca hx ux ++ pX11 ca hm um
theorem mw_0 {ca : Nat → ClassId} {hx : Nat} {ux : FX10} {hm : Nat} {um : FX11} {a104 a105 a106 : Nat} : (bigW ca hx ux hm um)[gF 0]? = some (adF hx ux hm um a104 a105 a106 0, cE (adF hx ux hm um a104 a105 a106) ca w0 0) := by
  rw [cE_o o_0]
  rfl
theorem mw_1 {ca : Nat → ClassId} {hx : Nat} {ux : FX10} {hm : Nat} {um : FX11} {a104 a105 a106 : Nat} : (bigW ca hx ux hm um)[gF 1]? = some (adF hx ux hm um a104 a105 a106 1, cE (adF hx ux hm um a104 a105 a106) ca w0 1) := by
  rw [cE_o o_1]
  rfl
theorem mw_2 {ca : Nat → ClassId} {hx : Nat} {ux : FX10} {hm : Nat} {um : FX11} {a104 a105 a106 : Nat} : (bigW ca hx ux hm um)[gF 2]? = some (adF hx ux hm um a104 a105 a106 2, cE (adF hx ux hm um a104 a105 a106) ca w0 2) := by
  rw [cE_o o_2]
  rfl
theorem mw_3 {ca : Nat → ClassId} {hx : Nat} {ux : FX10} {hm : Nat} {um : FX11} {a104 a105 a106 : Nat} : (bigW ca hx ux hm um)[gF 3]? = some (adF hx ux hm um a104 a105 a106 3, cE (adF hx ux hm um a104 a105 a106) ca w0 3) := by
  rw [cE_o o_3]
  rfl
theorem mw_4 {ca : Nat → ClassId} {hx : Nat} {ux : FX10} {hm : Nat} {um : FX11} {a104 a105 a106 : Nat} : (bigW ca hx ux hm um)[gF 4]? = some (adF hx ux hm um a104 a105 a106 4, cE (adF hx ux hm um a104 a105 a106) ca w0 4) := by
  rw [cE_o o_4]
  rfl
theorem mw_5 {ca : Nat → ClassId} {hx : Nat} {ux : FX10} {hm : Nat} {um : FX11} {a104 a105 a106 : Nat} : (bigW ca hx ux hm um)[gF 5]? = some (adF hx ux hm um a104 a105 a106 5, cE (adF hx ux hm um a104 a105 a106) ca w0 5) := by
  rw [cE_o o_5]
  rfl
theorem mw_6 {ca : Nat → ClassId} {hx : Nat} {ux : FX10} {hm : Nat} {um : FX11} {a104 a105 a106 : Nat} : (bigW ca hx ux hm um)[gF 6]? = some (adF hx ux hm um a104 a105 a106 6, cE (adF hx ux hm um a104 a105 a106) ca w0 6) := by
  rw [cE_o o_6]
  rfl
theorem mw_7 {ca : Nat → ClassId} {hx : Nat} {ux : FX10} {hm : Nat} {um : FX11} {a104 a105 a106 : Nat} : (bigW ca hx ux hm um)[gF 7]? = some (adF hx ux hm um a104 a105 a106 7, cE (adF hx ux hm um a104 a105 a106) ca w0 7) := by
  rw [cE_o o_7]
  rfl
theorem mw_8 {ca : Nat → ClassId} {hx : Nat} {ux : FX10} {hm : Nat} {um : FX11} {a104 a105 a106 : Nat} : (bigW ca hx ux hm um)[gF 8]? = some (adF hx ux hm um a104 a105 a106 8, cE (adF hx ux hm um a104 a105 a106) ca w0 8) := by
  rw [cE_o o_8]
  rfl
theorem mw_9 {ca : Nat → ClassId} {hx : Nat} {ux : FX10} {hm : Nat} {um : FX11} {a104 a105 a106 : Nat} : (bigW ca hx ux hm um)[gF 9]? = some (adF hx ux hm um a104 a105 a106 9, cE (adF hx ux hm um a104 a105 a106) ca w0 9) := by
  rw [cE_o o_9]
  rfl
theorem mw_10 {ca : Nat → ClassId} {hx : Nat} {ux : FX10} {hm : Nat} {um : FX11} {a104 a105 a106 : Nat} : (bigW ca hx ux hm um)[gF 10]? = some (adF hx ux hm um a104 a105 a106 10, cE (adF hx ux hm um a104 a105 a106) ca w0 10) := by
  rw [cE_o o_10]
  rfl
theorem mw_11 {ca : Nat → ClassId} {hx : Nat} {ux : FX10} {hm : Nat} {um : FX11} {a104 a105 a106 : Nat} : (bigW ca hx ux hm um)[gF 11]? = some (adF hx ux hm um a104 a105 a106 11, cE (adF hx ux hm um a104 a105 a106) ca w0 11) := by
  rw [cE_o o_11]
  rfl
theorem mw_12 {ca : Nat → ClassId} {hx : Nat} {ux : FX10} {hm : Nat} {um : FX11} {a104 a105 a106 : Nat} : (bigW ca hx ux hm um)[gF 12]? = some (adF hx ux hm um a104 a105 a106 12, cE (adF hx ux hm um a104 a105 a106) ca w0 12) := by
  rw [cE_o o_12]
  rfl
theorem mw_13 {ca : Nat → ClassId} {hx : Nat} {ux : FX10} {hm : Nat} {um : FX11} {a104 a105 a106 : Nat} : (bigW ca hx ux hm um)[gF 13]? = some (adF hx ux hm um a104 a105 a106 13, cE (adF hx ux hm um a104 a105 a106) ca w0 13) := by
  rw [cE_o o_13]
  rfl
theorem mw_14 {ca : Nat → ClassId} {hx : Nat} {ux : FX10} {hm : Nat} {um : FX11} {a104 a105 a106 : Nat} : (bigW ca hx ux hm um)[gF 14]? = some (adF hx ux hm um a104 a105 a106 14, cE (adF hx ux hm um a104 a105 a106) ca w0 14) := by
  rw [cE_o o_14]
  rfl
theorem mw_15 {ca : Nat → ClassId} {hx : Nat} {ux : FX10} {hm : Nat} {um : FX11} {a104 a105 a106 : Nat} : (bigW ca hx ux hm um)[gF 15]? = some (adF hx ux hm um a104 a105 a106 15, cE (adF hx ux hm um a104 a105 a106) ca w0 15) := by
  rw [cE_o o_15]
  rfl
theorem mw_16 {ca : Nat → ClassId} {hx : Nat} {ux : FX10} {hm : Nat} {um : FX11} {a104 a105 a106 : Nat} : (bigW ca hx ux hm um)[gF 16]? = some (adF hx ux hm um a104 a105 a106 16, cE (adF hx ux hm um a104 a105 a106) ca w0 16) := by
  rw [cE_i a_16]
  rfl
theorem mw_17 {ca : Nat → ClassId} {hx : Nat} {ux : FX10} {hm : Nat} {um : FX11} {a104 a105 a106 : Nat} : (bigW ca hx ux hm um)[gF 17]? = some (adF hx ux hm um a104 a105 a106 17, cE (adF hx ux hm um a104 a105 a106) ca w0 17) := by
  rw [cE_q a_17, ifj (g := fun j => (ux.1.2.1.2) (2 + j)) (fun j hj => ?_)]
  · rfl
  · rcases (by omega : j = 0 ∨ j = 1 ∨ j = 2 ∨ j = 3 ∨ j = 4 ∨ j = 5 ∨ j = 6 ∨ j = 7 ∨ j = 8 ∨ j = 9 ∨ j = 10 ∨ j = 11) with h | h | h | h | h | h | h | h | h | h | h | h <;> subst h <;> rfl
theorem mw_18 {ca : Nat → ClassId} {hx : Nat} {ux : FX10} {hm : Nat} {um : FX11} {a104 a105 a106 : Nat} : (bigW ca hx ux hm um)[gF 18]? = some (adF hx ux hm um a104 a105 a106 18, cE (adF hx ux hm um a104 a105 a106) ca w0 18) := by
  rw [cE_q a_18, ifj (g := fun j => (ux.2.1.2.1.2) (2 + j)) (fun j hj => ?_)]
  · rfl
  · rcases (by omega : j = 0 ∨ j = 1 ∨ j = 2 ∨ j = 3 ∨ j = 4 ∨ j = 5 ∨ j = 6 ∨ j = 7 ∨ j = 8 ∨ j = 9 ∨ j = 10 ∨ j = 11) with h | h | h | h | h | h | h | h | h | h | h | h <;> subst h <;> rfl
theorem mw_19 {ca : Nat → ClassId} {hx : Nat} {ux : FX10} {hm : Nat} {um : FX11} {a104 a105 a106 : Nat} : (bigW ca hx ux hm um)[gF 19]? = some (adF hx ux hm um a104 a105 a106 19, cE (adF hx ux hm um a104 a105 a106) ca w0 19) := by
  rw [cE_i a_19]
  rfl
theorem mw_20 {ca : Nat → ClassId} {hx : Nat} {ux : FX10} {hm : Nat} {um : FX11} {a104 a105 a106 : Nat} : (bigW ca hx ux hm um)[gF 20]? = some (adF hx ux hm um a104 a105 a106 20, cE (adF hx ux hm um a104 a105 a106) ca w0 20) := by
  rw [cE_i a_20]
  rfl
theorem mw_21 {ca : Nat → ClassId} {hx : Nat} {ux : FX10} {hm : Nat} {um : FX11} {a104 a105 a106 : Nat} : (bigW ca hx ux hm um)[gF 21]? = some (adF hx ux hm um a104 a105 a106 21, cE (adF hx ux hm um a104 a105 a106) ca w0 21) := by
  rw [cE_i a_21]
  rfl
theorem mw_22 {ca : Nat → ClassId} {hx : Nat} {ux : FX10} {hm : Nat} {um : FX11} {a104 a105 a106 : Nat} : (bigW ca hx ux hm um)[gF 22]? = some (adF hx ux hm um a104 a105 a106 22, cE (adF hx ux hm um a104 a105 a106) ca w0 22) := by
  rw [cE_i a_22]
  rfl
theorem mw_23 {ca : Nat → ClassId} {hx : Nat} {ux : FX10} {hm : Nat} {um : FX11} {a104 a105 a106 : Nat} : (bigW ca hx ux hm um)[gF 23]? = some (adF hx ux hm um a104 a105 a106 23, cE (adF hx ux hm um a104 a105 a106) ca w0 23) := by
  rw [cE_i a_23]
  rfl
theorem mw_24 {ca : Nat → ClassId} {hx : Nat} {ux : FX10} {hm : Nat} {um : FX11} {a104 a105 a106 : Nat} : (bigW ca hx ux hm um)[gF 24]? = some (adF hx ux hm um a104 a105 a106 24, cE (adF hx ux hm um a104 a105 a106) ca w0 24) := by
  rw [cE_i a_24]
  rfl
theorem mw_25 {ca : Nat → ClassId} {hx : Nat} {ux : FX10} {hm : Nat} {um : FX11} {a104 a105 a106 : Nat} : (bigW ca hx ux hm um)[gF 25]? = some (adF hx ux hm um a104 a105 a106 25, cE (adF hx ux hm um a104 a105 a106) ca w0 25) := by
  rw [cE_i a_25]
  rfl
theorem mw_26 {ca : Nat → ClassId} {hx : Nat} {ux : FX10} {hm : Nat} {um : FX11} {a104 a105 a106 : Nat} : (bigW ca hx ux hm um)[gF 26]? = some (adF hx ux hm um a104 a105 a106 26, cE (adF hx ux hm um a104 a105 a106) ca w0 26) := by
  rw [cE_i a_26]
  rfl
theorem mw_27 {ca : Nat → ClassId} {hx : Nat} {ux : FX10} {hm : Nat} {um : FX11} {a104 a105 a106 : Nat} : (bigW ca hx ux hm um)[gF 27]? = some (adF hx ux hm um a104 a105 a106 27, cE (adF hx ux hm um a104 a105 a106) ca w0 27) := by
  rw [cE_i a_27]
  rfl
theorem mw_28 {ca : Nat → ClassId} {hx : Nat} {ux : FX10} {hm : Nat} {um : FX11} {a104 a105 a106 : Nat} : (bigW ca hx ux hm um)[gF 28]? = some (adF hx ux hm um a104 a105 a106 28, cE (adF hx ux hm um a104 a105 a106) ca w0 28) := by
  rw [cE_i a_28]
  rfl
theorem mw_29 {ca : Nat → ClassId} {hx : Nat} {ux : FX10} {hm : Nat} {um : FX11} {a104 a105 a106 : Nat} : (bigW ca hx ux hm um)[gF 29]? = some (adF hx ux hm um a104 a105 a106 29, cE (adF hx ux hm um a104 a105 a106) ca w0 29) := by
  rw [cE_i a_29]
  rfl
theorem mw_30 {ca : Nat → ClassId} {hx : Nat} {ux : FX10} {hm : Nat} {um : FX11} {a104 a105 a106 : Nat} : (bigW ca hx ux hm um)[gF 30]? = some (adF hx ux hm um a104 a105 a106 30, cE (adF hx ux hm um a104 a105 a106) ca w0 30) := by
  rw [cE_i a_30]
  rfl
theorem mw_31 {ca : Nat → ClassId} {hx : Nat} {ux : FX10} {hm : Nat} {um : FX11} {a104 a105 a106 : Nat} : (bigW ca hx ux hm um)[gF 31]? = some (adF hx ux hm um a104 a105 a106 31, cE (adF hx ux hm um a104 a105 a106) ca w0 31) := by
  rw [cE_i a_31]
  rfl
theorem mw_32 {ca : Nat → ClassId} {hx : Nat} {ux : FX10} {hm : Nat} {um : FX11} {a104 a105 a106 : Nat} : (bigW ca hx ux hm um)[gF 32]? = some (adF hx ux hm um a104 a105 a106 32, cE (adF hx ux hm um a104 a105 a106) ca w0 32) := by
  rw [cE_i a_32]
  rfl
theorem mw_33 {ca : Nat → ClassId} {hx : Nat} {ux : FX10} {hm : Nat} {um : FX11} {a104 a105 a106 : Nat} : (bigW ca hx ux hm um)[gF 33]? = some (adF hx ux hm um a104 a105 a106 33, cE (adF hx ux hm um a104 a105 a106) ca w0 33) := by
  rw [cE_i a_33]
  rfl
theorem mw_34 {ca : Nat → ClassId} {hx : Nat} {ux : FX10} {hm : Nat} {um : FX11} {a104 a105 a106 : Nat} : (bigW ca hx ux hm um)[gF 34]? = some (adF hx ux hm um a104 a105 a106 34, cE (adF hx ux hm um a104 a105 a106) ca w0 34) := by
  rw [cE_i a_34]
  rfl
theorem mw_35 {ca : Nat → ClassId} {hx : Nat} {ux : FX10} {hm : Nat} {um : FX11} {a104 a105 a106 : Nat} : (bigW ca hx ux hm um)[gF 35]? = some (adF hx ux hm um a104 a105 a106 35, cE (adF hx ux hm um a104 a105 a106) ca w0 35) := by
  rw [cE_o o_35]
  rfl
theorem mw_36 {ca : Nat → ClassId} {hx : Nat} {ux : FX10} {hm : Nat} {um : FX11} {a104 a105 a106 : Nat} : (bigW ca hx ux hm um)[gF 36]? = some (adF hx ux hm um a104 a105 a106 36, cE (adF hx ux hm um a104 a105 a106) ca w0 36) := by
  rw [cE_o o_36]
  rfl
theorem mw_37 {ca : Nat → ClassId} {hx : Nat} {ux : FX10} {hm : Nat} {um : FX11} {a104 a105 a106 : Nat} : (bigW ca hx ux hm um)[gF 37]? = some (adF hx ux hm um a104 a105 a106 37, cE (adF hx ux hm um a104 a105 a106) ca w0 37) := by
  rw [cE_o o_37]
  rfl
theorem mw_38 {ca : Nat → ClassId} {hx : Nat} {ux : FX10} {hm : Nat} {um : FX11} {a104 a105 a106 : Nat} : (bigW ca hx ux hm um)[gF 38]? = some (adF hx ux hm um a104 a105 a106 38, cE (adF hx ux hm um a104 a105 a106) ca w0 38) := by
  rw [cE_o o_38]
  rfl
theorem mw_39 {ca : Nat → ClassId} {hx : Nat} {ux : FX10} {hm : Nat} {um : FX11} {a104 a105 a106 : Nat} : (bigW ca hx ux hm um)[gF 39]? = some (adF hx ux hm um a104 a105 a106 39, cE (adF hx ux hm um a104 a105 a106) ca w0 39) := by
  rw [cE_o o_39]
  rfl
theorem mw_40 {ca : Nat → ClassId} {hx : Nat} {ux : FX10} {hm : Nat} {um : FX11} {a104 a105 a106 : Nat} : (bigW ca hx ux hm um)[gF 40]? = some (adF hx ux hm um a104 a105 a106 40, cE (adF hx ux hm um a104 a105 a106) ca w0 40) := by
  rw [cE_o o_40]
  rfl
theorem mw_41 {ca : Nat → ClassId} {hx : Nat} {ux : FX10} {hm : Nat} {um : FX11} {a104 a105 a106 : Nat} : (bigW ca hx ux hm um)[gF 41]? = some (adF hx ux hm um a104 a105 a106 41, cE (adF hx ux hm um a104 a105 a106) ca w0 41) := by
  rw [cE_o o_41]
  rfl
theorem mw_42 {ca : Nat → ClassId} {hx : Nat} {ux : FX10} {hm : Nat} {um : FX11} {a104 a105 a106 : Nat} : (bigW ca hx ux hm um)[gF 42]? = some (adF hx ux hm um a104 a105 a106 42, cE (adF hx ux hm um a104 a105 a106) ca w0 42) := by
  rw [cE_o o_42]
  rfl
theorem mw_43 {ca : Nat → ClassId} {hx : Nat} {ux : FX10} {hm : Nat} {um : FX11} {a104 a105 a106 : Nat} : (bigW ca hx ux hm um)[gF 43]? = some (adF hx ux hm um a104 a105 a106 43, cE (adF hx ux hm um a104 a105 a106) ca w0 43) := by
  rw [cE_o o_43]
  rfl
theorem mw_44 {ca : Nat → ClassId} {hx : Nat} {ux : FX10} {hm : Nat} {um : FX11} {a104 a105 a106 : Nat} : (bigW ca hx ux hm um)[gF 44]? = some (adF hx ux hm um a104 a105 a106 44, cE (adF hx ux hm um a104 a105 a106) ca w0 44) := by
  rw [cE_o o_44]
  rfl
theorem mw_45 {ca : Nat → ClassId} {hx : Nat} {ux : FX10} {hm : Nat} {um : FX11} {a104 a105 a106 : Nat} : (bigW ca hx ux hm um)[gF 45]? = some (adF hx ux hm um a104 a105 a106 45, cE (adF hx ux hm um a104 a105 a106) ca w0 45) := by
  rw [cE_o o_45]
  rfl
theorem mw_46 {ca : Nat → ClassId} {hx : Nat} {ux : FX10} {hm : Nat} {um : FX11} {a104 a105 a106 : Nat} : (bigW ca hx ux hm um)[gF 46]? = some (adF hx ux hm um a104 a105 a106 46, cE (adF hx ux hm um a104 a105 a106) ca w0 46) := by
  rw [cE_o o_46]
  rfl
theorem mw_47 {ca : Nat → ClassId} {hx : Nat} {ux : FX10} {hm : Nat} {um : FX11} {a104 a105 a106 : Nat} : (bigW ca hx ux hm um)[gF 47]? = some (adF hx ux hm um a104 a105 a106 47, cE (adF hx ux hm um a104 a105 a106) ca w0 47) := by
  rw [cE_o o_47]
  rfl
theorem mw_48 {ca : Nat → ClassId} {hx : Nat} {ux : FX10} {hm : Nat} {um : FX11} {a104 a105 a106 : Nat} : (bigW ca hx ux hm um)[gF 48]? = some (adF hx ux hm um a104 a105 a106 48, cE (adF hx ux hm um a104 a105 a106) ca w0 48) := by
  rw [cE_o o_48]
  rfl
theorem mw_49 {ca : Nat → ClassId} {hx : Nat} {ux : FX10} {hm : Nat} {um : FX11} {a104 a105 a106 : Nat} : (bigW ca hx ux hm um)[gF 49]? = some (adF hx ux hm um a104 a105 a106 49, cE (adF hx ux hm um a104 a105 a106) ca w0 49) := by
  rw [cE_o o_49]
  rfl
theorem mw_50 {ca : Nat → ClassId} {hx : Nat} {ux : FX10} {hm : Nat} {um : FX11} {a104 a105 a106 : Nat} : (bigW ca hx ux hm um)[gF 50]? = some (adF hx ux hm um a104 a105 a106 50, cE (adF hx ux hm um a104 a105 a106) ca w0 50) := by
  rw [cE_o o_50]
  rfl
theorem mw_51 {ca : Nat → ClassId} {hx : Nat} {ux : FX10} {hm : Nat} {um : FX11} {a104 a105 a106 : Nat} : (bigW ca hx ux hm um)[gF 51]? = some (adF hx ux hm um a104 a105 a106 51, cE (adF hx ux hm um a104 a105 a106) ca w0 51) := by
  rw [cE_o o_51]
  rfl
theorem mw_52 {ca : Nat → ClassId} {hx : Nat} {ux : FX10} {hm : Nat} {um : FX11} {a104 a105 a106 : Nat} : (bigW ca hx ux hm um)[gF 52]? = some (adF hx ux hm um a104 a105 a106 52, cE (adF hx ux hm um a104 a105 a106) ca w0 52) := by
  rw [cE_o o_52]
  rfl
theorem mw_53 {ca : Nat → ClassId} {hx : Nat} {ux : FX10} {hm : Nat} {um : FX11} {a104 a105 a106 : Nat} : (bigW ca hx ux hm um)[gF 53]? = some (adF hx ux hm um a104 a105 a106 53, cE (adF hx ux hm um a104 a105 a106) ca w0 53) := by
  rw [cE_o o_53]
  rfl
theorem mw_54 {ca : Nat → ClassId} {hx : Nat} {ux : FX10} {hm : Nat} {um : FX11} {a104 a105 a106 : Nat} : (bigW ca hx ux hm um)[gF 54]? = some (adF hx ux hm um a104 a105 a106 54, cE (adF hx ux hm um a104 a105 a106) ca w0 54) := by
  rw [cE_o o_54]
  rfl
theorem mw_55 {ca : Nat → ClassId} {hx : Nat} {ux : FX10} {hm : Nat} {um : FX11} {a104 a105 a106 : Nat} : (bigW ca hx ux hm um)[gF 55]? = some (adF hx ux hm um a104 a105 a106 55, cE (adF hx ux hm um a104 a105 a106) ca w0 55) := by
  rw [cE_o o_55]
  rfl
theorem mw_56 {ca : Nat → ClassId} {hx : Nat} {ux : FX10} {hm : Nat} {um : FX11} {a104 a105 a106 : Nat} : (bigW ca hx ux hm um)[gF 56]? = some (adF hx ux hm um a104 a105 a106 56, cE (adF hx ux hm um a104 a105 a106) ca w0 56) := by
  rw [cE_o o_56]
  rfl
theorem mw_57 {ca : Nat → ClassId} {hx : Nat} {ux : FX10} {hm : Nat} {um : FX11} {a104 a105 a106 : Nat} : (bigW ca hx ux hm um)[gF 57]? = some (adF hx ux hm um a104 a105 a106 57, cE (adF hx ux hm um a104 a105 a106) ca w0 57) := by
  rw [cE_o o_57]
  rfl
theorem mw_58 {ca : Nat → ClassId} {hx : Nat} {ux : FX10} {hm : Nat} {um : FX11} {a104 a105 a106 : Nat} : (bigW ca hx ux hm um)[gF 58]? = some (adF hx ux hm um a104 a105 a106 58, cE (adF hx ux hm um a104 a105 a106) ca w0 58) := by
  rw [cE_o o_58]
  rfl
theorem mw_59 {ca : Nat → ClassId} {hx : Nat} {ux : FX10} {hm : Nat} {um : FX11} {a104 a105 a106 : Nat} : (bigW ca hx ux hm um)[gF 59]? = some (adF hx ux hm um a104 a105 a106 59, cE (adF hx ux hm um a104 a105 a106) ca w0 59) := by
  rw [cE_i a_59]
  rfl
theorem mw_60 {ca : Nat → ClassId} {hx : Nat} {ux : FX10} {hm : Nat} {um : FX11} {a104 a105 a106 : Nat} : (bigW ca hx ux hm um)[gF 60]? = some (adF hx ux hm um a104 a105 a106 60, cE (adF hx ux hm um a104 a105 a106) ca w0 60) := by
  rw [cE_i a_60]
  rfl
theorem mw_61 {ca : Nat → ClassId} {hx : Nat} {ux : FX10} {hm : Nat} {um : FX11} {a104 a105 a106 : Nat} : (bigW ca hx ux hm um)[gF 61]? = some (adF hx ux hm um a104 a105 a106 61, cE (adF hx ux hm um a104 a105 a106) ca w0 61) := by
  rw [cE_i a_61]
  rfl
theorem mw_62 {ca : Nat → ClassId} {hx : Nat} {ux : FX10} {hm : Nat} {um : FX11} {a104 a105 a106 : Nat} : (bigW ca hx ux hm um)[gF 62]? = some (adF hx ux hm um a104 a105 a106 62, cE (adF hx ux hm um a104 a105 a106) ca w0 62) := by
  rw [cE_i a_62]
  rfl
theorem mw_63 {ca : Nat → ClassId} {hx : Nat} {ux : FX10} {hm : Nat} {um : FX11} {a104 a105 a106 : Nat} : (bigW ca hx ux hm um)[gF 63]? = some (adF hx ux hm um a104 a105 a106 63, cE (adF hx ux hm um a104 a105 a106) ca w0 63) := by
  rw [cE_i a_63]
  rfl
theorem mw_64 {ca : Nat → ClassId} {hx : Nat} {ux : FX10} {hm : Nat} {um : FX11} {a104 a105 a106 : Nat} : (bigW ca hx ux hm um)[gF 64]? = some (adF hx ux hm um a104 a105 a106 64, cE (adF hx ux hm um a104 a105 a106) ca w0 64) := by
  rw [cE_i a_64]
  rfl
theorem mw_65 {ca : Nat → ClassId} {hx : Nat} {ux : FX10} {hm : Nat} {um : FX11} {a104 a105 a106 : Nat} : (bigW ca hx ux hm um)[gF 65]? = some (adF hx ux hm um a104 a105 a106 65, cE (adF hx ux hm um a104 a105 a106) ca w0 65) := by
  rw [cE_i a_65]
  rfl
theorem mw_66 {ca : Nat → ClassId} {hx : Nat} {ux : FX10} {hm : Nat} {um : FX11} {a104 a105 a106 : Nat} : (bigW ca hx ux hm um)[gF 66]? = some (adF hx ux hm um a104 a105 a106 66, cE (adF hx ux hm um a104 a105 a106) ca w0 66) := by
  rw [cE_i a_66]
  rfl
theorem mw_67 {ca : Nat → ClassId} {hx : Nat} {ux : FX10} {hm : Nat} {um : FX11} {a104 a105 a106 : Nat} : (bigW ca hx ux hm um)[gF 67]? = some (adF hx ux hm um a104 a105 a106 67, cE (adF hx ux hm um a104 a105 a106) ca w0 67) := by
  rw [cE_i a_67]
  rfl
theorem mw_68 {ca : Nat → ClassId} {hx : Nat} {ux : FX10} {hm : Nat} {um : FX11} {a104 a105 a106 : Nat} : (bigW ca hx ux hm um)[gF 68]? = some (adF hx ux hm um a104 a105 a106 68, cE (adF hx ux hm um a104 a105 a106) ca w0 68) := by
  rw [cE_i a_68]
  rfl
theorem mw_69 {ca : Nat → ClassId} {hx : Nat} {ux : FX10} {hm : Nat} {um : FX11} {a104 a105 a106 : Nat} : (bigW ca hx ux hm um)[gF 69]? = some (adF hx ux hm um a104 a105 a106 69, cE (adF hx ux hm um a104 a105 a106) ca w0 69) := by
  rw [cE_g a_69, ifj (g := fun j => (ux.2.2.2.2.2.2.2.2.1.2) 0 + 1 + j) (fun j hj => ?_)]
  · rfl
  · rcases (by omega : j = 0 ∨ j = 1 ∨ j = 2 ∨ j = 3) with h | h | h | h <;> subst h <;> rfl
theorem mw_70 {ca : Nat → ClassId} {hx : Nat} {ux : FX10} {hm : Nat} {um : FX11} {a104 a105 a106 : Nat} : (bigW ca hx ux hm um)[gF 70]? = some (adF hx ux hm um a104 a105 a106 70, cE (adF hx ux hm um a104 a105 a106) ca w0 70) := by
  rw [cE_l a_70]
  rfl
theorem mw_71 {ca : Nat → ClassId} {hx : Nat} {ux : FX10} {hm : Nat} {um : FX11} {a104 a105 a106 : Nat} : (bigW ca hx ux hm um)[gF 71]? = some (adF hx ux hm um a104 a105 a106 71, cE (adF hx ux hm um a104 a105 a106) ca w0 71) := by
  rw [cE_l a_71]
  rfl
theorem mw_72 {ca : Nat → ClassId} {hx : Nat} {ux : FX10} {hm : Nat} {um : FX11} {a104 a105 a106 : Nat} : (bigW ca hx ux hm um)[gF 72]? = some (adF hx ux hm um a104 a105 a106 72, cE (adF hx ux hm um a104 a105 a106) ca w0 72) := by
  rw [cE_l a_72]
  rfl
theorem mw_73 {ca : Nat → ClassId} {hx : Nat} {ux : FX10} {hm : Nat} {um : FX11} {a104 a105 a106 : Nat} : (bigW ca hx ux hm um)[gF 73]? = some (adF hx ux hm um a104 a105 a106 73, cE (adF hx ux hm um a104 a105 a106) ca w0 73) := by
  rw [cE_l a_73]
  rfl
theorem mw_74 {ca : Nat → ClassId} {hx : Nat} {ux : FX10} {hm : Nat} {um : FX11} {a104 a105 a106 : Nat} : (bigW ca hx ux hm um)[gF 74]? = some (adF hx ux hm um a104 a105 a106 74, cE (adF hx ux hm um a104 a105 a106) ca w0 74) := by
  rw [cE_i a_74]
  rfl
theorem mw_75 {ca : Nat → ClassId} {hx : Nat} {ux : FX10} {hm : Nat} {um : FX11} {a104 a105 a106 : Nat} : (bigW ca hx ux hm um)[gF 75]? = some (adF hx ux hm um a104 a105 a106 75, cE (adF hx ux hm um a104 a105 a106) ca w0 75) := by
  rw [cE_i a_75]
  rfl
theorem mw_76 {ca : Nat → ClassId} {hx : Nat} {ux : FX10} {hm : Nat} {um : FX11} {a104 a105 a106 : Nat} : (bigW ca hx ux hm um)[gF 76]? = some (adF hx ux hm um a104 a105 a106 76, cE (adF hx ux hm um a104 a105 a106) ca w0 76) := by
  rw [cE_o o_76]
  rfl
theorem mw_77 {ca : Nat → ClassId} {hx : Nat} {ux : FX10} {hm : Nat} {um : FX11} {a104 a105 a106 : Nat} : (bigW ca hx ux hm um)[gF 77]? = some (adF hx ux hm um a104 a105 a106 77, cE (adF hx ux hm um a104 a105 a106) ca w0 77) := by
  rw [cE_i a_77]
  rfl
theorem mw_78 {ca : Nat → ClassId} {hx : Nat} {ux : FX10} {hm : Nat} {um : FX11} {a104 a105 a106 : Nat} : (bigW ca hx ux hm um)[gF 78]? = some (adF hx ux hm um a104 a105 a106 78, cE (adF hx ux hm um a104 a105 a106) ca w0 78) := by
  rw [cE_i a_78]
  rfl
theorem mw_79 {ca : Nat → ClassId} {hx : Nat} {ux : FX10} {hm : Nat} {um : FX11} {a104 a105 a106 : Nat} : (bigW ca hx ux hm um)[gF 79]? = some (adF hx ux hm um a104 a105 a106 79, cE (adF hx ux hm um a104 a105 a106) ca w0 79) := by
  rw [cE_i a_79]
  rfl
theorem mw_80 {ca : Nat → ClassId} {hx : Nat} {ux : FX10} {hm : Nat} {um : FX11} {a104 a105 a106 : Nat} : (bigW ca hx ux hm um)[gF 80]? = some (adF hx ux hm um a104 a105 a106 80, cE (adF hx ux hm um a104 a105 a106) ca w0 80) := by
  rw [cE_i a_80]
  rfl
theorem mw_81 {ca : Nat → ClassId} {hx : Nat} {ux : FX10} {hm : Nat} {um : FX11} {a104 a105 a106 : Nat} : (bigW ca hx ux hm um)[gF 81]? = some (adF hx ux hm um a104 a105 a106 81, cE (adF hx ux hm um a104 a105 a106) ca w0 81) := by
  rw [cE_i a_81]
  rfl
theorem mw_82 {ca : Nat → ClassId} {hx : Nat} {ux : FX10} {hm : Nat} {um : FX11} {a104 a105 a106 : Nat} : (bigW ca hx ux hm um)[gF 82]? = some (adF hx ux hm um a104 a105 a106 82, cE (adF hx ux hm um a104 a105 a106) ca w0 82) := by
  rw [cE_i a_82]
  rfl
theorem mw_83 {ca : Nat → ClassId} {hx : Nat} {ux : FX10} {hm : Nat} {um : FX11} {a104 a105 a106 : Nat} : (bigW ca hx ux hm um)[gF 83]? = some (adF hx ux hm um a104 a105 a106 83, cE (adF hx ux hm um a104 a105 a106) ca w0 83) := by
  rw [cE_i a_83]
  rfl
theorem mw_84 {ca : Nat → ClassId} {hx : Nat} {ux : FX10} {hm : Nat} {um : FX11} {a104 a105 a106 : Nat} : (bigW ca hx ux hm um)[gF 84]? = some (adF hx ux hm um a104 a105 a106 84, cE (adF hx ux hm um a104 a105 a106) ca w0 84) := by
  rw [cE_i a_84]
  rfl
theorem mw_85 {ca : Nat → ClassId} {hx : Nat} {ux : FX10} {hm : Nat} {um : FX11} {a104 a105 a106 : Nat} : (bigW ca hx ux hm um)[gF 85]? = some (adF hx ux hm um a104 a105 a106 85, cE (adF hx ux hm um a104 a105 a106) ca w0 85) := by
  rw [cE_i a_85]
  rfl
theorem mw_86 {ca : Nat → ClassId} {hx : Nat} {ux : FX10} {hm : Nat} {um : FX11} {a104 a105 a106 : Nat} : (bigW ca hx ux hm um)[gF 86]? = some (adF hx ux hm um a104 a105 a106 86, cE (adF hx ux hm um a104 a105 a106) ca w0 86) := by
  rw [cE_i a_86]
  rfl
theorem mw_87 {ca : Nat → ClassId} {hx : Nat} {ux : FX10} {hm : Nat} {um : FX11} {a104 a105 a106 : Nat} : (bigW ca hx ux hm um)[gF 87]? = some (adF hx ux hm um a104 a105 a106 87, cE (adF hx ux hm um a104 a105 a106) ca w0 87) := by
  rw [cE_i a_87]
  rfl
theorem mw_88 {ca : Nat → ClassId} {hx : Nat} {ux : FX10} {hm : Nat} {um : FX11} {a104 a105 a106 : Nat} : (bigW ca hx ux hm um)[gF 88]? = some (adF hx ux hm um a104 a105 a106 88, cE (adF hx ux hm um a104 a105 a106) ca w0 88) := by
  rw [cE_i a_88]
  rfl
theorem mw_89 {ca : Nat → ClassId} {hx : Nat} {ux : FX10} {hm : Nat} {um : FX11} {a104 a105 a106 : Nat} : (bigW ca hx ux hm um)[gF 89]? = some (adF hx ux hm um a104 a105 a106 89, cE (adF hx ux hm um a104 a105 a106) ca w0 89) := by
  rw [cE_i a_89]
  rfl
theorem mw_90 {ca : Nat → ClassId} {hx : Nat} {ux : FX10} {hm : Nat} {um : FX11} {a104 a105 a106 : Nat} : (bigW ca hx ux hm um)[gF 90]? = some (adF hx ux hm um a104 a105 a106 90, cE (adF hx ux hm um a104 a105 a106) ca w0 90) := by
  rw [cE_i a_90]
  rfl
theorem mw_91 {ca : Nat → ClassId} {hx : Nat} {ux : FX10} {hm : Nat} {um : FX11} {a104 a105 a106 : Nat} : (bigW ca hx ux hm um)[gF 91]? = some (adF hx ux hm um a104 a105 a106 91, cE (adF hx ux hm um a104 a105 a106) ca w0 91) := by
  rw [cE_i a_91]
  rfl
theorem mw_92 {ca : Nat → ClassId} {hx : Nat} {ux : FX10} {hm : Nat} {um : FX11} {a104 a105 a106 : Nat} : (bigW ca hx ux hm um)[gF 92]? = some (adF hx ux hm um a104 a105 a106 92, cE (adF hx ux hm um a104 a105 a106) ca w0 92) := by
  rw [cE_i a_92]
  rfl
theorem mw_93 {ca : Nat → ClassId} {hx : Nat} {ux : FX10} {hm : Nat} {um : FX11} {a104 a105 a106 : Nat} : (bigW ca hx ux hm um)[gF 93]? = some (adF hx ux hm um a104 a105 a106 93, cE (adF hx ux hm um a104 a105 a106) ca w0 93) := by
  rw [cE_i a_93]
  rfl
theorem mw_94 {ca : Nat → ClassId} {hx : Nat} {ux : FX10} {hm : Nat} {um : FX11} {a104 a105 a106 : Nat} : (bigW ca hx ux hm um)[gF 94]? = some (adF hx ux hm um a104 a105 a106 94, cE (adF hx ux hm um a104 a105 a106) ca w0 94) := by
  rw [cE_i a_94]
  rfl
theorem mw_95 {ca : Nat → ClassId} {hx : Nat} {ux : FX10} {hm : Nat} {um : FX11} {a104 a105 a106 : Nat} : (bigW ca hx ux hm um)[gF 95]? = some (adF hx ux hm um a104 a105 a106 95, cE (adF hx ux hm um a104 a105 a106) ca w0 95) := by
  rw [cE_i a_95]
  rfl
theorem mw_96 {ca : Nat → ClassId} {hx : Nat} {ux : FX10} {hm : Nat} {um : FX11} {a104 a105 a106 : Nat} : (bigW ca hx ux hm um)[gF 96]? = some (adF hx ux hm um a104 a105 a106 96, cE (adF hx ux hm um a104 a105 a106) ca w0 96) := by
  rw [cE_i a_96]
  rfl
theorem mw_97 {ca : Nat → ClassId} {hx : Nat} {ux : FX10} {hm : Nat} {um : FX11} {a104 a105 a106 : Nat} : (bigW ca hx ux hm um)[gF 97]? = some (adF hx ux hm um a104 a105 a106 97, cE (adF hx ux hm um a104 a105 a106) ca w0 97) := by
  rw [cE_i a_97]
  rfl
theorem mw_98 {ca : Nat → ClassId} {hx : Nat} {ux : FX10} {hm : Nat} {um : FX11} {a104 a105 a106 : Nat} : (bigW ca hx ux hm um)[gF 98]? = some (adF hx ux hm um a104 a105 a106 98, cE (adF hx ux hm um a104 a105 a106) ca w0 98) := by
  rw [cE_i a_98]
  rfl
theorem mw_99 {ca : Nat → ClassId} {hx : Nat} {ux : FX10} {hm : Nat} {um : FX11} {a104 a105 a106 : Nat} : (bigW ca hx ux hm um)[gF 99]? = some (adF hx ux hm um a104 a105 a106 99, cE (adF hx ux hm um a104 a105 a106) ca w0 99) := by
  rw [cE_i a_99]
  rfl
theorem mw_100 {ca : Nat → ClassId} {hx : Nat} {ux : FX10} {hm : Nat} {um : FX11} {a104 a105 a106 : Nat} : (bigW ca hx ux hm um)[gF 100]? = some (adF hx ux hm um a104 a105 a106 100, cE (adF hx ux hm um a104 a105 a106) ca w0 100) := by
  rw [cE_i a_100]
  rfl
theorem mw_101 {ca : Nat → ClassId} {hx : Nat} {ux : FX10} {hm : Nat} {um : FX11} {a104 a105 a106 : Nat} : (bigW ca hx ux hm um)[gF 101]? = some (adF hx ux hm um a104 a105 a106 101, cE (adF hx ux hm um a104 a105 a106) ca w0 101) := by
  rw [cE_i a_101]
  rfl
theorem mw_102 {ca : Nat → ClassId} {hx : Nat} {ux : FX10} {hm : Nat} {um : FX11} {a104 a105 a106 : Nat} : (bigW ca hx ux hm um)[gF 102]? = some (adF hx ux hm um a104 a105 a106 102, cE (adF hx ux hm um a104 a105 a106) ca w0 102) := by
  rw [cE_l a_102]
  rfl
theorem mw_103 {ca : Nat → ClassId} {hx : Nat} {ux : FX10} {hm : Nat} {um : FX11} {a104 a105 a106 : Nat} : (bigW ca hx ux hm um)[gF 103]? = some (adF hx ux hm um a104 a105 a106 103, cE (adF hx ux hm um a104 a105 a106) ca w0 103) := by
  rw [cE_l a_103]
  rfl
set_option maxRecDepth 100000 in
theorem mw_all {ca : Nat → ClassId} {hx : Nat} {ux : FX10} {hm : Nat} {um : FX11} {a104 a105 a106 : Nat} : ∀ k, k < 104 → (bigW ca hx ux hm um)[gF k]? = some (adF hx ux hm um a104 a105 a106 k, cE (adF hx ux hm um a104 a105 a106) ca w0 k) :=
  alS (n := 103) (alS (n := 102) (alS (n := 101) (alS (n := 100) (alS (n := 99) (alS (n := 98) (alS (n := 97) (alS (n := 96) (alS (n := 95) (alS (n := 94) (alS (n := 93) (alS (n := 92) (alS (n := 91) (alS (n := 90) (alS (n := 89) (alS (n := 88) (alS (n := 87) (alS (n := 86) (alS (n := 85) (alS (n := 84) (alS (n := 83) (alS (n := 82) (alS (n := 81) (alS (n := 80) (alS (n := 79) (alS (n := 78) (alS (n := 77) (alS (n := 76) (alS (n := 75) (alS (n := 74) (alS (n := 73) (alS (n := 72) (alS (n := 71) (alS (n := 70) (alS (n := 69) (alS (n := 68) (alS (n := 67) (alS (n := 66) (alS (n := 65) (alS (n := 64) (alS (n := 63) (alS (n := 62) (alS (n := 61) (alS (n := 60) (alS (n := 59) (alS (n := 58) (alS (n := 57) (alS (n := 56) (alS (n := 55) (alS (n := 54) (alS (n := 53) (alS (n := 52) (alS (n := 51) (alS (n := 50) (alS (n := 49) (alS (n := 48) (alS (n := 47) (alS (n := 46) (alS (n := 45) (alS (n := 44) (alS (n := 43) (alS (n := 42) (alS (n := 41) (alS (n := 40) (alS (n := 39) (alS (n := 38) (alS (n := 37) (alS (n := 36) (alS (n := 35) (alS (n := 34) (alS (n := 33) (alS (n := 32) (alS (n := 31) (alS (n := 30) (alS (n := 29) (alS (n := 28) (alS (n := 27) (alS (n := 26) (alS (n := 25) (alS (n := 24) (alS (n := 23) (alS (n := 22) (alS (n := 21) (alS (n := 20) (alS (n := 19) (alS (n := 18) (alS (n := 17) (alS (n := 16) (alS (n := 15) (alS (n := 14) (alS (n := 13) (alS (n := 12) (alS (n := 11) (alS (n := 10) (alS (n := 9) (alS (n := 8) (alS (n := 7) (alS (n := 6) (alS (n := 5) (alS (n := 4) (alS (n := 3) (alS (n := 2) (alS (n := 1) (alS (n := 0) (al0) mw_0) mw_1) mw_2) mw_3) mw_4) mw_5) mw_6) mw_7) mw_8) mw_9) mw_10) mw_11) mw_12) mw_13) mw_14) mw_15) mw_16) mw_17) mw_18) mw_19) mw_20) mw_21) mw_22) mw_23) mw_24) mw_25) mw_26) mw_27) mw_28) mw_29) mw_30) mw_31) mw_32) mw_33) mw_34) mw_35) mw_36) mw_37) mw_38) mw_39) mw_40) mw_41) mw_42) mw_43) mw_44) mw_45) mw_46) mw_47) mw_48) mw_49) mw_50) mw_51) mw_52) mw_53) mw_54) mw_55) mw_56) mw_57) mw_58) mw_59) mw_60) mw_61) mw_62) mw_63) mw_64) mw_65) mw_66) mw_67) mw_68) mw_69) mw_70) mw_71) mw_72) mw_73) mw_74) mw_75) mw_76) mw_77) mw_78) mw_79) mw_80) mw_81) mw_82) mw_83) mw_84) mw_85) mw_86) mw_87) mw_88) mw_89) mw_90) mw_91) mw_92) mw_93) mw_94) mw_95) mw_96) mw_97) mw_98) mw_99) mw_100) mw_101) mw_102) mw_103
set_option maxRecDepth 100000 in
theorem gF_inj : ∀ i, i < 104 → ∀ j, j < 104 → gF i = gF j → i = j := by decide +kernel
theorem mw_P {ca : Nat → ClassId} {hx : Nat} {ux : FX10} {hm : Nat} {um : FX11} {a104 a105 a106 : Nat} {D : va_G} {H : Heap} (hP : va_P D vwCl (bigW ca hx ux hm um) H) : va_P D vwCl (wl (adF hx ux hm um a104 a105 a106) ca w0) H := hP.by gF fun k q hq => by
  obtain ⟨hk, rfl⟩ := wl_some hq
  exact mw_all k hk
theorem mw_I {ca : Nat → ClassId} {hx : Nat} {ux : FX10} {hm : Nat} {um : FX11} {a104 a105 a106 : Nat} {A : Nat → Prop} (hD : va_D A (bigW ca hx ux hm um)) : Inj (adF hx ux hm um a104 a105 a106) := fun i j hi hj e => gF_inj i hi j hj (hD.1 _ _ _ _ (mw_all (a104 := a104) (a105 := a105) (a106 := a106) i hi) (mw_all j hj) e)
theorem mw_A {ca : Nat → ClassId} {hx : Nat} {ux : FX10} {hm : Nat} {um : FX11} {a104 a105 a106 : Nat} {A : Nat → Prop} (hD : va_D A (bigW ca hx ux hm um)) : ∀ q, Aad (adF hx ux hm um a104 a105 a106) q → A q := fun q hq => by
  obtain ⟨k, hk, rfl⟩ := hq
  exact hD.2 _ _ (mw_all k hk)

section LAWSW
variable {p : Program} {l : Launch} {e : Env} {s : State} {m : MethodId} {below : List Frame} {meth : Method} {c : Code} {H : Heap} {locs : List Loc} {Q : State → Prop} {D : va_G} {ad sx : Nat → Nat} {ca : Nat → ClassId} {w : Wd} {ls : Array Slot} {b L : Nat} {xs : Nat → Int32}
set_option maxHeartbeats 1000000 in
theorem lw_body (X : Lw D ad sx ca p s m c b L xs) (S : St D ad ca s w H locs) (hI : Inv w) {i : Nat} (hl : lv_has ls 4 (lvL ad b i)) (hi6 : i + 6 ≤ L) (kk : ∀ (w2 : Wd) (H1 : Heap) (locs1 : List Loc), Inv w2 → St D ad ca s w2 H1 locs1 → WL p l e s m b below meth c H1 locs1 Q (F0 m 1387 ls [])) (x : Int32) : WL p l e s m b below meth c H locs Q (F0 m 33 ls [.int x]) := by
  by_cases q0 : x = 0
  · refine lv_tableIn (off := 167) (tgt := 200) X.1.1 X.1.2.1 dL_33 (by rw [q0]; decide) (by rw [q0]; decide) (by rw [q0]; rfl) (by decide) ?_
    exact lc_flat X S hI hl hi6 kk
  by_cases q1 : x = 1
  · refine lv_tableIn (off := 210) (tgt := 243) X.1.1 X.1.2.1 dL_33 (by rw [q1]; decide) (by rw [q1]; decide) (by rw [q1]; rfl) (by decide) ?_
    exact lc_of X S hI hl hi6 kk
  by_cases q2 : x = 2
  · refine lv_tableIn (off := 243) (tgt := 276) X.1.1 X.1.2.1 dL_33 (by rw [q2]; decide) (by rw [q2]; decide) (by rw [q2]; rfl) (by decide) ?_
    exact lc_as X S hI hl hi6 kk
  by_cases q3 : x = 3
  · refine lv_tableIn (off := 276) (tgt := 309) X.1.1 X.1.2.1 dL_33 (by rw [q3]; decide) (by rw [q3]; decide) (by rw [q3]; rfl) (by decide) ?_
    exact lc_set X S hI hl hi6 kk
  by_cases q4 : x = 4
  · refine lv_tableIn (off := 309) (tgt := 342) X.1.1 X.1.2.1 dL_33 (by rw [q4]; decide) (by rw [q4]; decide) (by rw [q4]; rfl) (by decide) ?_
    exact lc_turn X S hI hl hi6 kk
  by_cases q5 : x = 5
  · refine lv_tableIn (off := 342) (tgt := 375) X.1.1 X.1.2.1 dL_33 (by rw [q5]; decide) (by rw [q5]; decide) (by rw [q5]; rfl) (by decide) ?_
    exact lc_hold X S hI hl hi6 kk
  by_cases q6 : x = 6
  · refine lv_tableIn (off := 391) (tgt := 424) X.1.1 X.1.2.1 dL_33 (by rw [q6]; decide) (by rw [q6]; decide) (by rw [q6]; rfl) (by decide) ?_
    exact lc_window X S hI hl hi6 kk
  by_cases q7 : x = 7
  · refine lv_tableIn (off := 440) (tgt := 473) X.1.1 X.1.2.1 dL_33 (by rw [q7]; decide) (by rw [q7]; decide) (by rw [q7]; rfl) (by decide) ?_
    exact lc_drift X S hI hl hi6 kk
  by_cases q8 : x = 8
  · refine lv_tableIn (off := 473) (tgt := 506) X.1.1 X.1.2.1 dL_33 (by rw [q8]; decide) (by rw [q8]; decide) (by rw [q8]; rfl) (by decide) ?_
    exact lc_hours X S hI hl hi6 kk
  by_cases q9 : x = 9
  · refine lv_tableIn (off := 496) (tgt := 529) X.1.1 X.1.2.1 dL_33 (by rw [q9]; decide) (by rw [q9]; decide) (by rw [q9]; rfl) (by decide) ?_
    exact lc_riser X S hI hl hi6 kk
  by_cases q10 : x = 10
  · refine lv_tableIn (off := 519) (tgt := 552) X.1.1 X.1.2.1 dL_33 (by rw [q10]; decide) (by rw [q10]; decide) (by rw [q10]; rfl) (by decide) ?_
    exact lc_feed X S hI hl hi6 kk
  by_cases q11 : x = 11
  · refine lv_tableIn (off := 552) (tgt := 585) X.1.1 X.1.2.1 dL_33 (by rw [q11]; decide) (by rw [q11]; decide) (by rw [q11]; rfl) (by decide) ?_
    exact lc_wipe X S hI hl hi6 kk
  by_cases q12 : x = 12
  · refine lv_tableIn (off := 565) (tgt := 598) X.1.1 X.1.2.1 dL_33 (by rw [q12]; decide) (by rw [q12]; decide) (by rw [q12]; rfl) (by decide) ?_
    exact lc_rule X S hI hl hi6 kk
  by_cases q13 : x = 13
  · refine lv_tableIn (off := 578) (tgt := 611) X.1.1 X.1.2.1 dL_33 (by rw [q13]; decide) (by rw [q13]; decide) (by rw [q13]; rfl) (by decide) ?_
    exact lc_plain X S hI hl hi6 kk
  by_cases q14 : x = 14
  · refine lv_tableIn (off := 591) (tgt := 624) X.1.1 X.1.2.1 dL_33 (by rw [q14]; decide) (by rw [q14]; decide) (by rw [q14]; rfl) (by decide) ?_
    exact lc_share X S hI hl hi6 kk
  by_cases q15 : x = 15
  · refine lv_tableIn (off := 614) (tgt := 647) X.1.1 X.1.2.1 dL_33 (by rw [q15]; decide) (by rw [q15]; decide) (by rw [q15]; rfl) (by decide) ?_
    exact lc_bill X S hI hl hi6 kk
  by_cases q16 : x = 16
  · refine lv_tableIn (off := 647) (tgt := 680) X.1.1 X.1.2.1 dL_33 (by rw [q16]; decide) (by rw [q16]; decide) (by rw [q16]; rfl) (by decide) ?_
    exact lc_other X S hI hl hi6 kk
  by_cases q17 : x = 17
  · refine lv_tableIn (off := 680) (tgt := 713) X.1.1 X.1.2.1 dL_33 (by rw [q17]; decide) (by rw [q17]; decide) (by rw [q17]; rfl) (by decide) ?_
    exact lc_meters X S hI hl hi6 kk
  by_cases q18 : x = 18
  · refine lv_tableIn (off := 703) (tgt := 736) X.1.1 X.1.2.1 dL_33 (by rw [q18]; decide) (by rw [q18]; decide) (by rw [q18]; rfl) (by decide) ?_
    exact lc_felt X S hI hl hi6 kk
  by_cases q19 : x = 19
  · refine lv_tableIn (off := 736) (tgt := 769) X.1.1 X.1.2.1 dL_33 (by rw [q19]; decide) (by rw [q19]; decide) (by rw [q19]; rfl) (by decide) ?_
    exact lc_even X S hI hl hi6 kk
  by_cases q20 : x = 20
  · refine lv_tableIn (off := 769) (tgt := 802) X.1.1 X.1.2.1 dL_33 (by rw [q20]; decide) (by rw [q20]; decide) (by rw [q20]; rfl) (by decide) ?_
    exact lc_foretold X S hI hl hi6 kk
  by_cases q21 : x = 21
  · refine lv_tableIn (off := 802) (tgt := 835) X.1.1 X.1.2.1 dL_33 (by rw [q21]; decide) (by rw [q21]; decide) (by rw [q21]; rfl) (by decide) ?_
    exact lc_few X S hI hl hi6 kk
  by_cases q22 : x = 22
  · refine lv_tableIn (off := 845) (tgt := 878) X.1.1 X.1.2.1 dL_33 (by rw [q22]; decide) (by rw [q22]; decide) (by rw [q22]; rfl) (by decide) ?_
    exact lc_setback X S hI hl hi6 kk
  by_cases q23 : x = 23
  · refine lv_tableIn (off := 878) (tgt := 911) X.1.1 X.1.2.1 dL_33 (by rw [q23]; decide) (by rw [q23]; decide) (by rw [q23]; rfl) (by decide) ?_
    exact lc_works X S hI hl hi6 kk
  by_cases q24 : x = 24
  · refine lv_tableIn (off := 921) (tgt := 954) X.1.1 X.1.2.1 dL_33 (by rw [q24]; decide) (by rw [q24]; decide) (by rw [q24]; rfl) (by decide) ?_
    exact lc_complain X S hI hl hi6 kk
  by_cases q25 : x = 25
  · refine lv_tableIn (off := 954) (tgt := 987) X.1.1 X.1.2.1 dL_33 (by rw [q25]; decide) (by rw [q25]; decide) (by rw [q25]; rfl) (by decide) ?_
    exact lc_complaint X S hI hl hi6 kk
  by_cases q26 : x = 26
  · refine lv_tableIn (off := 987) (tgt := 1020) X.1.1 X.1.2.1 dL_33 (by rw [q26]; decide) (by rw [q26]; decide) (by rw [q26]; rfl) (by decide) ?_
    exact lc_joined X S hI hl hi6 kk
  by_cases q27 : x = 27
  · refine lv_tableIn (off := 1020) (tgt := 1053) X.1.1 X.1.2.1 dL_33 (by rw [q27]; decide) (by rw [q27]; decide) (by rw [q27]; rfl) (by decide) ?_
    exact lc_groups X S hI hl hi6 kk
  by_cases q28 : x = 28
  · refine lv_tableIn (off := 1043) (tgt := 1076) X.1.1 X.1.2.1 dL_33 (by rw [q28]; decide) (by rw [q28]; decide) (by rw [q28]; rfl) (by decide) ?_
    exact lc_sheet X S hI hl hi6 kk
  by_cases q29 : x = 29
  · refine lv_tableIn (off := 1086) (tgt := 1119) X.1.1 X.1.2.1 dL_33 (by rw [q29]; decide) (by rw [q29]; decide) (by rw [q29]; rfl) (by decide) ?_
    exact lc_write X S hI hl hi6 kk
  by_cases q30 : x = 30
  · refine lv_tableIn (off := 1160) (tgt := 1193) X.1.1 X.1.2.1 dL_33 (by rw [q30]; decide) (by rw [q30]; decide) (by rw [q30]; rfl) (by decide) ?_
    exact lc_copy X S hI hl hi6 kk
  by_cases q31 : x = 31
  · refine lv_tableIn (off := 1223) (tgt := 1256) X.1.1 X.1.2.1 dL_33 (by rw [q31]; decide) (by rw [q31]; decide) (by rw [q31]; rfl) (by decide) ?_
    exact lc_weather X S hI hl hi6 kk
  by_cases q32 : x = 32
  · refine lv_tableIn (off := 1246) (tgt := 1279) X.1.1 X.1.2.1 dL_33 (by rw [q32]; decide) (by rw [q32]; decide) (by rw [q32]; rfl) (by decide) ?_
    exact lc_read X S hI hl hi6 kk
  by_cases q33 : x = 33
  · refine lv_tableIn (off := 1269) (tgt := 1302) X.1.1 X.1.2.1 dL_33 (by rw [q33]; decide) (by rw [q33]; decide) (by rw [q33]; rfl) (by decide) ?_
    exact lc_image X S hI hl hi6 kk
  by_cases q34 : x = 34
  · refine lv_tableIn (off := 1282) (tgt := 1315) X.1.1 X.1.2.1 dL_33 (by rw [q34]; decide) (by rw [q34]; decide) (by rw [q34]; rfl) (by decide) ?_
    exact lc_undo X S hI hl hi6 kk
  by_cases q35 : x = 35
  · refine lv_tableIn (off := 1295) (tgt := 1328) X.1.1 X.1.2.1 dL_33 (by rw [q35]; decide) (by rw [q35]; decide) (by rw [q35]; rfl) (by decide) ?_
    exact lc_tear X S hI hl hi6 kk
  by_cases q36 : x = 36
  · refine lv_tableIn (off := 1308) (tgt := 1341) X.1.1 X.1.2.1 dL_33 (by rw [q36]; decide) (by rw [q36]; decide) (by rw [q36]; rfl) (by decide) ?_
    exact lc_count X S hI hl hi6 kk
  by_cases q37 : x = 37
  · refine lv_tableIn (off := 1331) (tgt := 1364) X.1.1 X.1.2.1 dL_33 (by rw [q37]; decide) (by rw [q37]; decide) (by rw [q37]; rfl) (by decide) ?_
    exact lc_status X S hI hl hi6 kk
  refine lv_tableOut (tgt := 1387) X.1.1 X.1.2.1 dL_33 ?_ (by decide) (kk w H locs hI S)
  apply Classical.byContradiction
  intro z
  have hx : ∀ n : Nat, n < 38 → ¬ x.toInt = n := by
    intro n hn hxn
    have e0 : x = nI n := by rw [i_eq, nI_toInt (by omega)]; exact hxn
    rcases (by omega : n = 0 ∨ n = 1 ∨ n = 2 ∨ n = 3 ∨ n = 4 ∨ n = 5 ∨ n = 6 ∨ n = 7 ∨ n = 8 ∨ n = 9 ∨ n = 10 ∨ n = 11 ∨ n = 12 ∨ n = 13 ∨ n = 14 ∨ n = 15 ∨ n = 16 ∨ n = 17 ∨ n = 18 ∨ n = 19 ∨ n = 20 ∨ n = 21 ∨ n = 22 ∨ n = 23 ∨ n = 24 ∨ n = 25 ∨ n = 26 ∨ n = 27 ∨ n = 28 ∨ n = 29 ∨ n = 30 ∨ n = 31 ∨ n = 32 ∨ n = 33 ∨ n = 34 ∨ n = 35 ∨ n = 36 ∨ n = 37) with h | h | h | h | h | h | h | h | h | h | h | h | h | h | h | h | h | h | h | h | h | h | h | h | h | h | h | h | h | h | h | h | h | h | h | h | h | h <;> subst h
    · exact q0 e0
    · exact q1 e0
    · exact q2 e0
    · exact q3 e0
    · exact q4 e0
    · exact q5 e0
    · exact q6 e0
    · exact q7 e0
    · exact q8 e0
    · exact q9 e0
    · exact q10 e0
    · exact q11 e0
    · exact q12 e0
    · exact q13 e0
    · exact q14 e0
    · exact q15 e0
    · exact q16 e0
    · exact q17 e0
    · exact q18 e0
    · exact q19 e0
    · exact q20 e0
    · exact q21 e0
    · exact q22 e0
    · exact q23 e0
    · exact q24 e0
    · exact q25 e0
    · exact q26 e0
    · exact q27 e0
    · exact q28 e0
    · exact q29 e0
    · exact q30 e0
    · exact q31 e0
    · exact q32 e0
    · exact q33 e0
    · exact q34 e0
    · exact q35 e0
    · exact q36 e0
    · exact q37 e0
  have h1 := hx x.toInt.toNat
  omega
end LAWSW

set_option maxHeartbeats 4000000 in
set_option maxRecDepth 100000 in
theorem k_X11_of_J132 {p : Program} {l : Launch} {e : Env} {s : State} {m : MethodId} {args : Array Value} {below : List Frame} {meth : Method} {c : Code} {D : va_G} {ad sx : Nat → Nat} {ca : Nat → ClassId} (C : Cx D ad sx ca p s m c args RX11 cX11_of 3) (hr : meth.sig.returnType = (some .int)) (hlocks : meth.locks = false) {w : Wd} {v1 : Int32} {v2 : Int32}  {rv : Int32 × Wd} (h : f_X11_of_J132 v1 v2 w = some rv) {ls : Array Slot} {H : Heap} {locs : List Loc} (hl : lv_has ls 3 [(0, .ref (ad 76)), (1, .int v1), (2, .int v2)]) (S : St D ad ca s w H locs) : W p l e (RM 5 114) s m args below meth c H locs 0 0 (MQ below (Qi D ad ca rv.1 rv.2) args s 0 0 (Aad ad)) (F0 m 132 ls []) := by
  unfold f_X11_of_J132 at h
  refine lv_aload_n C.1 C.2.1 dX11_of_132 rfl (lv_at hl 0 rfl) ?_
  refine lv_iload_n C.1 C.2.1 dX11_of_133 rfl (lv_at hl 1 rfl) ?_
  refine lv_iload_n C.1 C.2.1 dX11_of_134 rfl (lv_at hl 2 rfl) ?_
  refine lv_bipush (v := 8) C.1 C.2.1 dX11_of_135 (by decide) ?_
  refine lv_icmp_ge (tgt := 146) C.1 C.2.1 dX11_of_137 (by decide) (fun q19 => ?_) (fun q19 => ?_)
  · replace h := (if_pos q19).symm.trans h
    refine lv_iload_n C.1 C.2.1 dX11_of_146 rfl (lv_at hl 2 rfl) ?_
    refine lv_iconst (v := 4) C.1 C.2.1 dX11_of_147 (by decide) ?_
    refine lv_isub C.1 C.2.1 dX11_of_148 ?_
    obtain ⟨o20, e21, h⟩ := Option.bind_eq_some_iff.mp h
    refine r_vi C S hl o_76 cf_11 (k_X11_get e21) b_vb_RX11_101 [.int v1, .int (v2 - 4)] rfl [] rfl rfl (Nat.le_of_ble_eq_true rfl) ⟨Nat.le_of_ble_eq_true rfl, Nat.le_of_ble_eq_true rfl⟩ dX11_of_149 (fun H locs S => ?_)
    have h9 := Option.some.inj h
    subst h9
    exact r_iret C S hr hlocks dX11_of_152
  · replace h := (if_neg q19).symm.trans h
    refine lv_iload_n C.1 C.2.1 dX11_of_140 rfl (lv_at hl 2 rfl) ?_
    refine lv_iconst (v := 1) C.1 C.2.1 dX11_of_141 (by decide) ?_
    refine lv_isub C.1 C.2.1 dX11_of_142 ?_
    refine lv_goto (tgt := 149) C.1 C.2.1 dX11_of_143 (by decide) ?_
    obtain ⟨o22, e23, h⟩ := Option.bind_eq_some_iff.mp h
    refine r_vi C S hl o_76 cf_11 (k_X11_get e23) b_vb_RX11_101 [.int v1, .int (v2 - 1)] rfl [] rfl rfl (Nat.le_of_ble_eq_true rfl) ⟨Nat.le_of_ble_eq_true rfl, Nat.le_of_ble_eq_true rfl⟩ dX11_of_149 (fun H locs S => ?_)
    have h9 := Option.some.inj h
    subst h9
    exact r_iret C S hr hlocks dX11_of_152
set_option maxHeartbeats 4000000 in
set_option maxRecDepth 100000 in
theorem k_X11_of {v1 : Int32} {v2 : Int32}  {w : Wd} {rv : Int32 × Wd} (h : f_X11_of v1 v2 w = some rv) : CI yX11_of cX11_of 3 .int 5 114 (fun ad => [.ref (ad 76), .int v1, .int v2]) w rv.1 rv.2 := by
  refine CI.of (by decide) ?_
  intro l D ad sx ca p e s m below meth c C S hr hlocks
  have hl := lv_entry ([.ref (ad 76), .int v1, .int v2]) (n := 3) (Nat.le_of_ble_eq_true rfl)
  rw [lg_entry_eq]
  generalize (lg_sl ([.ref (ad 76), .int v1, .int v2]) ++ List.replicate (3 - (lg_sl ([.ref (ad 76), .int v1, .int v2])).length) Slot.unset).toArray = ls at hl ⊢
  have hl : lv_has ls 3 [(0, .ref (ad 76)), (1, .int v1), (2, .int v2)] := hl
  generalize ha9 : ([.ref (ad 76), .int v1, .int v2] : List Value).toArray = args at C ⊢
  generalize s.heap = H at S ⊢
  generalize ([] : List Loc) = locs at S ⊢
  unfold f_X11_of at h
  refine lv_aload_n C.1 C.2.1 dX11_of_0 rfl (lv_at hl 0 rfl) ?_
  refine lv_iload_n C.1 C.2.1 dX11_of_1 rfl (lv_at hl 1 rfl) ?_
  obtain ⟨o1, e2, h⟩ := Option.bind_eq_some_iff.mp h
  refine r_vi C S hl o_76 cf_11 (k_X11_isFlat e2) b_vb_RX11_141 [.int v1] rfl [] rfl rfl (Nat.le_of_ble_eq_true rfl) ⟨Nat.le_of_ble_eq_true rfl, Nat.le_of_ble_eq_true rfl⟩ dX11_of_2 (fun H locs S => ?_)
  refine lv_if_eq (tgt := 18) C.1 C.2.1 dX11_of_5 (by decide) (fun q3 => ?_) (fun q3 => ?_)
  · replace h := (if_pos q3).symm.trans h
    refine lv_aload_n C.1 C.2.1 dX11_of_18 rfl (lv_at hl 0 rfl) ?_
    refine r_ldc C (-1000000001) b_cn_RX11_92 dX11_of_19 ?_
    obtain ⟨o4, e5, h⟩ := Option.bind_eq_some_iff.mp h
    refine r_vi C S hl o_76 cf_11 (k_X11_finds e5) b_vb_RX11_109 [.int (-1000000001)] rfl [] rfl rfl (Nat.le_of_ble_eq_true rfl) ⟨Nat.le_of_ble_eq_true rfl, Nat.le_of_ble_eq_true rfl⟩ dX11_of_21 (fun H locs S => ?_)
    have h9 := Option.some.inj h
    subst h9
    exact r_iret C S hr hlocks dX11_of_24
  · replace h := (if_neg q3).symm.trans h
    refine lv_iload_n C.1 C.2.1 dX11_of_8 rfl (lv_at hl 2 rfl) ?_
    refine lv_iconst (v := 0) C.1 C.2.1 dX11_of_9 (by decide) ?_
    refine lv_bipush (v := 14) C.1 C.2.1 dX11_of_10 (by decide) ?_
    obtain ⟨o6, e7, h⟩ := Option.bind_eq_some_iff.mp h
    refine r_si C S hl (k_X11_in e7) b_sb_RX11_97 [.int v2, .int 0, .int 14] rfl [] rfl rfl (Nat.le_of_ble_eq_true rfl) ⟨Nat.le_of_ble_eq_true rfl, Nat.le_of_ble_eq_true rfl⟩ dX11_of_12 (fun H locs S => ?_)
    refine lv_if_ne (tgt := 25) C.1 C.2.1 dX11_of_15 (by decide) (fun q8 => ?_) (fun q8 => ?_)
    · replace h := (if_neg q8).symm.trans h
      refine lv_iload_n C.1 C.2.1 dX11_of_25 rfl (lv_at hl 2 rfl) ?_
      by_cases q9 : v2 = 0
      · replace h := (if_pos q9).symm.trans h
        refine lv_tableIn (off := 58) (tgt := 84) C.1 C.2.1 dX11_of_26 (by rw [q9]; decide) (by rw [q9]; decide) (by rw [q9]; rfl) (by decide) ?_
        refine lv_aload_n C.1 C.2.1 dX11_of_84 rfl (lv_at hl 0 rfl) ?_
        refine lv_iload_n C.1 C.2.1 dX11_of_85 rfl (lv_at hl 1 rfl) ?_
        refine lv_iload_n C.1 C.2.1 dX11_of_86 rfl (lv_at hl 2 rfl) ?_
        obtain ⟨o10, e11, h⟩ := Option.bind_eq_some_iff.mp h
        refine r_vi C S hl o_76 cf_11 (k_X11_get e11) b_vb_RX11_101 [.int v1, .int v2] rfl [] rfl rfl (Nat.le_of_ble_eq_true rfl) ⟨Nat.le_of_ble_eq_true rfl, Nat.le_of_ble_eq_true rfl⟩ dX11_of_87 (fun H locs S => ?_)
        have h9 := Option.some.inj h
        subst h9
        exact r_iret C S hr hlocks dX11_of_90
      · replace h := (if_neg q9).symm.trans h
        by_cases q12 : v2 = 1
        · replace h := (if_pos q12).symm.trans h
          refine lv_tableIn (off := 58) (tgt := 84) C.1 C.2.1 dX11_of_26 (by rw [q12]; decide) (by rw [q12]; decide) (by rw [q12]; rfl) (by decide) ?_
          refine lv_aload_n C.1 C.2.1 dX11_of_84 rfl (lv_at hl 0 rfl) ?_
          refine lv_iload_n C.1 C.2.1 dX11_of_85 rfl (lv_at hl 1 rfl) ?_
          refine lv_iload_n C.1 C.2.1 dX11_of_86 rfl (lv_at hl 2 rfl) ?_
          obtain ⟨o13, e14, h⟩ := Option.bind_eq_some_iff.mp h
          refine r_vi C S hl o_76 cf_11 (k_X11_get e14) b_vb_RX11_101 [.int v1, .int v2] rfl [] rfl rfl (Nat.le_of_ble_eq_true rfl) ⟨Nat.le_of_ble_eq_true rfl, Nat.le_of_ble_eq_true rfl⟩ dX11_of_87 (fun H locs S => ?_)
          have h9 := Option.some.inj h
          subst h9
          exact r_iret C S hr hlocks dX11_of_90
        · replace h := (if_neg q12).symm.trans h
          by_cases q15 : v2 = 2
          · replace h := (if_pos q15).symm.trans h
            refine lv_tableIn (off := 65) (tgt := 91) C.1 C.2.1 dX11_of_26 (by rw [q15]; decide) (by rw [q15]; decide) (by rw [q15]; rfl) (by decide) ?_
            refine lv_aload_n C.1 C.2.1 dX11_of_91 rfl (lv_at hl 0 rfl) ?_
            refine lv_iload_n C.1 C.2.1 dX11_of_92 rfl (lv_at hl 1 rfl) ?_
            obtain ⟨o16, e17, h⟩ := Option.bind_eq_some_iff.mp h
            refine r_vi C S hl o_76 cf_11 (k_X11_placeOf e17) b_vb_RX11_114 [.int v1] rfl [] rfl rfl (Nat.le_of_ble_eq_true rfl) ⟨Nat.le_of_ble_eq_true rfl, Nat.le_of_ble_eq_true rfl⟩ dX11_of_93 (fun H locs S => ?_)
            have h9 := Option.some.inj h
            subst h9
            exact r_iret C S hr hlocks dX11_of_96
          · replace h := (if_neg q15).symm.trans h
            by_cases q18 : v2 = 3
            · replace h := (if_pos q18).symm.trans h
              refine lv_tableIn (off := 106) (tgt := 132) C.1 C.2.1 dX11_of_26 (by rw [q18]; decide) (by rw [q18]; decide) (by rw [q18]; rfl) (by decide) ?_
              exact k_X11_of_J132 C hr hlocks  h (lv_sub hl [0, 1, 2] rfl) S
            · replace h := (if_neg q18).symm.trans h
              by_cases q24 : v2 = 4
              · replace h := (if_pos q24).symm.trans h
                refine lv_tableIn (off := 106) (tgt := 132) C.1 C.2.1 dX11_of_26 (by rw [q24]; decide) (by rw [q24]; decide) (by rw [q24]; rfl) (by decide) ?_
                exact k_X11_of_J132 C hr hlocks  h (lv_sub hl [0, 1, 2] rfl) S
              · replace h := (if_neg q24).symm.trans h
                by_cases q25 : v2 = 5
                · replace h := (if_pos q25).symm.trans h
                  refine lv_tableIn (off := 106) (tgt := 132) C.1 C.2.1 dX11_of_26 (by rw [q25]; decide) (by rw [q25]; decide) (by rw [q25]; rfl) (by decide) ?_
                  exact k_X11_of_J132 C hr hlocks  h (lv_sub hl [0, 1, 2] rfl) S
                · replace h := (if_neg q25).symm.trans h
                  by_cases q26 : v2 = 6
                  · replace h := (if_pos q26).symm.trans h
                    refine lv_tableIn (off := 106) (tgt := 132) C.1 C.2.1 dX11_of_26 (by rw [q26]; decide) (by rw [q26]; decide) (by rw [q26]; rfl) (by decide) ?_
                    exact k_X11_of_J132 C hr hlocks  h (lv_sub hl [0, 1, 2] rfl) S
                  · replace h := (if_neg q26).symm.trans h
                    by_cases q27 : v2 = 7
                    · replace h := (if_pos q27).symm.trans h
                      refine lv_tableIn (off := 106) (tgt := 132) C.1 C.2.1 dX11_of_26 (by rw [q27]; decide) (by rw [q27]; decide) (by rw [q27]; rfl) (by decide) ?_
                      exact k_X11_of_J132 C hr hlocks  h (lv_sub hl [0, 1, 2] rfl) S
                    · replace h := (if_neg q27).symm.trans h
                      by_cases q28 : v2 = 8
                      · replace h := (if_pos q28).symm.trans h
                        refine lv_tableIn (off := 71) (tgt := 97) C.1 C.2.1 dX11_of_26 (by rw [q28]; decide) (by rw [q28]; decide) (by rw [q28]; rfl) (by decide) ?_
                        refine lv_aload_n C.1 C.2.1 dX11_of_97 rfl (lv_at hl 0 rfl) ?_
                        refine lv_iload_n C.1 C.2.1 dX11_of_98 rfl (lv_at hl 1 rfl) ?_
                        refine lv_aload_n C.1 C.2.1 dX11_of_99 rfl (lv_at hl 0 rfl) ?_
                        refine lv_iload_n C.1 C.2.1 dX11_of_100 rfl (lv_at hl 1 rfl) ?_
                        refine lv_iconst (v := 2) C.1 C.2.1 dX11_of_101 (by decide) ?_
                        obtain ⟨o29, e30, h⟩ := Option.bind_eq_some_iff.mp h
                        refine r_vi C S hl o_76 cf_11 (k_X11_get e30) b_vb_RX11_101 [.int v1, .int 2] rfl [.int v1, .ref (ad 76)] rfl rfl (Nat.le_of_ble_eq_true rfl) ⟨Nat.le_of_ble_eq_true rfl, Nat.le_of_ble_eq_true rfl⟩ dX11_of_102 (fun H locs S => ?_)
                        obtain ⟨o31, e32, h⟩ := Option.bind_eq_some_iff.mp h
                        refine r_vi C S hl o_76 cf_11 (k_X11_leaksBy e32) b_vb_RX11_120 [.int v1, .int o29] rfl [] rfl rfl (Nat.le_of_ble_eq_true rfl) ⟨Nat.le_of_ble_eq_true rfl, Nat.le_of_ble_eq_true rfl⟩ dX11_of_105 (fun H locs S => ?_)
                        have h9 := Option.some.inj h
                        subst h9
                        exact r_iret C S hr hlocks dX11_of_108
                      · replace h := (if_neg q28).symm.trans h
                        by_cases q33 : v2 = 9
                        · replace h := (if_pos q33).symm.trans h
                          refine lv_tableIn (off := 83) (tgt := 109) C.1 C.2.1 dX11_of_26 (by rw [q33]; decide) (by rw [q33]; decide) (by rw [q33]; rfl) (by decide) ?_
                          refine lv_aload_n C.1 C.2.1 dX11_of_109 rfl (lv_at hl 0 rfl) ?_
                          refine lv_iload_n C.1 C.2.1 dX11_of_110 rfl (lv_at hl 1 rfl) ?_
                          refine lv_aload_n C.1 C.2.1 dX11_of_111 rfl (lv_at hl 0 rfl) ?_
                          refine lv_iload_n C.1 C.2.1 dX11_of_112 rfl (lv_at hl 1 rfl) ?_
                          refine lv_iconst (v := 3) C.1 C.2.1 dX11_of_113 (by decide) ?_
                          obtain ⟨o34, e35, h⟩ := Option.bind_eq_some_iff.mp h
                          refine r_vi C S hl o_76 cf_11 (k_X11_get e35) b_vb_RX11_101 [.int v1, .int 3] rfl [.int v1, .ref (ad 76)] rfl rfl (Nat.le_of_ble_eq_true rfl) ⟨Nat.le_of_ble_eq_true rfl, Nat.le_of_ble_eq_true rfl⟩ dX11_of_114 (fun H locs S => ?_)
                          obtain ⟨o36, e37, h⟩ := Option.bind_eq_some_iff.mp h
                          refine r_vi C S hl o_76 cf_11 (k_X11_takesBy e37) b_vb_RX11_129 [.int v1, .int o34] rfl [] rfl rfl (Nat.le_of_ble_eq_true rfl) ⟨Nat.le_of_ble_eq_true rfl, Nat.le_of_ble_eq_true rfl⟩ dX11_of_117 (fun H locs S => ?_)
                          have h9 := Option.some.inj h
                          subst h9
                          exact r_iret C S hr hlocks dX11_of_120
                        · replace h := (if_neg q33).symm.trans h
                          by_cases q38 : v2 = 10
                          · replace h := (if_pos q38).symm.trans h
                            refine lv_tableIn (off := 95) (tgt := 121) C.1 C.2.1 dX11_of_26 (by rw [q38]; decide) (by rw [q38]; decide) (by rw [q38]; rfl) (by decide) ?_
                            refine lv_aload_n C.1 C.2.1 dX11_of_121 rfl (lv_at hl 0 rfl) ?_
                            obtain ⟨o39, e40, h⟩ := Option.bind_eq_some_iff.mp h
                            refine r_vv C S hl o_76 cf_11 (k_X11_setsAside e40) b_vb_RX11_145 [] rfl [] rfl rfl (Nat.le_of_ble_eq_true rfl) ⟨Nat.le_of_ble_eq_true rfl, Nat.le_of_ble_eq_true rfl⟩ dX11_of_122 (fun H locs S => ?_)
                            refine lv_aload_n C.1 C.2.1 dX11_of_125 rfl (lv_at hl 0 rfl) ?_
                            refine r_getr C S o_76 cf_11 11 rfl (by decide) b_fl_RX11_37 dX11_of_126 ?_
                            refine lv_iload_n C.1 C.2.1 dX11_of_129 rfl (lv_at hl 1 rfl) ?_
                            obtain ⟨g41, h⟩ := gd_some h
                            refine r_iald C S a_86 g41 dX11_of_130 ?_
                            have h9 := Option.some.inj h
                            subst h9
                            exact r_iret C S hr hlocks dX11_of_131
                          · replace h := (if_neg q38).symm.trans h
                            have hb9 : (v2).toInt < 0 ∨ 10 < (v2).toInt := by
                              have zq9 := tb_ne q9
                              have zq12 := tb_ne q12
                              have zq15 := tb_ne q15
                              have zq18 := tb_ne q18
                              have zq24 := tb_ne q24
                              have zq25 := tb_ne q25
                              have zq26 := tb_ne q26
                              have zq27 := tb_ne q27
                              have zq28 := tb_ne q28
                              have zq33 := tb_ne q33
                              have zq38 := tb_ne q38
                              rw [show ((0 : Int32)).toInt = 0 from by decide] at zq9
                              rw [show ((1 : Int32)).toInt = 1 from by decide] at zq12
                              rw [show ((2 : Int32)).toInt = 2 from by decide] at zq15
                              rw [show ((3 : Int32)).toInt = 3 from by decide] at zq18
                              rw [show ((4 : Int32)).toInt = 4 from by decide] at zq24
                              rw [show ((5 : Int32)).toInt = 5 from by decide] at zq25
                              rw [show ((6 : Int32)).toInt = 6 from by decide] at zq26
                              rw [show ((7 : Int32)).toInt = 7 from by decide] at zq27
                              rw [show ((8 : Int32)).toInt = 8 from by decide] at zq28
                              rw [show ((9 : Int32)).toInt = 9 from by decide] at zq33
                              rw [show ((10 : Int32)).toInt = 10 from by decide] at zq38
                              omega
                            refine lv_tableOut (tgt := 132) C.1 C.2.1 dX11_of_26 hb9 (by decide) ?_
                            exact k_X11_of_J132 C hr hlocks  h (lv_sub hl [0, 1, 2] rfl) S
    · replace h := (if_pos q8).symm.trans h
      refine lv_aload_n C.1 C.2.1 dX11_of_18 rfl (lv_at hl 0 rfl) ?_
      refine r_ldc C (-1000000001) b_cn_RX11_92 dX11_of_19 ?_
      obtain ⟨o42, e43, h⟩ := Option.bind_eq_some_iff.mp h
      refine r_vi C S hl o_76 cf_11 (k_X11_finds e43) b_vb_RX11_109 [.int (-1000000001)] rfl [] rfl rfl (Nat.le_of_ble_eq_true rfl) ⟨Nat.le_of_ble_eq_true rfl, Nat.le_of_ble_eq_true rfl⟩ dX11_of_21 (fun H locs S => ?_)
      have h9 := Option.some.inj h
      subst h9
      exact r_iret C S hr hlocks dX11_of_24
set_option maxHeartbeats 4000000 in
set_option maxRecDepth 100000 in
theorem k_X11_isUnder_J19 {p : Program} {l : Launch} {e : Env} {s : State} {m : MethodId} {args : Array Value} {below : List Frame} {meth : Method} {c : Code} {D : va_G} {ad sx : Nat → Nat} {ca : Nat → ClassId} (C : Cx D ad sx ca p s m c args RX11 cX11_isUnder 2) (hr : meth.sig.returnType = (some .boolean)) (hlocks : meth.locks = false) {w : Wd} {v0 : Int32} {v1 : Int32}  {rv : Int32} (h : f_X11_isUnder_J19 v0 v1 = some rv) {ls : Array Slot} {H : Heap} {locs : List Loc} (hl : lv_has ls 2 [(0, .int v0), (1, .int v1)]) (S : St D ad ca s w H locs) : W p l e (RM 0 0) s m args below meth c H locs 0 0 (MQ below (Qi D ad ca rv w) args s 0 0 (Aad ad)) (F0 m 19 ls []) := by
  unfold f_X11_isUnder_J19 at h
  refine lv_iload_n C.1 C.2.1 dX11_isUnder_19 rfl (lv_at hl 1 rfl) ?_
  refine lv_iconst (v := 3) C.1 C.2.1 dX11_isUnder_20 (by decide) ?_
  refine lv_icmp_ne (tgt := 33) C.1 C.2.1 dX11_isUnder_21 (by decide) (fun q4 => ?_) (fun q4 => ?_)
  · replace h := (if_neg q4).symm.trans h
    refine lv_iconst (v := 0) C.1 C.2.1 dX11_isUnder_33 (by decide) ?_
    have h9 := Option.some.inj h
    subst h9
    exact r_zret C S hr hlocks (Or.inl rfl) dX11_isUnder_34
  · replace h := (if_pos q4).symm.trans h
    refine lv_iload_n C.1 C.2.1 dX11_isUnder_24 rfl (lv_at hl 0 rfl) ?_
    refine lv_iconst (v := 5) C.1 C.2.1 dX11_isUnder_25 (by decide) ?_
    refine lv_icmp_ne (tgt := 33) C.1 C.2.1 dX11_isUnder_26 (by decide) (fun q5 => ?_) (fun q5 => ?_)
    · replace h := (if_neg q5).symm.trans h
      refine lv_iconst (v := 0) C.1 C.2.1 dX11_isUnder_33 (by decide) ?_
      have h9 := Option.some.inj h
      subst h9
      exact r_zret C S hr hlocks (Or.inl rfl) dX11_isUnder_34
    · replace h := (if_pos q5).symm.trans h
      refine lv_iconst (v := 1) C.1 C.2.1 dX11_isUnder_29 (by decide) ?_
      refine lv_goto (tgt := 34) C.1 C.2.1 dX11_isUnder_30 (by decide) ?_
      have h9 := Option.some.inj h
      subst h9
      exact r_zret C S hr hlocks (Or.inr rfl) dX11_isUnder_34
set_option maxHeartbeats 4000000 in
set_option maxRecDepth 100000 in
theorem k_X11_isUnder {v0 : Int32} {v1 : Int32}  {w : Wd} {rv : Int32} (h : f_X11_isUnder v0 v1 = some rv) : CI yX11_isUnder cX11_isUnder 2 .boolean 0 0 (fun ad => [.int v0, .int v1]) w rv w := by
  refine CI.of (by decide) ?_
  intro l D ad sx ca p e s m below meth c C S hr hlocks
  have hl := lv_entry ([.int v0, .int v1]) (n := 2) (Nat.le_of_ble_eq_true rfl)
  rw [lg_entry_eq]
  generalize (lg_sl ([.int v0, .int v1]) ++ List.replicate (2 - (lg_sl ([.int v0, .int v1])).length) Slot.unset).toArray = ls at hl ⊢
  have hl : lv_has ls 2 [(0, .int v0), (1, .int v1)] := hl
  generalize ha9 : ([.int v0, .int v1] : List Value).toArray = args at C ⊢
  generalize s.heap = H at S ⊢
  generalize ([] : List Loc) = locs at S ⊢
  unfold f_X11_isUnder at h
  refine lv_iload_n C.1 C.2.1 dX11_isUnder_0 rfl (lv_at hl 1 rfl) ?_
  refine lv_if_eq (tgt := 29) C.1 C.2.1 dX11_isUnder_1 (by decide) (fun q1 => ?_) (fun q1 => ?_)
  · replace h := (if_pos q1).symm.trans h
    refine lv_iconst (v := 1) C.1 C.2.1 dX11_isUnder_29 (by decide) ?_
    refine lv_goto (tgt := 34) C.1 C.2.1 dX11_isUnder_30 (by decide) ?_
    have h9 := Option.some.inj h
    subst h9
    exact r_zret C S hr hlocks (Or.inr rfl) dX11_isUnder_34
  · replace h := (if_neg q1).symm.trans h
    refine lv_iload_n C.1 C.2.1 dX11_isUnder_4 rfl (lv_at hl 0 rfl) ?_
    refine lv_iload_n C.1 C.2.1 dX11_isUnder_5 rfl (lv_at hl 1 rfl) ?_
    refine lv_icmp_eq (tgt := 29) C.1 C.2.1 dX11_isUnder_6 (by decide) (fun q2 => ?_) (fun q2 => ?_)
    · replace h := (if_pos q2).symm.trans h
      refine lv_iconst (v := 1) C.1 C.2.1 dX11_isUnder_29 (by decide) ?_
      refine lv_goto (tgt := 34) C.1 C.2.1 dX11_isUnder_30 (by decide) ?_
      have h9 := Option.some.inj h
      subst h9
      exact r_zret C S hr hlocks (Or.inr rfl) dX11_isUnder_34
    · replace h := (if_neg q2).symm.trans h
      refine lv_iload_n C.1 C.2.1 dX11_isUnder_9 rfl (lv_at hl 1 rfl) ?_
      refine lv_iconst (v := 1) C.1 C.2.1 dX11_isUnder_10 (by decide) ?_
      refine lv_icmp_ne (tgt := 19) C.1 C.2.1 dX11_isUnder_11 (by decide) (fun q3 => ?_) (fun q3 => ?_)
      · replace h := (if_neg q3).symm.trans h
        exact k_X11_isUnder_J19 C hr hlocks  h (lv_sub hl [0, 1] rfl) S
      · replace h := (if_pos q3).symm.trans h
        refine lv_iload_n C.1 C.2.1 dX11_isUnder_14 rfl (lv_at hl 0 rfl) ?_
        refine lv_iconst (v := 4) C.1 C.2.1 dX11_isUnder_15 (by decide) ?_
        refine lv_icmp_eq (tgt := 29) C.1 C.2.1 dX11_isUnder_16 (by decide) (fun q6 => ?_) (fun q6 => ?_)
        · replace h := (if_pos q6).symm.trans h
          refine lv_iconst (v := 1) C.1 C.2.1 dX11_isUnder_29 (by decide) ?_
          refine lv_goto (tgt := 34) C.1 C.2.1 dX11_isUnder_30 (by decide) ?_
          have h9 := Option.some.inj h
          subst h9
          exact r_zret C S hr hlocks (Or.inr rfl) dX11_isUnder_34
        · replace h := (if_neg q6).symm.trans h
          exact k_X11_isUnder_J19 C hr hlocks  h (lv_sub hl [0, 1] rfl) S
set_option maxHeartbeats 4000000 in
set_option maxRecDepth 100000 in
theorem k_X11_as {v1 : Int32} {v2 : Int32}  {w : Wd} {rv : Int32 × Wd} (h : f_X11_as v1 v2 w = some rv) : CI yX11_as cX11_as 3 .int 2 45 (fun ad => [.ref (ad 76), .int v1, .int v2]) w rv.1 rv.2 := by
  refine CI.of (by decide) ?_
  intro l D ad sx ca p e s m below meth c C S hr hlocks
  have hl := lv_entry ([.ref (ad 76), .int v1, .int v2]) (n := 3) (Nat.le_of_ble_eq_true rfl)
  rw [lg_entry_eq]
  generalize (lg_sl ([.ref (ad 76), .int v1, .int v2]) ++ List.replicate (3 - (lg_sl ([.ref (ad 76), .int v1, .int v2])).length) Slot.unset).toArray = ls at hl ⊢
  have hl : lv_has ls 3 [(0, .ref (ad 76)), (1, .int v1), (2, .int v2)] := hl
  generalize ha9 : ([.ref (ad 76), .int v1, .int v2] : List Value).toArray = args at C ⊢
  generalize s.heap = H at S ⊢
  generalize ([] : List Loc) = locs at S ⊢
  unfold f_X11_as at h
  refine lv_aload_n C.1 C.2.1 dX11_as_0 rfl (lv_at hl 0 rfl) ?_
  refine lv_iload_n C.1 C.2.1 dX11_as_1 rfl (lv_at hl 1 rfl) ?_
  obtain ⟨o1, e2, h⟩ := Option.bind_eq_some_iff.mp h
  refine r_vi C S hl o_76 cf_11 (k_X11_isFlat e2) b_vb_RX11_141 [.int v1] rfl [] rfl rfl (Nat.le_of_ble_eq_true rfl) ⟨Nat.le_of_ble_eq_true rfl, Nat.le_of_ble_eq_true rfl⟩ dX11_as_2 (fun H locs S => ?_)
  refine lv_if_eq (tgt := 17) C.1 C.2.1 dX11_as_5 (by decide) (fun q3 => ?_) (fun q3 => ?_)
  · replace h := (if_pos q3).symm.trans h
    refine lv_aload_n C.1 C.2.1 dX11_as_17 rfl (lv_at hl 0 rfl) ?_
    refine r_ldc C (-1000000001) b_cn_RX11_92 dX11_as_18 ?_
    obtain ⟨o4, e5, h⟩ := Option.bind_eq_some_iff.mp h
    refine r_vi C S hl o_76 cf_11 (k_X11_finds e5) b_vb_RX11_109 [.int (-1000000001)] rfl [] rfl rfl (Nat.le_of_ble_eq_true rfl) ⟨Nat.le_of_ble_eq_true rfl, Nat.le_of_ble_eq_true rfl⟩ dX11_as_20 (fun H locs S => ?_)
    have h9 := Option.some.inj h
    subst h9
    exact r_iret C S hr hlocks dX11_as_23
  · replace h := (if_neg q3).symm.trans h
    refine lv_iload_n C.1 C.2.1 dX11_as_8 rfl (lv_at hl 2 rfl) ?_
    refine lv_iconst (v := 0) C.1 C.2.1 dX11_as_9 (by decide) ?_
    refine lv_iconst (v := 5) C.1 C.2.1 dX11_as_10 (by decide) ?_
    obtain ⟨o6, e7, h⟩ := Option.bind_eq_some_iff.mp h
    refine r_si C S hl (k_X11_in e7) b_sb_RX11_97 [.int v2, .int 0, .int 5] rfl [] rfl rfl (Nat.le_of_ble_eq_true rfl) ⟨Nat.le_of_ble_eq_true rfl, Nat.le_of_ble_eq_true rfl⟩ dX11_as_11 (fun H locs S => ?_)
    refine lv_if_ne (tgt := 24) C.1 C.2.1 dX11_as_14 (by decide) (fun q8 => ?_) (fun q8 => ?_)
    · replace h := (if_neg q8).symm.trans h
      refine lv_aload_n C.1 C.2.1 dX11_as_24 rfl (lv_at hl 0 rfl) ?_
      refine lv_iload_n C.1 C.2.1 dX11_as_25 rfl (lv_at hl 1 rfl) ?_
      refine lv_iconst (v := 0) C.1 C.2.1 dX11_as_26 (by decide) ?_
      obtain ⟨o9, e10, h⟩ := Option.bind_eq_some_iff.mp h
      refine r_vi C S hl o_76 cf_11 (k_X11_get e10) b_vb_RX11_101 [.int v1, .int 0] rfl [] rfl rfl (Nat.le_of_ble_eq_true rfl) ⟨Nat.le_of_ble_eq_true rfl, Nat.le_of_ble_eq_true rfl⟩ dX11_as_27 (fun H locs S => ?_)
      refine lv_iload_n C.1 C.2.1 dX11_as_30 rfl (lv_at hl 2 rfl) ?_
      obtain ⟨o11, e12, h⟩ := Option.bind_eq_some_iff.mp h
      refine r_si C S hl (k_X11_isUnder e12) b_sb_RX11_148 [.int o9, .int v2] rfl [] rfl rfl (Nat.le_of_ble_eq_true rfl) ⟨Nat.le_of_ble_eq_true rfl, Nat.le_of_ble_eq_true rfl⟩ dX11_as_31 (fun H locs S => ?_)
      refine lv_if_eq (tgt := 51) C.1 C.2.1 dX11_as_34 (by decide) (fun q13 => ?_) (fun q13 => ?_)
      · replace h := (if_pos q13).symm.trans h
        refine lv_aload_n C.1 C.2.1 dX11_as_51 rfl (lv_at hl 0 rfl) ?_
        refine r_ldc C (-1000000003) b_cn_RX11_152 dX11_as_52 ?_
        obtain ⟨o14, e15, h⟩ := Option.bind_eq_some_iff.mp h
        refine r_vi C S hl o_76 cf_11 (k_X11_finds e15) b_vb_RX11_109 [.int (-1000000003)] rfl [] rfl rfl (Nat.le_of_ble_eq_true rfl) ⟨Nat.le_of_ble_eq_true rfl, Nat.le_of_ble_eq_true rfl⟩ dX11_as_54 (fun H locs S => ?_)
        have h9 := Option.some.inj h
        subst h9
        exact r_iret C S hr hlocks dX11_as_57
      · replace h := (if_neg q13).symm.trans h
        refine lv_aload_n C.1 C.2.1 dX11_as_37 rfl (lv_at hl 0 rfl) ?_
        refine lv_iload_n C.1 C.2.1 dX11_as_38 rfl (lv_at hl 1 rfl) ?_
        refine lv_aload_n C.1 C.2.1 dX11_as_39 rfl (lv_at hl 0 rfl) ?_
        refine lv_iload_n C.1 C.2.1 dX11_as_40 rfl (lv_at hl 1 rfl) ?_
        refine lv_iconst (v := 2) C.1 C.2.1 dX11_as_41 (by decide) ?_
        obtain ⟨o16, e17, h⟩ := Option.bind_eq_some_iff.mp h
        refine r_vi C S hl o_76 cf_11 (k_X11_get e17) b_vb_RX11_101 [.int v1, .int 2] rfl [.int v1, .ref (ad 76)] rfl rfl (Nat.le_of_ble_eq_true rfl) ⟨Nat.le_of_ble_eq_true rfl, Nat.le_of_ble_eq_true rfl⟩ dX11_as_42 (fun H locs S => ?_)
        obtain ⟨o18, e19, h⟩ := Option.bind_eq_some_iff.mp h
        refine r_vi C S hl o_76 cf_11 (k_X11_leaksBy e19) b_vb_RX11_120 [.int v1, .int o16] rfl [] rfl rfl (Nat.le_of_ble_eq_true rfl) ⟨Nat.le_of_ble_eq_true rfl, Nat.le_of_ble_eq_true rfl⟩ dX11_as_45 (fun H locs S => ?_)
        refine lv_goto (tgt := 57) C.1 C.2.1 dX11_as_48 (by decide) ?_
        have h9 := Option.some.inj h
        subst h9
        exact r_iret C S hr hlocks dX11_as_57
    · replace h := (if_pos q8).symm.trans h
      refine lv_aload_n C.1 C.2.1 dX11_as_17 rfl (lv_at hl 0 rfl) ?_
      refine r_ldc C (-1000000001) b_cn_RX11_92 dX11_as_18 ?_
      obtain ⟨o20, e21, h⟩ := Option.bind_eq_some_iff.mp h
      refine r_vi C S hl o_76 cf_11 (k_X11_finds e21) b_vb_RX11_109 [.int (-1000000001)] rfl [] rfl rfl (Nat.le_of_ble_eq_true rfl) ⟨Nat.le_of_ble_eq_true rfl, Nat.le_of_ble_eq_true rfl⟩ dX11_as_20 (fun H locs S => ?_)
      have h9 := Option.some.inj h
      subst h9
      exact r_iret C S hr hlocks dX11_as_23
set_option maxHeartbeats 4000000 in
set_option maxRecDepth 100000 in
theorem k_X11_set_J45 {p : Program} {l : Launch} {e : Env} {s : State} {m : MethodId} {args : Array Value} {below : List Frame} {meth : Method} {c : Code} {D : va_G} {ad sx : Nat → Nat} {ca : Nat → ClassId} (C : Cx D ad sx ca p s m c args RX11 cX11_set 4) (hr : meth.sig.returnType = (some .int)) (hlocks : meth.locks = false) {w : Wd} {v1 : Int32} {v2 : Int32} {v100 : Int32} {v101 : Int32} {v102 : Int32}  {rv : Int32 × Wd} (h : f_X11_set_J45 v1 v2 v100 v101 v102 w = some rv) {ls : Array Slot} {H : Heap} {locs : List Loc} (hl : lv_has ls 4 [(0, .ref (ad 76)), (1, .int v1), (2, .int v2)]) (S : St D ad ca s w H locs) : W p l e (RM 1 22) s m args below meth c H locs 0 0 (MQ below (Qi D ad ca rv.1 rv.2) args s 0 0 (Aad ad)) (F0 m 45 ls [.int v102, .int v101, .int v100]) := by
  unfold f_X11_set_J45 at h
  obtain ⟨o9, e10, h⟩ := Option.bind_eq_some_iff.mp h
  refine r_si C S hl (k_X11_in e10) b_sb_RX11_97 [.int v100, .int v101, .int v102] rfl [] rfl rfl (Nat.le_of_ble_eq_true rfl) ⟨Nat.le_of_ble_eq_true rfl, Nat.le_of_ble_eq_true rfl⟩ dX11_set_45 (fun H locs S => ?_)
  refine lv_if_ne (tgt := 58) C.1 C.2.1 dX11_set_48 (by decide) (fun q11 => ?_) (fun q11 => ?_)
  · replace h := (if_neg q11).symm.trans h
    refine lv_aload_n C.1 C.2.1 dX11_set_58 rfl (lv_at hl 0 rfl) ?_
    refine r_getr C S o_76 cf_11 0 rfl (by decide) b_fl_RX11_9 dX11_set_59 ?_
    refine lv_iconst (v := 1) C.1 C.2.1 dX11_set_62 (by decide) ?_
    refine lv_iload_n C.1 C.2.1 dX11_set_63 rfl (lv_at hl 1 rfl) ?_
    refine lv_iadd C.1 C.2.1 dX11_set_64 ?_
    obtain ⟨g12, h⟩ := gd_some h
    refine r_iald C S a_77 g12 dX11_set_65 ?_
    refine lv_istore_n (lv' := [(3, .int (w.1 77 ((1 + v1).toNatClampNeg))), (0, .ref (ad 76)), (1, .int v1), (2, .int v2)]) C.1 C.2.1 dX11_set_66 rfl hl (by decide) rfl (fun ls hl => ?_)
    refine lv_aload_n C.1 C.2.1 dX11_set_67 rfl (lv_at hl 1 rfl) ?_
    refine r_getr C S o_76 cf_11 0 rfl (by decide) b_fl_RX11_9 dX11_set_68 ?_
    refine lv_iconst (v := 1) C.1 C.2.1 dX11_set_71 (by decide) ?_
    refine lv_iload_n C.1 C.2.1 dX11_set_72 rfl (lv_at hl 2 rfl) ?_
    refine lv_iadd C.1 C.2.1 dX11_set_73 ?_
    refine lv_iload_n C.1 C.2.1 dX11_set_74 rfl (lv_at hl 3 rfl) ?_
    obtain ⟨g13, h⟩ := gd_some h
    refine r_iast C S a_77 g13 dX11_set_75 (fun H locs S => ?_)
    obtain ⟨w14, h, S⟩ := lw_S (P := fun y => St D ad ca s y H locs) h S
    refine lv_aload_n C.1 C.2.1 dX11_set_76 rfl (lv_at hl 1 rfl) ?_
    refine lv_iconst (v := 0) C.1 C.2.1 dX11_set_77 (by decide) ?_
    refine r_put C S o_76 cf_11 30 rfl (by decide) rfl (zo_nar (by decide)) b_fl_RX11_105 dX11_set_78 (fun H locs S => ?_)
    obtain ⟨w15, h, S⟩ := lw_S (P := fun y => St D ad ca s y H locs) h S
    refine lv_iload_n C.1 C.2.1 dX11_set_81 rfl (lv_at hl 0 rfl) ?_
    have h9 := Option.some.inj h
    subst h9
    exact r_iret C S hr hlocks dX11_set_82
  · replace h := (if_pos q11).symm.trans h
    refine lv_aload_n C.1 C.2.1 dX11_set_51 rfl (lv_at hl 0 rfl) ?_
    refine r_ldc C (-1000000001) b_cn_RX11_92 dX11_set_52 ?_
    obtain ⟨o16, e17, h⟩ := Option.bind_eq_some_iff.mp h
    refine r_vi C S hl o_76 cf_11 (k_X11_finds e17) b_vb_RX11_109 [.int (-1000000001)] rfl [] rfl rfl (Nat.le_of_ble_eq_true rfl) ⟨Nat.le_of_ble_eq_true rfl, Nat.le_of_ble_eq_true rfl⟩ dX11_set_54 (fun H locs S => ?_)
    have h9 := Option.some.inj h
    subst h9
    exact r_iret C S hr hlocks dX11_set_57
set_option maxHeartbeats 4000000 in
set_option maxRecDepth 100000 in
theorem k_X11_set_J21 {p : Program} {l : Launch} {e : Env} {s : State} {m : MethodId} {args : Array Value} {below : List Frame} {meth : Method} {c : Code} {D : va_G} {ad sx : Nat → Nat} {ca : Nat → ClassId} (C : Cx D ad sx ca p s m c args RX11 cX11_set 4) (hr : meth.sig.returnType = (some .int)) (hlocks : meth.locks = false) {w : Wd} {v1 : Int32} {v2 : Int32} {v100 : Int32} {v101 : Int32}  {rv : Int32 × Wd} (h : f_X11_set_J21 v1 v2 v100 v101 w = some rv) {ls : Array Slot} {H : Heap} {locs : List Loc} (hl : lv_has ls 4 [(0, .ref (ad 76)), (1, .int v1), (2, .int v2)]) (S : St D ad ca s w H locs) : W p l e (RM 1 22) s m args below meth c H locs 0 0 (MQ below (Qi D ad ca rv.1 rv.2) args s 0 0 (Aad ad)) (F0 m 21 ls [.int v101, .int v100]) := by
  unfold f_X11_set_J21 at h
  refine lv_iload_n C.1 C.2.1 dX11_set_21 rfl (lv_at hl 1 rfl) ?_
  refine lv_if_ne (tgt := 31) C.1 C.2.1 dX11_set_22 (by decide) (fun q7 => ?_) (fun q7 => ?_)
  · replace h := (if_neg q7).symm.trans h
    refine lv_iload_n C.1 C.2.1 dX11_set_31 rfl (lv_at hl 1 rfl) ?_
    refine lv_iconst (v := 1) C.1 C.2.1 dX11_set_32 (by decide) ?_
    refine lv_icmp_ne (tgt := 42) C.1 C.2.1 dX11_set_33 (by decide) (fun q8 => ?_) (fun q8 => ?_)
    · replace h := (if_neg q8).symm.trans h
      refine lv_sipush (v := 900) C.1 C.2.1 dX11_set_42 (by decide) ?_
      exact k_X11_set_J45 C hr hlocks  h (lv_sub hl [0, 1, 2] rfl) S
    · replace h := (if_pos q8).symm.trans h
      refine lv_sipush (v := 999) C.1 C.2.1 dX11_set_36 (by decide) ?_
      refine lv_goto (tgt := 45) C.1 C.2.1 dX11_set_39 (by decide) ?_
      exact k_X11_set_J45 C hr hlocks  h (lv_sub hl [0, 1, 2] rfl) S
  · replace h := (if_pos q7).symm.trans h
    refine lv_sipush (v := 400) C.1 C.2.1 dX11_set_25 (by decide) ?_
    refine lv_goto (tgt := 45) C.1 C.2.1 dX11_set_28 (by decide) ?_
    exact k_X11_set_J45 C hr hlocks  h (lv_sub hl [0, 1, 2] rfl) S
set_option maxHeartbeats 4000000 in
set_option maxRecDepth 100000 in
theorem k_X11_set {v1 : Int32} {v2 : Int32}  {w : Wd} {rv : Int32 × Wd} (h : f_X11_set v1 v2 w = some rv) : CI yX11_set cX11_set 4 .int 1 22 (fun ad => [.ref (ad 76), .int v1, .int v2]) w rv.1 rv.2 := by
  refine CI.of (by decide) ?_
  intro l D ad sx ca p e s m below meth c C S hr hlocks
  have hl := lv_entry ([.ref (ad 76), .int v1, .int v2]) (n := 4) (Nat.le_of_ble_eq_true rfl)
  rw [lg_entry_eq]
  generalize (lg_sl ([.ref (ad 76), .int v1, .int v2]) ++ List.replicate (4 - (lg_sl ([.ref (ad 76), .int v1, .int v2])).length) Slot.unset).toArray = ls at hl ⊢
  have hl : lv_has ls 4 [(0, .ref (ad 76)), (1, .int v1), (2, .int v2)] := hl
  generalize ha9 : ([.ref (ad 76), .int v1, .int v2] : List Value).toArray = args at C ⊢
  generalize s.heap = H at S ⊢
  generalize ([] : List Loc) = locs at S ⊢
  unfold f_X11_set at h
  refine lv_iload_n C.1 C.2.1 dX11_set_0 rfl (lv_at hl 1 rfl) ?_
  refine lv_iconst (v := 0) C.1 C.2.1 dX11_set_1 (by decide) ?_
  refine lv_iconst (v := 2) C.1 C.2.1 dX11_set_2 (by decide) ?_
  obtain ⟨o1, e2, h⟩ := Option.bind_eq_some_iff.mp h
  refine r_si C S hl (k_X11_in e2) b_sb_RX11_97 [.int v1, .int 0, .int 2] rfl [] rfl rfl (Nat.le_of_ble_eq_true rfl) ⟨Nat.le_of_ble_eq_true rfl, Nat.le_of_ble_eq_true rfl⟩ dX11_set_3 (fun H locs S => ?_)
  refine lv_if_eq (tgt := 51) C.1 C.2.1 dX11_set_6 (by decide) (fun q3 => ?_) (fun q3 => ?_)
  · replace h := (if_pos q3).symm.trans h
    refine lv_aload_n C.1 C.2.1 dX11_set_51 rfl (lv_at hl 0 rfl) ?_
    refine r_ldc C (-1000000001) b_cn_RX11_92 dX11_set_52 ?_
    obtain ⟨o4, e5, h⟩ := Option.bind_eq_some_iff.mp h
    refine r_vi C S hl o_76 cf_11 (k_X11_finds e5) b_vb_RX11_109 [.int (-1000000001)] rfl [] rfl rfl (Nat.le_of_ble_eq_true rfl) ⟨Nat.le_of_ble_eq_true rfl, Nat.le_of_ble_eq_true rfl⟩ dX11_set_54 (fun H locs S => ?_)
    have h9 := Option.some.inj h
    subst h9
    exact r_iret C S hr hlocks dX11_set_57
  · replace h := (if_neg q3).symm.trans h
    refine lv_iload_n C.1 C.2.1 dX11_set_9 rfl (lv_at hl 2 rfl) ?_
    refine lv_iload_n C.1 C.2.1 dX11_set_10 rfl (lv_at hl 1 rfl) ?_
    refine lv_if_ne (tgt := 20) C.1 C.2.1 dX11_set_11 (by decide) (fun q6 => ?_) (fun q6 => ?_)
    · replace h := (if_neg q6).symm.trans h
      refine lv_iconst (v := 0) C.1 C.2.1 dX11_set_20 (by decide) ?_
      exact k_X11_set_J21 C hr hlocks  h (lv_sub hl [0, 1, 2] rfl) S
    · replace h := (if_pos q6).symm.trans h
      refine lv_sipush (v := (-300)) C.1 C.2.1 dX11_set_14 (by decide) ?_
      refine lv_goto (tgt := 21) C.1 C.2.1 dX11_set_17 (by decide) ?_
      exact k_X11_set_J21 C hr hlocks  h (lv_sub hl [0, 1, 2] rfl) S
set_option maxHeartbeats 4000000 in
set_option maxRecDepth 100000 in
theorem k_X11_turn {v1 : Int32} {v2 : Int32}  {w : Wd} {rv : Int32 × Wd} (h : f_X11_turn v1 v2 w = some rv) : CI yX11_turn cX11_turn 3 .int 2 46 (fun ad => [.ref (ad 76), .int v1, .int v2]) w rv.1 rv.2 := by
  refine CI.of (by decide) ?_
  intro l D ad sx ca p e s m below meth c C S hr hlocks
  have hl := lv_entry ([.ref (ad 76), .int v1, .int v2]) (n := 3) (Nat.le_of_ble_eq_true rfl)
  rw [lg_entry_eq]
  generalize (lg_sl ([.ref (ad 76), .int v1, .int v2]) ++ List.replicate (3 - (lg_sl ([.ref (ad 76), .int v1, .int v2])).length) Slot.unset).toArray = ls at hl ⊢
  have hl : lv_has ls 3 [(0, .ref (ad 76)), (1, .int v1), (2, .int v2)] := hl
  generalize ha9 : ([.ref (ad 76), .int v1, .int v2] : List Value).toArray = args at C ⊢
  generalize s.heap = H at S ⊢
  generalize ([] : List Loc) = locs at S ⊢
  unfold f_X11_turn at h
  refine lv_aload_n C.1 C.2.1 dX11_turn_0 rfl (lv_at hl 0 rfl) ?_
  refine lv_iload_n C.1 C.2.1 dX11_turn_1 rfl (lv_at hl 1 rfl) ?_
  obtain ⟨o1, e2, h⟩ := Option.bind_eq_some_iff.mp h
  refine r_vi C S hl o_76 cf_11 (k_X11_isFlat e2) b_vb_RX11_141 [.int v1] rfl [] rfl rfl (Nat.le_of_ble_eq_true rfl) ⟨Nat.le_of_ble_eq_true rfl, Nat.le_of_ble_eq_true rfl⟩ dX11_turn_2 (fun H locs S => ?_)
  refine lv_if_eq (tgt := 18) C.1 C.2.1 dX11_turn_5 (by decide) (fun q3 => ?_) (fun q3 => ?_)
  · replace h := (if_pos q3).symm.trans h
    refine lv_aload_n C.1 C.2.1 dX11_turn_18 rfl (lv_at hl 0 rfl) ?_
    refine r_ldc C (-1000000001) b_cn_RX11_92 dX11_turn_19 ?_
    obtain ⟨o4, e5, h⟩ := Option.bind_eq_some_iff.mp h
    refine r_vi C S hl o_76 cf_11 (k_X11_finds e5) b_vb_RX11_109 [.int (-1000000001)] rfl [] rfl rfl (Nat.le_of_ble_eq_true rfl) ⟨Nat.le_of_ble_eq_true rfl, Nat.le_of_ble_eq_true rfl⟩ dX11_turn_21 (fun H locs S => ?_)
    have h9 := Option.some.inj h
    subst h9
    exact r_iret C S hr hlocks dX11_turn_24
  · replace h := (if_neg q3).symm.trans h
    refine lv_iload_n C.1 C.2.1 dX11_turn_8 rfl (lv_at hl 2 rfl) ?_
    refine lv_iconst (v := 0) C.1 C.2.1 dX11_turn_9 (by decide) ?_
    refine lv_bipush (v := 8) C.1 C.2.1 dX11_turn_10 (by decide) ?_
    obtain ⟨o6, e7, h⟩ := Option.bind_eq_some_iff.mp h
    refine r_si C S hl (k_X11_in e7) b_sb_RX11_97 [.int v2, .int 0, .int 8] rfl [] rfl rfl (Nat.le_of_ble_eq_true rfl) ⟨Nat.le_of_ble_eq_true rfl, Nat.le_of_ble_eq_true rfl⟩ dX11_turn_12 (fun H locs S => ?_)
    refine lv_if_ne (tgt := 25) C.1 C.2.1 dX11_turn_15 (by decide) (fun q8 => ?_) (fun q8 => ?_)
    · replace h := (if_neg q8).symm.trans h
      refine lv_aload_n C.1 C.2.1 dX11_turn_25 rfl (lv_at hl 0 rfl) ?_
      refine lv_iload_n C.1 C.2.1 dX11_turn_26 rfl (lv_at hl 1 rfl) ?_
      refine lv_iconst (v := 4) C.1 C.2.1 dX11_turn_27 (by decide) ?_
      obtain ⟨o9, e10, h⟩ := Option.bind_eq_some_iff.mp h
      refine r_vi C S hl o_76 cf_11 (k_X11_get e10) b_vb_RX11_101 [.int v1, .int 4] rfl [] rfl rfl (Nat.le_of_ble_eq_true rfl) ⟨Nat.le_of_ble_eq_true rfl, Nat.le_of_ble_eq_true rfl⟩ dX11_turn_28 (fun H locs S => ?_)
      refine lv_iconst (v := 1) C.1 C.2.1 dX11_turn_31 (by decide) ?_
      refine lv_icmp_ne (tgt := 44) C.1 C.2.1 dX11_turn_32 (by decide) (fun q11 => ?_) (fun q11 => ?_)
      · replace h := (if_neg q11).symm.trans h
        refine lv_aload_n C.1 C.2.1 dX11_turn_44 rfl (lv_at hl 0 rfl) ?_
        refine lv_iload_n C.1 C.2.1 dX11_turn_45 rfl (lv_at hl 1 rfl) ?_
        refine lv_iconst (v := 3) C.1 C.2.1 dX11_turn_46 (by decide) ?_
        refine lv_iload_n C.1 C.2.1 dX11_turn_47 rfl (lv_at hl 2 rfl) ?_
        obtain ⟨o12, e13, h⟩ := Option.bind_eq_some_iff.mp h
        refine r_vi C S hl o_76 cf_11 (k_X11_becomes e13) b_vb_RX11_154 [.int v1, .int 3, .int v2] rfl [] rfl rfl (Nat.le_of_ble_eq_true rfl) ⟨Nat.le_of_ble_eq_true rfl, Nat.le_of_ble_eq_true rfl⟩ dX11_turn_48 (fun H locs S => ?_)
        have h9 := Option.some.inj h
        subst h9
        exact r_iret C S hr hlocks dX11_turn_51
      · replace h := (if_pos q11).symm.trans h
        refine lv_aload_n C.1 C.2.1 dX11_turn_35 rfl (lv_at hl 0 rfl) ?_
        refine r_ldc C (-1000000005) b_cn_RX11_153 dX11_turn_36 ?_
        obtain ⟨o14, e15, h⟩ := Option.bind_eq_some_iff.mp h
        refine r_vi C S hl o_76 cf_11 (k_X11_finds e15) b_vb_RX11_109 [.int (-1000000005)] rfl [] rfl rfl (Nat.le_of_ble_eq_true rfl) ⟨Nat.le_of_ble_eq_true rfl, Nat.le_of_ble_eq_true rfl⟩ dX11_turn_38 (fun H locs S => ?_)
        refine lv_goto (tgt := 51) C.1 C.2.1 dX11_turn_41 (by decide) ?_
        have h9 := Option.some.inj h
        subst h9
        exact r_iret C S hr hlocks dX11_turn_51
    · replace h := (if_pos q8).symm.trans h
      refine lv_aload_n C.1 C.2.1 dX11_turn_18 rfl (lv_at hl 0 rfl) ?_
      refine r_ldc C (-1000000001) b_cn_RX11_92 dX11_turn_19 ?_
      obtain ⟨o16, e17, h⟩ := Option.bind_eq_some_iff.mp h
      refine r_vi C S hl o_76 cf_11 (k_X11_finds e17) b_vb_RX11_109 [.int (-1000000001)] rfl [] rfl rfl (Nat.le_of_ble_eq_true rfl) ⟨Nat.le_of_ble_eq_true rfl, Nat.le_of_ble_eq_true rfl⟩ dX11_turn_21 (fun H locs S => ?_)
      have h9 := Option.some.inj h
      subst h9
      exact r_iret C S hr hlocks dX11_turn_24
set_option maxHeartbeats 4000000 in
set_option maxRecDepth 100000 in
theorem k_X11_hold {v1 : Int32} {v2 : Int32}  {w : Wd} {rv : Int32 × Wd} (h : f_X11_hold v1 v2 w = some rv) : CI yX11_hold cX11_hold 3 .int 2 46 (fun ad => [.ref (ad 76), .int v1, .int v2]) w rv.1 rv.2 := by
  refine CI.of (by decide) ?_
  intro l D ad sx ca p e s m below meth c C S hr hlocks
  have hl := lv_entry ([.ref (ad 76), .int v1, .int v2]) (n := 3) (Nat.le_of_ble_eq_true rfl)
  rw [lg_entry_eq]
  generalize (lg_sl ([.ref (ad 76), .int v1, .int v2]) ++ List.replicate (3 - (lg_sl ([.ref (ad 76), .int v1, .int v2])).length) Slot.unset).toArray = ls at hl ⊢
  have hl : lv_has ls 3 [(0, .ref (ad 76)), (1, .int v1), (2, .int v2)] := hl
  generalize ha9 : ([.ref (ad 76), .int v1, .int v2] : List Value).toArray = args at C ⊢
  generalize s.heap = H at S ⊢
  generalize ([] : List Loc) = locs at S ⊢
  unfold f_X11_hold at h
  refine lv_aload_n C.1 C.2.1 dX11_hold_0 rfl (lv_at hl 0 rfl) ?_
  refine lv_iload_n C.1 C.2.1 dX11_hold_1 rfl (lv_at hl 1 rfl) ?_
  obtain ⟨o1, e2, h⟩ := Option.bind_eq_some_iff.mp h
  refine r_vi C S hl o_76 cf_11 (k_X11_isFlat e2) b_vb_RX11_141 [.int v1] rfl [] rfl rfl (Nat.le_of_ble_eq_true rfl) ⟨Nat.le_of_ble_eq_true rfl, Nat.le_of_ble_eq_true rfl⟩ dX11_hold_2 (fun H locs S => ?_)
  refine lv_if_eq (tgt := 26) C.1 C.2.1 dX11_hold_5 (by decide) (fun q3 => ?_) (fun q3 => ?_)
  · replace h := (if_pos q3).symm.trans h
    refine lv_aload_n C.1 C.2.1 dX11_hold_26 rfl (lv_at hl 0 rfl) ?_
    refine r_ldc C (-1000000001) b_cn_RX11_92 dX11_hold_27 ?_
    obtain ⟨o4, e5, h⟩ := Option.bind_eq_some_iff.mp h
    refine r_vi C S hl o_76 cf_11 (k_X11_finds e5) b_vb_RX11_109 [.int (-1000000001)] rfl [] rfl rfl (Nat.le_of_ble_eq_true rfl) ⟨Nat.le_of_ble_eq_true rfl, Nat.le_of_ble_eq_true rfl⟩ dX11_hold_29 (fun H locs S => ?_)
    have h9 := Option.some.inj h
    subst h9
    exact r_iret C S hr hlocks dX11_hold_32
  · replace h := (if_neg q3).symm.trans h
    refine lv_aload_n C.1 C.2.1 dX11_hold_8 rfl (lv_at hl 0 rfl) ?_
    refine lv_iload_n C.1 C.2.1 dX11_hold_9 rfl (lv_at hl 1 rfl) ?_
    refine lv_iconst (v := 4) C.1 C.2.1 dX11_hold_10 (by decide) ?_
    refine lv_iload_n C.1 C.2.1 dX11_hold_11 rfl (lv_at hl 2 rfl) ?_
    refine lv_if_eq (tgt := 19) C.1 C.2.1 dX11_hold_12 (by decide) (fun q6 => ?_) (fun q6 => ?_)
    · replace h := (if_pos q6).symm.trans h
      refine lv_iconst (v := 0) C.1 C.2.1 dX11_hold_19 (by decide) ?_
      obtain ⟨o7, e8, h⟩ := Option.bind_eq_some_iff.mp h
      refine r_vi C S hl o_76 cf_11 (k_X11_becomes e8) b_vb_RX11_154 [.int v1, .int 4, .int 0] rfl [] rfl rfl (Nat.le_of_ble_eq_true rfl) ⟨Nat.le_of_ble_eq_true rfl, Nat.le_of_ble_eq_true rfl⟩ dX11_hold_20 (fun H locs S => ?_)
      refine lv_goto (tgt := 32) C.1 C.2.1 dX11_hold_23 (by decide) ?_
      have h9 := Option.some.inj h
      subst h9
      exact r_iret C S hr hlocks dX11_hold_32
    · replace h := (if_neg q6).symm.trans h
      refine lv_iconst (v := 1) C.1 C.2.1 dX11_hold_15 (by decide) ?_
      refine lv_goto (tgt := 20) C.1 C.2.1 dX11_hold_16 (by decide) ?_
      obtain ⟨o9, e10, h⟩ := Option.bind_eq_some_iff.mp h
      refine r_vi C S hl o_76 cf_11 (k_X11_becomes e10) b_vb_RX11_154 [.int v1, .int 4, .int 1] rfl [] rfl rfl (Nat.le_of_ble_eq_true rfl) ⟨Nat.le_of_ble_eq_true rfl, Nat.le_of_ble_eq_true rfl⟩ dX11_hold_20 (fun H locs S => ?_)
      refine lv_goto (tgt := 32) C.1 C.2.1 dX11_hold_23 (by decide) ?_
      have h9 := Option.some.inj h
      subst h9
      exact r_iret C S hr hlocks dX11_hold_32
set_option maxHeartbeats 4000000 in
set_option maxRecDepth 100000 in
theorem k_X11_window {v1 : Int32} {v2 : Int32}  {w : Wd} {rv : Int32 × Wd} (h : f_X11_window v1 v2 w = some rv) : CI yX11_window cX11_window 3 .int 2 46 (fun ad => [.ref (ad 76), .int v1, .int v2]) w rv.1 rv.2 := by
  refine CI.of (by decide) ?_
  intro l D ad sx ca p e s m below meth c C S hr hlocks
  have hl := lv_entry ([.ref (ad 76), .int v1, .int v2]) (n := 3) (Nat.le_of_ble_eq_true rfl)
  rw [lg_entry_eq]
  generalize (lg_sl ([.ref (ad 76), .int v1, .int v2]) ++ List.replicate (3 - (lg_sl ([.ref (ad 76), .int v1, .int v2])).length) Slot.unset).toArray = ls at hl ⊢
  have hl : lv_has ls 3 [(0, .ref (ad 76)), (1, .int v1), (2, .int v2)] := hl
  generalize ha9 : ([.ref (ad 76), .int v1, .int v2] : List Value).toArray = args at C ⊢
  generalize s.heap = H at S ⊢
  generalize ([] : List Loc) = locs at S ⊢
  unfold f_X11_window at h
  refine lv_aload_n C.1 C.2.1 dX11_window_0 rfl (lv_at hl 0 rfl) ?_
  refine lv_iload_n C.1 C.2.1 dX11_window_1 rfl (lv_at hl 1 rfl) ?_
  obtain ⟨o1, e2, h⟩ := Option.bind_eq_some_iff.mp h
  refine r_vi C S hl o_76 cf_11 (k_X11_isFlat e2) b_vb_RX11_141 [.int v1] rfl [] rfl rfl (Nat.le_of_ble_eq_true rfl) ⟨Nat.le_of_ble_eq_true rfl, Nat.le_of_ble_eq_true rfl⟩ dX11_window_2 (fun H locs S => ?_)
  refine lv_if_eq (tgt := 26) C.1 C.2.1 dX11_window_5 (by decide) (fun q3 => ?_) (fun q3 => ?_)
  · replace h := (if_pos q3).symm.trans h
    refine lv_aload_n C.1 C.2.1 dX11_window_26 rfl (lv_at hl 0 rfl) ?_
    refine r_ldc C (-1000000001) b_cn_RX11_92 dX11_window_27 ?_
    obtain ⟨o4, e5, h⟩ := Option.bind_eq_some_iff.mp h
    refine r_vi C S hl o_76 cf_11 (k_X11_finds e5) b_vb_RX11_109 [.int (-1000000001)] rfl [] rfl rfl (Nat.le_of_ble_eq_true rfl) ⟨Nat.le_of_ble_eq_true rfl, Nat.le_of_ble_eq_true rfl⟩ dX11_window_29 (fun H locs S => ?_)
    have h9 := Option.some.inj h
    subst h9
    exact r_iret C S hr hlocks dX11_window_32
  · replace h := (if_neg q3).symm.trans h
    refine lv_aload_n C.1 C.2.1 dX11_window_8 rfl (lv_at hl 0 rfl) ?_
    refine lv_iload_n C.1 C.2.1 dX11_window_9 rfl (lv_at hl 1 rfl) ?_
    refine lv_iconst (v := 5) C.1 C.2.1 dX11_window_10 (by decide) ?_
    refine lv_iload_n C.1 C.2.1 dX11_window_11 rfl (lv_at hl 2 rfl) ?_
    refine lv_if_eq (tgt := 19) C.1 C.2.1 dX11_window_12 (by decide) (fun q6 => ?_) (fun q6 => ?_)
    · replace h := (if_pos q6).symm.trans h
      refine lv_iconst (v := 0) C.1 C.2.1 dX11_window_19 (by decide) ?_
      obtain ⟨o7, e8, h⟩ := Option.bind_eq_some_iff.mp h
      refine r_vi C S hl o_76 cf_11 (k_X11_becomes e8) b_vb_RX11_154 [.int v1, .int 5, .int 0] rfl [] rfl rfl (Nat.le_of_ble_eq_true rfl) ⟨Nat.le_of_ble_eq_true rfl, Nat.le_of_ble_eq_true rfl⟩ dX11_window_20 (fun H locs S => ?_)
      refine lv_goto (tgt := 32) C.1 C.2.1 dX11_window_23 (by decide) ?_
      have h9 := Option.some.inj h
      subst h9
      exact r_iret C S hr hlocks dX11_window_32
    · replace h := (if_neg q6).symm.trans h
      refine lv_iconst (v := 1) C.1 C.2.1 dX11_window_15 (by decide) ?_
      refine lv_goto (tgt := 20) C.1 C.2.1 dX11_window_16 (by decide) ?_
      obtain ⟨o9, e10, h⟩ := Option.bind_eq_some_iff.mp h
      refine r_vi C S hl o_76 cf_11 (k_X11_becomes e10) b_vb_RX11_154 [.int v1, .int 5, .int 1] rfl [] rfl rfl (Nat.le_of_ble_eq_true rfl) ⟨Nat.le_of_ble_eq_true rfl, Nat.le_of_ble_eq_true rfl⟩ dX11_window_20 (fun H locs S => ?_)
      refine lv_goto (tgt := 32) C.1 C.2.1 dX11_window_23 (by decide) ?_
      have h9 := Option.some.inj h
      subst h9
      exact r_iret C S hr hlocks dX11_window_32
set_option maxHeartbeats 4000000 in
set_option maxRecDepth 100000 in
theorem k_X11_drift {v1 : Int32} {v2 : Int32}  {w : Wd} {rv : Int32 × Wd} (h : f_X11_drift v1 v2 w = some rv) : CI yX11_drift cX11_drift 3 .int 2 46 (fun ad => [.ref (ad 76), .int v1, .int v2]) w rv.1 rv.2 := by
  refine CI.of (by decide) ?_
  intro l D ad sx ca p e s m below meth c C S hr hlocks
  have hl := lv_entry ([.ref (ad 76), .int v1, .int v2]) (n := 3) (Nat.le_of_ble_eq_true rfl)
  rw [lg_entry_eq]
  generalize (lg_sl ([.ref (ad 76), .int v1, .int v2]) ++ List.replicate (3 - (lg_sl ([.ref (ad 76), .int v1, .int v2])).length) Slot.unset).toArray = ls at hl ⊢
  have hl : lv_has ls 3 [(0, .ref (ad 76)), (1, .int v1), (2, .int v2)] := hl
  generalize ha9 : ([.ref (ad 76), .int v1, .int v2] : List Value).toArray = args at C ⊢
  generalize s.heap = H at S ⊢
  generalize ([] : List Loc) = locs at S ⊢
  unfold f_X11_drift at h
  refine lv_aload_n C.1 C.2.1 dX11_drift_0 rfl (lv_at hl 0 rfl) ?_
  refine lv_iload_n C.1 C.2.1 dX11_drift_1 rfl (lv_at hl 1 rfl) ?_
  obtain ⟨o1, e2, h⟩ := Option.bind_eq_some_iff.mp h
  refine r_vi C S hl o_76 cf_11 (k_X11_isFlat e2) b_vb_RX11_141 [.int v1] rfl [] rfl rfl (Nat.le_of_ble_eq_true rfl) ⟨Nat.le_of_ble_eq_true rfl, Nat.le_of_ble_eq_true rfl⟩ dX11_drift_2 (fun H locs S => ?_)
  refine lv_if_eq (tgt := 30) C.1 C.2.1 dX11_drift_5 (by decide) (fun q3 => ?_) (fun q3 => ?_)
  · replace h := (if_pos q3).symm.trans h
    refine lv_aload_n C.1 C.2.1 dX11_drift_30 rfl (lv_at hl 0 rfl) ?_
    refine r_ldc C (-1000000001) b_cn_RX11_92 dX11_drift_31 ?_
    obtain ⟨o4, e5, h⟩ := Option.bind_eq_some_iff.mp h
    refine r_vi C S hl o_76 cf_11 (k_X11_finds e5) b_vb_RX11_109 [.int (-1000000001)] rfl [] rfl rfl (Nat.le_of_ble_eq_true rfl) ⟨Nat.le_of_ble_eq_true rfl, Nat.le_of_ble_eq_true rfl⟩ dX11_drift_33 (fun H locs S => ?_)
    have h9 := Option.some.inj h
    subst h9
    exact r_iret C S hr hlocks dX11_drift_36
  · replace h := (if_neg q3).symm.trans h
    refine lv_iload_n C.1 C.2.1 dX11_drift_8 rfl (lv_at hl 2 rfl) ?_
    refine lv_iconst (v := 0) C.1 C.2.1 dX11_drift_9 (by decide) ?_
    refine lv_sipush (v := 200) C.1 C.2.1 dX11_drift_10 (by decide) ?_
    obtain ⟨o6, e7, h⟩ := Option.bind_eq_some_iff.mp h
    refine r_si C S hl (k_X11_in e7) b_sb_RX11_97 [.int v2, .int 0, .int 200] rfl [] rfl rfl (Nat.le_of_ble_eq_true rfl) ⟨Nat.le_of_ble_eq_true rfl, Nat.le_of_ble_eq_true rfl⟩ dX11_drift_13 (fun H locs S => ?_)
    refine lv_if_eq (tgt := 30) C.1 C.2.1 dX11_drift_16 (by decide) (fun q8 => ?_) (fun q8 => ?_)
    · replace h := (if_pos q8).symm.trans h
      refine lv_aload_n C.1 C.2.1 dX11_drift_30 rfl (lv_at hl 0 rfl) ?_
      refine r_ldc C (-1000000001) b_cn_RX11_92 dX11_drift_31 ?_
      obtain ⟨o9, e10, h⟩ := Option.bind_eq_some_iff.mp h
      refine r_vi C S hl o_76 cf_11 (k_X11_finds e10) b_vb_RX11_109 [.int (-1000000001)] rfl [] rfl rfl (Nat.le_of_ble_eq_true rfl) ⟨Nat.le_of_ble_eq_true rfl, Nat.le_of_ble_eq_true rfl⟩ dX11_drift_33 (fun H locs S => ?_)
      have h9 := Option.some.inj h
      subst h9
      exact r_iret C S hr hlocks dX11_drift_36
    · replace h := (if_neg q8).symm.trans h
      refine lv_aload_n C.1 C.2.1 dX11_drift_19 rfl (lv_at hl 0 rfl) ?_
      refine lv_iload_n C.1 C.2.1 dX11_drift_20 rfl (lv_at hl 1 rfl) ?_
      refine lv_bipush (v := 10) C.1 C.2.1 dX11_drift_21 (by decide) ?_
      refine lv_iload_n C.1 C.2.1 dX11_drift_23 rfl (lv_at hl 2 rfl) ?_
      obtain ⟨o11, e12, h⟩ := Option.bind_eq_some_iff.mp h
      refine r_vi C S hl o_76 cf_11 (k_X11_becomes e12) b_vb_RX11_154 [.int v1, .int 10, .int v2] rfl [] rfl rfl (Nat.le_of_ble_eq_true rfl) ⟨Nat.le_of_ble_eq_true rfl, Nat.le_of_ble_eq_true rfl⟩ dX11_drift_24 (fun H locs S => ?_)
      refine lv_goto (tgt := 36) C.1 C.2.1 dX11_drift_27 (by decide) ?_
      have h9 := Option.some.inj h
      subst h9
      exact r_iret C S hr hlocks dX11_drift_36

set_option maxHeartbeats 4000000 in
set_option maxRecDepth 100000 in
theorem k_X10_of {v1 : Int32} {v2 : Int32}  {w : Wd} {rv : Int32 × Wd} (h : f_X10_of v1 v2 w = some rv) : CI yX10_of cX10_of 4 .int 4 90 (fun ad => [.ref (ad 0), .int v1, .int v2]) w rv.1 rv.2 := by
  refine CI.of (by decide) ?_
  intro l D ad sx ca p e s m below meth c C S hr hlocks
  have hl := lv_entry ([.ref (ad 0), .int v1, .int v2]) (n := 4) (Nat.le_of_ble_eq_true rfl)
  rw [lg_entry_eq]
  generalize (lg_sl ([.ref (ad 0), .int v1, .int v2]) ++ List.replicate (4 - (lg_sl ([.ref (ad 0), .int v1, .int v2])).length) Slot.unset).toArray = ls at hl ⊢
  have hl : lv_has ls 4 [(0, .ref (ad 0)), (1, .int v1), (2, .int v2)] := hl
  generalize ha9 : ([.ref (ad 0), .int v1, .int v2] : List Value).toArray = args at C ⊢
  generalize s.heap = H at S ⊢
  generalize ([] : List Loc) = locs at S ⊢
  unfold f_X10_of at h
  refine lv_aload_n C.1 C.2.1 dX10_of_0 rfl (lv_at hl 0 rfl) ?_
  refine r_getr C S o_0 cf_10 3 rfl (by decide) b_fl_RX10_27 dX10_of_1 ?_
  refine lv_iload_n C.1 C.2.1 dX10_of_4 rfl (lv_at hl 1 rfl) ?_
  obtain ⟨o1, e2, h⟩ := Option.bind_eq_some_iff.mp h
  refine r_vi C S hl o_3 cf_0 (k_X0_has e2) b_vb_RX10_110 [.int v1] rfl [] rfl rfl (Nat.le_of_ble_eq_true rfl) ⟨Nat.le_of_ble_eq_true rfl, Nat.le_of_ble_eq_true rfl⟩ dX10_of_5 (fun H locs S => ?_)
  refine lv_if_ne (tgt := 18) C.1 C.2.1 dX10_of_8 (by decide) (fun q3 => ?_) (fun q3 => ?_)
  · replace h := (if_neg q3).symm.trans h
    refine lv_aload_n C.1 C.2.1 dX10_of_18 rfl (lv_at hl 0 rfl) ?_
    refine r_getr C S o_0 cf_10 3 rfl (by decide) b_fl_RX10_27 dX10_of_19 ?_
    refine r_getr C S o_3 cf_0 0 rfl (by decide) b_fl_RX10_114 dX10_of_22 ?_
    refine lv_iload_n C.1 C.2.1 dX10_of_25 rfl (lv_at hl 1 rfl) ?_
    obtain ⟨g4, h⟩ := gd_some h
    refine r_aald C S a_17 g4 dX10_of_26 ?_
    refine lv_astore_n (lv' := [(3, .ref (ad (35 + v1.toNatClampNeg))), (0, .ref (ad 0)), (1, .int v1), (2, .int v2)]) C.1 C.2.1 dX10_of_27 rfl hl (by decide) rfl (fun ls hl => ?_)
    refine lv_iload_n C.1 C.2.1 dX10_of_28 rfl (lv_at hl 3 rfl) ?_
    by_cases q5 : v2 = 0
    · replace h := (if_pos q5).symm.trans h
      refine lv_tableIn (off := 75) (tgt := 104) C.1 C.2.1 dX10_of_29 (by rw [q5]; decide) (by rw [q5]; decide) (by rw [q5]; rfl) (by decide) ?_
      refine lv_aload_n C.1 C.2.1 dX10_of_104 rfl (lv_at hl 0 rfl) ?_
      refine r_geti C S (o_F1 (inB_lt g4)) cf_4 0 rfl (by decide) b_fl_RX10_118 dX10_of_105 ?_
      have h9 := Option.some.inj h
      subst h9
      exact r_iret C S hr hlocks dX10_of_108
    · replace h := (if_neg q5).symm.trans h
      by_cases q6 : v2 = 1
      · replace h := (if_pos q6).symm.trans h
        refine lv_tableIn (off := 80) (tgt := 109) C.1 C.2.1 dX10_of_29 (by rw [q6]; decide) (by rw [q6]; decide) (by rw [q6]; rfl) (by decide) ?_
        refine lv_aload_n C.1 C.2.1 dX10_of_109 rfl (lv_at hl 0 rfl) ?_
        refine r_geti C S (o_F1 (inB_lt g4)) cf_4 1 rfl (by decide) b_fl_RX10_123 dX10_of_110 ?_
        have h9 := Option.some.inj h
        subst h9
        exact r_iret C S hr hlocks dX10_of_113
      · replace h := (if_neg q6).symm.trans h
        by_cases q7 : v2 = 2
        · replace h := (if_pos q7).symm.trans h
          refine lv_tableIn (off := 85) (tgt := 114) C.1 C.2.1 dX10_of_29 (by rw [q7]; decide) (by rw [q7]; decide) (by rw [q7]; rfl) (by decide) ?_
          refine lv_aload_n C.1 C.2.1 dX10_of_114 rfl (lv_at hl 0 rfl) ?_
          refine r_geti C S (o_F1 (inB_lt g4)) cf_4 2 rfl (by decide) b_fl_RX10_126 dX10_of_115 ?_
          have h9 := Option.some.inj h
          subst h9
          exact r_iret C S hr hlocks dX10_of_118
        · replace h := (if_neg q7).symm.trans h
          by_cases q8 : v2 = 3
          · replace h := (if_pos q8).symm.trans h
            refine lv_tableIn (off := 90) (tgt := 119) C.1 C.2.1 dX10_of_29 (by rw [q8]; decide) (by rw [q8]; decide) (by rw [q8]; rfl) (by decide) ?_
            refine lv_aload_n C.1 C.2.1 dX10_of_119 rfl (lv_at hl 0 rfl) ?_
            refine r_geti C S (o_F1 (inB_lt g4)) cf_4 3 rfl (by decide) b_fl_RX10_129 dX10_of_120 ?_
            have h9 := Option.some.inj h
            subst h9
            exact r_iret C S hr hlocks dX10_of_123
          · replace h := (if_neg q8).symm.trans h
            by_cases q9 : v2 = 4
            · replace h := (if_pos q9).symm.trans h
              refine lv_tableIn (off := 95) (tgt := 124) C.1 C.2.1 dX10_of_29 (by rw [q9]; decide) (by rw [q9]; decide) (by rw [q9]; rfl) (by decide) ?_
              refine lv_aload_n C.1 C.2.1 dX10_of_124 rfl (lv_at hl 0 rfl) ?_
              refine r_geti C S (o_F1 (inB_lt g4)) cf_4 4 rfl (by decide) b_fl_RX10_132 dX10_of_125 ?_
              have h9 := Option.some.inj h
              subst h9
              exact r_iret C S hr hlocks dX10_of_128
            · replace h := (if_neg q9).symm.trans h
              by_cases q10 : v2 = 5
              · replace h := (if_pos q10).symm.trans h
                refine lv_tableIn (off := 100) (tgt := 129) C.1 C.2.1 dX10_of_29 (by rw [q10]; decide) (by rw [q10]; decide) (by rw [q10]; rfl) (by decide) ?_
                refine lv_aload_n C.1 C.2.1 dX10_of_129 rfl (lv_at hl 0 rfl) ?_
                refine r_geti C S (o_F1 (inB_lt g4)) cf_4 5 rfl (by decide) b_fl_RX10_135 dX10_of_130 ?_
                obtain ⟨o11, e12, h⟩ := Option.bind_eq_some_iff.mp h
                refine r_si C S hl (k_X10_bit e12) b_sb_RX10_138 [.int (w.1 (35 + v1.toNatClampNeg) 5)] rfl [] rfl rfl (Nat.le_of_ble_eq_true rfl) ⟨Nat.le_of_ble_eq_true rfl, Nat.le_of_ble_eq_true rfl⟩ dX10_of_133 (fun H locs S => ?_)
                have h9 := Option.some.inj h
                subst h9
                exact r_iret C S hr hlocks dX10_of_136
              · replace h := (if_neg q10).symm.trans h
                by_cases q13 : v2 = 6
                · replace h := (if_pos q13).symm.trans h
                  refine lv_tableIn (off := 108) (tgt := 137) C.1 C.2.1 dX10_of_29 (by rw [q13]; decide) (by rw [q13]; decide) (by rw [q13]; rfl) (by decide) ?_
                  refine lv_aload_n C.1 C.2.1 dX10_of_137 rfl (lv_at hl 0 rfl) ?_
                  refine r_geti C S (o_F1 (inB_lt g4)) cf_4 6 rfl (by decide) b_fl_RX10_142 dX10_of_138 ?_
                  obtain ⟨o14, e15, h⟩ := Option.bind_eq_some_iff.mp h
                  refine r_si C S hl (k_X10_bit e15) b_sb_RX10_138 [.int (w.1 (35 + v1.toNatClampNeg) 6)] rfl [] rfl rfl (Nat.le_of_ble_eq_true rfl) ⟨Nat.le_of_ble_eq_true rfl, Nat.le_of_ble_eq_true rfl⟩ dX10_of_141 (fun H locs S => ?_)
                  have h9 := Option.some.inj h
                  subst h9
                  exact r_iret C S hr hlocks dX10_of_144
                · replace h := (if_neg q13).symm.trans h
                  by_cases q16 : v2 = 7
                  · replace h := (if_pos q16).symm.trans h
                    refine lv_tableIn (off := 116) (tgt := 145) C.1 C.2.1 dX10_of_29 (by rw [q16]; decide) (by rw [q16]; decide) (by rw [q16]; rfl) (by decide) ?_
                    refine lv_aload_n C.1 C.2.1 dX10_of_145 rfl (lv_at hl 0 rfl) ?_
                    refine r_geti C S (o_F1 (inB_lt g4)) cf_4 7 rfl (by decide) b_fl_RX10_145 dX10_of_146 ?_
                    have h9 := Option.some.inj h
                    subst h9
                    exact r_iret C S hr hlocks dX10_of_149
                  · replace h := (if_neg q16).symm.trans h
                    by_cases q17 : v2 = 8
                    · replace h := (if_pos q17).symm.trans h
                      refine lv_tableIn (off := 121) (tgt := 150) C.1 C.2.1 dX10_of_29 (by rw [q17]; decide) (by rw [q17]; decide) (by rw [q17]; rfl) (by decide) ?_
                      refine lv_aload_n C.1 C.2.1 dX10_of_150 rfl (lv_at hl 0 rfl) ?_
                      refine lv_aload_n C.1 C.2.1 dX10_of_151 rfl (lv_at hl 0 rfl) ?_
                      refine r_geti C S (o_F1 (inB_lt g4)) cf_4 3 rfl (by decide) b_fl_RX10_129 dX10_of_152 ?_
                      obtain ⟨o18, e19, h⟩ := Option.bind_eq_some_iff.mp h
                      refine r_vi C S hl (o_F1 (inB_lt g4)) cf_4 (k_X4_leaks (o_F1 (inB_lt g4)) e19) b_vb_RX10_148 [.int (w.1 (35 + v1.toNatClampNeg) 3)] rfl [] rfl rfl (Nat.le_of_ble_eq_true rfl) ⟨Nat.le_of_ble_eq_true rfl, Nat.le_of_ble_eq_true rfl⟩ dX10_of_155 (fun H locs S => ?_)
                      have h9 := Option.some.inj h
                      subst h9
                      exact r_iret C S hr hlocks dX10_of_158
                    · replace h := (if_neg q17).symm.trans h
                      by_cases q20 : v2 = 9
                      · replace h := (if_pos q20).symm.trans h
                        refine lv_tableIn (off := 130) (tgt := 159) C.1 C.2.1 dX10_of_29 (by rw [q20]; decide) (by rw [q20]; decide) (by rw [q20]; rfl) (by decide) ?_
                        refine lv_aload_n C.1 C.2.1 dX10_of_159 rfl (lv_at hl 0 rfl) ?_
                        refine lv_aload_n C.1 C.2.1 dX10_of_160 rfl (lv_at hl 0 rfl) ?_
                        refine r_geti C S (o_F1 (inB_lt g4)) cf_4 4 rfl (by decide) b_fl_RX10_132 dX10_of_161 ?_
                        obtain ⟨o21, e22, h⟩ := Option.bind_eq_some_iff.mp h
                        refine r_vi C S hl (o_F1 (inB_lt g4)) cf_4 (k_X4_takes (o_F1 (inB_lt g4)) e22) b_vb_RX10_151 [.int (w.1 (35 + v1.toNatClampNeg) 4)] rfl [] rfl rfl (Nat.le_of_ble_eq_true rfl) ⟨Nat.le_of_ble_eq_true rfl, Nat.le_of_ble_eq_true rfl⟩ dX10_of_164 (fun H locs S => ?_)
                        have h9 := Option.some.inj h
                        subst h9
                        exact r_iret C S hr hlocks dX10_of_167
                      · replace h := (if_neg q20).symm.trans h
                        by_cases q23 : v2 = 10
                        · replace h := (if_pos q23).symm.trans h
                          refine lv_tableIn (off := 139) (tgt := 168) C.1 C.2.1 dX10_of_29 (by rw [q23]; decide) (by rw [q23]; decide) (by rw [q23]; rfl) (by decide) ?_
                          refine lv_aload_n C.1 C.2.1 dX10_of_168 rfl (lv_at hl 1 rfl) ?_
                          refine r_getr C S o_0 cf_10 3 rfl (by decide) b_fl_RX10_27 dX10_of_169 ?_
                          refine lv_iload_n C.1 C.2.1 dX10_of_172 rfl (lv_at hl 2 rfl) ?_
                          obtain ⟨o24, e25, h⟩ := Option.bind_eq_some_iff.mp h
                          refine r_vi C S hl o_3 cf_0 (k_X0_flow e25) b_vb_RX10_154 [.int v1] rfl [] rfl rfl (Nat.le_of_ble_eq_true rfl) ⟨Nat.le_of_ble_eq_true rfl, Nat.le_of_ble_eq_true rfl⟩ dX10_of_173 (fun H locs S => ?_)
                          have h9 := Option.some.inj h
                          subst h9
                          exact r_iret C S hr hlocks dX10_of_176
                        · replace h := (if_neg q23).symm.trans h
                          by_cases q26 : v2 = 11
                          · replace h := (if_pos q26).symm.trans h
                            refine lv_tableIn (off := 148) (tgt := 177) C.1 C.2.1 dX10_of_29 (by rw [q26]; decide) (by rw [q26]; decide) (by rw [q26]; rfl) (by decide) ?_
                            refine lv_aload_n C.1 C.2.1 dX10_of_177 rfl (lv_at hl 0 rfl) ?_
                            refine r_geti C S (o_F1 (inB_lt g4)) cf_4 8 rfl (by decide) b_fl_RX10_157 dX10_of_178 ?_
                            have h9 := Option.some.inj h
                            subst h9
                            exact r_iret C S hr hlocks dX10_of_181
                          · replace h := (if_neg q26).symm.trans h
                            by_cases q27 : v2 = 12
                            · replace h := (if_pos q27).symm.trans h
                              refine lv_tableIn (off := 153) (tgt := 182) C.1 C.2.1 dX10_of_29 (by rw [q27]; decide) (by rw [q27]; decide) (by rw [q27]; rfl) (by decide) ?_
                              refine lv_aload_n C.1 C.2.1 dX10_of_182 rfl (lv_at hl 0 rfl) ?_
                              refine r_geti C S (o_F1 (inB_lt g4)) cf_4 9 rfl (by decide) b_fl_RX10_160 dX10_of_183 ?_
                              have h9 := Option.some.inj h
                              subst h9
                              exact r_iret C S hr hlocks dX10_of_186
                            · replace h := (if_neg q27).symm.trans h
                              by_cases q28 : v2 = 13
                              · replace h := (if_pos q28).symm.trans h
                                refine lv_tableIn (off := 158) (tgt := 187) C.1 C.2.1 dX10_of_29 (by rw [q28]; decide) (by rw [q28]; decide) (by rw [q28]; rfl) (by decide) ?_
                                refine lv_aload_n C.1 C.2.1 dX10_of_187 rfl (lv_at hl 0 rfl) ?_
                                refine r_geti C S (o_F1 (inB_lt g4)) cf_4 10 rfl (by decide) b_fl_RX10_163 dX10_of_188 ?_
                                have h9 := Option.some.inj h
                                subst h9
                                exact r_iret C S hr hlocks dX10_of_191
                              · replace h := (if_neg q28).symm.trans h
                                by_cases q29 : v2 = 14
                                · replace h := (if_pos q29).symm.trans h
                                  refine lv_tableIn (off := 163) (tgt := 192) C.1 C.2.1 dX10_of_29 (by rw [q29]; decide) (by rw [q29]; decide) (by rw [q29]; rfl) (by decide) ?_
                                  refine lv_aload_n C.1 C.2.1 dX10_of_192 rfl (lv_at hl 0 rfl) ?_
                                  refine r_geti C S (o_F1 (inB_lt g4)) cf_4 11 rfl (by decide) b_fl_RX10_166 dX10_of_193 ?_
                                  have h9 := Option.some.inj h
                                  subst h9
                                  exact r_iret C S hr hlocks dX10_of_196
                                · replace h := (if_neg q29).symm.trans h
                                  have hb9 : (v2).toInt < 0 ∨ 14 < (v2).toInt := by
                                    have zq5 := tb_ne q5
                                    have zq6 := tb_ne q6
                                    have zq7 := tb_ne q7
                                    have zq8 := tb_ne q8
                                    have zq9 := tb_ne q9
                                    have zq10 := tb_ne q10
                                    have zq13 := tb_ne q13
                                    have zq16 := tb_ne q16
                                    have zq17 := tb_ne q17
                                    have zq20 := tb_ne q20
                                    have zq23 := tb_ne q23
                                    have zq26 := tb_ne q26
                                    have zq27 := tb_ne q27
                                    have zq28 := tb_ne q28
                                    have zq29 := tb_ne q29
                                    rw [show ((0 : Int32)).toInt = 0 from by decide] at zq5
                                    rw [show ((1 : Int32)).toInt = 1 from by decide] at zq6
                                    rw [show ((2 : Int32)).toInt = 2 from by decide] at zq7
                                    rw [show ((3 : Int32)).toInt = 3 from by decide] at zq8
                                    rw [show ((4 : Int32)).toInt = 4 from by decide] at zq9
                                    rw [show ((5 : Int32)).toInt = 5 from by decide] at zq10
                                    rw [show ((6 : Int32)).toInt = 6 from by decide] at zq13
                                    rw [show ((7 : Int32)).toInt = 7 from by decide] at zq16
                                    rw [show ((8 : Int32)).toInt = 8 from by decide] at zq17
                                    rw [show ((9 : Int32)).toInt = 9 from by decide] at zq20
                                    rw [show ((10 : Int32)).toInt = 10 from by decide] at zq23
                                    rw [show ((11 : Int32)).toInt = 11 from by decide] at zq26
                                    rw [show ((12 : Int32)).toInt = 12 from by decide] at zq27
                                    rw [show ((13 : Int32)).toInt = 13 from by decide] at zq28
                                    rw [show ((14 : Int32)).toInt = 14 from by decide] at zq29
                                    omega
                                  refine lv_tableOut (tgt := 197) C.1 C.2.1 dX10_of_29 hb9 (by decide) ?_
                                  refine lv_aload_n C.1 C.2.1 dX10_of_197 rfl (lv_at hl 1 rfl) ?_
                                  refine r_ldc C (-1000000001) b_cn_RX10_94 dX10_of_198 ?_
                                  obtain ⟨o30, e31, h⟩ := Option.bind_eq_some_iff.mp h
                                  refine r_vi C S hl o_0 cf_10 (k_X10_finding e31) b_vb_RX10_95 [.int (-1000000001)] rfl [] rfl rfl (Nat.le_of_ble_eq_true rfl) ⟨Nat.le_of_ble_eq_true rfl, Nat.le_of_ble_eq_true rfl⟩ dX10_of_200 (fun H locs S => ?_)
                                  have h9 := Option.some.inj h
                                  subst h9
                                  exact r_iret C S hr hlocks dX10_of_203
  · replace h := (if_pos q3).symm.trans h
    refine lv_aload_n C.1 C.2.1 dX10_of_11 rfl (lv_at hl 0 rfl) ?_
    refine r_ldc C (-1000000001) b_cn_RX10_94 dX10_of_12 ?_
    obtain ⟨o32, e33, h⟩ := Option.bind_eq_some_iff.mp h
    refine r_vi C S hl o_0 cf_10 (k_X10_finding e33) b_vb_RX10_95 [.int (-1000000001)] rfl [] rfl rfl (Nat.le_of_ble_eq_true rfl) ⟨Nat.le_of_ble_eq_true rfl, Nat.le_of_ble_eq_true rfl⟩ dX10_of_14 (fun H locs S => ?_)
    have h9 := Option.some.inj h
    subst h9
    exact r_iret C S hr hlocks dX10_of_17
set_option maxHeartbeats 4000000 in
set_option maxRecDepth 100000 in
theorem k_X10_isUnder_L4 {p : Program} {l : Launch} {e : Env} {s : State} {m : MethodId} {args : Array Value} {below : List Frame} {meth : Method} {c : Code} {D : va_G} {ad sx : Nat → Nat} {ca : Nat → ClassId} (C : Cx D ad sx ca p s m c args RX10 cX10_isUnder 4) (hr : meth.sig.returnType = (some .boolean)) (hlocks : meth.locks = false) {rv : Int32} {w : Wd} {v1 : Int32}  : ∀ (n9 : Nat) (z : Int32 × Int32) (o : (Int32 × Int32) ⊕ (Int32)), lp (f_X10_isUnder_L4 v1 w) n9 z = some o → ((∀ x, o = .inl x → ∀ (ls : Array Slot) (H : Heap) (locs : List Loc), lv_has ls 4 [] → St D ad ca s w H locs → W p l e (RM 1 22) s m args below meth c H locs 0 0 (MQ below (Qi D ad ca rv w) args s 0 0 (Aad ad)) (F0 m 38 ls [])) ∧ ∀ y, o = .inr y → y = rv) → (∀ (ls : Array Slot) (H : Heap) (locs : List Loc), lv_has ls 4 [(1, .int v1), (2, .int z.1), (3, .int z.2)] → St D ad ca s w H locs → W p l e (RM 1 22) s m args below meth c H locs 0 0 (MQ below (Qi D ad ca rv w) args s 0 0 (Aad ad)) (F0 m 4 ls [])) := by
  refine lp_W (HW := fun (z : Int32 × Int32) => ∀ (ls : Array Slot) (H : Heap) (locs : List Loc), lv_has ls 4 [(1, .int v1), (2, .int z.1), (3, .int z.2)] → St D ad ca s w H locs → W p l e (RM 1 22) s m args below meth c H locs 0 0 (MQ below (Qi D ad ca rv w) args s 0 0 (Aad ad)) (F0 m 4 ls [])) (XW := fun (o : (Int32 × Int32) ⊕ (Int32)) => (∀ x, o = .inl x → ∀ (ls : Array Slot) (H : Heap) (locs : List Loc), lv_has ls 4 [] → St D ad ca s w H locs → W p l e (RM 1 22) s m args below meth c H locs 0 0 (MQ below (Qi D ad ca rv w) args s 0 0 (Aad ad)) (F0 m 38 ls [])) ∧ ∀ y, o = .inr y → y = rv) ?_
  intro z x h hN hX ls H locs hl S
  unfold f_X10_isUnder_L4 at h
  refine lv_iload_n C.1 C.2.1 dX10_isUnder_4 rfl (lv_at hl 2 rfl) ?_
  refine lv_bipush (v := 6) C.1 C.2.1 dX10_isUnder_5 (by decide) ?_
  refine lv_icmp_ge (tgt := 38) C.1 C.2.1 dX10_isUnder_7 (by decide) (fun q1 => ?_) (fun q1 => ?_)
  · replace h := (if_pos q1).symm.trans h
    exact (hX _ (Option.some.inj h).symm).1 _ rfl _ _ _ (lv_sub hl [] rfl) S
  · replace h := (if_neg q1).symm.trans h
    refine lv_iload_n C.1 C.2.1 dX10_isUnder_10 rfl (lv_at hl 1 rfl) ?_
    refine lv_iconst (v := 0) C.1 C.2.1 dX10_isUnder_11 (by decide) ?_
    refine lv_iconst (v := 5) C.1 C.2.1 dX10_isUnder_12 (by decide) ?_
    obtain ⟨o2, e3, h⟩ := Option.bind_eq_some_iff.mp h
    refine r_si C S hl (k_X10_within e3) b_sb_RX10_90 [.int z.1, .int 0, .int 5] rfl [] rfl rfl (Nat.le_of_ble_eq_true rfl) ⟨Nat.le_of_ble_eq_true rfl, Nat.le_of_ble_eq_true rfl⟩ dX10_isUnder_13 (fun H locs S => ?_)
    refine lv_if_eq (tgt := 38) C.1 C.2.1 dX10_isUnder_16 (by decide) (fun q4 => ?_) (fun q4 => ?_)
    · replace h := (if_pos q4).symm.trans h
      exact (hX _ (Option.some.inj h).symm).1 _ rfl _ _ _ (lv_sub hl [] rfl) S
    · replace h := (if_neg q4).symm.trans h
      refine lv_iload_n C.1 C.2.1 dX10_isUnder_19 rfl (lv_at hl 1 rfl) ?_
      refine lv_iload_n C.1 C.2.1 dX10_isUnder_20 rfl (lv_at hl 0 rfl) ?_
      refine lv_icmp_ne (tgt := 26) C.1 C.2.1 dX10_isUnder_21 (by decide) (fun q5 => ?_) (fun q5 => ?_)
      · replace h := (if_neg q5).symm.trans h
        refine r_under C S b_sf_RX10_347 dX10_isUnder_26 ?_
        refine lv_iload_n C.1 C.2.1 dX10_isUnder_29 rfl (lv_at hl 1 rfl) ?_
        obtain ⟨g6, h⟩ := gd_some h
        refine r_uald C S g6 dX10_isUnder_30 ?_
        refine lv_istore_n (lv' := [(2, .int (underF z.1.toNatClampNeg)), (1, .int v1), (3, .int z.2)]) C.1 C.2.1 dX10_isUnder_31 rfl hl (by decide) rfl (fun ls hl => ?_)
        refine lv_iinc (v := z.2 + 1) (lv' := [(3, .int (z.2 + 1)), (2, .int (underF z.1.toNatClampNeg)), (1, .int v1)]) C.1 C.2.1 dX10_isUnder_32 hl (k := 2) rfl rfl (by decide) rfl (fun ls hl => ?_)
        refine lv_goto (tgt := 4) C.1 C.2.1 dX10_isUnder_35 (by decide) ?_
        exact hN _ (Option.some.inj h).symm _ _ _ (lv_sub hl [2, 1, 0] rfl) S
      · replace h := (if_pos q5).symm.trans h
        refine lv_iconst (v := 1) C.1 C.2.1 dX10_isUnder_24 (by decide) ?_
        have h9 := (hX _ (Option.some.inj h).symm).2 _ rfl
        subst h9
        exact r_zret C S hr hlocks (Or.inr rfl) dX10_isUnder_25
set_option maxHeartbeats 4000000 in
set_option maxRecDepth 100000 in
theorem k_X10_isUnder {v0 : Int32} {v1 : Int32}  {w : Wd} {rv : Int32} (h : f_X10_isUnder v0 v1 w = some rv) : CI yX10_isUnder cX10_isUnder 4 .boolean 1 22 (fun ad => [.int v0, .int v1]) w rv w := by
  refine CI.of (by decide) ?_
  intro l D ad sx ca p e s m below meth c C S hr hlocks
  have hl := lv_entry ([.int v0, .int v1]) (n := 4) (Nat.le_of_ble_eq_true rfl)
  rw [lg_entry_eq]
  generalize (lg_sl ([.int v0, .int v1]) ++ List.replicate (4 - (lg_sl ([.int v0, .int v1])).length) Slot.unset).toArray = ls at hl ⊢
  have hl : lv_has ls 4 [(0, .int v0), (1, .int v1)] := hl
  generalize ha9 : ([.int v0, .int v1] : List Value).toArray = args at C ⊢
  generalize s.heap = H at S ⊢
  generalize ([] : List Loc) = locs at S ⊢
  unfold f_X10_isUnder at h
  refine lv_iload_n C.1 C.2.1 dX10_isUnder_0 rfl (lv_at hl 0 rfl) ?_
  refine lv_istore_n (lv' := [(2, .int v0), (0, .int v0), (1, .int v1)]) C.1 C.2.1 dX10_isUnder_1 rfl hl (by decide) rfl (fun ls hl => ?_)
  refine lv_iconst (v := 0) C.1 C.2.1 dX10_isUnder_2 (by decide) ?_
  refine lv_istore_n (lv' := [(3, .int 0), (2, .int v0), (0, .int v0), (1, .int v1)]) C.1 C.2.1 dX10_isUnder_3 rfl hl (by decide) rfl (fun ls hl => ?_)
  obtain ⟨o7, e8, h⟩ := Option.bind_eq_some_iff.mp h
  refine k_X10_isUnder_L4 C hr hlocks  FU _ _ e8 ⟨fun x9 hx ls H locs hl S => ?_, fun y10 hy => ?_⟩ ls H locs (lv_sub hl [3, 1, 0] rfl) S
  · subst hx
    rw [sm_inl] at h
    refine lv_iconst (v := 0) C.1 C.2.1 dX10_isUnder_38 (by decide) ?_
    have h9 := Option.some.inj h
    subst h9
    exact r_zret C S hr hlocks (Or.inl rfl) dX10_isUnder_39
  · subst hy
    rw [sm_inr] at h
    exact Option.some.inj h
set_option maxHeartbeats 4000000 in
set_option maxRecDepth 100000 in
theorem k_X10_as {v1 : Int32} {v2 : Int32}  {w : Wd} {rv : Int32 × Wd} (h : f_X10_as v1 v2 w = some rv) : CI yX10_as cX10_as 4 .int 2 45 (fun ad => [.ref (ad 0), .int v1, .int v2]) w rv.1 rv.2 := by
  refine CI.of (by decide) ?_
  intro l D ad sx ca p e s m below meth c C S hr hlocks
  have hl := lv_entry ([.ref (ad 0), .int v1, .int v2]) (n := 4) (Nat.le_of_ble_eq_true rfl)
  rw [lg_entry_eq]
  generalize (lg_sl ([.ref (ad 0), .int v1, .int v2]) ++ List.replicate (4 - (lg_sl ([.ref (ad 0), .int v1, .int v2])).length) Slot.unset).toArray = ls at hl ⊢
  have hl : lv_has ls 4 [(0, .ref (ad 0)), (1, .int v1), (2, .int v2)] := hl
  generalize ha9 : ([.ref (ad 0), .int v1, .int v2] : List Value).toArray = args at C ⊢
  generalize s.heap = H at S ⊢
  generalize ([] : List Loc) = locs at S ⊢
  unfold f_X10_as at h
  refine lv_aload_n C.1 C.2.1 dX10_as_0 rfl (lv_at hl 0 rfl) ?_
  refine r_getr C S o_0 cf_10 3 rfl (by decide) b_fl_RX10_27 dX10_as_1 ?_
  refine lv_iload_n C.1 C.2.1 dX10_as_4 rfl (lv_at hl 1 rfl) ?_
  obtain ⟨o1, e2, h⟩ := Option.bind_eq_some_iff.mp h
  refine r_vi C S hl o_3 cf_0 (k_X0_has e2) b_vb_RX10_110 [.int v1] rfl [] rfl rfl (Nat.le_of_ble_eq_true rfl) ⟨Nat.le_of_ble_eq_true rfl, Nat.le_of_ble_eq_true rfl⟩ dX10_as_5 (fun H locs S => ?_)
  refine lv_if_eq (tgt := 20) C.1 C.2.1 dX10_as_8 (by decide) (fun q3 => ?_) (fun q3 => ?_)
  · replace h := (if_pos q3).symm.trans h
    refine lv_aload_n C.1 C.2.1 dX10_as_20 rfl (lv_at hl 0 rfl) ?_
    refine r_ldc C (-1000000001) b_cn_RX10_94 dX10_as_21 ?_
    obtain ⟨o4, e5, h⟩ := Option.bind_eq_some_iff.mp h
    refine r_vi C S hl o_0 cf_10 (k_X10_finding e5) b_vb_RX10_95 [.int (-1000000001)] rfl [] rfl rfl (Nat.le_of_ble_eq_true rfl) ⟨Nat.le_of_ble_eq_true rfl, Nat.le_of_ble_eq_true rfl⟩ dX10_as_23 (fun H locs S => ?_)
    have h9 := Option.some.inj h
    subst h9
    exact r_iret C S hr hlocks dX10_as_26
  · replace h := (if_neg q3).symm.trans h
    refine lv_iload_n C.1 C.2.1 dX10_as_11 rfl (lv_at hl 2 rfl) ?_
    refine lv_iconst (v := 0) C.1 C.2.1 dX10_as_12 (by decide) ?_
    refine lv_iconst (v := 5) C.1 C.2.1 dX10_as_13 (by decide) ?_
    obtain ⟨o6, e7, h⟩ := Option.bind_eq_some_iff.mp h
    refine r_si C S hl (k_X10_within e7) b_sb_RX10_90 [.int v2, .int 0, .int 5] rfl [] rfl rfl (Nat.le_of_ble_eq_true rfl) ⟨Nat.le_of_ble_eq_true rfl, Nat.le_of_ble_eq_true rfl⟩ dX10_as_14 (fun H locs S => ?_)
    refine lv_if_ne (tgt := 27) C.1 C.2.1 dX10_as_17 (by decide) (fun q8 => ?_) (fun q8 => ?_)
    · replace h := (if_neg q8).symm.trans h
      refine lv_aload_n C.1 C.2.1 dX10_as_27 rfl (lv_at hl 0 rfl) ?_
      refine r_getr C S o_0 cf_10 3 rfl (by decide) b_fl_RX10_27 dX10_as_28 ?_
      refine r_getr C S o_3 cf_0 0 rfl (by decide) b_fl_RX10_114 dX10_as_31 ?_
      refine lv_iload_n C.1 C.2.1 dX10_as_34 rfl (lv_at hl 1 rfl) ?_
      obtain ⟨g9, h⟩ := gd_some h
      refine r_aald C S a_17 g9 dX10_as_35 ?_
      refine lv_astore_n (lv' := [(3, .ref (ad (35 + v1.toNatClampNeg))), (0, .ref (ad 0)), (1, .int v1), (2, .int v2)]) C.1 C.2.1 dX10_as_36 rfl hl (by decide) rfl (fun ls hl => ?_)
      refine lv_aload_n C.1 C.2.1 dX10_as_37 rfl (lv_at hl 0 rfl) ?_
      refine r_geti C S (o_F1 (inB_lt g9)) cf_4 0 rfl (by decide) b_fl_RX10_118 dX10_as_38 ?_
      refine lv_iload_n C.1 C.2.1 dX10_as_41 rfl (lv_at hl 3 rfl) ?_
      obtain ⟨o10, e11, h⟩ := Option.bind_eq_some_iff.mp h
      refine r_si C S hl (k_X10_isUnder e11) b_sb_RX10_169 [.int (w.1 (35 + v1.toNatClampNeg) 0), .int v2] rfl [] rfl rfl (Nat.le_of_ble_eq_true rfl) ⟨Nat.le_of_ble_eq_true rfl, Nat.le_of_ble_eq_true rfl⟩ dX10_as_42 (fun H locs S => ?_)
      refine lv_if_ne (tgt := 55) C.1 C.2.1 dX10_as_45 (by decide) (fun q12 => ?_) (fun q12 => ?_)
      · replace h := (if_neg q12).symm.trans h
        refine lv_aload_n C.1 C.2.1 dX10_as_55 rfl (lv_at hl 0 rfl) ?_
        refine lv_aload_n C.1 C.2.1 dX10_as_56 rfl (lv_at hl 0 rfl) ?_
        refine r_geti C S (o_F1 (inB_lt g9)) cf_4 3 rfl (by decide) b_fl_RX10_129 dX10_as_57 ?_
        obtain ⟨o13, e14, h⟩ := Option.bind_eq_some_iff.mp h
        refine r_vi C S hl (o_F1 (inB_lt g9)) cf_4 (k_X4_leaks (o_F1 (inB_lt g9)) e14) b_vb_RX10_148 [.int (w.1 (35 + v1.toNatClampNeg) 3)] rfl [] rfl rfl (Nat.le_of_ble_eq_true rfl) ⟨Nat.le_of_ble_eq_true rfl, Nat.le_of_ble_eq_true rfl⟩ dX10_as_60 (fun H locs S => ?_)
        have h9 := Option.some.inj h
        subst h9
        exact r_iret C S hr hlocks dX10_as_63
      · replace h := (if_pos q12).symm.trans h
        refine lv_aload_n C.1 C.2.1 dX10_as_48 rfl (lv_at hl 1 rfl) ?_
        refine r_ldc C (-1000000003) b_cn_RX10_173 dX10_as_49 ?_
        obtain ⟨o15, e16, h⟩ := Option.bind_eq_some_iff.mp h
        refine r_vi C S hl o_0 cf_10 (k_X10_finding e16) b_vb_RX10_95 [.int (-1000000003)] rfl [] rfl rfl (Nat.le_of_ble_eq_true rfl) ⟨Nat.le_of_ble_eq_true rfl, Nat.le_of_ble_eq_true rfl⟩ dX10_as_51 (fun H locs S => ?_)
        have h9 := Option.some.inj h
        subst h9
        exact r_iret C S hr hlocks dX10_as_54
    · replace h := (if_pos q8).symm.trans h
      refine lv_aload_n C.1 C.2.1 dX10_as_20 rfl (lv_at hl 0 rfl) ?_
      refine r_ldc C (-1000000001) b_cn_RX10_94 dX10_as_21 ?_
      obtain ⟨o17, e18, h⟩ := Option.bind_eq_some_iff.mp h
      refine r_vi C S hl o_0 cf_10 (k_X10_finding e18) b_vb_RX10_95 [.int (-1000000001)] rfl [] rfl rfl (Nat.le_of_ble_eq_true rfl) ⟨Nat.le_of_ble_eq_true rfl, Nat.le_of_ble_eq_true rfl⟩ dX10_as_23 (fun H locs S => ?_)
      have h9 := Option.some.inj h
      subst h9
      exact r_iret C S hr hlocks dX10_as_26
set_option maxHeartbeats 4000000 in
set_option maxRecDepth 100000 in
theorem k_X10_set_J69 {p : Program} {l : Launch} {e : Env} {s : State} {m : MethodId} {args : Array Value} {below : List Frame} {meth : Method} {c : Code} {D : va_G} {ad sx : Nat → Nat} {ca : Nat → ClassId} (C : Cx D ad sx ca p s m c args RX10 cX10_set 4) (hr : meth.sig.returnType = (some .int)) (hlocks : meth.locks = false) {w : Wd} {v1 : Int32} {v2 : Int32}  {rv : Int32 × Wd} (h : f_X10_set_J69 v1 v2 w = some rv) {ls : Array Slot} {H : Heap} {locs : List Loc} (hl : lv_has ls 4 [(0, .ref (ad 0)), (1, .int v1), (2, .int v2)]) (S : St D ad ca s w H locs) : W p l e (RM 2 44) s m args below meth c H locs 0 0 (MQ below (Qi D ad ca rv.1 rv.2) args s 0 0 (Aad ad)) (F0 m 69 ls []) := by
  unfold f_X10_set_J69 at h
  refine lv_iload_n C.1 C.2.1 dX10_set_69 rfl (lv_at hl 1 rfl) ?_
  refine lv_iconst (v := 2) C.1 C.2.1 dX10_set_70 (by decide) ?_
  refine lv_icmp_ne (tgt := 103) C.1 C.2.1 dX10_set_71 (by decide) (fun q3 => ?_) (fun q3 => ?_)
  · replace h := (if_neg q3).symm.trans h
    refine lv_aload_n C.1 C.2.1 dX10_set_103 rfl (lv_at hl 0 rfl) ?_
    refine r_ldc C (-1000000001) b_cn_RX10_94 dX10_set_104 ?_
    obtain ⟨o4, e5, h⟩ := Option.bind_eq_some_iff.mp h
    refine r_vi C S hl o_0 cf_10 (k_X10_finding e5) b_vb_RX10_95 [.int (-1000000001)] rfl [] rfl rfl (Nat.le_of_ble_eq_true rfl) ⟨Nat.le_of_ble_eq_true rfl, Nat.le_of_ble_eq_true rfl⟩ dX10_set_106 (fun H locs S => ?_)
    have h9 := Option.some.inj h
    subst h9
    exact r_iret C S hr hlocks dX10_set_109
  · replace h := (if_pos q3).symm.trans h
    refine lv_iload_n C.1 C.2.1 dX10_set_74 rfl (lv_at hl 2 rfl) ?_
    refine lv_iconst (v := 0) C.1 C.2.1 dX10_set_75 (by decide) ?_
    refine lv_sipush (v := 900) C.1 C.2.1 dX10_set_76 (by decide) ?_
    obtain ⟨o6, e7, h⟩ := Option.bind_eq_some_iff.mp h
    refine r_si C S hl (k_X10_within e7) b_sb_RX10_90 [.int v2, .int 0, .int 900] rfl [] rfl rfl (Nat.le_of_ble_eq_true rfl) ⟨Nat.le_of_ble_eq_true rfl, Nat.le_of_ble_eq_true rfl⟩ dX10_set_79 (fun H locs S => ?_)
    refine lv_if_eq (tgt := 103) C.1 C.2.1 dX10_set_82 (by decide) (fun q8 => ?_) (fun q8 => ?_)
    · replace h := (if_pos q8).symm.trans h
      refine lv_aload_n C.1 C.2.1 dX10_set_103 rfl (lv_at hl 0 rfl) ?_
      refine r_ldc C (-1000000001) b_cn_RX10_94 dX10_set_104 ?_
      obtain ⟨o9, e10, h⟩ := Option.bind_eq_some_iff.mp h
      refine r_vi C S hl o_0 cf_10 (k_X10_finding e10) b_vb_RX10_95 [.int (-1000000001)] rfl [] rfl rfl (Nat.le_of_ble_eq_true rfl) ⟨Nat.le_of_ble_eq_true rfl, Nat.le_of_ble_eq_true rfl⟩ dX10_set_106 (fun H locs S => ?_)
      have h9 := Option.some.inj h
      subst h9
      exact r_iret C S hr hlocks dX10_set_109
    · replace h := (if_neg q8).symm.trans h
      refine lv_aload_n C.1 C.2.1 dX10_set_85 rfl (lv_at hl 0 rfl) ?_
      refine r_getr C S o_0 cf_10 3 rfl (by decide) b_fl_RX10_27 dX10_set_86 ?_
      refine r_geti C S o_3 cf_0 6 rfl (by decide) b_fl_RX10_180 dX10_set_89 ?_
      refine lv_istore_n (lv' := [(3, .int (w.1 3 6)), (0, .ref (ad 0)), (1, .int v1), (2, .int v2)]) C.1 C.2.1 dX10_set_92 rfl hl (by decide) rfl (fun ls hl => ?_)
      refine lv_aload_n C.1 C.2.1 dX10_set_93 rfl (lv_at hl 1 rfl) ?_
      refine r_getr C S o_0 cf_10 3 rfl (by decide) b_fl_RX10_27 dX10_set_94 ?_
      refine lv_iload_n C.1 C.2.1 dX10_set_97 rfl (lv_at hl 3 rfl) ?_
      refine r_put C S o_3 cf_0 6 rfl (by decide) rfl (ni _) b_fl_RX10_180 dX10_set_98 (fun H locs S => ?_)
      obtain ⟨w11, h, S⟩ := lw_S (P := fun y => St D ad ca s y H locs) h S
      refine lv_iload_n C.1 C.2.1 dX10_set_101 rfl (lv_at hl 0 rfl) ?_
      have h9 := Option.some.inj h
      subst h9
      exact r_iret C S hr hlocks dX10_set_102
set_option maxHeartbeats 4000000 in
set_option maxRecDepth 100000 in
theorem k_X10_set_J35 {p : Program} {l : Launch} {e : Env} {s : State} {m : MethodId} {args : Array Value} {below : List Frame} {meth : Method} {c : Code} {D : va_G} {ad sx : Nat → Nat} {ca : Nat → ClassId} (C : Cx D ad sx ca p s m c args RX10 cX10_set 4) (hr : meth.sig.returnType = (some .int)) (hlocks : meth.locks = false) {w : Wd} {v1 : Int32} {v2 : Int32}  {rv : Int32 × Wd} (h : f_X10_set_J35 v1 v2 w = some rv) {ls : Array Slot} {H : Heap} {locs : List Loc} (hl : lv_has ls 4 [(0, .ref (ad 0)), (1, .int v1), (2, .int v2)]) (S : St D ad ca s w H locs) : W p l e (RM 2 44) s m args below meth c H locs 0 0 (MQ below (Qi D ad ca rv.1 rv.2) args s 0 0 (Aad ad)) (F0 m 35 ls []) := by
  unfold f_X10_set_J35 at h
  refine lv_iload_n C.1 C.2.1 dX10_set_35 rfl (lv_at hl 1 rfl) ?_
  refine lv_iconst (v := 1) C.1 C.2.1 dX10_set_36 (by decide) ?_
  refine lv_icmp_ne (tgt := 69) C.1 C.2.1 dX10_set_37 (by decide) (fun q2 => ?_) (fun q2 => ?_)
  · replace h := (if_neg q2).symm.trans h
    exact k_X10_set_J69 C hr hlocks  h (lv_sub hl [0, 1, 2] rfl) S
  · replace h := (if_pos q2).symm.trans h
    refine lv_iload_n C.1 C.2.1 dX10_set_40 rfl (lv_at hl 2 rfl) ?_
    refine lv_iconst (v := 0) C.1 C.2.1 dX10_set_41 (by decide) ?_
    refine lv_sipush (v := 999) C.1 C.2.1 dX10_set_42 (by decide) ?_
    obtain ⟨o12, e13, h⟩ := Option.bind_eq_some_iff.mp h
    refine r_si C S hl (k_X10_within e13) b_sb_RX10_90 [.int v2, .int 0, .int 999] rfl [] rfl rfl (Nat.le_of_ble_eq_true rfl) ⟨Nat.le_of_ble_eq_true rfl, Nat.le_of_ble_eq_true rfl⟩ dX10_set_45 (fun H locs S => ?_)
    refine lv_if_eq (tgt := 69) C.1 C.2.1 dX10_set_48 (by decide) (fun q14 => ?_) (fun q14 => ?_)
    · replace h := (if_pos q14).symm.trans h
      exact k_X10_set_J69 C hr hlocks  h (lv_sub hl [0, 1, 2] rfl) S
    · replace h := (if_neg q14).symm.trans h
      refine lv_aload_n C.1 C.2.1 dX10_set_51 rfl (lv_at hl 0 rfl) ?_
      refine r_getr C S o_0 cf_10 3 rfl (by decide) b_fl_RX10_27 dX10_set_52 ?_
      refine r_geti C S o_3 cf_0 5 rfl (by decide) b_fl_RX10_177 dX10_set_55 ?_
      refine lv_istore_n (lv' := [(3, .int (w.1 3 5)), (0, .ref (ad 0)), (1, .int v1), (2, .int v2)]) C.1 C.2.1 dX10_set_58 rfl hl (by decide) rfl (fun ls hl => ?_)
      refine lv_aload_n C.1 C.2.1 dX10_set_59 rfl (lv_at hl 1 rfl) ?_
      refine r_getr C S o_0 cf_10 3 rfl (by decide) b_fl_RX10_27 dX10_set_60 ?_
      refine lv_iload_n C.1 C.2.1 dX10_set_63 rfl (lv_at hl 3 rfl) ?_
      refine r_put C S o_3 cf_0 5 rfl (by decide) rfl (ni _) b_fl_RX10_177 dX10_set_64 (fun H locs S => ?_)
      obtain ⟨w15, h, S⟩ := lw_S (P := fun y => St D ad ca s y H locs) h S
      refine lv_iload_n C.1 C.2.1 dX10_set_67 rfl (lv_at hl 0 rfl) ?_
      have h9 := Option.some.inj h
      subst h9
      exact r_iret C S hr hlocks dX10_set_68
set_option maxHeartbeats 4000000 in
set_option maxRecDepth 100000 in
theorem k_X10_set {v1 : Int32} {v2 : Int32}  {w : Wd} {rv : Int32 × Wd} (h : f_X10_set v1 v2 w = some rv) : CI yX10_set cX10_set 4 .int 2 44 (fun ad => [.ref (ad 0), .int v1, .int v2]) w rv.1 rv.2 := by
  refine CI.of (by decide) ?_
  intro l D ad sx ca p e s m below meth c C S hr hlocks
  have hl := lv_entry ([.ref (ad 0), .int v1, .int v2]) (n := 4) (Nat.le_of_ble_eq_true rfl)
  rw [lg_entry_eq]
  generalize (lg_sl ([.ref (ad 0), .int v1, .int v2]) ++ List.replicate (4 - (lg_sl ([.ref (ad 0), .int v1, .int v2])).length) Slot.unset).toArray = ls at hl ⊢
  have hl : lv_has ls 4 [(0, .ref (ad 0)), (1, .int v1), (2, .int v2)] := hl
  generalize ha9 : ([.ref (ad 0), .int v1, .int v2] : List Value).toArray = args at C ⊢
  generalize s.heap = H at S ⊢
  generalize ([] : List Loc) = locs at S ⊢
  unfold f_X10_set at h
  refine lv_iload_n C.1 C.2.1 dX10_set_0 rfl (lv_at hl 1 rfl) ?_
  refine lv_if_ne (tgt := 35) C.1 C.2.1 dX10_set_1 (by decide) (fun q1 => ?_) (fun q1 => ?_)
  · replace h := (if_neg q1).symm.trans h
    exact k_X10_set_J35 C hr hlocks  h (lv_sub hl [0, 1, 2] rfl) S
  · replace h := (if_pos q1).symm.trans h
    refine lv_iload_n C.1 C.2.1 dX10_set_4 rfl (lv_at hl 2 rfl) ?_
    refine lv_sipush (v := (-300)) C.1 C.2.1 dX10_set_5 (by decide) ?_
    refine lv_sipush (v := 400) C.1 C.2.1 dX10_set_8 (by decide) ?_
    obtain ⟨o16, e17, h⟩ := Option.bind_eq_some_iff.mp h
    refine r_si C S hl (k_X10_within e17) b_sb_RX10_90 [.int v2, .int (-300), .int 400] rfl [] rfl rfl (Nat.le_of_ble_eq_true rfl) ⟨Nat.le_of_ble_eq_true rfl, Nat.le_of_ble_eq_true rfl⟩ dX10_set_11 (fun H locs S => ?_)
    refine lv_if_eq (tgt := 35) C.1 C.2.1 dX10_set_14 (by decide) (fun q18 => ?_) (fun q18 => ?_)
    · replace h := (if_pos q18).symm.trans h
      exact k_X10_set_J35 C hr hlocks  h (lv_sub hl [0, 1, 2] rfl) S
    · replace h := (if_neg q18).symm.trans h
      refine lv_aload_n C.1 C.2.1 dX10_set_17 rfl (lv_at hl 0 rfl) ?_
      refine r_getr C S o_0 cf_10 3 rfl (by decide) b_fl_RX10_27 dX10_set_18 ?_
      refine r_geti C S o_3 cf_0 4 rfl (by decide) b_fl_RX10_174 dX10_set_21 ?_
      refine lv_istore_n (lv' := [(3, .int (w.1 3 4)), (0, .ref (ad 0)), (1, .int v1), (2, .int v2)]) C.1 C.2.1 dX10_set_24 rfl hl (by decide) rfl (fun ls hl => ?_)
      refine lv_aload_n C.1 C.2.1 dX10_set_25 rfl (lv_at hl 1 rfl) ?_
      refine r_getr C S o_0 cf_10 3 rfl (by decide) b_fl_RX10_27 dX10_set_26 ?_
      refine lv_iload_n C.1 C.2.1 dX10_set_29 rfl (lv_at hl 3 rfl) ?_
      refine r_put C S o_3 cf_0 4 rfl (by decide) rfl (ni _) b_fl_RX10_174 dX10_set_30 (fun H locs S => ?_)
      obtain ⟨w19, h, S⟩ := lw_S (P := fun y => St D ad ca s y H locs) h S
      refine lv_iload_n C.1 C.2.1 dX10_set_33 rfl (lv_at hl 0 rfl) ?_
      have h9 := Option.some.inj h
      subst h9
      exact r_iret C S hr hlocks dX10_set_34
set_option maxHeartbeats 4000000 in
set_option maxRecDepth 100000 in
theorem k_X10_turn {v1 : Int32} {v2 : Int32}  {w : Wd} {rv : Int32 × Wd} (h : f_X10_turn v1 v2 w = some rv) : CI yX10_turn cX10_turn 5 .int 2 44 (fun ad => [.ref (ad 0), .int v1, .int v2]) w rv.1 rv.2 := by
  refine CI.of (by decide) ?_
  intro l D ad sx ca p e s m below meth c C S hr hlocks
  have hl := lv_entry ([.ref (ad 0), .int v1, .int v2]) (n := 5) (Nat.le_of_ble_eq_true rfl)
  rw [lg_entry_eq]
  generalize (lg_sl ([.ref (ad 0), .int v1, .int v2]) ++ List.replicate (5 - (lg_sl ([.ref (ad 0), .int v1, .int v2])).length) Slot.unset).toArray = ls at hl ⊢
  have hl : lv_has ls 5 [(0, .ref (ad 0)), (1, .int v1), (2, .int v2)] := hl
  generalize ha9 : ([.ref (ad 0), .int v1, .int v2] : List Value).toArray = args at C ⊢
  generalize s.heap = H at S ⊢
  generalize ([] : List Loc) = locs at S ⊢
  unfold f_X10_turn at h
  refine lv_aload_n C.1 C.2.1 dX10_turn_0 rfl (lv_at hl 0 rfl) ?_
  refine r_getr C S o_0 cf_10 3 rfl (by decide) b_fl_RX10_27 dX10_turn_1 ?_
  refine lv_iload_n C.1 C.2.1 dX10_turn_4 rfl (lv_at hl 1 rfl) ?_
  obtain ⟨o1, e2, h⟩ := Option.bind_eq_some_iff.mp h
  refine r_vi C S hl o_3 cf_0 (k_X0_has e2) b_vb_RX10_110 [.int v1] rfl [] rfl rfl (Nat.le_of_ble_eq_true rfl) ⟨Nat.le_of_ble_eq_true rfl, Nat.le_of_ble_eq_true rfl⟩ dX10_turn_5 (fun H locs S => ?_)
  refine lv_if_eq (tgt := 21) C.1 C.2.1 dX10_turn_8 (by decide) (fun q3 => ?_) (fun q3 => ?_)
  · replace h := (if_pos q3).symm.trans h
    refine lv_aload_n C.1 C.2.1 dX10_turn_21 rfl (lv_at hl 0 rfl) ?_
    refine r_ldc C (-1000000001) b_cn_RX10_94 dX10_turn_22 ?_
    obtain ⟨o4, e5, h⟩ := Option.bind_eq_some_iff.mp h
    refine r_vi C S hl o_0 cf_10 (k_X10_finding e5) b_vb_RX10_95 [.int (-1000000001)] rfl [] rfl rfl (Nat.le_of_ble_eq_true rfl) ⟨Nat.le_of_ble_eq_true rfl, Nat.le_of_ble_eq_true rfl⟩ dX10_turn_24 (fun H locs S => ?_)
    have h9 := Option.some.inj h
    subst h9
    exact r_iret C S hr hlocks dX10_turn_27
  · replace h := (if_neg q3).symm.trans h
    refine lv_iload_n C.1 C.2.1 dX10_turn_11 rfl (lv_at hl 2 rfl) ?_
    refine lv_iconst (v := 0) C.1 C.2.1 dX10_turn_12 (by decide) ?_
    refine lv_bipush (v := 8) C.1 C.2.1 dX10_turn_13 (by decide) ?_
    obtain ⟨o6, e7, h⟩ := Option.bind_eq_some_iff.mp h
    refine r_si C S hl (k_X10_within e7) b_sb_RX10_90 [.int v2, .int 0, .int 8] rfl [] rfl rfl (Nat.le_of_ble_eq_true rfl) ⟨Nat.le_of_ble_eq_true rfl, Nat.le_of_ble_eq_true rfl⟩ dX10_turn_15 (fun H locs S => ?_)
    refine lv_if_ne (tgt := 28) C.1 C.2.1 dX10_turn_18 (by decide) (fun q8 => ?_) (fun q8 => ?_)
    · replace h := (if_neg q8).symm.trans h
      refine lv_aload_n C.1 C.2.1 dX10_turn_28 rfl (lv_at hl 0 rfl) ?_
      refine r_getr C S o_0 cf_10 3 rfl (by decide) b_fl_RX10_27 dX10_turn_29 ?_
      refine r_getr C S o_3 cf_0 0 rfl (by decide) b_fl_RX10_114 dX10_turn_32 ?_
      refine lv_iload_n C.1 C.2.1 dX10_turn_35 rfl (lv_at hl 1 rfl) ?_
      obtain ⟨g9, h⟩ := gd_some h
      refine r_aald C S a_17 g9 dX10_turn_36 ?_
      refine lv_astore_n (lv' := [(3, .ref (ad (35 + v1.toNatClampNeg))), (0, .ref (ad 0)), (1, .int v1), (2, .int v2)]) C.1 C.2.1 dX10_turn_37 rfl hl (by decide) rfl (fun ls hl => ?_)
      refine lv_aload_n C.1 C.2.1 dX10_turn_38 rfl (lv_at hl 0 rfl) ?_
      refine r_geti C S (o_F1 (inB_lt g9)) cf_4 5 rfl (by decide) b_fl_RX10_135 dX10_turn_39 ?_
      refine lv_if_eq (tgt := 52) C.1 C.2.1 dX10_turn_42 (by decide) (fun q10 => ?_) (fun q10 => ?_)
      · replace h := (if_pos q10).symm.trans h
        refine lv_aload_n C.1 C.2.1 dX10_turn_52 rfl (lv_at hl 0 rfl) ?_
        refine r_geti C S (o_F1 (inB_lt g9)) cf_4 4 rfl (by decide) b_fl_RX10_132 dX10_turn_53 ?_
        refine lv_istore (lv' := [(4, .int (w.1 (35 + v1.toNatClampNeg) 4)), (3, .ref (ad (35 + v1.toNatClampNeg))), (0, .ref (ad 0)), (1, .int v1), (2, .int v2)]) C.1 C.2.1 dX10_turn_56 hl (by decide) rfl (fun ls hl => ?_)
        refine lv_aload_n C.1 C.2.1 dX10_turn_58 rfl (lv_at hl 1 rfl) ?_
        refine lv_iload_n C.1 C.2.1 dX10_turn_59 rfl (lv_at hl 4 rfl) ?_
        refine r_put C S (o_F1 (inB_lt g9)) cf_4 4 rfl (by decide) rfl (ni _) b_fl_RX10_132 dX10_turn_60 (fun H locs S => ?_)
        obtain ⟨w11, h, S⟩ := lw_S (P := fun y => St D ad ca s y H locs) h S
        refine lv_iload C.1 C.2.1 dX10_turn_63 (lv_at hl 0 rfl) ?_
        have h9 := Option.some.inj h
        subst h9
        exact r_iret C S hr hlocks dX10_turn_65
      · replace h := (if_neg q10).symm.trans h
        refine lv_aload_n C.1 C.2.1 dX10_turn_45 rfl (lv_at hl 1 rfl) ?_
        refine r_ldc C (-1000000005) b_cn_RX10_183 dX10_turn_46 ?_
        obtain ⟨o12, e13, h⟩ := Option.bind_eq_some_iff.mp h
        refine r_vi C S hl o_0 cf_10 (k_X10_finding e13) b_vb_RX10_95 [.int (-1000000005)] rfl [] rfl rfl (Nat.le_of_ble_eq_true rfl) ⟨Nat.le_of_ble_eq_true rfl, Nat.le_of_ble_eq_true rfl⟩ dX10_turn_48 (fun H locs S => ?_)
        have h9 := Option.some.inj h
        subst h9
        exact r_iret C S hr hlocks dX10_turn_51
    · replace h := (if_pos q8).symm.trans h
      refine lv_aload_n C.1 C.2.1 dX10_turn_21 rfl (lv_at hl 0 rfl) ?_
      refine r_ldc C (-1000000001) b_cn_RX10_94 dX10_turn_22 ?_
      obtain ⟨o14, e15, h⟩ := Option.bind_eq_some_iff.mp h
      refine r_vi C S hl o_0 cf_10 (k_X10_finding e15) b_vb_RX10_95 [.int (-1000000001)] rfl [] rfl rfl (Nat.le_of_ble_eq_true rfl) ⟨Nat.le_of_ble_eq_true rfl, Nat.le_of_ble_eq_true rfl⟩ dX10_turn_24 (fun H locs S => ?_)
      have h9 := Option.some.inj h
      subst h9
      exact r_iret C S hr hlocks dX10_turn_27
set_option maxHeartbeats 4000000 in
set_option maxRecDepth 100000 in
theorem k_X10_hold {v1 : Int32} {v2 : Int32}  {w : Wd} {rv : Int32 × Wd} (h : f_X10_hold v1 v2 w = some rv) : CI yX10_hold cX10_hold 5 .int 2 44 (fun ad => [.ref (ad 0), .int v1, .int v2]) w rv.1 rv.2 := by
  refine CI.of (by decide) ?_
  intro l D ad sx ca p e s m below meth c C S hr hlocks
  have hl := lv_entry ([.ref (ad 0), .int v1, .int v2]) (n := 5) (Nat.le_of_ble_eq_true rfl)
  rw [lg_entry_eq]
  generalize (lg_sl ([.ref (ad 0), .int v1, .int v2]) ++ List.replicate (5 - (lg_sl ([.ref (ad 0), .int v1, .int v2])).length) Slot.unset).toArray = ls at hl ⊢
  have hl : lv_has ls 5 [(0, .ref (ad 0)), (1, .int v1), (2, .int v2)] := hl
  generalize ha9 : ([.ref (ad 0), .int v1, .int v2] : List Value).toArray = args at C ⊢
  generalize s.heap = H at S ⊢
  generalize ([] : List Loc) = locs at S ⊢
  unfold f_X10_hold at h
  refine lv_aload_n C.1 C.2.1 dX10_hold_0 rfl (lv_at hl 0 rfl) ?_
  refine r_getr C S o_0 cf_10 3 rfl (by decide) b_fl_RX10_27 dX10_hold_1 ?_
  refine lv_iload_n C.1 C.2.1 dX10_hold_4 rfl (lv_at hl 1 rfl) ?_
  obtain ⟨o1, e2, h⟩ := Option.bind_eq_some_iff.mp h
  refine r_vi C S hl o_3 cf_0 (k_X0_has e2) b_vb_RX10_110 [.int v1] rfl [] rfl rfl (Nat.le_of_ble_eq_true rfl) ⟨Nat.le_of_ble_eq_true rfl, Nat.le_of_ble_eq_true rfl⟩ dX10_hold_5 (fun H locs S => ?_)
  refine lv_if_ne (tgt := 18) C.1 C.2.1 dX10_hold_8 (by decide) (fun q3 => ?_) (fun q3 => ?_)
  · replace h := (if_neg q3).symm.trans h
    refine lv_aload_n C.1 C.2.1 dX10_hold_18 rfl (lv_at hl 0 rfl) ?_
    refine r_getr C S o_0 cf_10 3 rfl (by decide) b_fl_RX10_27 dX10_hold_19 ?_
    refine r_getr C S o_3 cf_0 0 rfl (by decide) b_fl_RX10_114 dX10_hold_22 ?_
    refine lv_iload_n C.1 C.2.1 dX10_hold_25 rfl (lv_at hl 1 rfl) ?_
    obtain ⟨g4, h⟩ := gd_some h
    refine r_aald C S a_17 g4 dX10_hold_26 ?_
    refine lv_astore_n (lv' := [(3, .ref (ad (35 + v1.toNatClampNeg))), (0, .ref (ad 0)), (1, .int v1), (2, .int v2)]) C.1 C.2.1 dX10_hold_27 rfl hl (by decide) rfl (fun ls hl => ?_)
    refine lv_aload_n C.1 C.2.1 dX10_hold_28 rfl (lv_at hl 0 rfl) ?_
    refine r_geti C S (o_F1 (inB_lt g4)) cf_4 5 rfl (by decide) b_fl_RX10_135 dX10_hold_29 ?_
    refine lv_istore (lv' := [(4, .int (w.1 (35 + v1.toNatClampNeg) 5)), (3, .ref (ad (35 + v1.toNatClampNeg))), (0, .ref (ad 0)), (1, .int v1), (2, .int v2)]) C.1 C.2.1 dX10_hold_32 hl (by decide) rfl (fun ls hl => ?_)
    refine lv_aload_n C.1 C.2.1 dX10_hold_34 rfl (lv_at hl 1 rfl) ?_
    refine lv_iload_n C.1 C.2.1 dX10_hold_35 rfl (lv_at hl 4 rfl) ?_
    obtain ⟨g5, h⟩ := gd_some h
    refine r_put C S (o_F1 (inB_lt g4)) cf_4 5 rfl (by decide) rfl (zo_nar (zo_or g5)) b_fl_RX10_135 dX10_hold_36 (fun H locs S => ?_)
    obtain ⟨w6, h, S⟩ := lw_S (P := fun y => St D ad ca s y H locs) h S
    refine lv_iload C.1 C.2.1 dX10_hold_39 (lv_at hl 0 rfl) ?_
    obtain ⟨o7, e8, h⟩ := Option.bind_eq_some_iff.mp h
    refine r_si C S hl (k_X10_bit e8) b_sb_RX10_138 [.int (w.1 (35 + v1.toNatClampNeg) 5)] rfl [] rfl rfl (Nat.le_of_ble_eq_true rfl) ⟨Nat.le_of_ble_eq_true rfl, Nat.le_of_ble_eq_true rfl⟩ dX10_hold_41 (fun H locs S => ?_)
    have h9 := Option.some.inj h
    subst h9
    exact r_iret C S hr hlocks dX10_hold_44
  · replace h := (if_pos q3).symm.trans h
    refine lv_aload_n C.1 C.2.1 dX10_hold_11 rfl (lv_at hl 0 rfl) ?_
    refine r_ldc C (-1000000001) b_cn_RX10_94 dX10_hold_12 ?_
    obtain ⟨o9, e10, h⟩ := Option.bind_eq_some_iff.mp h
    refine r_vi C S hl o_0 cf_10 (k_X10_finding e10) b_vb_RX10_95 [.int (-1000000001)] rfl [] rfl rfl (Nat.le_of_ble_eq_true rfl) ⟨Nat.le_of_ble_eq_true rfl, Nat.le_of_ble_eq_true rfl⟩ dX10_hold_14 (fun H locs S => ?_)
    have h9 := Option.some.inj h
    subst h9
    exact r_iret C S hr hlocks dX10_hold_17
set_option maxHeartbeats 4000000 in
set_option maxRecDepth 100000 in
theorem k_X10_window {v1 : Int32} {v2 : Int32}  {w : Wd} {rv : Int32 × Wd} (h : f_X10_window v1 v2 w = some rv) : CI yX10_window cX10_window 5 .int 2 44 (fun ad => [.ref (ad 0), .int v1, .int v2]) w rv.1 rv.2 := by
  refine CI.of (by decide) ?_
  intro l D ad sx ca p e s m below meth c C S hr hlocks
  have hl := lv_entry ([.ref (ad 0), .int v1, .int v2]) (n := 5) (Nat.le_of_ble_eq_true rfl)
  rw [lg_entry_eq]
  generalize (lg_sl ([.ref (ad 0), .int v1, .int v2]) ++ List.replicate (5 - (lg_sl ([.ref (ad 0), .int v1, .int v2])).length) Slot.unset).toArray = ls at hl ⊢
  have hl : lv_has ls 5 [(0, .ref (ad 0)), (1, .int v1), (2, .int v2)] := hl
  generalize ha9 : ([.ref (ad 0), .int v1, .int v2] : List Value).toArray = args at C ⊢
  generalize s.heap = H at S ⊢
  generalize ([] : List Loc) = locs at S ⊢
  unfold f_X10_window at h
  refine lv_aload_n C.1 C.2.1 dX10_window_0 rfl (lv_at hl 0 rfl) ?_
  refine r_getr C S o_0 cf_10 3 rfl (by decide) b_fl_RX10_27 dX10_window_1 ?_
  refine lv_iload_n C.1 C.2.1 dX10_window_4 rfl (lv_at hl 1 rfl) ?_
  obtain ⟨o1, e2, h⟩ := Option.bind_eq_some_iff.mp h
  refine r_vi C S hl o_3 cf_0 (k_X0_has e2) b_vb_RX10_110 [.int v1] rfl [] rfl rfl (Nat.le_of_ble_eq_true rfl) ⟨Nat.le_of_ble_eq_true rfl, Nat.le_of_ble_eq_true rfl⟩ dX10_window_5 (fun H locs S => ?_)
  refine lv_if_ne (tgt := 18) C.1 C.2.1 dX10_window_8 (by decide) (fun q3 => ?_) (fun q3 => ?_)
  · replace h := (if_neg q3).symm.trans h
    refine lv_aload_n C.1 C.2.1 dX10_window_18 rfl (lv_at hl 0 rfl) ?_
    refine r_getr C S o_0 cf_10 3 rfl (by decide) b_fl_RX10_27 dX10_window_19 ?_
    refine r_getr C S o_3 cf_0 0 rfl (by decide) b_fl_RX10_114 dX10_window_22 ?_
    refine lv_iload_n C.1 C.2.1 dX10_window_25 rfl (lv_at hl 1 rfl) ?_
    obtain ⟨g4, h⟩ := gd_some h
    refine r_aald C S a_17 g4 dX10_window_26 ?_
    refine lv_astore_n (lv' := [(3, .ref (ad (35 + v1.toNatClampNeg))), (0, .ref (ad 0)), (1, .int v1), (2, .int v2)]) C.1 C.2.1 dX10_window_27 rfl hl (by decide) rfl (fun ls hl => ?_)
    refine lv_aload_n C.1 C.2.1 dX10_window_28 rfl (lv_at hl 0 rfl) ?_
    refine r_geti C S (o_F1 (inB_lt g4)) cf_4 6 rfl (by decide) b_fl_RX10_142 dX10_window_29 ?_
    refine lv_istore (lv' := [(4, .int (w.1 (35 + v1.toNatClampNeg) 6)), (3, .ref (ad (35 + v1.toNatClampNeg))), (0, .ref (ad 0)), (1, .int v1), (2, .int v2)]) C.1 C.2.1 dX10_window_32 hl (by decide) rfl (fun ls hl => ?_)
    refine lv_aload_n C.1 C.2.1 dX10_window_34 rfl (lv_at hl 1 rfl) ?_
    refine lv_iload_n C.1 C.2.1 dX10_window_35 rfl (lv_at hl 4 rfl) ?_
    obtain ⟨g5, h⟩ := gd_some h
    refine r_put C S (o_F1 (inB_lt g4)) cf_4 6 rfl (by decide) rfl (zo_nar (zo_or g5)) b_fl_RX10_142 dX10_window_36 (fun H locs S => ?_)
    obtain ⟨w6, h, S⟩ := lw_S (P := fun y => St D ad ca s y H locs) h S
    refine lv_iload C.1 C.2.1 dX10_window_39 (lv_at hl 0 rfl) ?_
    obtain ⟨o7, e8, h⟩ := Option.bind_eq_some_iff.mp h
    refine r_si C S hl (k_X10_bit e8) b_sb_RX10_138 [.int (w.1 (35 + v1.toNatClampNeg) 6)] rfl [] rfl rfl (Nat.le_of_ble_eq_true rfl) ⟨Nat.le_of_ble_eq_true rfl, Nat.le_of_ble_eq_true rfl⟩ dX10_window_41 (fun H locs S => ?_)
    have h9 := Option.some.inj h
    subst h9
    exact r_iret C S hr hlocks dX10_window_44
  · replace h := (if_pos q3).symm.trans h
    refine lv_aload_n C.1 C.2.1 dX10_window_11 rfl (lv_at hl 0 rfl) ?_
    refine r_ldc C (-1000000001) b_cn_RX10_94 dX10_window_12 ?_
    obtain ⟨o9, e10, h⟩ := Option.bind_eq_some_iff.mp h
    refine r_vi C S hl o_0 cf_10 (k_X10_finding e10) b_vb_RX10_95 [.int (-1000000001)] rfl [] rfl rfl (Nat.le_of_ble_eq_true rfl) ⟨Nat.le_of_ble_eq_true rfl, Nat.le_of_ble_eq_true rfl⟩ dX10_window_14 (fun H locs S => ?_)
    have h9 := Option.some.inj h
    subst h9
    exact r_iret C S hr hlocks dX10_window_17
set_option maxHeartbeats 4000000 in
set_option maxRecDepth 100000 in
theorem k_X10_drift {v1 : Int32} {v2 : Int32}  {w : Wd} {rv : Int32 × Wd} (h : f_X10_drift v1 v2 w = some rv) : CI yX10_drift cX10_drift 5 .int 2 44 (fun ad => [.ref (ad 0), .int v1, .int v2]) w rv.1 rv.2 := by
  refine CI.of (by decide) ?_
  intro l D ad sx ca p e s m below meth c C S hr hlocks
  have hl := lv_entry ([.ref (ad 0), .int v1, .int v2]) (n := 5) (Nat.le_of_ble_eq_true rfl)
  rw [lg_entry_eq]
  generalize (lg_sl ([.ref (ad 0), .int v1, .int v2]) ++ List.replicate (5 - (lg_sl ([.ref (ad 0), .int v1, .int v2])).length) Slot.unset).toArray = ls at hl ⊢
  have hl : lv_has ls 5 [(0, .ref (ad 0)), (1, .int v1), (2, .int v2)] := hl
  generalize ha9 : ([.ref (ad 0), .int v1, .int v2] : List Value).toArray = args at C ⊢
  generalize s.heap = H at S ⊢
  generalize ([] : List Loc) = locs at S ⊢
  unfold f_X10_drift at h
  refine lv_aload_n C.1 C.2.1 dX10_drift_0 rfl (lv_at hl 0 rfl) ?_
  refine r_getr C S o_0 cf_10 3 rfl (by decide) b_fl_RX10_27 dX10_drift_1 ?_
  refine lv_iload_n C.1 C.2.1 dX10_drift_4 rfl (lv_at hl 1 rfl) ?_
  obtain ⟨o1, e2, h⟩ := Option.bind_eq_some_iff.mp h
  refine r_vi C S hl o_3 cf_0 (k_X0_has e2) b_vb_RX10_110 [.int v1] rfl [] rfl rfl (Nat.le_of_ble_eq_true rfl) ⟨Nat.le_of_ble_eq_true rfl, Nat.le_of_ble_eq_true rfl⟩ dX10_drift_5 (fun H locs S => ?_)
  refine lv_if_eq (tgt := 22) C.1 C.2.1 dX10_drift_8 (by decide) (fun q3 => ?_) (fun q3 => ?_)
  · replace h := (if_pos q3).symm.trans h
    refine lv_aload_n C.1 C.2.1 dX10_drift_22 rfl (lv_at hl 0 rfl) ?_
    refine r_ldc C (-1000000001) b_cn_RX10_94 dX10_drift_23 ?_
    obtain ⟨o4, e5, h⟩ := Option.bind_eq_some_iff.mp h
    refine r_vi C S hl o_0 cf_10 (k_X10_finding e5) b_vb_RX10_95 [.int (-1000000001)] rfl [] rfl rfl (Nat.le_of_ble_eq_true rfl) ⟨Nat.le_of_ble_eq_true rfl, Nat.le_of_ble_eq_true rfl⟩ dX10_drift_25 (fun H locs S => ?_)
    have h9 := Option.some.inj h
    subst h9
    exact r_iret C S hr hlocks dX10_drift_28
  · replace h := (if_neg q3).symm.trans h
    refine lv_iload_n C.1 C.2.1 dX10_drift_11 rfl (lv_at hl 2 rfl) ?_
    refine lv_iconst (v := 0) C.1 C.2.1 dX10_drift_12 (by decide) ?_
    refine lv_sipush (v := 200) C.1 C.2.1 dX10_drift_13 (by decide) ?_
    obtain ⟨o6, e7, h⟩ := Option.bind_eq_some_iff.mp h
    refine r_si C S hl (k_X10_within e7) b_sb_RX10_90 [.int v2, .int 0, .int 200] rfl [] rfl rfl (Nat.le_of_ble_eq_true rfl) ⟨Nat.le_of_ble_eq_true rfl, Nat.le_of_ble_eq_true rfl⟩ dX10_drift_16 (fun H locs S => ?_)
    refine lv_if_ne (tgt := 29) C.1 C.2.1 dX10_drift_19 (by decide) (fun q8 => ?_) (fun q8 => ?_)
    · replace h := (if_neg q8).symm.trans h
      refine lv_aload_n C.1 C.2.1 dX10_drift_29 rfl (lv_at hl 0 rfl) ?_
      refine r_getr C S o_0 cf_10 3 rfl (by decide) b_fl_RX10_27 dX10_drift_30 ?_
      refine r_getr C S o_3 cf_0 0 rfl (by decide) b_fl_RX10_114 dX10_drift_33 ?_
      refine lv_iload_n C.1 C.2.1 dX10_drift_36 rfl (lv_at hl 1 rfl) ?_
      obtain ⟨g9, h⟩ := gd_some h
      refine r_aald C S a_17 g9 dX10_drift_37 ?_
      refine lv_astore_n (lv' := [(3, .ref (ad (35 + v1.toNatClampNeg))), (0, .ref (ad 0)), (1, .int v1), (2, .int v2)]) C.1 C.2.1 dX10_drift_38 rfl hl (by decide) rfl (fun ls hl => ?_)
      refine lv_aload_n C.1 C.2.1 dX10_drift_39 rfl (lv_at hl 0 rfl) ?_
      refine r_geti C S (o_F1 (inB_lt g9)) cf_4 11 rfl (by decide) b_fl_RX10_166 dX10_drift_40 ?_
      refine lv_istore (lv' := [(4, .int (w.1 (35 + v1.toNatClampNeg) 11)), (3, .ref (ad (35 + v1.toNatClampNeg))), (0, .ref (ad 0)), (1, .int v1), (2, .int v2)]) C.1 C.2.1 dX10_drift_43 hl (by decide) rfl (fun ls hl => ?_)
      refine lv_aload_n C.1 C.2.1 dX10_drift_45 rfl (lv_at hl 1 rfl) ?_
      refine lv_iload_n C.1 C.2.1 dX10_drift_46 rfl (lv_at hl 4 rfl) ?_
      refine r_put C S (o_F1 (inB_lt g9)) cf_4 11 rfl (by decide) rfl (ni _) b_fl_RX10_166 dX10_drift_47 (fun H locs S => ?_)
      obtain ⟨w10, h, S⟩ := lw_S (P := fun y => St D ad ca s y H locs) h S
      refine lv_iload C.1 C.2.1 dX10_drift_50 (lv_at hl 0 rfl) ?_
      have h9 := Option.some.inj h
      subst h9
      exact r_iret C S hr hlocks dX10_drift_52
    · replace h := (if_pos q8).symm.trans h
      refine lv_aload_n C.1 C.2.1 dX10_drift_22 rfl (lv_at hl 0 rfl) ?_
      refine r_ldc C (-1000000001) b_cn_RX10_94 dX10_drift_23 ?_
      obtain ⟨o11, e12, h⟩ := Option.bind_eq_some_iff.mp h
      refine r_vi C S hl o_0 cf_10 (k_X10_finding e12) b_vb_RX10_95 [.int (-1000000001)] rfl [] rfl rfl (Nat.le_of_ble_eq_true rfl) ⟨Nat.le_of_ble_eq_true rfl, Nat.le_of_ble_eq_true rfl⟩ dX10_drift_25 (fun H locs S => ?_)
      have h9 := Option.some.inj h
      subst h9
      exact r_iret C S hr hlocks dX10_drift_28
set_option maxHeartbeats 4000000 in
set_option maxRecDepth 100000 in
theorem k_X4_isRightAboveOrBelow {t0 : Nat} {t1 : Nat} (ht0 : Fl t0) (ht1 : Fl t1) {w : Wd} {rv : Int32} (h : f_X4_isRightAboveOrBelow t0 t1 w = some rv) : CI yX4_isRightAboveOrBelow cX4_isRightAboveOrBelow 2 .boolean 1 21 (fun ad => [.ref (ad t0), .ref (ad t1)]) w rv w := by
  refine CI.of (by decide) ?_
  intro l D ad sx ca p e s m below meth c C S hr hlocks
  have hl := lv_entry ([.ref (ad t0), .ref (ad t1)]) (n := 2) (Nat.le_of_ble_eq_true rfl)
  rw [lg_entry_eq]
  generalize (lg_sl ([.ref (ad t0), .ref (ad t1)]) ++ List.replicate (2 - (lg_sl ([.ref (ad t0), .ref (ad t1)])).length) Slot.unset).toArray = ls at hl ⊢
  have hl : lv_has ls 2 [(0, .ref (ad t0)), (1, .ref (ad t1))] := hl
  generalize ha9 : ([.ref (ad t0), .ref (ad t1)] : List Value).toArray = args at C ⊢
  generalize s.heap = H at S ⊢
  generalize ([] : List Loc) = locs at S ⊢
  unfold f_X4_isRightAboveOrBelow at h
  refine lv_aload_n C.1 C.2.1 dX4_isRightAboveOrBelow_0 rfl (lv_at hl 0 rfl) ?_
  refine r_geti C S ht0 cf_4 1 rfl (by decide) b_fl_RX4_15 dX4_isRightAboveOrBelow_1 ?_
  refine lv_aload_n C.1 C.2.1 dX4_isRightAboveOrBelow_4 rfl (lv_at hl 1 rfl) ?_
  refine r_geti C S ht1 cf_4 1 rfl (by decide) b_fl_RX4_15 dX4_isRightAboveOrBelow_5 ?_
  refine lv_icmp_ne (tgt := 31) C.1 C.2.1 dX4_isRightAboveOrBelow_8 (by decide) (fun q1 => ?_) (fun q1 => ?_)
  · replace h := (if_neg q1).symm.trans h
    refine lv_iconst (v := 0) C.1 C.2.1 dX4_isRightAboveOrBelow_31 (by decide) ?_
    have h9 := Option.some.inj h
    subst h9
    exact r_zret C S hr hlocks (Or.inl rfl) dX4_isRightAboveOrBelow_32
  · replace h := (if_pos q1).symm.trans h
    refine lv_aload_n C.1 C.2.1 dX4_isRightAboveOrBelow_11 rfl (lv_at hl 0 rfl) ?_
    refine r_geti C S ht0 cf_4 2 rfl (by decide) b_fl_RX4_18 dX4_isRightAboveOrBelow_12 ?_
    refine lv_aload_n C.1 C.2.1 dX4_isRightAboveOrBelow_15 rfl (lv_at hl 1 rfl) ?_
    refine r_geti C S ht1 cf_4 2 rfl (by decide) b_fl_RX4_18 dX4_isRightAboveOrBelow_16 ?_
    refine lv_isub C.1 C.2.1 dX4_isRightAboveOrBelow_19 ?_
    refine r_mabs C hl b_ma_RX4_63 dX4_isRightAboveOrBelow_20 (by decide) (Nat.le_of_ble_eq_true rfl) ?_
    refine lv_iconst (v := 1) C.1 C.2.1 dX4_isRightAboveOrBelow_23 (by decide) ?_
    refine lv_icmp_ne (tgt := 31) C.1 C.2.1 dX4_isRightAboveOrBelow_24 (by decide) (fun q2 => ?_) (fun q2 => ?_)
    · replace h := (if_neg q2).symm.trans h
      refine lv_iconst (v := 0) C.1 C.2.1 dX4_isRightAboveOrBelow_31 (by decide) ?_
      have h9 := Option.some.inj h
      subst h9
      exact r_zret C S hr hlocks (Or.inl rfl) dX4_isRightAboveOrBelow_32
    · replace h := (if_pos q2).symm.trans h
      refine lv_iconst (v := 1) C.1 C.2.1 dX4_isRightAboveOrBelow_27 (by decide) ?_
      refine lv_goto (tgt := 32) C.1 C.2.1 dX4_isRightAboveOrBelow_28 (by decide) ?_
      have h9 := Option.some.inj h
      subst h9
      exact r_zret C S hr hlocks (Or.inr rfl) dX4_isRightAboveOrBelow_32

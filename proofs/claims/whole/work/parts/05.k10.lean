set_option maxHeartbeats 4000000 in
set_option maxRecDepth 100000 in
theorem k_X10_copy {v1 : Int32} {v2 : Int32} {v3 : Int32} {v4 : Int32} {v5 : Int32}  {w : Wd} {rv : Int32 × Wd} (h : f_X10_copy v1 v2 v3 v4 v5 w = some rv) : CI yX10_copy cX10_copy 6 .int 2 60 (fun ad => [.ref (ad 0), .int v1, .int v2, .int v3, .int v4, .int v5]) w rv.1 rv.2 := by
  refine CI.of (by decide) ?_
  intro l D ad sx ca p e s m below meth c C S hr hlocks
  have hl := lv_entry ([.ref (ad 0), .int v1, .int v2, .int v3, .int v4, .int v5]) (n := 6) (Nat.le_of_ble_eq_true rfl)
  rw [lg_entry_eq]
  generalize (lg_sl ([.ref (ad 0), .int v1, .int v2, .int v3, .int v4, .int v5]) ++ List.replicate (6 - (lg_sl ([.ref (ad 0), .int v1, .int v2, .int v3, .int v4, .int v5])).length) Slot.unset).toArray = ls at hl ⊢
  have hl : lv_has ls 6 [(0, .ref (ad 0)), (1, .int v1), (2, .int v2), (3, .int v3), (4, .int v4), (5, .int v5)] := hl
  generalize ha9 : ([.ref (ad 0), .int v1, .int v2, .int v3, .int v4, .int v5] : List Value).toArray = args at C ⊢
  generalize s.heap = H at S ⊢
  generalize ([] : List Loc) = locs at S ⊢
  unfold f_X10_copy at h
  refine lv_iload_n C.1 C.2.1 dX10_copy_0 rfl (lv_at hl 1 rfl) ?_
  obtain ⟨o1, e2, h⟩ := Option.bind_eq_some_iff.mp h
  refine r_si C S hl (k_X10_isSheet e2) b_sb_RX10_279 [.int v1] rfl [] rfl rfl (Nat.le_of_ble_eq_true rfl) ⟨Nat.le_of_ble_eq_true rfl, Nat.le_of_ble_eq_true rfl⟩ dX10_copy_1 (fun H locs S => ?_)
  refine lv_if_eq (tgt := 14) C.1 C.2.1 dX10_copy_4 (by decide) (fun q3 => ?_) (fun q3 => ?_)
  · replace h := (if_pos q3).symm.trans h
    refine lv_aload_n C.1 C.2.1 dX10_copy_14 rfl (lv_at hl 0 rfl) ?_
    refine r_ldc C (-1000000001) b_cn_RX10_94 dX10_copy_15 ?_
    obtain ⟨o4, e5, h⟩ := Option.bind_eq_some_iff.mp h
    refine r_vi C S hl o_0 cf_10 (k_X10_finding e5) b_vb_RX10_95 [.int (-1000000001)] rfl [] rfl rfl (Nat.le_of_ble_eq_true rfl) ⟨Nat.le_of_ble_eq_true rfl, Nat.le_of_ble_eq_true rfl⟩ dX10_copy_17 (fun H locs S => ?_)
    have h9 := Option.some.inj h
    subst h9
    exact r_iret C S hr hlocks dX10_copy_20
  · replace h := (if_neg q3).symm.trans h
    refine lv_iload_n C.1 C.2.1 dX10_copy_7 rfl (lv_at hl 3 rfl) ?_
    obtain ⟨o6, e7, h⟩ := Option.bind_eq_some_iff.mp h
    refine r_si C S hl (k_X10_isSheet e7) b_sb_RX10_279 [.int v3] rfl [] rfl rfl (Nat.le_of_ble_eq_true rfl) ⟨Nat.le_of_ble_eq_true rfl, Nat.le_of_ble_eq_true rfl⟩ dX10_copy_8 (fun H locs S => ?_)
    refine lv_if_ne (tgt := 21) C.1 C.2.1 dX10_copy_11 (by decide) (fun q8 => ?_) (fun q8 => ?_)
    · replace h := (if_neg q8).symm.trans h
      refine lv_aload_n C.1 C.2.1 dX10_copy_21 rfl (lv_at hl 0 rfl) ?_
      refine r_getr C S o_0 cf_10 12 rfl (by decide) b_fl_RX10_82 dX10_copy_22 ?_
      refine lv_iload_n C.1 C.2.1 dX10_copy_25 rfl (lv_at hl 1 rfl) ?_
      obtain ⟨o9, e10, h⟩ := Option.bind_eq_some_iff.mp h
      refine r_vi C S hl o_15 cf_6 (k_X6_isMissing e10) b_vb_RX10_289 [.int v1] rfl [] rfl rfl (Nat.le_of_ble_eq_true rfl) ⟨Nat.le_of_ble_eq_true rfl, Nat.le_of_ble_eq_true rfl⟩ dX10_copy_26 (fun H locs S => ?_)
      refine lv_if_ne (tgt := 43) C.1 C.2.1 dX10_copy_29 (by decide) (fun q11 => ?_) (fun q11 => ?_)
      · replace h := (if_neg q11).symm.trans h
        refine lv_aload_n C.1 C.2.1 dX10_copy_43 rfl (lv_at hl 0 rfl) ?_
        refine r_ldcw C (-1000000006) b_cn_RX10_292 dX10_copy_44 ?_
        obtain ⟨o12, e13, h⟩ := Option.bind_eq_some_iff.mp h
        refine r_vi C S hl o_0 cf_10 (k_X10_finding e13) b_vb_RX10_95 [.int (-1000000006)] rfl [] rfl rfl (Nat.le_of_ble_eq_true rfl) ⟨Nat.le_of_ble_eq_true rfl, Nat.le_of_ble_eq_true rfl⟩ dX10_copy_47 (fun H locs S => ?_)
        have h9 := Option.some.inj h
        subst h9
        exact r_iret C S hr hlocks dX10_copy_50
      · replace h := (if_pos q11).symm.trans h
        refine lv_aload_n C.1 C.2.1 dX10_copy_32 rfl (lv_at hl 0 rfl) ?_
        refine r_getr C S o_0 cf_10 12 rfl (by decide) b_fl_RX10_82 dX10_copy_33 ?_
        refine lv_iload_n C.1 C.2.1 dX10_copy_36 rfl (lv_at hl 3 rfl) ?_
        obtain ⟨o14, e15, h⟩ := Option.bind_eq_some_iff.mp h
        refine r_vi C S hl o_15 cf_6 (k_X6_isMissing e15) b_vb_RX10_289 [.int v3] rfl [] rfl rfl (Nat.le_of_ble_eq_true rfl) ⟨Nat.le_of_ble_eq_true rfl, Nat.le_of_ble_eq_true rfl⟩ dX10_copy_37 (fun H locs S => ?_)
        refine lv_if_eq (tgt := 51) C.1 C.2.1 dX10_copy_40 (by decide) (fun q16 => ?_) (fun q16 => ?_)
        · replace h := (if_pos q16).symm.trans h
          refine lv_aload_n C.1 C.2.1 dX10_copy_51 rfl (lv_at hl 0 rfl) ?_
          refine r_getr C S o_0 cf_10 12 rfl (by decide) b_fl_RX10_82 dX10_copy_52 ?_
          refine r_getr C S o_15 cf_6 1 rfl (by decide) b_fl_RX10_297 dX10_copy_55 ?_
          refine lv_iload_n C.1 C.2.1 dX10_copy_58 rfl (lv_at hl 1 rfl) ?_
          obtain ⟨g17, h⟩ := gd_some h
          refine r_iald C S a_74 g17 dX10_copy_59 ?_
          refine lv_aload_n C.1 C.2.1 dX10_copy_60 rfl (lv_at hl 0 rfl) ?_
          refine r_getr C S o_0 cf_10 12 rfl (by decide) b_fl_RX10_82 dX10_copy_61 ?_
          refine r_getr C S o_15 cf_6 1 rfl (by decide) b_fl_RX10_297 dX10_copy_64 ?_
          refine lv_iload_n C.1 C.2.1 dX10_copy_67 rfl (lv_at hl 3 rfl) ?_
          obtain ⟨g18, h⟩ := gd_some h
          refine r_iald C S a_74 g18 dX10_copy_68 ?_
          refine lv_icmp_eq (tgt := 79) C.1 C.2.1 dX10_copy_69 (by decide) (fun q19 => ?_) (fun q19 => ?_)
          · replace h := (if_pos q19).symm.trans h
            refine lv_aload_n C.1 C.2.1 dX10_copy_79 rfl (lv_at hl 0 rfl) ?_
            refine r_getr C S o_0 cf_10 12 rfl (by decide) b_fl_RX10_82 dX10_copy_80 ?_
            refine lv_iload_n C.1 C.2.1 dX10_copy_83 rfl (lv_at hl 1 rfl) ?_
            refine lv_iload_n C.1 C.2.1 dX10_copy_84 rfl (lv_at hl 2 rfl) ?_
            refine lv_iload C.1 C.2.1 dX10_copy_85 (lv_at hl 5 rfl) ?_
            obtain ⟨o20, e21, h⟩ := Option.bind_eq_some_iff.mp h
            refine r_vi C S hl o_15 cf_6 (k_X6_hasPart e21) b_vb_RX10_304 [.int v1, .int v2, .int v5] rfl [] rfl rfl (Nat.le_of_ble_eq_true rfl) ⟨Nat.le_of_ble_eq_true rfl, Nat.le_of_ble_eq_true rfl⟩ dX10_copy_87 (fun H locs S => ?_)
            refine lv_if_eq (tgt := 108) C.1 C.2.1 dX10_copy_90 (by decide) (fun q22 => ?_) (fun q22 => ?_)
            · replace h := (if_pos q22).symm.trans h
              refine lv_aload_n C.1 C.2.1 dX10_copy_108 rfl (lv_at hl 0 rfl) ?_
              refine r_ldc C (-1000000001) b_cn_RX10_94 dX10_copy_109 ?_
              obtain ⟨o23, e24, h⟩ := Option.bind_eq_some_iff.mp h
              refine r_vi C S hl o_0 cf_10 (k_X10_finding e24) b_vb_RX10_95 [.int (-1000000001)] rfl [] rfl rfl (Nat.le_of_ble_eq_true rfl) ⟨Nat.le_of_ble_eq_true rfl, Nat.le_of_ble_eq_true rfl⟩ dX10_copy_111 (fun H locs S => ?_)
              have h9 := Option.some.inj h
              subst h9
              exact r_iret C S hr hlocks dX10_copy_114
            · replace h := (if_neg q22).symm.trans h
              refine lv_aload_n C.1 C.2.1 dX10_copy_93 rfl (lv_at hl 0 rfl) ?_
              refine r_getr C S o_0 cf_10 12 rfl (by decide) b_fl_RX10_82 dX10_copy_94 ?_
              refine lv_iload_n C.1 C.2.1 dX10_copy_97 rfl (lv_at hl 3 rfl) ?_
              refine lv_iload C.1 C.2.1 dX10_copy_98 (lv_at hl 4 rfl) ?_
              refine lv_iload C.1 C.2.1 dX10_copy_100 (lv_at hl 5 rfl) ?_
              obtain ⟨o25, e26, h⟩ := Option.bind_eq_some_iff.mp h
              refine r_vi C S hl o_15 cf_6 (k_X6_hasPart e26) b_vb_RX10_304 [.int v3, .int v4, .int v5] rfl [] rfl rfl (Nat.le_of_ble_eq_true rfl) ⟨Nat.le_of_ble_eq_true rfl, Nat.le_of_ble_eq_true rfl⟩ dX10_copy_102 (fun H locs S => ?_)
              refine lv_if_ne (tgt := 115) C.1 C.2.1 dX10_copy_105 (by decide) (fun q27 => ?_) (fun q27 => ?_)
              · replace h := (if_neg q27).symm.trans h
                refine lv_aload_n C.1 C.2.1 dX10_copy_115 rfl (lv_at hl 0 rfl) ?_
                refine r_getr C S o_0 cf_10 12 rfl (by decide) b_fl_RX10_82 dX10_copy_116 ?_
                refine r_getr C S o_15 cf_6 0 rfl (by decide) b_fl_RX10_293 dX10_copy_119 ?_
                refine lv_iload_n C.1 C.2.1 dX10_copy_122 rfl (lv_at hl 1 rfl) ?_
                obtain ⟨g28, h⟩ := gd_some h
                refine r_aaldJ C S a_69 g28 dX10_copy_123 ?_
                refine lv_iload_n C.1 C.2.1 dX10_copy_124 rfl (lv_at hl 2 rfl) ?_
                refine lv_aload_n C.1 C.2.1 dX10_copy_125 rfl (lv_at hl 0 rfl) ?_
                refine r_getr C S o_0 cf_10 12 rfl (by decide) b_fl_RX10_82 dX10_copy_126 ?_
                refine r_getr C S o_15 cf_6 0 rfl (by decide) b_fl_RX10_293 dX10_copy_129 ?_
                refine lv_iload_n C.1 C.2.1 dX10_copy_132 rfl (lv_at hl 3 rfl) ?_
                obtain ⟨g29, h⟩ := gd_some h
                refine r_aaldJ C S a_69 g29 dX10_copy_133 ?_
                refine lv_iload C.1 C.2.1 dX10_copy_134 (lv_at hl 4 rfl) ?_
                refine lv_iload C.1 C.2.1 dX10_copy_136 (lv_at hl 5 rfl) ?_
                obtain ⟨g30, h⟩ := gd_some h
                refine r_acopy C S hl (a_J (inB_lt g28)) (a_J (inB_lt g29)) g30 b_ac_RX10_307 (by decide) (Nat.le_of_ble_eq_true rfl) dX10_copy_138 (fun H locs S => ?_)
                obtain ⟨w31, h, S⟩ := lw_S (P := fun y => St D ad ca s y H locs) h S
                refine lv_iload C.1 C.2.1 dX10_copy_141 (lv_at hl 5 rfl) ?_
                have h9 := Option.some.inj h
                subst h9
                exact r_iret C S hr hlocks dX10_copy_143
              · replace h := (if_pos q27).symm.trans h
                refine lv_aload_n C.1 C.2.1 dX10_copy_108 rfl (lv_at hl 0 rfl) ?_
                refine r_ldc C (-1000000001) b_cn_RX10_94 dX10_copy_109 ?_
                obtain ⟨o32, e33, h⟩ := Option.bind_eq_some_iff.mp h
                refine r_vi C S hl o_0 cf_10 (k_X10_finding e33) b_vb_RX10_95 [.int (-1000000001)] rfl [] rfl rfl (Nat.le_of_ble_eq_true rfl) ⟨Nat.le_of_ble_eq_true rfl, Nat.le_of_ble_eq_true rfl⟩ dX10_copy_111 (fun H locs S => ?_)
                have h9 := Option.some.inj h
                subst h9
                exact r_iret C S hr hlocks dX10_copy_114
          · replace h := (if_neg q19).symm.trans h
            refine lv_aload_n C.1 C.2.1 dX10_copy_72 rfl (lv_at hl 0 rfl) ?_
            refine r_ldc C (-1000000003) b_cn_RX10_173 dX10_copy_73 ?_
            obtain ⟨o34, e35, h⟩ := Option.bind_eq_some_iff.mp h
            refine r_vi C S hl o_0 cf_10 (k_X10_finding e35) b_vb_RX10_95 [.int (-1000000003)] rfl [] rfl rfl (Nat.le_of_ble_eq_true rfl) ⟨Nat.le_of_ble_eq_true rfl, Nat.le_of_ble_eq_true rfl⟩ dX10_copy_75 (fun H locs S => ?_)
            have h9 := Option.some.inj h
            subst h9
            exact r_iret C S hr hlocks dX10_copy_78
        · replace h := (if_neg q16).symm.trans h
          refine lv_aload_n C.1 C.2.1 dX10_copy_43 rfl (lv_at hl 0 rfl) ?_
          refine r_ldcw C (-1000000006) b_cn_RX10_292 dX10_copy_44 ?_
          obtain ⟨o36, e37, h⟩ := Option.bind_eq_some_iff.mp h
          refine r_vi C S hl o_0 cf_10 (k_X10_finding e37) b_vb_RX10_95 [.int (-1000000006)] rfl [] rfl rfl (Nat.le_of_ble_eq_true rfl) ⟨Nat.le_of_ble_eq_true rfl, Nat.le_of_ble_eq_true rfl⟩ dX10_copy_47 (fun H locs S => ?_)
          have h9 := Option.some.inj h
          subst h9
          exact r_iret C S hr hlocks dX10_copy_50
    · replace h := (if_pos q8).symm.trans h
      refine lv_aload_n C.1 C.2.1 dX10_copy_14 rfl (lv_at hl 0 rfl) ?_
      refine r_ldc C (-1000000001) b_cn_RX10_94 dX10_copy_15 ?_
      obtain ⟨o38, e39, h⟩ := Option.bind_eq_some_iff.mp h
      refine r_vi C S hl o_0 cf_10 (k_X10_finding e39) b_vb_RX10_95 [.int (-1000000001)] rfl [] rfl rfl (Nat.le_of_ble_eq_true rfl) ⟨Nat.le_of_ble_eq_true rfl, Nat.le_of_ble_eq_true rfl⟩ dX10_copy_17 (fun H locs S => ?_)
      have h9 := Option.some.inj h
      subst h9
      exact r_iret C S hr hlocks dX10_copy_20
set_option maxHeartbeats 4000000 in
set_option maxRecDepth 100000 in
theorem k_X10_weather_L37 {p : Program} {l : Launch} {e : Env} {s : State} {m : MethodId} {args : Array Value} {below : List Frame} {meth : Method} {c : Code} {D : va_G} {ad sx : Nat → Nat} {ca : Nat → ClassId} (C : Cx D ad sx ca p s m c args RX10 cX10_weather 6) {Q : State → Prop} {v1 : Int32}  : ∀ (n9 : Nat) (z : Int32 × Int32 × Wd) (o : Int32 × Int32 × Wd), lp (f_X10_weather_L37 v1) n9 z = some o → (∀ (ls : Array Slot) (H : Heap) (locs : List Loc), lv_has ls 6 [(2, .int o.1)] → St D ad ca s o.2.2 H locs → W p l e (RM 4 91) s m args below meth c H locs 0 0 Q (F0 m 135 ls [])) → (∀ (ls : Array Slot) (H : Heap) (locs : List Loc), lv_has ls 6 [(0, .ref (ad 0)), (1, .int v1), (2, .int z.1), (3, .int z.2.1)] → St D ad ca s z.2.2 H locs → W p l e (RM 4 91) s m args below meth c H locs 0 0 Q (F0 m 37 ls [])) := by
  refine lp_W (HW := fun (z : Int32 × Int32 × Wd) => ∀ (ls : Array Slot) (H : Heap) (locs : List Loc), lv_has ls 6 [(0, .ref (ad 0)), (1, .int v1), (2, .int z.1), (3, .int z.2.1)] → St D ad ca s z.2.2 H locs → W p l e (RM 4 91) s m args below meth c H locs 0 0 Q (F0 m 37 ls [])) (XW := fun (o : Int32 × Int32 × Wd) => ∀ (ls : Array Slot) (H : Heap) (locs : List Loc), lv_has ls 6 [(2, .int o.1)] → St D ad ca s o.2.2 H locs → W p l e (RM 4 91) s m args below meth c H locs 0 0 Q (F0 m 135 ls [])) ?_
  intro z x h hN hX ls H locs hl S
  unfold f_X10_weather_L37 at h
  refine lv_iload_n C.1 C.2.1 dX10_weather_37 rfl (lv_at hl 3 rfl) ?_
  refine lv_aload_n C.1 C.2.1 dX10_weather_38 rfl (lv_at hl 0 rfl) ?_
  refine r_getr C S o_0 cf_10 12 rfl (by decide) b_fl_RX10_82 dX10_weather_39 ?_
  refine r_getr C S o_15 cf_6 2 rfl (by decide) b_fl_RX10_287 dX10_weather_42 ?_
  refine lv_iload_n C.1 C.2.1 dX10_weather_45 rfl (lv_at hl 1 rfl) ?_
  obtain ⟨g7, h⟩ := gd_some h
  refine r_iald C S a_75 g7 dX10_weather_46 ?_
  refine lv_icmp_ge (tgt := 135) C.1 C.2.1 dX10_weather_47 (by decide) (fun q8 => ?_) (fun q8 => ?_)
  · replace h := (if_pos q8).symm.trans h
    exact hX _ (Option.some.inj h).symm _ _ _ (lv_sub hl [2] rfl) S
  · replace h := (if_neg q8).symm.trans h
    refine lv_aload_n C.1 C.2.1 dX10_weather_50 rfl (lv_at hl 0 rfl) ?_
    refine r_getr C S o_0 cf_10 3 rfl (by decide) b_fl_RX10_27 dX10_weather_51 ?_
    refine r_geti C S o_3 cf_0 3 rfl (by decide) b_fl_RX10_184 dX10_weather_54 ?_
    refine lv_sipush (v := 2000) C.1 C.2.1 dX10_weather_57 (by decide) ?_
    refine lv_icmp_ge (tgt := 135) C.1 C.2.1 dX10_weather_60 (by decide) (fun q9 => ?_) (fun q9 => ?_)
    · replace h := (if_pos q9).symm.trans h
      exact hX _ (Option.some.inj h).symm _ _ _ (lv_sub hl [2] rfl) S
    · replace h := (if_neg q9).symm.trans h
      refine lv_aload_n C.1 C.2.1 dX10_weather_63 rfl (lv_at hl 0 rfl) ?_
      refine r_getr C S o_0 cf_10 12 rfl (by decide) b_fl_RX10_82 dX10_weather_64 ?_
      refine r_getr C S o_15 cf_6 0 rfl (by decide) b_fl_RX10_293 dX10_weather_67 ?_
      refine lv_iload_n C.1 C.2.1 dX10_weather_70 rfl (lv_at hl 1 rfl) ?_
      obtain ⟨g10, h⟩ := gd_some h
      refine r_aaldJ C S a_69 g10 dX10_weather_71 ?_
      refine lv_iload_n C.1 C.2.1 dX10_weather_72 rfl (lv_at hl 3 rfl) ?_
      obtain ⟨g11, h⟩ := gd_some h
      refine r_lald C S (a_J (inB_lt g10)) g11 dX10_weather_73 ?_
      refine lv_lstore (lv' := [(4, .long (z.2.2.2 (70 + v1.toNatClampNeg) z.2.1.toNatClampNeg)), (0, .ref (ad 0)), (1, .int v1), (2, .int z.1), (3, .int z.2.1)]) C.1 C.2.1 dX10_weather_74 hl (by decide) rfl (fun ls hl => ?_)
      refine lv_lload C.1 C.2.1 dX10_weather_76 (lv_at hl 0 rfl) ?_
      refine r_ldc2 C (-300) b_cl_RX10_313 dX10_weather_78 ?_
      refine W.lcmp C.1 C.2.1 dX10_weather_81 ?_
      refine lv_if_lt (tgt := 129) C.1 C.2.1 dX10_weather_82 (by decide) (fun q12 => ?_) (fun q12 => ?_)
      · replace h := (if_pos q12).symm.trans h
        refine lv_iinc (v := z.2.1 + 1) (lv' := [(3, .int (z.2.1 + 1)), (4, .long (z.2.2.2 (70 + v1.toNatClampNeg) z.2.1.toNatClampNeg)), (0, .ref (ad 0)), (1, .int v1), (2, .int z.1)]) C.1 C.2.1 dX10_weather_129 hl (k := 4) rfl rfl (by decide) rfl (fun ls hl => ?_)
        refine lv_goto (tgt := 37) C.1 C.2.1 dX10_weather_132 (by decide) ?_
        exact hN _ (Option.some.inj h).symm _ _ _ (lv_sub hl [2, 3, 4, 0] rfl) S
      · replace h := (if_neg q12).symm.trans h
        refine lv_lload C.1 C.2.1 dX10_weather_85 (lv_at hl 0 rfl) ?_
        refine r_ldc2 C 400 b_cl_RX10_315 dX10_weather_87 ?_
        refine W.lcmp C.1 C.2.1 dX10_weather_90 ?_
        refine lv_if_gt (tgt := 129) C.1 C.2.1 dX10_weather_91 (by decide) (fun q13 => ?_) (fun q13 => ?_)
        · replace h := (if_pos q13).symm.trans h
          refine lv_iinc (v := z.2.1 + 1) (lv' := [(3, .int (z.2.1 + 1)), (4, .long (z.2.2.2 (70 + v1.toNatClampNeg) z.2.1.toNatClampNeg)), (0, .ref (ad 0)), (1, .int v1), (2, .int z.1)]) C.1 C.2.1 dX10_weather_129 hl (k := 4) rfl rfl (by decide) rfl (fun ls hl => ?_)
          refine lv_goto (tgt := 37) C.1 C.2.1 dX10_weather_132 (by decide) ?_
          exact hN _ (Option.some.inj h).symm _ _ _ (lv_sub hl [2, 3, 4, 0] rfl) S
        · replace h := (if_neg q13).symm.trans h
          refine lv_aload_n C.1 C.2.1 dX10_weather_94 rfl (lv_at hl 1 rfl) ?_
          refine r_getr C S o_0 cf_10 3 rfl (by decide) b_fl_RX10_27 dX10_weather_95 ?_
          refine lv_lload C.1 C.2.1 dX10_weather_98 (lv_at hl 0 rfl) ?_
          refine lv_l2i C.1 C.2.1 dX10_weather_100 rfl ?_
          refine r_put C S o_3 cf_0 4 rfl (by decide) rfl (ni _) b_fl_RX10_174 dX10_weather_101 (fun H locs S => ?_)
          obtain ⟨w14, h, S⟩ := lw_S (P := fun y => St D ad ca s y H locs) h S
          refine lv_aload_n C.1 C.2.1 dX10_weather_104 rfl (lv_at hl 1 rfl) ?_
          refine r_getr C S o_0 cf_10 10 rfl (by decide) b_fl_RX10_66 dX10_weather_105 ?_
          refine lv_aload_n C.1 C.2.1 dX10_weather_108 rfl (lv_at hl 1 rfl) ?_
          refine r_getr C S o_0 cf_10 3 rfl (by decide) b_fl_RX10_27 dX10_weather_109 ?_
          obtain ⟨o15, e16, h⟩ := Option.bind_eq_some_iff.mp h
          refine r_vv C S hl o_13 cf_2 (k_X2_begin e16) b_vb_RX10_187 [.ref (ad 3)] rfl [] rfl rfl (Nat.le_of_ble_eq_true rfl) ⟨Nat.le_of_ble_eq_true rfl, Nat.le_of_ble_eq_true rfl⟩ dX10_weather_112 (fun H locs S => ?_)
          refine lv_aload_n C.1 C.2.1 dX10_weather_115 rfl (lv_at hl 1 rfl) ?_
          refine r_getr C S o_0 cf_10 3 rfl (by decide) b_fl_RX10_27 dX10_weather_116 ?_
          refine lv_aload_n C.1 C.2.1 dX10_weather_119 rfl (lv_at hl 1 rfl) ?_
          refine r_getr C S o_0 cf_10 10 rfl (by decide) b_fl_RX10_66 dX10_weather_120 ?_
          obtain ⟨o17, e18, h⟩ := Option.bind_eq_some_iff.mp h
          refine r_vv C S hl o_3 cf_0 (k_X0_live e18) b_vb_RX10_191 [.ref (ad 13)] rfl [] rfl rfl (Nat.le_of_ble_eq_true rfl) ⟨Nat.le_of_ble_eq_true rfl, Nat.le_of_ble_eq_true rfl⟩ dX10_weather_123 (fun H locs S => ?_)
          refine lv_iinc (v := z.1 + 1) (lv' := [(2, .int (z.1 + 1)), (4, .long (z.2.2.2 (70 + v1.toNatClampNeg) z.2.1.toNatClampNeg)), (0, .ref (ad 0)), (1, .int v1), (3, .int z.2.1)]) C.1 C.2.1 dX10_weather_126 hl (k := 3) rfl rfl (by decide) rfl (fun ls hl => ?_)
          refine lv_iinc (v := z.2.1 + 1) (lv' := [(3, .int (z.2.1 + 1)), (2, .int (z.1 + 1)), (4, .long (z.2.2.2 (70 + v1.toNatClampNeg) z.2.1.toNatClampNeg)), (0, .ref (ad 0)), (1, .int v1)]) C.1 C.2.1 dX10_weather_129 hl (k := 4) rfl rfl (by decide) rfl (fun ls hl => ?_)
          refine lv_goto (tgt := 37) C.1 C.2.1 dX10_weather_132 (by decide) ?_
          exact hN _ (Option.some.inj h).symm _ _ _ (lv_sub hl [3, 4, 1, 0] rfl) S
set_option maxHeartbeats 4000000 in
set_option maxRecDepth 100000 in
theorem k_X10_weather {v1 : Int32}  {w : Wd} {rv : Int32 × Wd} (h : f_X10_weather v1 w = some rv) : CI yX10_weather cX10_weather 6 .int 4 91 (fun ad => [.ref (ad 0), .int v1]) w rv.1 rv.2 := by
  refine CI.of (by decide) ?_
  intro l D ad sx ca p e s m below meth c C S hr hlocks
  have hl := lv_entry ([.ref (ad 0), .int v1]) (n := 6) (Nat.le_of_ble_eq_true rfl)
  rw [lg_entry_eq]
  generalize (lg_sl ([.ref (ad 0), .int v1]) ++ List.replicate (6 - (lg_sl ([.ref (ad 0), .int v1])).length) Slot.unset).toArray = ls at hl ⊢
  have hl : lv_has ls 6 [(0, .ref (ad 0)), (1, .int v1)] := hl
  generalize ha9 : ([.ref (ad 0), .int v1] : List Value).toArray = args at C ⊢
  generalize s.heap = H at S ⊢
  generalize ([] : List Loc) = locs at S ⊢
  unfold f_X10_weather at h
  refine lv_iload_n C.1 C.2.1 dX10_weather_0 rfl (lv_at hl 1 rfl) ?_
  obtain ⟨o1, e2, h⟩ := Option.bind_eq_some_iff.mp h
  refine r_si C S hl (k_X10_isSheet e2) b_sb_RX10_279 [.int v1] rfl [] rfl rfl (Nat.le_of_ble_eq_true rfl) ⟨Nat.le_of_ble_eq_true rfl, Nat.le_of_ble_eq_true rfl⟩ dX10_weather_1 (fun H locs S => ?_)
  refine lv_if_ne (tgt := 14) C.1 C.2.1 dX10_weather_4 (by decide) (fun q3 => ?_) (fun q3 => ?_)
  · replace h := (if_neg q3).symm.trans h
    refine lv_aload_n C.1 C.2.1 dX10_weather_14 rfl (lv_at hl 0 rfl) ?_
    refine r_getr C S o_0 cf_10 12 rfl (by decide) b_fl_RX10_82 dX10_weather_15 ?_
    refine lv_iload_n C.1 C.2.1 dX10_weather_18 rfl (lv_at hl 1 rfl) ?_
    obtain ⟨o4, e5, h⟩ := Option.bind_eq_some_iff.mp h
    refine r_vi C S hl o_15 cf_6 (k_X6_isMissing e5) b_vb_RX10_289 [.int v1] rfl [] rfl rfl (Nat.le_of_ble_eq_true rfl) ⟨Nat.le_of_ble_eq_true rfl, Nat.le_of_ble_eq_true rfl⟩ dX10_weather_19 (fun H locs S => ?_)
    refine lv_if_eq (tgt := 33) C.1 C.2.1 dX10_weather_22 (by decide) (fun q6 => ?_) (fun q6 => ?_)
    · replace h := (if_pos q6).symm.trans h
      refine lv_iconst (v := 0) C.1 C.2.1 dX10_weather_33 (by decide) ?_
      refine lv_istore_n (lv' := [(2, .int 0), (0, .ref (ad 0)), (1, .int v1)]) C.1 C.2.1 dX10_weather_34 rfl hl (by decide) rfl (fun ls hl => ?_)
      refine lv_iconst (v := 0) C.1 C.2.1 dX10_weather_35 (by decide) ?_
      refine lv_istore_n (lv' := [(3, .int 0), (2, .int 0), (0, .ref (ad 0)), (1, .int v1)]) C.1 C.2.1 dX10_weather_36 rfl hl (by decide) rfl (fun ls hl => ?_)
      obtain ⟨o19, e20, h⟩ := Option.bind_eq_some_iff.mp h
      refine k_X10_weather_L37 C  FU _ _ e20 (fun ls H locs hl S => ?_) ls H locs (lv_sub hl [2, 3, 1, 0] rfl) S
      refine lv_iload_n C.1 C.2.1 dX10_weather_135 rfl (lv_at hl 0 rfl) ?_
      have h9 := Option.some.inj h
      subst h9
      exact r_iret C S hr hlocks dX10_weather_136
    · replace h := (if_neg q6).symm.trans h
      refine lv_aload_n C.1 C.2.1 dX10_weather_25 rfl (lv_at hl 0 rfl) ?_
      refine r_ldcw C (-1000000006) b_cn_RX10_292 dX10_weather_26 ?_
      obtain ⟨o21, e22, h⟩ := Option.bind_eq_some_iff.mp h
      refine r_vi C S hl o_0 cf_10 (k_X10_finding e22) b_vb_RX10_95 [.int (-1000000006)] rfl [] rfl rfl (Nat.le_of_ble_eq_true rfl) ⟨Nat.le_of_ble_eq_true rfl, Nat.le_of_ble_eq_true rfl⟩ dX10_weather_29 (fun H locs S => ?_)
      have h9 := Option.some.inj h
      subst h9
      exact r_iret C S hr hlocks dX10_weather_32
  · replace h := (if_pos q3).symm.trans h
    refine lv_aload_n C.1 C.2.1 dX10_weather_7 rfl (lv_at hl 0 rfl) ?_
    refine r_ldc C (-1000000001) b_cn_RX10_94 dX10_weather_8 ?_
    obtain ⟨o23, e24, h⟩ := Option.bind_eq_some_iff.mp h
    refine r_vi C S hl o_0 cf_10 (k_X10_finding e24) b_vb_RX10_95 [.int (-1000000001)] rfl [] rfl rfl (Nat.le_of_ble_eq_true rfl) ⟨Nat.le_of_ble_eq_true rfl, Nat.le_of_ble_eq_true rfl⟩ dX10_weather_10 (fun H locs S => ?_)
    have h9 := Option.some.inj h
    subst h9
    exact r_iret C S hr hlocks dX10_weather_13
set_option maxHeartbeats 4000000 in
set_option maxRecDepth 100000 in
theorem k_X10_read_L35 {p : Program} {l : Launch} {e : Env} {s : State} {m : MethodId} {args : Array Value} {below : List Frame} {meth : Method} {c : Code} {D : va_G} {ad sx : Nat → Nat} {ca : Nat → ClassId} (C : Cx D ad sx ca p s m c args RX10 cX10_read 3) (hr : meth.sig.returnType = (some .int)) (hlocks : meth.locks = false) {rv : Int32 × Wd} {w : Wd} {v1 : Int32}  : ∀ (n9 : Nat) (z : Int32) (o : (Int32) ⊕ (Int32 × Wd)), lp (f_X10_read_L35 v1 w) n9 z = some o → ((∀ x, o = .inl x → ∀ (ls : Array Slot) (H : Heap) (locs : List Loc), lv_has ls 3 [] → St D ad ca s w H locs → W p l e (RM 2 44) s m args below meth c H locs 0 0 (MQ below (Qi D ad ca rv.1 rv.2) args s 0 0 (Aad ad)) (F0 m 97 ls [])) ∧ ∀ y, o = .inr y → y = rv) → (∀ (ls : Array Slot) (H : Heap) (locs : List Loc), lv_has ls 3 [(0, .ref (ad 0)), (1, .int v1), (2, .int z)] → St D ad ca s w H locs → W p l e (RM 2 44) s m args below meth c H locs 0 0 (MQ below (Qi D ad ca rv.1 rv.2) args s 0 0 (Aad ad)) (F0 m 35 ls [])) := by
  refine lp_W (HW := fun (z : Int32) => ∀ (ls : Array Slot) (H : Heap) (locs : List Loc), lv_has ls 3 [(0, .ref (ad 0)), (1, .int v1), (2, .int z)] → St D ad ca s w H locs → W p l e (RM 2 44) s m args below meth c H locs 0 0 (MQ below (Qi D ad ca rv.1 rv.2) args s 0 0 (Aad ad)) (F0 m 35 ls [])) (XW := fun (o : (Int32) ⊕ (Int32 × Wd)) => (∀ x, o = .inl x → ∀ (ls : Array Slot) (H : Heap) (locs : List Loc), lv_has ls 3 [] → St D ad ca s w H locs → W p l e (RM 2 44) s m args below meth c H locs 0 0 (MQ below (Qi D ad ca rv.1 rv.2) args s 0 0 (Aad ad)) (F0 m 97 ls [])) ∧ ∀ y, o = .inr y → y = rv) ?_
  intro z x h hN hX ls H locs hl S
  unfold f_X10_read_L35 at h
  refine lv_iload_n C.1 C.2.1 dX10_read_35 rfl (lv_at hl 2 rfl) ?_
  refine lv_aload_n C.1 C.2.1 dX10_read_36 rfl (lv_at hl 0 rfl) ?_
  refine r_getr C S o_0 cf_10 12 rfl (by decide) b_fl_RX10_82 dX10_read_37 ?_
  refine r_getr C S o_15 cf_6 2 rfl (by decide) b_fl_RX10_287 dX10_read_40 ?_
  refine lv_iload_n C.1 C.2.1 dX10_read_43 rfl (lv_at hl 1 rfl) ?_
  obtain ⟨g7, h⟩ := gd_some h
  refine r_iald C S a_75 g7 dX10_read_44 ?_
  refine lv_icmp_ge (tgt := 97) C.1 C.2.1 dX10_read_45 (by decide) (fun q8 => ?_) (fun q8 => ?_)
  · replace h := (if_pos q8).symm.trans h
    exact (hX _ (Option.some.inj h).symm).1 _ rfl _ _ _ (lv_sub hl [] rfl) S
  · replace h := (if_neg q8).symm.trans h
    refine lv_aload_n C.1 C.2.1 dX10_read_48 rfl (lv_at hl 0 rfl) ?_
    refine r_getr C S o_0 cf_10 3 rfl (by decide) b_fl_RX10_27 dX10_read_49 ?_
    refine lv_iload_n C.1 C.2.1 dX10_read_52 rfl (lv_at hl 2 rfl) ?_
    obtain ⟨o9, e10, h⟩ := Option.bind_eq_some_iff.mp h
    refine r_vi C S hl o_3 cf_0 (k_X0_has e10) b_vb_RX10_110 [.int z] rfl [] rfl rfl (Nat.le_of_ble_eq_true rfl) ⟨Nat.le_of_ble_eq_true rfl, Nat.le_of_ble_eq_true rfl⟩ dX10_read_53 (fun H locs S => ?_)
    refine lv_if_eq (tgt := 87) C.1 C.2.1 dX10_read_56 (by decide) (fun q11 => ?_) (fun q11 => ?_)
    · replace h := (if_pos q11).symm.trans h
      refine lv_iconst (v := 1) C.1 C.2.1 dX10_read_87 (by decide) ?_
      refine lv_iload_n C.1 C.2.1 dX10_read_88 rfl (lv_at hl 2 rfl) ?_
      refine lv_iadd C.1 C.2.1 dX10_read_89 ?_
      have h9 := (hX _ (Option.some.inj h).symm).2 _ rfl
      subst h9
      exact r_iret C S hr hlocks dX10_read_90
    · replace h := (if_neg q11).symm.trans h
      refine lv_aload_n C.1 C.2.1 dX10_read_59 rfl (lv_at hl 0 rfl) ?_
      refine r_getr C S o_0 cf_10 12 rfl (by decide) b_fl_RX10_82 dX10_read_60 ?_
      refine r_getr C S o_15 cf_6 0 rfl (by decide) b_fl_RX10_293 dX10_read_63 ?_
      refine lv_iload_n C.1 C.2.1 dX10_read_66 rfl (lv_at hl 1 rfl) ?_
      obtain ⟨g12, h⟩ := gd_some h
      refine r_aaldJ C S a_69 g12 dX10_read_67 ?_
      refine lv_iload_n C.1 C.2.1 dX10_read_68 rfl (lv_at hl 2 rfl) ?_
      obtain ⟨g13, h⟩ := gd_some h
      refine r_lald C S (a_J (inB_lt g12)) g13 dX10_read_69 ?_
      refine lv_aload_n C.1 C.2.1 dX10_read_70 rfl (lv_at hl 0 rfl) ?_
      refine r_getr C S o_0 cf_10 3 rfl (by decide) b_fl_RX10_27 dX10_read_71 ?_
      refine r_getr C S o_3 cf_0 0 rfl (by decide) b_fl_RX10_114 dX10_read_74 ?_
      refine lv_iload_n C.1 C.2.1 dX10_read_77 rfl (lv_at hl 2 rfl) ?_
      obtain ⟨g14, h⟩ := gd_some h
      refine r_aald C S a_17 g14 dX10_read_78 ?_
      refine r_geti C S (o_F1 (inB_lt g14)) cf_4 7 rfl (by decide) b_fl_RX10_145 dX10_read_79 ?_
      refine lv_i2l C.1 C.2.1 dX10_read_82 rfl ?_
      refine W.lcmp C.1 C.2.1 dX10_read_83 ?_
      refine lv_if_eq (tgt := 91) C.1 C.2.1 dX10_read_84 (by decide) (fun q15 => ?_) (fun q15 => ?_)
      · replace h := (if_pos q15).symm.trans h
        refine lv_iinc (v := z + 1) (lv' := [(2, .int (z + 1)), (0, .ref (ad 0)), (1, .int v1)]) C.1 C.2.1 dX10_read_91 hl (k := 2) rfl rfl (by decide) rfl (fun ls hl => ?_)
        refine lv_goto (tgt := 35) C.1 C.2.1 dX10_read_94 (by decide) ?_
        exact hN _ (Option.some.inj h).symm _ _ _ (lv_sub hl [1, 2, 0] rfl) S
      · replace h := (if_neg q15).symm.trans h
        refine lv_iconst (v := 1) C.1 C.2.1 dX10_read_87 (by decide) ?_
        refine lv_iload_n C.1 C.2.1 dX10_read_88 rfl (lv_at hl 2 rfl) ?_
        refine lv_iadd C.1 C.2.1 dX10_read_89 ?_
        have h9 := (hX _ (Option.some.inj h).symm).2 _ rfl
        subst h9
        exact r_iret C S hr hlocks dX10_read_90
set_option maxHeartbeats 4000000 in
set_option maxRecDepth 100000 in
theorem k_X10_read {v1 : Int32}  {w : Wd} {rv : Int32 × Wd} (h : f_X10_read v1 w = some rv) : CI yX10_read cX10_read 3 .int 2 44 (fun ad => [.ref (ad 0), .int v1]) w rv.1 rv.2 := by
  refine CI.of (by decide) ?_
  intro l D ad sx ca p e s m below meth c C S hr hlocks
  have hl := lv_entry ([.ref (ad 0), .int v1]) (n := 3) (Nat.le_of_ble_eq_true rfl)
  rw [lg_entry_eq]
  generalize (lg_sl ([.ref (ad 0), .int v1]) ++ List.replicate (3 - (lg_sl ([.ref (ad 0), .int v1])).length) Slot.unset).toArray = ls at hl ⊢
  have hl : lv_has ls 3 [(0, .ref (ad 0)), (1, .int v1)] := hl
  generalize ha9 : ([.ref (ad 0), .int v1] : List Value).toArray = args at C ⊢
  generalize s.heap = H at S ⊢
  generalize ([] : List Loc) = locs at S ⊢
  unfold f_X10_read at h
  refine lv_iload_n C.1 C.2.1 dX10_read_0 rfl (lv_at hl 1 rfl) ?_
  obtain ⟨o1, e2, h⟩ := Option.bind_eq_some_iff.mp h
  refine r_si C S hl (k_X10_isSheet e2) b_sb_RX10_279 [.int v1] rfl [] rfl rfl (Nat.le_of_ble_eq_true rfl) ⟨Nat.le_of_ble_eq_true rfl, Nat.le_of_ble_eq_true rfl⟩ dX10_read_1 (fun H locs S => ?_)
  refine lv_if_ne (tgt := 14) C.1 C.2.1 dX10_read_4 (by decide) (fun q3 => ?_) (fun q3 => ?_)
  · replace h := (if_neg q3).symm.trans h
    refine lv_aload_n C.1 C.2.1 dX10_read_14 rfl (lv_at hl 0 rfl) ?_
    refine r_getr C S o_0 cf_10 12 rfl (by decide) b_fl_RX10_82 dX10_read_15 ?_
    refine lv_iload_n C.1 C.2.1 dX10_read_18 rfl (lv_at hl 1 rfl) ?_
    obtain ⟨o4, e5, h⟩ := Option.bind_eq_some_iff.mp h
    refine r_vi C S hl o_15 cf_6 (k_X6_isMissing e5) b_vb_RX10_289 [.int v1] rfl [] rfl rfl (Nat.le_of_ble_eq_true rfl) ⟨Nat.le_of_ble_eq_true rfl, Nat.le_of_ble_eq_true rfl⟩ dX10_read_19 (fun H locs S => ?_)
    refine lv_if_eq (tgt := 33) C.1 C.2.1 dX10_read_22 (by decide) (fun q6 => ?_) (fun q6 => ?_)
    · replace h := (if_pos q6).symm.trans h
      refine lv_iconst (v := 0) C.1 C.2.1 dX10_read_33 (by decide) ?_
      refine lv_istore_n (lv' := [(2, .int 0), (0, .ref (ad 0)), (1, .int v1)]) C.1 C.2.1 dX10_read_34 rfl hl (by decide) rfl (fun ls hl => ?_)
      obtain ⟨o16, e17, h⟩ := Option.bind_eq_some_iff.mp h
      refine k_X10_read_L35 C hr hlocks  FU _ _ e17 ⟨fun x18 hx ls H locs hl S => ?_, fun y19 hy => ?_⟩ ls H locs (lv_sub hl [1, 2, 0] rfl) S
      · subst hx
        rw [sm_inl] at h
        refine lv_iconst (v := 0) C.1 C.2.1 dX10_read_97 (by decide) ?_
        have h9 := Option.some.inj h
        subst h9
        exact r_iret C S hr hlocks dX10_read_98
      · subst hy
        rw [sm_inr] at h
        exact Option.some.inj h
    · replace h := (if_neg q6).symm.trans h
      refine lv_aload_n C.1 C.2.1 dX10_read_25 rfl (lv_at hl 0 rfl) ?_
      refine r_ldcw C (-1000000006) b_cn_RX10_292 dX10_read_26 ?_
      obtain ⟨o20, e21, h⟩ := Option.bind_eq_some_iff.mp h
      refine r_vi C S hl o_0 cf_10 (k_X10_finding e21) b_vb_RX10_95 [.int (-1000000006)] rfl [] rfl rfl (Nat.le_of_ble_eq_true rfl) ⟨Nat.le_of_ble_eq_true rfl, Nat.le_of_ble_eq_true rfl⟩ dX10_read_29 (fun H locs S => ?_)
      have h9 := Option.some.inj h
      subst h9
      exact r_iret C S hr hlocks dX10_read_32
  · replace h := (if_pos q3).symm.trans h
    refine lv_aload_n C.1 C.2.1 dX10_read_7 rfl (lv_at hl 0 rfl) ?_
    refine r_ldc C (-1000000001) b_cn_RX10_94 dX10_read_8 ?_
    obtain ⟨o22, e23, h⟩ := Option.bind_eq_some_iff.mp h
    refine r_vi C S hl o_0 cf_10 (k_X10_finding e23) b_vb_RX10_95 [.int (-1000000001)] rfl [] rfl rfl (Nat.le_of_ble_eq_true rfl) ⟨Nat.le_of_ble_eq_true rfl, Nat.le_of_ble_eq_true rfl⟩ dX10_read_10 (fun H locs S => ?_)
    have h9 := Option.some.inj h
    subst h9
    exact r_iret C S hr hlocks dX10_read_13
set_option maxHeartbeats 4000000 in
set_option maxRecDepth 100000 in
theorem k_X4_become {t0 : Nat} {t1 : Nat} (ht0 : Fl t0) (ht1 : Fl t1) {w : Wd} {rv : Wd} (h : f_X4_become t0 t1 w = some rv) : CV yX4_become cX4_become 2 1 24 (fun ad => [.ref (ad t0), .ref (ad t1)]) w rv := by
  refine CV.of (by decide) ?_
  intro l D ad sx ca p e s m below meth c C S hr hlocks
  have hl := lv_entry ([.ref (ad t0), .ref (ad t1)]) (n := 2) (Nat.le_of_ble_eq_true rfl)
  rw [lg_entry_eq]
  generalize (lg_sl ([.ref (ad t0), .ref (ad t1)]) ++ List.replicate (2 - (lg_sl ([.ref (ad t0), .ref (ad t1)])).length) Slot.unset).toArray = ls at hl ⊢
  have hl : lv_has ls 2 [(0, .ref (ad t0)), (1, .ref (ad t1))] := hl
  generalize ha9 : ([.ref (ad t0), .ref (ad t1)] : List Value).toArray = args at C ⊢
  generalize s.heap = H at S ⊢
  generalize ([] : List Loc) = locs at S ⊢
  unfold f_X4_become at h
  refine lv_aload_n C.1 C.2.1 dX4_become_0 rfl (lv_at hl 0 rfl) ?_
  refine lv_aload_n C.1 C.2.1 dX4_become_1 rfl (lv_at hl 1 rfl) ?_
  refine r_geti C S ht1 cf_4 0 rfl (by decide) b_fl_RX4_9 dX4_become_2 ?_
  refine lv_aload_n C.1 C.2.1 dX4_become_5 rfl (lv_at hl 1 rfl) ?_
  refine r_geti C S ht1 cf_4 1 rfl (by decide) b_fl_RX4_15 dX4_become_6 ?_
  refine lv_aload_n C.1 C.2.1 dX4_become_9 rfl (lv_at hl 1 rfl) ?_
  refine r_geti C S ht1 cf_4 2 rfl (by decide) b_fl_RX4_18 dX4_become_10 ?_
  refine lv_aload_n C.1 C.2.1 dX4_become_13 rfl (lv_at hl 1 rfl) ?_
  refine r_geti C S ht1 cf_4 3 rfl (by decide) b_fl_RX4_21 dX4_become_14 ?_
  obtain ⟨o1, e2, h⟩ := Option.bind_eq_some_iff.mp h
  refine r_vv C S hl ht0 cf_4 (k_X4_becomeNew ht0 e2) b_vb_RX4_49 [.int (w.1 t1 0), .int (w.1 t1 1), .int (w.1 t1 2), .int (w.1 t1 3)] rfl [] rfl rfl (Nat.le_of_ble_eq_true rfl) ⟨Nat.le_of_ble_eq_true rfl, Nat.le_of_ble_eq_true rfl⟩ dX4_become_17 (fun H locs S => ?_)
  refine lv_aload_n C.1 C.2.1 dX4_become_20 rfl (lv_at hl 0 rfl) ?_
  refine lv_aload_n C.1 C.2.1 dX4_become_21 rfl (lv_at hl 1 rfl) ?_
  refine r_geti C S ht1 cf_4 4 rfl (by decide) b_fl_RX4_24 dX4_become_22 ?_
  refine r_put C S ht0 cf_4 4 rfl (by decide) rfl (ni _) b_fl_RX4_24 dX4_become_25 (fun H locs S => ?_)
  obtain ⟨w3, h, S⟩ := lw_S (P := fun y => St D ad ca s y H locs) h S
  refine lv_aload_n C.1 C.2.1 dX4_become_28 rfl (lv_at hl 0 rfl) ?_
  refine lv_aload_n C.1 C.2.1 dX4_become_29 rfl (lv_at hl 1 rfl) ?_
  refine r_geti C S ht1 cf_4 5 rfl (by decide) b_fl_RX4_27 dX4_become_30 ?_
  obtain ⟨g4, h⟩ := gd_some h
  refine r_put C S ht0 cf_4 5 rfl (by decide) rfl (zo_nar (zo_or g4)) b_fl_RX4_27 dX4_become_33 (fun H locs S => ?_)
  obtain ⟨w5, h, S⟩ := lw_S (P := fun y => St D ad ca s y H locs) h S
  refine lv_aload_n C.1 C.2.1 dX4_become_36 rfl (lv_at hl 0 rfl) ?_
  refine lv_aload_n C.1 C.2.1 dX4_become_37 rfl (lv_at hl 1 rfl) ?_
  refine r_geti C S ht1 cf_4 6 rfl (by decide) b_fl_RX4_31 dX4_become_38 ?_
  obtain ⟨g6, h⟩ := gd_some h
  refine r_put C S ht0 cf_4 6 rfl (by decide) rfl (zo_nar (zo_or g6)) b_fl_RX4_31 dX4_become_41 (fun H locs S => ?_)
  obtain ⟨w7, h, S⟩ := lw_S (P := fun y => St D ad ca s y H locs) h S
  refine lv_aload_n C.1 C.2.1 dX4_become_44 rfl (lv_at hl 0 rfl) ?_
  refine lv_aload_n C.1 C.2.1 dX4_become_45 rfl (lv_at hl 1 rfl) ?_
  refine r_geti C S ht1 cf_4 7 rfl (by decide) b_fl_RX4_34 dX4_become_46 ?_
  refine r_put C S ht0 cf_4 7 rfl (by decide) rfl (ni _) b_fl_RX4_34 dX4_become_49 (fun H locs S => ?_)
  obtain ⟨w8, h, S⟩ := lw_S (P := fun y => St D ad ca s y H locs) h S
  refine lv_aload_n C.1 C.2.1 dX4_become_52 rfl (lv_at hl 0 rfl) ?_
  refine lv_aload_n C.1 C.2.1 dX4_become_53 rfl (lv_at hl 1 rfl) ?_
  refine r_geti C S ht1 cf_4 8 rfl (by decide) b_fl_RX4_37 dX4_become_54 ?_
  refine r_put C S ht0 cf_4 8 rfl (by decide) rfl (ni _) b_fl_RX4_37 dX4_become_57 (fun H locs S => ?_)
  obtain ⟨w9, h, S⟩ := lw_S (P := fun y => St D ad ca s y H locs) h S
  refine lv_aload_n C.1 C.2.1 dX4_become_60 rfl (lv_at hl 0 rfl) ?_
  refine lv_aload_n C.1 C.2.1 dX4_become_61 rfl (lv_at hl 1 rfl) ?_
  refine r_geti C S ht1 cf_4 9 rfl (by decide) b_fl_RX4_40 dX4_become_62 ?_
  refine r_put C S ht0 cf_4 9 rfl (by decide) rfl (ni _) b_fl_RX4_40 dX4_become_65 (fun H locs S => ?_)
  obtain ⟨w10, h, S⟩ := lw_S (P := fun y => St D ad ca s y H locs) h S
  refine lv_aload_n C.1 C.2.1 dX4_become_68 rfl (lv_at hl 0 rfl) ?_
  refine lv_aload_n C.1 C.2.1 dX4_become_69 rfl (lv_at hl 1 rfl) ?_
  refine r_geti C S ht1 cf_4 10 rfl (by decide) b_fl_RX4_43 dX4_become_70 ?_
  refine r_put C S ht0 cf_4 10 rfl (by decide) rfl (ni _) b_fl_RX4_43 dX4_become_73 (fun H locs S => ?_)
  obtain ⟨w11, h, S⟩ := lw_S (P := fun y => St D ad ca s y H locs) h S
  refine lv_aload_n C.1 C.2.1 dX4_become_76 rfl (lv_at hl 0 rfl) ?_
  refine lv_aload_n C.1 C.2.1 dX4_become_77 rfl (lv_at hl 1 rfl) ?_
  refine r_geti C S ht1 cf_4 11 rfl (by decide) b_fl_RX4_46 dX4_become_78 ?_
  refine r_put C S ht0 cf_4 11 rfl (by decide) rfl (ni _) b_fl_RX4_46 dX4_become_81 (fun H locs S => ?_)
  obtain ⟨w12, h, S⟩ := lw_S (P := fun y => St D ad ca s y H locs) h S
  have h9 := Option.some.inj h
  subst h9
  exact r_vret C S hr hlocks dX4_become_84
set_option maxHeartbeats 4000000 in
set_option maxRecDepth 100000 in
theorem k_X0_become_L10 {p : Program} {l : Launch} {e : Env} {s : State} {m : MethodId} {args : Array Value} {below : List Frame} {meth : Method} {c : Code} {D : va_G} {ad sx : Nat → Nat} {ca : Nat → ClassId} (C : Cx D ad sx ca p s m c args RX0 cX0_become 3) {Q : State → Prop} {t0 : Nat} {t1 : Nat} (ht0 : Bk t0) (ht1 : Bk t1) : ∀ (n9 : Nat) (z : Int32 × Wd) (o : Int32 × Wd), lp (f_X0_become_L10 t0 t1) n9 z = some o → (∀ (ls : Array Slot) (H : Heap) (locs : List Loc), lv_has ls 3 [(0, .ref (ad t0)), (1, .ref (ad t1))] → St D ad ca s o.2 H locs → W p l e (RM 2 45) s m args below meth c H locs 0 0 Q (F0 m 37 ls [])) → (∀ (ls : Array Slot) (H : Heap) (locs : List Loc), lv_has ls 3 [(0, .ref (ad t0)), (1, .ref (ad t1)), (2, .int z.1)] → St D ad ca s z.2 H locs → W p l e (RM 2 45) s m args below meth c H locs 0 0 Q (F0 m 10 ls [])) := by
  refine lp_W (HW := fun (z : Int32 × Wd) => ∀ (ls : Array Slot) (H : Heap) (locs : List Loc), lv_has ls 3 [(0, .ref (ad t0)), (1, .ref (ad t1)), (2, .int z.1)] → St D ad ca s z.2 H locs → W p l e (RM 2 45) s m args below meth c H locs 0 0 Q (F0 m 10 ls [])) (XW := fun (o : Int32 × Wd) => ∀ (ls : Array Slot) (H : Heap) (locs : List Loc), lv_has ls 3 [(0, .ref (ad t0)), (1, .ref (ad t1))] → St D ad ca s o.2 H locs → W p l e (RM 2 45) s m args below meth c H locs 0 0 Q (F0 m 37 ls [])) ?_
  intro z x h hN hX ls H locs hl S
  unfold f_X0_become_L10 at h
  refine lv_iload_n C.1 C.2.1 dX0_become_10 rfl (lv_at hl 2 rfl) ?_
  refine lv_bipush (v := 12) C.1 C.2.1 dX0_become_11 (by decide) ?_
  refine lv_icmp_ge (tgt := 37) C.1 C.2.1 dX0_become_13 (by decide) (fun q2 => ?_) (fun q2 => ?_)
  · replace h := (if_pos q2).symm.trans h
    exact hX _ (Option.some.inj h).symm _ _ _ (lv_sub hl [0, 1] rfl) S
  · replace h := (if_neg q2).symm.trans h
    refine lv_aload_n C.1 C.2.1 dX0_become_16 rfl (lv_at hl 0 rfl) ?_
    refine r_getr C S ht0.1 cf_0 0 rfl (by decide) b_fl_RX0_11 dX0_become_17 ?_
    refine lv_iload_n C.1 C.2.1 dX0_become_20 rfl (lv_at hl 2 rfl) ?_
    obtain ⟨g3, h⟩ := gd_some h
    refine r_aald C S ht0.2.1 g3 dX0_become_21 ?_
    refine lv_aload_n C.1 C.2.1 dX0_become_22 rfl (lv_at hl 1 rfl) ?_
    refine r_getr C S ht1.1 cf_0 0 rfl (by decide) b_fl_RX0_11 dX0_become_23 ?_
    refine lv_iload_n C.1 C.2.1 dX0_become_26 rfl (lv_at hl 2 rfl) ?_
    obtain ⟨g4, h⟩ := gd_some h
    refine r_aald C S ht1.2.1 g4 dX0_become_27 ?_
    obtain ⟨o5, e6, h⟩ := Option.bind_eq_some_iff.mp h
    refine r_vv C S hl (ht0.2.2.1 _ (inB_lt g3)) cf_4 (k_X4_become (ht0.2.2.1 _ (inB_lt g3)) (ht1.2.2.1 _ (inB_lt g4)) e6) b_vb_RX0_38 [.ref (ad (rf (rf t1 0) 0 + z.1.toNatClampNeg))] rfl [] rfl rfl (Nat.le_of_ble_eq_true rfl) ⟨Nat.le_of_ble_eq_true rfl, Nat.le_of_ble_eq_true rfl⟩ dX0_become_28 (fun H locs S => ?_)
    refine lv_iinc (v := z.1 + 1) (lv' := [(2, .int (z.1 + 1)), (0, .ref (ad t0)), (1, .ref (ad t1))]) C.1 C.2.1 dX0_become_31 hl (k := 2) rfl rfl (by decide) rfl (fun ls hl => ?_)
    refine lv_goto (tgt := 10) C.1 C.2.1 dX0_become_34 (by decide) ?_
    exact hN _ (Option.some.inj h).symm _ _ _ (lv_sub hl [1, 2, 0] rfl) S
set_option maxHeartbeats 4000000 in
set_option maxRecDepth 100000 in
theorem k_X0_become_L39 {p : Program} {l : Launch} {e : Env} {s : State} {m : MethodId} {args : Array Value} {below : List Frame} {meth : Method} {c : Code} {D : va_G} {ad sx : Nat → Nat} {ca : Nat → ClassId} (C : Cx D ad sx ca p s m c args RX0 cX0_become 3) {Q : State → Prop} {t0 : Nat} {t1 : Nat} (ht0 : Bk t0) (ht1 : Bk t1) : ∀ (n9 : Nat) (z : Int32 × Wd) (o : Int32 × Wd), lp (f_X0_become_L39 t0 t1) n9 z = some o → (∀ (ls : Array Slot) (H : Heap) (locs : List Loc), lv_has ls 3 [(0, .ref (ad t0)), (1, .ref (ad t1))] → St D ad ca s o.2 H locs → W p l e (RM 2 45) s m args below meth c H locs 0 0 Q (F0 m 62 ls [])) → (∀ (ls : Array Slot) (H : Heap) (locs : List Loc), lv_has ls 3 [(0, .ref (ad t0)), (1, .ref (ad t1)), (2, .int z.1)] → St D ad ca s z.2 H locs → W p l e (RM 2 45) s m args below meth c H locs 0 0 Q (F0 m 39 ls [])) := by
  refine lp_W (HW := fun (z : Int32 × Wd) => ∀ (ls : Array Slot) (H : Heap) (locs : List Loc), lv_has ls 3 [(0, .ref (ad t0)), (1, .ref (ad t1)), (2, .int z.1)] → St D ad ca s z.2 H locs → W p l e (RM 2 45) s m args below meth c H locs 0 0 Q (F0 m 39 ls [])) (XW := fun (o : Int32 × Wd) => ∀ (ls : Array Slot) (H : Heap) (locs : List Loc), lv_has ls 3 [(0, .ref (ad t0)), (1, .ref (ad t1))] → St D ad ca s o.2 H locs → W p l e (RM 2 45) s m args below meth c H locs 0 0 Q (F0 m 62 ls [])) ?_
  intro z x h hN hX ls H locs hl S
  unfold f_X0_become_L39 at h
  refine lv_iload_n C.1 C.2.1 dX0_become_39 rfl (lv_at hl 2 rfl) ?_
  refine lv_iconst (v := 4) C.1 C.2.1 dX0_become_40 (by decide) ?_
  refine lv_icmp_ge (tgt := 62) C.1 C.2.1 dX0_become_41 (by decide) (fun q9 => ?_) (fun q9 => ?_)
  · replace h := (if_pos q9).symm.trans h
    exact hX _ (Option.some.inj h).symm _ _ _ (lv_sub hl [0, 1] rfl) S
  · replace h := (if_neg q9).symm.trans h
    refine lv_aload_n C.1 C.2.1 dX0_become_44 rfl (lv_at hl 0 rfl) ?_
    refine r_getr C S ht0.1 cf_0 2 rfl (by decide) b_fl_RX0_21 dX0_become_45 ?_
    refine lv_iload_n C.1 C.2.1 dX0_become_48 rfl (lv_at hl 2 rfl) ?_
    refine lv_aload_n C.1 C.2.1 dX0_become_49 rfl (lv_at hl 1 rfl) ?_
    refine r_getr C S ht1.1 cf_0 2 rfl (by decide) b_fl_RX0_21 dX0_become_50 ?_
    refine lv_iload_n C.1 C.2.1 dX0_become_53 rfl (lv_at hl 2 rfl) ?_
    obtain ⟨g10, h⟩ := gd_some h
    refine r_iald C S ht1.2.2.2 g10 dX0_become_54 ?_
    obtain ⟨g11, h⟩ := gd_some h
    refine r_iast C S ht0.2.2.2 g11 dX0_become_55 (fun H locs S => ?_)
    obtain ⟨w12, h, S⟩ := lw_S (P := fun y => St D ad ca s y H locs) h S
    refine lv_iinc (v := z.1 + 1) (lv' := [(2, .int (z.1 + 1)), (0, .ref (ad t0)), (1, .ref (ad t1))]) C.1 C.2.1 dX0_become_56 hl (k := 2) rfl rfl (by decide) rfl (fun ls hl => ?_)
    refine lv_goto (tgt := 39) C.1 C.2.1 dX0_become_59 (by decide) ?_
    exact hN _ (Option.some.inj h).symm _ _ _ (lv_sub hl [1, 2, 0] rfl) S
set_option maxHeartbeats 4000000 in
set_option maxRecDepth 100000 in
theorem k_X0_become {t0 : Nat} {t1 : Nat} (ht0 : Bk t0) (ht1 : Bk t1) {w : Wd} {rv : Wd} (h : f_X0_become t0 t1 w = some rv) : CV yX0_become cX0_become 3 2 45 (fun ad => [.ref (ad t0), .ref (ad t1)]) w rv := by
  refine CV.of (by decide) ?_
  intro l D ad sx ca p e s m below meth c C S hr hlocks
  have hl := lv_entry ([.ref (ad t0), .ref (ad t1)]) (n := 3) (Nat.le_of_ble_eq_true rfl)
  rw [lg_entry_eq]
  generalize (lg_sl ([.ref (ad t0), .ref (ad t1)]) ++ List.replicate (3 - (lg_sl ([.ref (ad t0), .ref (ad t1)])).length) Slot.unset).toArray = ls at hl ⊢
  have hl : lv_has ls 3 [(0, .ref (ad t0)), (1, .ref (ad t1))] := hl
  generalize ha9 : ([.ref (ad t0), .ref (ad t1)] : List Value).toArray = args at C ⊢
  generalize s.heap = H at S ⊢
  generalize ([] : List Loc) = locs at S ⊢
  unfold f_X0_become at h
  refine lv_aload_n C.1 C.2.1 dX0_become_0 rfl (lv_at hl 0 rfl) ?_
  refine lv_aload_n C.1 C.2.1 dX0_become_1 rfl (lv_at hl 1 rfl) ?_
  refine r_geti C S ht1.1 cf_0 1 rfl (by decide) b_fl_RX0_17 dX0_become_2 ?_
  refine r_put C S ht0.1 cf_0 1 rfl (by decide) rfl (ni _) b_fl_RX0_17 dX0_become_5 (fun H locs S => ?_)
  obtain ⟨w1, h, S⟩ := lw_S (P := fun y => St D ad ca s y H locs) h S
  refine lv_iconst (v := 0) C.1 C.2.1 dX0_become_8 (by decide) ?_
  refine lv_istore_n (lv' := [(2, .int 0), (0, .ref (ad t0)), (1, .ref (ad t1))]) C.1 C.2.1 dX0_become_9 rfl hl (by decide) rfl (fun ls hl => ?_)
  obtain ⟨o7, e8, h⟩ := Option.bind_eq_some_iff.mp h
  refine k_X0_become_L10 C ht0 ht1 FU _ _ e8 (fun ls H locs hl S => ?_) ls H locs (lv_sub hl [1, 2, 0] rfl) S
  refine lv_iconst (v := 0) C.1 C.2.1 dX0_become_37 (by decide) ?_
  refine lv_istore_n (lv' := [(2, .int 0), (0, .ref (ad t0)), (1, .ref (ad t1))]) C.1 C.2.1 dX0_become_38 rfl hl (by decide) rfl (fun ls hl => ?_)
  obtain ⟨o13, e14, h⟩ := Option.bind_eq_some_iff.mp h
  refine k_X0_become_L39 C ht0 ht1 FU _ _ e14 (fun ls H locs hl S => ?_) ls H locs (lv_sub hl [1, 2, 0] rfl) S
  refine lv_aload_n C.1 C.2.1 dX0_become_62 rfl (lv_at hl 0 rfl) ?_
  refine lv_aload_n C.1 C.2.1 dX0_become_63 rfl (lv_at hl 1 rfl) ?_
  refine r_geti C S ht1.1 cf_0 3 rfl (by decide) b_fl_RX0_25 dX0_become_64 ?_
  refine r_put C S ht0.1 cf_0 3 rfl (by decide) rfl (ni _) b_fl_RX0_25 dX0_become_67 (fun H locs S => ?_)
  obtain ⟨w15, h, S⟩ := lw_S (P := fun y => St D ad ca s y H locs) h S
  refine lv_aload_n C.1 C.2.1 dX0_become_70 rfl (lv_at hl 0 rfl) ?_
  refine lv_aload_n C.1 C.2.1 dX0_become_71 rfl (lv_at hl 1 rfl) ?_
  refine r_geti C S ht1.1 cf_0 4 rfl (by decide) b_fl_RX0_28 dX0_become_72 ?_
  refine r_put C S ht0.1 cf_0 4 rfl (by decide) rfl (ni _) b_fl_RX0_28 dX0_become_75 (fun H locs S => ?_)
  obtain ⟨w16, h, S⟩ := lw_S (P := fun y => St D ad ca s y H locs) h S
  refine lv_aload_n C.1 C.2.1 dX0_become_78 rfl (lv_at hl 0 rfl) ?_
  refine lv_aload_n C.1 C.2.1 dX0_become_79 rfl (lv_at hl 1 rfl) ?_
  refine r_geti C S ht1.1 cf_0 5 rfl (by decide) b_fl_RX0_31 dX0_become_80 ?_
  refine r_put C S ht0.1 cf_0 5 rfl (by decide) rfl (ni _) b_fl_RX0_31 dX0_become_83 (fun H locs S => ?_)
  obtain ⟨w17, h, S⟩ := lw_S (P := fun y => St D ad ca s y H locs) h S
  refine lv_aload_n C.1 C.2.1 dX0_become_86 rfl (lv_at hl 0 rfl) ?_
  refine lv_aload_n C.1 C.2.1 dX0_become_87 rfl (lv_at hl 1 rfl) ?_
  refine r_geti C S ht1.1 cf_0 6 rfl (by decide) b_fl_RX0_34 dX0_become_88 ?_
  refine r_put C S ht0.1 cf_0 6 rfl (by decide) rfl (ni _) b_fl_RX0_34 dX0_become_91 (fun H locs S => ?_)
  obtain ⟨w18, h, S⟩ := lw_S (P := fun y => St D ad ca s y H locs) h S
  have h9 := Option.some.inj h
  subst h9
  exact r_vret C S hr hlocks dX0_become_94
set_option maxHeartbeats 4000000 in
set_option maxRecDepth 100000 in
theorem k_X1_become_L2 {p : Program} {l : Launch} {e : Env} {s : State} {m : MethodId} {args : Array Value} {below : List Frame} {meth : Method} {c : Code} {D : va_G} {ad sx : Nat → Nat} {ca : Nat → ClassId} (C : Cx D ad sx ca p s m c args RX1 cX1_become 3) {Q : State → Prop} {t0 : Nat} {t1 : Nat} (ht0 : Cp t0) (ht1 : Cp t1) : ∀ (n9 : Nat) (z : Int32 × Wd) (o : Int32 × Wd), lp (f_X1_become_L2 t0 t1) n9 z = some o → (∀ (ls : Array Slot) (H : Heap) (locs : List Loc), lv_has ls 3 [(0, .ref (ad t0)), (1, .ref (ad t1))] → St D ad ca s o.2 H locs → W p l e (RM 0 0) s m args below meth c H locs 0 0 Q (F0 m 64 ls [])) → (∀ (ls : Array Slot) (H : Heap) (locs : List Loc), lv_has ls 3 [(0, .ref (ad t0)), (1, .ref (ad t1)), (2, .int z.1)] → St D ad ca s z.2 H locs → W p l e (RM 0 0) s m args below meth c H locs 0 0 Q (F0 m 2 ls [])) := by
  refine lp_W (HW := fun (z : Int32 × Wd) => ∀ (ls : Array Slot) (H : Heap) (locs : List Loc), lv_has ls 3 [(0, .ref (ad t0)), (1, .ref (ad t1)), (2, .int z.1)] → St D ad ca s z.2 H locs → W p l e (RM 0 0) s m args below meth c H locs 0 0 Q (F0 m 2 ls [])) (XW := fun (o : Int32 × Wd) => ∀ (ls : Array Slot) (H : Heap) (locs : List Loc), lv_has ls 3 [(0, .ref (ad t0)), (1, .ref (ad t1))] → St D ad ca s o.2 H locs → W p l e (RM 0 0) s m args below meth c H locs 0 0 Q (F0 m 64 ls [])) ?_
  intro z x h hN hX ls H locs hl S
  unfold f_X1_become_L2 at h
  refine lv_iload_n C.1 C.2.1 dX1_become_2 rfl (lv_at hl 2 rfl) ?_
  refine lv_aload_n C.1 C.2.1 dX1_become_3 rfl (lv_at hl 1 rfl) ?_
  refine r_geti C S ht1.1 cf_1 4 rfl (by decide) b_fl_RX1_24 dX1_become_4 ?_
  refine lv_icmp_ge (tgt := 64) C.1 C.2.1 dX1_become_7 (by decide) (fun q1 => ?_) (fun q1 => ?_)
  · replace h := (if_pos q1).symm.trans h
    exact hX _ (Option.some.inj h).symm _ _ _ (lv_sub hl [0, 1] rfl) S
  · replace h := (if_neg q1).symm.trans h
    refine lv_aload_n C.1 C.2.1 dX1_become_10 rfl (lv_at hl 0 rfl) ?_
    refine r_getr C S ht0.1 cf_1 0 rfl (by decide) b_fl_RX1_9 dX1_become_11 ?_
    refine lv_iload_n C.1 C.2.1 dX1_become_14 rfl (lv_at hl 2 rfl) ?_
    refine lv_aload_n C.1 C.2.1 dX1_become_15 rfl (lv_at hl 1 rfl) ?_
    refine r_getr C S ht1.1 cf_1 0 rfl (by decide) b_fl_RX1_9 dX1_become_16 ?_
    refine lv_iload_n C.1 C.2.1 dX1_become_19 rfl (lv_at hl 2 rfl) ?_
    obtain ⟨g2, h⟩ := gd_some h
    refine r_iald C S ht1.2.1 g2 dX1_become_20 ?_
    obtain ⟨g3, h⟩ := gd_some h
    refine r_iast C S ht0.2.1 g3 dX1_become_21 (fun H locs S => ?_)
    obtain ⟨w4, h, S⟩ := lw_S (P := fun y => St D ad ca s y H locs) h S
    refine lv_aload_n C.1 C.2.1 dX1_become_22 rfl (lv_at hl 0 rfl) ?_
    refine r_getr C S ht0.1 cf_1 1 rfl (by decide) b_fl_RX1_15 dX1_become_23 ?_
    refine lv_iload_n C.1 C.2.1 dX1_become_26 rfl (lv_at hl 2 rfl) ?_
    refine lv_aload_n C.1 C.2.1 dX1_become_27 rfl (lv_at hl 1 rfl) ?_
    refine r_getr C S ht1.1 cf_1 1 rfl (by decide) b_fl_RX1_15 dX1_become_28 ?_
    refine lv_iload_n C.1 C.2.1 dX1_become_31 rfl (lv_at hl 2 rfl) ?_
    obtain ⟨g5, h⟩ := gd_some h
    refine r_iald C S ht1.2.2.1 g5 dX1_become_32 ?_
    obtain ⟨g6, h⟩ := gd_some h
    refine r_iast C S ht0.2.2.1 g6 dX1_become_33 (fun H locs S => ?_)
    obtain ⟨w7, h, S⟩ := lw_S (P := fun y => St D ad ca s y H locs) h S
    refine lv_aload_n C.1 C.2.1 dX1_become_34 rfl (lv_at hl 0 rfl) ?_
    refine r_getr C S ht0.1 cf_1 2 rfl (by decide) b_fl_RX1_18 dX1_become_35 ?_
    refine lv_iload_n C.1 C.2.1 dX1_become_38 rfl (lv_at hl 2 rfl) ?_
    refine lv_aload_n C.1 C.2.1 dX1_become_39 rfl (lv_at hl 1 rfl) ?_
    refine r_getr C S ht1.1 cf_1 2 rfl (by decide) b_fl_RX1_18 dX1_become_40 ?_
    refine lv_iload_n C.1 C.2.1 dX1_become_43 rfl (lv_at hl 2 rfl) ?_
    obtain ⟨g8, h⟩ := gd_some h
    refine r_iald C S ht1.2.2.2.1 g8 dX1_become_44 ?_
    obtain ⟨g9, h⟩ := gd_some h
    refine r_iast C S ht0.2.2.2.1 g9 dX1_become_45 (fun H locs S => ?_)
    obtain ⟨w10, h, S⟩ := lw_S (P := fun y => St D ad ca s y H locs) h S
    refine lv_aload_n C.1 C.2.1 dX1_become_46 rfl (lv_at hl 0 rfl) ?_
    refine r_getr C S ht0.1 cf_1 3 rfl (by decide) b_fl_RX1_21 dX1_become_47 ?_
    refine lv_iload_n C.1 C.2.1 dX1_become_50 rfl (lv_at hl 2 rfl) ?_
    refine lv_aload_n C.1 C.2.1 dX1_become_51 rfl (lv_at hl 1 rfl) ?_
    refine r_getr C S ht1.1 cf_1 3 rfl (by decide) b_fl_RX1_21 dX1_become_52 ?_
    refine lv_iload_n C.1 C.2.1 dX1_become_55 rfl (lv_at hl 2 rfl) ?_
    obtain ⟨g11, h⟩ := gd_some h
    refine r_iald C S ht1.2.2.2.2 g11 dX1_become_56 ?_
    obtain ⟨g12, h⟩ := gd_some h
    refine r_iast C S ht0.2.2.2.2 g12 dX1_become_57 (fun H locs S => ?_)
    obtain ⟨w13, h, S⟩ := lw_S (P := fun y => St D ad ca s y H locs) h S
    refine lv_iinc (v := z.1 + 1) (lv' := [(2, .int (z.1 + 1)), (0, .ref (ad t0)), (1, .ref (ad t1))]) C.1 C.2.1 dX1_become_58 hl (k := 2) rfl rfl (by decide) rfl (fun ls hl => ?_)
    refine lv_goto (tgt := 2) C.1 C.2.1 dX1_become_61 (by decide) ?_
    exact hN _ (Option.some.inj h).symm _ _ _ (lv_sub hl [1, 2, 0] rfl) S
set_option maxHeartbeats 4000000 in
set_option maxRecDepth 100000 in
theorem k_X1_become {t0 : Nat} {t1 : Nat} (ht0 : Cp t0) (ht1 : Cp t1) {w : Wd} {rv : Wd} (h : f_X1_become t0 t1 w = some rv) : CV yX1_become cX1_become 3 0 0 (fun ad => [.ref (ad t0), .ref (ad t1)]) w rv := by
  refine CV.of (by decide) ?_
  intro l D ad sx ca p e s m below meth c C S hr hlocks
  have hl := lv_entry ([.ref (ad t0), .ref (ad t1)]) (n := 3) (Nat.le_of_ble_eq_true rfl)
  rw [lg_entry_eq]
  generalize (lg_sl ([.ref (ad t0), .ref (ad t1)]) ++ List.replicate (3 - (lg_sl ([.ref (ad t0), .ref (ad t1)])).length) Slot.unset).toArray = ls at hl ⊢
  have hl : lv_has ls 3 [(0, .ref (ad t0)), (1, .ref (ad t1))] := hl
  generalize ha9 : ([.ref (ad t0), .ref (ad t1)] : List Value).toArray = args at C ⊢
  generalize s.heap = H at S ⊢
  generalize ([] : List Loc) = locs at S ⊢
  unfold f_X1_become at h
  refine lv_iconst (v := 0) C.1 C.2.1 dX1_become_0 (by decide) ?_
  refine lv_istore_n (lv' := [(2, .int 0), (0, .ref (ad t0)), (1, .ref (ad t1))]) C.1 C.2.1 dX1_become_1 rfl hl (by decide) rfl (fun ls hl => ?_)
  obtain ⟨o14, e15, h⟩ := Option.bind_eq_some_iff.mp h
  refine k_X1_become_L2 C ht0 ht1 FU _ _ e15 (fun ls H locs hl S => ?_) ls H locs (lv_sub hl [1, 2, 0] rfl) S
  refine lv_aload_n C.1 C.2.1 dX1_become_64 rfl (lv_at hl 0 rfl) ?_
  refine lv_aload_n C.1 C.2.1 dX1_become_65 rfl (lv_at hl 1 rfl) ?_
  refine r_geti C S ht1.1 cf_1 4 rfl (by decide) b_fl_RX1_24 dX1_become_66 ?_
  refine r_put C S ht0.1 cf_1 4 rfl (by decide) rfl (ni _) b_fl_RX1_24 dX1_become_69 (fun H locs S => ?_)
  obtain ⟨w16, h, S⟩ := lw_S (P := fun y => St D ad ca s y H locs) h S
  have h9 := Option.some.inj h
  subst h9
  exact r_vret C S hr hlocks dX1_become_72
set_option maxHeartbeats 4000000 in
set_option maxRecDepth 100000 in
theorem k_X8_become {t0 : Nat} {t1 : Nat} (ht0 : Sta t0) (ht1 : Sta t1) {w : Wd} {rv : Wd} (h : f_X8_become t0 t1 w = some rv) : CV yX8_become cX8_become 2 3 67 (fun ad => [.ref (ad t0), .ref (ad t1)]) w rv := by
  refine CV.of (by decide) ?_
  intro l D ad sx ca p e s m below meth c C S hr hlocks
  have hl := lv_entry ([.ref (ad t0), .ref (ad t1)]) (n := 2) (Nat.le_of_ble_eq_true rfl)
  rw [lg_entry_eq]
  generalize (lg_sl ([.ref (ad t0), .ref (ad t1)]) ++ List.replicate (2 - (lg_sl ([.ref (ad t0), .ref (ad t1)])).length) Slot.unset).toArray = ls at hl ⊢
  have hl : lv_has ls 2 [(0, .ref (ad t0)), (1, .ref (ad t1))] := hl
  generalize ha9 : ([.ref (ad t0), .ref (ad t1)] : List Value).toArray = args at C ⊢
  generalize s.heap = H at S ⊢
  generalize ([] : List Loc) = locs at S ⊢
  unfold f_X8_become at h
  refine lv_aload_n C.1 C.2.1 dX8_become_0 rfl (lv_at hl 0 rfl) ?_
  refine r_getr C S ht0.1 cf_8 0 rfl (by decide) b_fl_RX8_10 dX8_become_1 ?_
  refine lv_aload_n C.1 C.2.1 dX8_become_4 rfl (lv_at hl 1 rfl) ?_
  refine r_getr C S ht1.1 cf_8 0 rfl (by decide) b_fl_RX8_10 dX8_become_5 ?_
  obtain ⟨o1, e2, h⟩ := Option.bind_eq_some_iff.mp h
  refine r_vv C S hl ht0.2.1.1 cf_0 (k_X0_become ht0.2.1 ht1.2.1 e2) b_vb_RX8_30 [.ref (ad (rf t1 0))] rfl [] rfl rfl (Nat.le_of_ble_eq_true rfl) ⟨Nat.le_of_ble_eq_true rfl, Nat.le_of_ble_eq_true rfl⟩ dX8_become_8 (fun H locs S => ?_)
  refine lv_aload_n C.1 C.2.1 dX8_become_11 rfl (lv_at hl 0 rfl) ?_
  refine r_getr C S ht0.1 cf_8 1 rfl (by decide) b_fl_RX8_19 dX8_become_12 ?_
  refine lv_aload_n C.1 C.2.1 dX8_become_15 rfl (lv_at hl 1 rfl) ?_
  refine r_getr C S ht1.1 cf_8 1 rfl (by decide) b_fl_RX8_19 dX8_become_16 ?_
  obtain ⟨o3, e4, h⟩ := Option.bind_eq_some_iff.mp h
  refine r_vv C S hl ht0.2.2.1.1 cf_9 (k_X9_become ht0.2.2.1 ht1.2.2.1 e4) b_vb_RX8_34 [.ref (ad (rf t1 1))] rfl [] rfl rfl (Nat.le_of_ble_eq_true rfl) ⟨Nat.le_of_ble_eq_true rfl, Nat.le_of_ble_eq_true rfl⟩ dX8_become_19 (fun H locs S => ?_)
  refine lv_aload_n C.1 C.2.1 dX8_become_22 rfl (lv_at hl 0 rfl) ?_
  refine r_getr C S ht0.1 cf_8 2 rfl (by decide) b_fl_RX8_26 dX8_become_23 ?_
  refine lv_aload_n C.1 C.2.1 dX8_become_26 rfl (lv_at hl 1 rfl) ?_
  refine r_getr C S ht1.1 cf_8 2 rfl (by decide) b_fl_RX8_26 dX8_become_27 ?_
  obtain ⟨o5, e6, h⟩ := Option.bind_eq_some_iff.mp h
  refine r_vv C S hl ht0.2.2.2.1 cf_1 (k_X1_become ht0.2.2.2 ht1.2.2.2 e6) b_vb_RX8_37 [.ref (ad (rf t1 2))] rfl [] rfl rfl (Nat.le_of_ble_eq_true rfl) ⟨Nat.le_of_ble_eq_true rfl, Nat.le_of_ble_eq_true rfl⟩ dX8_become_30 (fun H locs S => ?_)
  have h9 := Option.some.inj h
  subst h9
  exact r_vret C S hr hlocks dX8_become_33
set_option maxHeartbeats 4000000 in
set_option maxRecDepth 100000 in
theorem k_X10_image   {w : Wd} {rv : Int32 × Wd} (h : f_X10_image w = some rv) : CI yX10_image cX10_image 1 .int 4 88 (fun ad => [.ref (ad 0)]) w rv.1 rv.2 := by
  refine CI.of (by decide) ?_
  intro l D ad sx ca p e s m below meth c C S hr hlocks
  have hl := lv_entry ([.ref (ad 0)]) (n := 1) (Nat.le_of_ble_eq_true rfl)
  rw [lg_entry_eq]
  generalize (lg_sl ([.ref (ad 0)]) ++ List.replicate (1 - (lg_sl ([.ref (ad 0)])).length) Slot.unset).toArray = ls at hl ⊢
  have hl : lv_has ls 1 [(0, .ref (ad 0))] := hl
  generalize ha9 : ([.ref (ad 0)] : List Value).toArray = args at C ⊢
  generalize s.heap = H at S ⊢
  generalize ([] : List Loc) = locs at S ⊢
  unfold f_X10_image at h
  refine lv_aload_n C.1 C.2.1 dX10_image_0 rfl (lv_at hl 0 rfl) ?_
  refine r_getr C S o_0 cf_10 1 rfl (by decide) b_fl_RX10_16 dX10_image_1 ?_
  refine lv_aload_n C.1 C.2.1 dX10_image_4 rfl (lv_at hl 0 rfl) ?_
  refine r_getr C S o_0 cf_10 0 rfl (by decide) b_fl_RX10_10 dX10_image_5 ?_
  obtain ⟨o1, e2, h⟩ := Option.bind_eq_some_iff.mp h
  refine r_vv C S hl o_2 cf_8 (k_X8_become pSta_2 pSta_1 e2) b_vb_RX10_317 [.ref (ad 1)] rfl [] rfl rfl (Nat.le_of_ble_eq_true rfl) ⟨Nat.le_of_ble_eq_true rfl, Nat.le_of_ble_eq_true rfl⟩ dX10_image_8 (fun H locs S => ?_)
  refine lv_aload_n C.1 C.2.1 dX10_image_11 rfl (lv_at hl 0 rfl) ?_
  refine lv_iconst (v := 1) C.1 C.2.1 dX10_image_12 (by decide) ?_
  refine r_put C S o_0 cf_10 2 rfl (by decide) rfl (zo_nar (by decide)) b_fl_RX10_19 dX10_image_13 (fun H locs S => ?_)
  obtain ⟨w3, h, S⟩ := lw_S (P := fun y => St D ad ca s y H locs) h S
  refine lv_iconst (v := 1) C.1 C.2.1 dX10_image_16 (by decide) ?_
  have h9 := Option.some.inj h
  subst h9
  exact r_iret C S hr hlocks dX10_image_17

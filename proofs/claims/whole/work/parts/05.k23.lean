set_option maxHeartbeats 4000000 in
set_option maxRecDepth 100000 in
theorem k_X11_weather_L39 {p : Program} {l : Launch} {e : Env} {s : State} {m : MethodId} {args : Array Value} {below : List Frame} {meth : Method} {c : Code} {D : va_G} {ad sx : Nat → Nat} {ca : Nat → ClassId} (C : Cx D ad sx ca p s m c args RX11 cX11_weather 6) {Q : State → Prop} {v1 : Int32}  : ∀ (n9 : Nat) (z : Int32 × Int32 × Wd) (o : Int32 × Int32 × Wd), lp (f_X11_weather_L39 v1) n9 z = some o → (∀ (ls : Array Slot) (H : Heap) (locs : List Loc), lv_has ls 6 [(2, .int o.1)] → St D ad ca s o.2.2 H locs → W p l e (RM 5 114) s m args below meth c H locs 0 0 Q (F0 m 114 ls [])) → (∀ (ls : Array Slot) (H : Heap) (locs : List Loc), lv_has ls 6 [(0, .ref (ad 76)), (1, .int v1), (2, .int z.1), (3, .int z.2.1)] → St D ad ca s z.2.2 H locs → W p l e (RM 5 114) s m args below meth c H locs 0 0 Q (F0 m 39 ls [])) := by
  refine lp_W (HW := fun (z : Int32 × Int32 × Wd) => ∀ (ls : Array Slot) (H : Heap) (locs : List Loc), lv_has ls 6 [(0, .ref (ad 76)), (1, .int v1), (2, .int z.1), (3, .int z.2.1)] → St D ad ca s z.2.2 H locs → W p l e (RM 5 114) s m args below meth c H locs 0 0 Q (F0 m 39 ls [])) (XW := fun (o : Int32 × Int32 × Wd) => ∀ (ls : Array Slot) (H : Heap) (locs : List Loc), lv_has ls 6 [(2, .int o.1)] → St D ad ca s o.2.2 H locs → W p l e (RM 5 114) s m args below meth c H locs 0 0 Q (F0 m 114 ls [])) ?_
  intro z x h hN hX ls H locs hl S
  unfold f_X11_weather_L39 at h
  refine lv_iload_n C.1 C.2.1 dX11_weather_39 rfl (lv_at hl 3 rfl) ?_
  refine lv_aload_n C.1 C.2.1 dX11_weather_40 rfl (lv_at hl 0 rfl) ?_
  refine r_getr C S o_76 cf_11 40 rfl (by decide) b_fl_RX11_82 dX11_weather_41 ?_
  refine lv_iload_n C.1 C.2.1 dX11_weather_44 rfl (lv_at hl 1 rfl) ?_
  obtain ⟨g8, h⟩ := gd_some h
  refine r_iald C S a_101 g8 dX11_weather_45 ?_
  refine lv_icmp_ge (tgt := 114) C.1 C.2.1 dX11_weather_46 (by decide) (fun q9 => ?_) (fun q9 => ?_)
  · replace h := (if_pos q9).symm.trans h
    exact hX _ (Option.some.inj h).symm _ _ _ (lv_sub hl [2] rfl) S
  · replace h := (if_neg q9).symm.trans h
    refine lv_aload_n C.1 C.2.1 dX11_weather_49 rfl (lv_at hl 0 rfl) ?_
    refine r_getr C S o_76 cf_11 0 rfl (by decide) b_fl_RX11_9 dX11_weather_50 ?_
    refine lv_iconst (v := 0) C.1 C.2.1 dX11_weather_53 (by decide) ?_
    refine r_ialdn (j := 0) C S a_77 (by decide) (by decide) dX11_weather_54 ?_
    refine lv_sipush (v := 2000) C.1 C.2.1 dX11_weather_55 (by decide) ?_
    refine lv_icmp_ge (tgt := 114) C.1 C.2.1 dX11_weather_58 (by decide) (fun q10 => ?_) (fun q10 => ?_)
    · replace h := (if_pos q10).symm.trans h
      exact hX _ (Option.some.inj h).symm _ _ _ (lv_sub hl [2] rfl) S
    · replace h := (if_neg q10).symm.trans h
      refine lv_aload_n C.1 C.2.1 dX11_weather_61 rfl (lv_at hl 0 rfl) ?_
      refine r_getr C S o_76 cf_11 41 rfl (by decide) b_fl_RX11_85 dX11_weather_62 ?_
      refine lv_bipush (v := 40) C.1 C.2.1 dX11_weather_65 (by decide) ?_
      refine lv_iload_n C.1 C.2.1 dX11_weather_67 rfl (lv_at hl 1 rfl) ?_
      refine lv_imul C.1 C.2.1 dX11_weather_68 ?_
      refine lv_iload_n C.1 C.2.1 dX11_weather_69 rfl (lv_at hl 3 rfl) ?_
      refine lv_iadd C.1 C.2.1 dX11_weather_70 ?_
      obtain ⟨g11, h⟩ := gd_some h
      refine r_lald C S a_102 g11 dX11_weather_71 ?_
      refine lv_lstore (lv' := [(4, .long (z.2.2.2 102 (((40 * v1) + z.2.1).toNatClampNeg))), (0, .ref (ad 76)), (1, .int v1), (2, .int z.1), (3, .int z.2.1)]) C.1 C.2.1 dX11_weather_72 hl (by decide) rfl (fun ls hl => ?_)
      refine lv_lload C.1 C.2.1 dX11_weather_74 (lv_at hl 0 rfl) ?_
      refine r_ldc2 C (-300) b_cl_RX11_303 dX11_weather_76 ?_
      refine W.lcmp C.1 C.2.1 dX11_weather_79 ?_
      refine lv_if_lt (tgt := 108) C.1 C.2.1 dX11_weather_80 (by decide) (fun q12 => ?_) (fun q12 => ?_)
      · replace h := (if_pos q12).symm.trans h
        refine lv_iinc (v := z.2.1 + 1) (lv' := [(3, .int (z.2.1 + 1)), (4, .long (z.2.2.2 102 (((40 * v1) + z.2.1).toNatClampNeg))), (0, .ref (ad 76)), (1, .int v1), (2, .int z.1)]) C.1 C.2.1 dX11_weather_108 hl (k := 4) rfl rfl (by decide) rfl (fun ls hl => ?_)
        refine lv_goto (tgt := 39) C.1 C.2.1 dX11_weather_111 (by decide) ?_
        exact hN _ (Option.some.inj h).symm _ _ _ (lv_sub hl [2, 3, 4, 0] rfl) S
      · replace h := (if_neg q12).symm.trans h
        refine lv_lload C.1 C.2.1 dX11_weather_83 (lv_at hl 0 rfl) ?_
        refine r_ldc2 C 400 b_cl_RX11_305 dX11_weather_85 ?_
        refine W.lcmp C.1 C.2.1 dX11_weather_88 ?_
        refine lv_if_gt (tgt := 108) C.1 C.2.1 dX11_weather_89 (by decide) (fun q13 => ?_) (fun q13 => ?_)
        · replace h := (if_pos q13).symm.trans h
          refine lv_iinc (v := z.2.1 + 1) (lv' := [(3, .int (z.2.1 + 1)), (4, .long (z.2.2.2 102 (((40 * v1) + z.2.1).toNatClampNeg))), (0, .ref (ad 76)), (1, .int v1), (2, .int z.1)]) C.1 C.2.1 dX11_weather_108 hl (k := 4) rfl rfl (by decide) rfl (fun ls hl => ?_)
          refine lv_goto (tgt := 39) C.1 C.2.1 dX11_weather_111 (by decide) ?_
          exact hN _ (Option.some.inj h).symm _ _ _ (lv_sub hl [2, 3, 4, 0] rfl) S
        · replace h := (if_neg q13).symm.trans h
          refine lv_aload_n C.1 C.2.1 dX11_weather_92 rfl (lv_at hl 1 rfl) ?_
          refine r_getr C S o_76 cf_11 0 rfl (by decide) b_fl_RX11_9 dX11_weather_93 ?_
          refine lv_iconst (v := 1) C.1 C.2.1 dX11_weather_96 (by decide) ?_
          refine lv_lload C.1 C.2.1 dX11_weather_97 (lv_at hl 0 rfl) ?_
          refine lv_l2i C.1 C.2.1 dX11_weather_99 rfl ?_
          refine r_iastn (j := 1) C S a_77 (by decide) (by decide) dX11_weather_100 (fun H locs S => ?_)
          obtain ⟨w14, h, S⟩ := lw_S (P := fun y => St D ad ca s y H locs) h S
          refine lv_aload_n C.1 C.2.1 dX11_weather_101 rfl (lv_at hl 1 rfl) ?_
          obtain ⟨o15, e16, h⟩ := Option.bind_eq_some_iff.mp h
          refine r_vv C S hl o_76 cf_11 (k_X11_anHour e16) b_vb_RX11_158 [] rfl [] rfl rfl (Nat.le_of_ble_eq_true rfl) ⟨Nat.le_of_ble_eq_true rfl, Nat.le_of_ble_eq_true rfl⟩ dX11_weather_102 (fun H locs S => ?_)
          refine lv_iinc (v := z.1 + 1) (lv' := [(2, .int (z.1 + 1)), (4, .long (z.2.2.2 102 (((40 * v1) + z.2.1).toNatClampNeg))), (0, .ref (ad 76)), (1, .int v1), (3, .int z.2.1)]) C.1 C.2.1 dX11_weather_105 hl (k := 3) rfl rfl (by decide) rfl (fun ls hl => ?_)
          refine lv_iinc (v := z.2.1 + 1) (lv' := [(3, .int (z.2.1 + 1)), (2, .int (z.1 + 1)), (4, .long (z.2.2.2 102 (((40 * v1) + z.2.1).toNatClampNeg))), (0, .ref (ad 76)), (1, .int v1)]) C.1 C.2.1 dX11_weather_108 hl (k := 4) rfl rfl (by decide) rfl (fun ls hl => ?_)
          refine lv_goto (tgt := 39) C.1 C.2.1 dX11_weather_111 (by decide) ?_
          exact hN _ (Option.some.inj h).symm _ _ _ (lv_sub hl [3, 4, 1, 0] rfl) S
set_option maxHeartbeats 4000000 in
set_option maxRecDepth 100000 in
theorem k_X11_weather {v1 : Int32}  {w : Wd} {rv : Int32 × Wd} (h : f_X11_weather v1 w = some rv) : CI yX11_weather cX11_weather 6 .int 5 114 (fun ad => [.ref (ad 76), .int v1]) w rv.1 rv.2 := by
  refine CI.of (by decide) ?_
  intro l D ad sx ca p e s m below meth c C S hr hlocks
  have hl := lv_entry ([.ref (ad 76), .int v1]) (n := 6) (Nat.le_of_ble_eq_true rfl)
  rw [lg_entry_eq]
  generalize (lg_sl ([.ref (ad 76), .int v1]) ++ List.replicate (6 - (lg_sl ([.ref (ad 76), .int v1])).length) Slot.unset).toArray = ls at hl ⊢
  have hl : lv_has ls 6 [(0, .ref (ad 76)), (1, .int v1)] := hl
  generalize ha9 : ([.ref (ad 76), .int v1] : List Value).toArray = args at C ⊢
  generalize s.heap = H at S ⊢
  generalize ([] : List Loc) = locs at S ⊢
  unfold f_X11_weather at h
  refine lv_iload_n C.1 C.2.1 dX11_weather_0 rfl (lv_at hl 1 rfl) ?_
  obtain ⟨o1, e2, h⟩ := Option.bind_eq_some_iff.mp h
  refine r_si C S hl (k_X11_isSheet e2) b_sb_RX11_295 [.int v1] rfl [] rfl rfl (Nat.le_of_ble_eq_true rfl) ⟨Nat.le_of_ble_eq_true rfl, Nat.le_of_ble_eq_true rfl⟩ dX11_weather_1 (fun H locs S => ?_)
  refine lv_if_ne (tgt := 14) C.1 C.2.1 dX11_weather_4 (by decide) (fun q3 => ?_) (fun q3 => ?_)
  · replace h := (if_neg q3).symm.trans h
    refine lv_aload_n C.1 C.2.1 dX11_weather_14 rfl (lv_at hl 0 rfl) ?_
    refine r_getr C S o_76 cf_11 39 rfl (by decide) b_fl_RX11_79 dX11_weather_15 ?_
    refine lv_iload_n C.1 C.2.1 dX11_weather_18 rfl (lv_at hl 1 rfl) ?_
    obtain ⟨g4, h⟩ := gd_some h
    refine r_iald C S a_100 g4 dX11_weather_19 ?_
    refine lv_if_ne (tgt := 31) C.1 C.2.1 dX11_weather_20 (by decide) (fun q5 => ?_) (fun q5 => ?_)
    · replace h := (if_neg q5).symm.trans h
      refine lv_aload_n C.1 C.2.1 dX11_weather_31 rfl (lv_at hl 0 rfl) ?_
      obtain ⟨o6, e7, h⟩ := Option.bind_eq_some_iff.mp h
      refine r_vv C S hl o_76 cf_11 (k_X11_setsAside e7) b_vb_RX11_145 [] rfl [] rfl rfl (Nat.le_of_ble_eq_true rfl) ⟨Nat.le_of_ble_eq_true rfl, Nat.le_of_ble_eq_true rfl⟩ dX11_weather_32 (fun H locs S => ?_)
      refine lv_iconst (v := 0) C.1 C.2.1 dX11_weather_35 (by decide) ?_
      refine lv_istore_n (lv' := [(2, .int 0), (0, .ref (ad 76)), (1, .int v1)]) C.1 C.2.1 dX11_weather_36 rfl hl (by decide) rfl (fun ls hl => ?_)
      refine lv_iconst (v := 0) C.1 C.2.1 dX11_weather_37 (by decide) ?_
      refine lv_istore_n (lv' := [(3, .int 0), (2, .int 0), (0, .ref (ad 76)), (1, .int v1)]) C.1 C.2.1 dX11_weather_38 rfl hl (by decide) rfl (fun ls hl => ?_)
      obtain ⟨o17, e18, h⟩ := Option.bind_eq_some_iff.mp h
      refine k_X11_weather_L39 C  FU _ _ e18 (fun ls H locs hl S => ?_) ls H locs (lv_sub hl [2, 3, 1, 0] rfl) S
      refine lv_iload_n C.1 C.2.1 dX11_weather_114 rfl (lv_at hl 0 rfl) ?_
      have h9 := Option.some.inj h
      subst h9
      exact r_iret C S hr hlocks dX11_weather_115
    · replace h := (if_pos q5).symm.trans h
      refine lv_aload_n C.1 C.2.1 dX11_weather_23 rfl (lv_at hl 0 rfl) ?_
      refine r_ldcw C (-1000000006) b_cn_RX11_299 dX11_weather_24 ?_
      obtain ⟨o19, e20, h⟩ := Option.bind_eq_some_iff.mp h
      refine r_vi C S hl o_76 cf_11 (k_X11_finds e20) b_vb_RX11_109 [.int (-1000000006)] rfl [] rfl rfl (Nat.le_of_ble_eq_true rfl) ⟨Nat.le_of_ble_eq_true rfl, Nat.le_of_ble_eq_true rfl⟩ dX11_weather_27 (fun H locs S => ?_)
      have h9 := Option.some.inj h
      subst h9
      exact r_iret C S hr hlocks dX11_weather_30
  · replace h := (if_pos q3).symm.trans h
    refine lv_aload_n C.1 C.2.1 dX11_weather_7 rfl (lv_at hl 0 rfl) ?_
    refine r_ldc C (-1000000001) b_cn_RX11_92 dX11_weather_8 ?_
    obtain ⟨o21, e22, h⟩ := Option.bind_eq_some_iff.mp h
    refine r_vi C S hl o_76 cf_11 (k_X11_finds e22) b_vb_RX11_109 [.int (-1000000001)] rfl [] rfl rfl (Nat.le_of_ble_eq_true rfl) ⟨Nat.le_of_ble_eq_true rfl, Nat.le_of_ble_eq_true rfl⟩ dX11_weather_10 (fun H locs S => ?_)
    have h9 := Option.some.inj h
    subst h9
    exact r_iret C S hr hlocks dX11_weather_13
set_option maxHeartbeats 4000000 in
set_option maxRecDepth 100000 in
theorem k_X11_read_L33 {p : Program} {l : Launch} {e : Env} {s : State} {m : MethodId} {args : Array Value} {below : List Frame} {meth : Method} {c : Code} {D : va_G} {ad sx : Nat → Nat} {ca : Nat → ClassId} (C : Cx D ad sx ca p s m c args RX11 cX11_read 3) (hr : meth.sig.returnType = (some .int)) (hlocks : meth.locks = false) {rv : Int32 × Wd} {w : Wd} {v1 : Int32}  : ∀ (n9 : Nat) (z : Int32) (o : (Int32) ⊕ (Int32 × Wd)), lp (f_X11_read_L33 v1 w) n9 z = some o → ((∀ x, o = .inl x → ∀ (ls : Array Slot) (H : Heap) (locs : List Loc), lv_has ls 3 [] → St D ad ca s w H locs → W p l e (RM 2 43) s m args below meth c H locs 0 0 (MQ below (Qi D ad ca rv.1 rv.2) args s 0 0 (Aad ad)) (F0 m 84 ls [])) ∧ ∀ y, o = .inr y → y = rv) → (∀ (ls : Array Slot) (H : Heap) (locs : List Loc), lv_has ls 3 [(0, .ref (ad 76)), (1, .int v1), (2, .int z)] → St D ad ca s w H locs → W p l e (RM 2 43) s m args below meth c H locs 0 0 (MQ below (Qi D ad ca rv.1 rv.2) args s 0 0 (Aad ad)) (F0 m 33 ls [])) := by
  refine lp_W (HW := fun (z : Int32) => ∀ (ls : Array Slot) (H : Heap) (locs : List Loc), lv_has ls 3 [(0, .ref (ad 76)), (1, .int v1), (2, .int z)] → St D ad ca s w H locs → W p l e (RM 2 43) s m args below meth c H locs 0 0 (MQ below (Qi D ad ca rv.1 rv.2) args s 0 0 (Aad ad)) (F0 m 33 ls [])) (XW := fun (o : (Int32) ⊕ (Int32 × Wd)) => (∀ x, o = .inl x → ∀ (ls : Array Slot) (H : Heap) (locs : List Loc), lv_has ls 3 [] → St D ad ca s w H locs → W p l e (RM 2 43) s m args below meth c H locs 0 0 (MQ below (Qi D ad ca rv.1 rv.2) args s 0 0 (Aad ad)) (F0 m 84 ls [])) ∧ ∀ y, o = .inr y → y = rv) ?_
  intro z x h hN hX ls H locs hl S
  unfold f_X11_read_L33 at h
  refine lv_iload_n C.1 C.2.1 dX11_read_33 rfl (lv_at hl 2 rfl) ?_
  refine lv_aload_n C.1 C.2.1 dX11_read_34 rfl (lv_at hl 0 rfl) ?_
  refine r_getr C S o_76 cf_11 40 rfl (by decide) b_fl_RX11_82 dX11_read_35 ?_
  refine lv_iload_n C.1 C.2.1 dX11_read_38 rfl (lv_at hl 1 rfl) ?_
  obtain ⟨g6, h⟩ := gd_some h
  refine r_iald C S a_101 g6 dX11_read_39 ?_
  refine lv_icmp_ge (tgt := 84) C.1 C.2.1 dX11_read_40 (by decide) (fun q7 => ?_) (fun q7 => ?_)
  · replace h := (if_pos q7).symm.trans h
    exact (hX _ (Option.some.inj h).symm).1 _ rfl _ _ _ (lv_sub hl [] rfl) S
  · replace h := (if_neg q7).symm.trans h
    refine lv_aload_n C.1 C.2.1 dX11_read_43 rfl (lv_at hl 0 rfl) ?_
    refine lv_iload_n C.1 C.2.1 dX11_read_44 rfl (lv_at hl 2 rfl) ?_
    obtain ⟨o8, e9, h⟩ := Option.bind_eq_some_iff.mp h
    refine r_vi C S hl o_76 cf_11 (k_X11_isFlat e9) b_vb_RX11_141 [.int z] rfl [] rfl rfl (Nat.le_of_ble_eq_true rfl) ⟨Nat.le_of_ble_eq_true rfl, Nat.le_of_ble_eq_true rfl⟩ dX11_read_45 (fun H locs S => ?_)
    refine lv_if_eq (tgt := 74) C.1 C.2.1 dX11_read_48 (by decide) (fun q10 => ?_) (fun q10 => ?_)
    · replace h := (if_pos q10).symm.trans h
      refine lv_iconst (v := 1) C.1 C.2.1 dX11_read_74 (by decide) ?_
      refine lv_iload_n C.1 C.2.1 dX11_read_75 rfl (lv_at hl 2 rfl) ?_
      refine lv_iadd C.1 C.2.1 dX11_read_76 ?_
      have h9 := (hX _ (Option.some.inj h).symm).2 _ rfl
      subst h9
      exact r_iret C S hr hlocks dX11_read_77
    · replace h := (if_neg q10).symm.trans h
      refine lv_aload_n C.1 C.2.1 dX11_read_51 rfl (lv_at hl 0 rfl) ?_
      refine r_getr C S o_76 cf_11 41 rfl (by decide) b_fl_RX11_85 dX11_read_52 ?_
      refine lv_bipush (v := 40) C.1 C.2.1 dX11_read_55 (by decide) ?_
      refine lv_iload_n C.1 C.2.1 dX11_read_57 rfl (lv_at hl 1 rfl) ?_
      refine lv_imul C.1 C.2.1 dX11_read_58 ?_
      refine lv_iload_n C.1 C.2.1 dX11_read_59 rfl (lv_at hl 2 rfl) ?_
      refine lv_iadd C.1 C.2.1 dX11_read_60 ?_
      obtain ⟨g11, h⟩ := gd_some h
      refine r_lald C S a_102 g11 dX11_read_61 ?_
      refine lv_aload_n C.1 C.2.1 dX11_read_62 rfl (lv_at hl 0 rfl) ?_
      refine lv_iload_n C.1 C.2.1 dX11_read_63 rfl (lv_at hl 2 rfl) ?_
      refine lv_bipush (v := 6) C.1 C.2.1 dX11_read_64 (by decide) ?_
      obtain ⟨o12, e13, h⟩ := Option.bind_eq_some_iff.mp h
      refine r_vi C S hl o_76 cf_11 (k_X11_get e13) b_vb_RX11_101 [.int z, .int 6] rfl [.long (w.2 102 (((40 * v1) + z).toNatClampNeg))] rfl rfl (Nat.le_of_ble_eq_true rfl) ⟨Nat.le_of_ble_eq_true rfl, Nat.le_of_ble_eq_true rfl⟩ dX11_read_66 (fun H locs S => ?_)
      refine lv_i2l C.1 C.2.1 dX11_read_69 rfl ?_
      refine W.lcmp C.1 C.2.1 dX11_read_70 ?_
      refine lv_if_eq (tgt := 78) C.1 C.2.1 dX11_read_71 (by decide) (fun q14 => ?_) (fun q14 => ?_)
      · replace h := (if_pos q14).symm.trans h
        refine lv_iinc (v := z + 1) (lv' := [(2, .int (z + 1)), (0, .ref (ad 76)), (1, .int v1)]) C.1 C.2.1 dX11_read_78 hl (k := 2) rfl rfl (by decide) rfl (fun ls hl => ?_)
        refine lv_goto (tgt := 33) C.1 C.2.1 dX11_read_81 (by decide) ?_
        exact hN _ (Option.some.inj h).symm _ _ _ (lv_sub hl [1, 2, 0] rfl) S
      · replace h := (if_neg q14).symm.trans h
        refine lv_iconst (v := 1) C.1 C.2.1 dX11_read_74 (by decide) ?_
        refine lv_iload_n C.1 C.2.1 dX11_read_75 rfl (lv_at hl 2 rfl) ?_
        refine lv_iadd C.1 C.2.1 dX11_read_76 ?_
        have h9 := (hX _ (Option.some.inj h).symm).2 _ rfl
        subst h9
        exact r_iret C S hr hlocks dX11_read_77
set_option maxHeartbeats 4000000 in
set_option maxRecDepth 100000 in
theorem k_X11_read {v1 : Int32}  {w : Wd} {rv : Int32 × Wd} (h : f_X11_read v1 w = some rv) : CI yX11_read cX11_read 3 .int 2 43 (fun ad => [.ref (ad 76), .int v1]) w rv.1 rv.2 := by
  refine CI.of (by decide) ?_
  intro l D ad sx ca p e s m below meth c C S hr hlocks
  have hl := lv_entry ([.ref (ad 76), .int v1]) (n := 3) (Nat.le_of_ble_eq_true rfl)
  rw [lg_entry_eq]
  generalize (lg_sl ([.ref (ad 76), .int v1]) ++ List.replicate (3 - (lg_sl ([.ref (ad 76), .int v1])).length) Slot.unset).toArray = ls at hl ⊢
  have hl : lv_has ls 3 [(0, .ref (ad 76)), (1, .int v1)] := hl
  generalize ha9 : ([.ref (ad 76), .int v1] : List Value).toArray = args at C ⊢
  generalize s.heap = H at S ⊢
  generalize ([] : List Loc) = locs at S ⊢
  unfold f_X11_read at h
  refine lv_iload_n C.1 C.2.1 dX11_read_0 rfl (lv_at hl 1 rfl) ?_
  obtain ⟨o1, e2, h⟩ := Option.bind_eq_some_iff.mp h
  refine r_si C S hl (k_X11_isSheet e2) b_sb_RX11_295 [.int v1] rfl [] rfl rfl (Nat.le_of_ble_eq_true rfl) ⟨Nat.le_of_ble_eq_true rfl, Nat.le_of_ble_eq_true rfl⟩ dX11_read_1 (fun H locs S => ?_)
  refine lv_if_ne (tgt := 14) C.1 C.2.1 dX11_read_4 (by decide) (fun q3 => ?_) (fun q3 => ?_)
  · replace h := (if_neg q3).symm.trans h
    refine lv_aload_n C.1 C.2.1 dX11_read_14 rfl (lv_at hl 0 rfl) ?_
    refine r_getr C S o_76 cf_11 39 rfl (by decide) b_fl_RX11_79 dX11_read_15 ?_
    refine lv_iload_n C.1 C.2.1 dX11_read_18 rfl (lv_at hl 1 rfl) ?_
    obtain ⟨g4, h⟩ := gd_some h
    refine r_iald C S a_100 g4 dX11_read_19 ?_
    refine lv_if_ne (tgt := 31) C.1 C.2.1 dX11_read_20 (by decide) (fun q5 => ?_) (fun q5 => ?_)
    · replace h := (if_neg q5).symm.trans h
      refine lv_iconst (v := 0) C.1 C.2.1 dX11_read_31 (by decide) ?_
      refine lv_istore_n (lv' := [(2, .int 0), (0, .ref (ad 76)), (1, .int v1)]) C.1 C.2.1 dX11_read_32 rfl hl (by decide) rfl (fun ls hl => ?_)
      obtain ⟨o15, e16, h⟩ := Option.bind_eq_some_iff.mp h
      refine k_X11_read_L33 C hr hlocks  FU _ _ e16 ⟨fun x17 hx ls H locs hl S => ?_, fun y18 hy => ?_⟩ ls H locs (lv_sub hl [1, 2, 0] rfl) S
      · subst hx
        rw [sm_inl] at h
        refine lv_iconst (v := 0) C.1 C.2.1 dX11_read_84 (by decide) ?_
        have h9 := Option.some.inj h
        subst h9
        exact r_iret C S hr hlocks dX11_read_85
      · subst hy
        rw [sm_inr] at h
        exact Option.some.inj h
    · replace h := (if_pos q5).symm.trans h
      refine lv_aload_n C.1 C.2.1 dX11_read_23 rfl (lv_at hl 0 rfl) ?_
      refine r_ldcw C (-1000000006) b_cn_RX11_299 dX11_read_24 ?_
      obtain ⟨o19, e20, h⟩ := Option.bind_eq_some_iff.mp h
      refine r_vi C S hl o_76 cf_11 (k_X11_finds e20) b_vb_RX11_109 [.int (-1000000006)] rfl [] rfl rfl (Nat.le_of_ble_eq_true rfl) ⟨Nat.le_of_ble_eq_true rfl, Nat.le_of_ble_eq_true rfl⟩ dX11_read_27 (fun H locs S => ?_)
      have h9 := Option.some.inj h
      subst h9
      exact r_iret C S hr hlocks dX11_read_30
  · replace h := (if_pos q3).symm.trans h
    refine lv_aload_n C.1 C.2.1 dX11_read_7 rfl (lv_at hl 0 rfl) ?_
    refine r_ldc C (-1000000001) b_cn_RX11_92 dX11_read_8 ?_
    obtain ⟨o21, e22, h⟩ := Option.bind_eq_some_iff.mp h
    refine r_vi C S hl o_76 cf_11 (k_X11_finds e22) b_vb_RX11_109 [.int (-1000000001)] rfl [] rfl rfl (Nat.le_of_ble_eq_true rfl) ⟨Nat.le_of_ble_eq_true rfl, Nat.le_of_ble_eq_true rfl⟩ dX11_read_10 (fun H locs S => ?_)
    have h9 := Option.some.inj h
    subst h9
    exact r_iret C S hr hlocks dX11_read_13
set_option maxHeartbeats 4000000 in
set_option maxRecDepth 100000 in
theorem k_X11_image_L2 {p : Program} {l : Launch} {e : Env} {s : State} {m : MethodId} {args : Array Value} {below : List Frame} {meth : Method} {c : Code} {D : va_G} {ad sx : Nat → Nat} {ca : Nat → ClassId} (C : Cx D ad sx ca p s m c args RX11 cX11_image 2) {Q : State → Prop}   : ∀ (n9 : Nat) (z : Int32 × Wd) (o : Int32 × Wd), lp (f_X11_image_L2) n9 z = some o → (∀ (ls : Array Slot) (H : Heap) (locs : List Loc), lv_has ls 2 [(0, .ref (ad 76))] → St D ad ca s o.2 H locs → W p l e (RM 0 0) s m args below meth c H locs 0 0 Q (F0 m 27 ls [])) → (∀ (ls : Array Slot) (H : Heap) (locs : List Loc), lv_has ls 2 [(0, .ref (ad 76)), (1, .int z.1)] → St D ad ca s z.2 H locs → W p l e (RM 0 0) s m args below meth c H locs 0 0 Q (F0 m 2 ls [])) := by
  refine lp_W (HW := fun (z : Int32 × Wd) => ∀ (ls : Array Slot) (H : Heap) (locs : List Loc), lv_has ls 2 [(0, .ref (ad 76)), (1, .int z.1)] → St D ad ca s z.2 H locs → W p l e (RM 0 0) s m args below meth c H locs 0 0 Q (F0 m 2 ls [])) (XW := fun (o : Int32 × Wd) => ∀ (ls : Array Slot) (H : Heap) (locs : List Loc), lv_has ls 2 [(0, .ref (ad 76))] → St D ad ca s o.2 H locs → W p l e (RM 0 0) s m args below meth c H locs 0 0 Q (F0 m 27 ls [])) ?_
  intro z x h hN hX ls H locs hl S
  unfold f_X11_image_L2 at h
  refine lv_iload_n C.1 C.2.1 dX11_image_2 rfl (lv_at hl 1 rfl) ?_
  refine lv_sipush (v := 291) C.1 C.2.1 dX11_image_3 (by decide) ?_
  refine lv_icmp_ge (tgt := 27) C.1 C.2.1 dX11_image_6 (by decide) (fun q1 => ?_) (fun q1 => ?_)
  · replace h := (if_pos q1).symm.trans h
    exact hX _ (Option.some.inj h).symm _ _ _ (lv_sub hl [0] rfl) S
  · replace h := (if_neg q1).symm.trans h
    refine lv_aload_n C.1 C.2.1 dX11_image_9 rfl (lv_at hl 0 rfl) ?_
    refine r_getr C S o_76 cf_11 1 rfl (by decide) b_fl_RX11_13 dX11_image_10 ?_
    refine lv_iload_n C.1 C.2.1 dX11_image_13 rfl (lv_at hl 1 rfl) ?_
    refine lv_aload_n C.1 C.2.1 dX11_image_14 rfl (lv_at hl 0 rfl) ?_
    refine r_getr C S o_76 cf_11 0 rfl (by decide) b_fl_RX11_9 dX11_image_15 ?_
    refine lv_iload_n C.1 C.2.1 dX11_image_18 rfl (lv_at hl 1 rfl) ?_
    obtain ⟨g2, h⟩ := gd_some h
    refine r_iald C S a_77 g2 dX11_image_19 ?_
    obtain ⟨g3, h⟩ := gd_some h
    refine r_iast C S a_78 g3 dX11_image_20 (fun H locs S => ?_)
    obtain ⟨w4, h, S⟩ := lw_S (P := fun y => St D ad ca s y H locs) h S
    refine lv_iinc (v := z.1 + 1) (lv' := [(1, .int (z.1 + 1)), (0, .ref (ad 76))]) C.1 C.2.1 dX11_image_21 hl (k := 1) rfl rfl (by decide) rfl (fun ls hl => ?_)
    refine lv_goto (tgt := 2) C.1 C.2.1 dX11_image_24 (by decide) ?_
    exact hN _ (Option.some.inj h).symm _ _ _ (lv_sub hl [1, 0] rfl) S
set_option maxHeartbeats 4000000 in
set_option maxRecDepth 100000 in
theorem k_X11_image   {w : Wd} {rv : Int32 × Wd} (h : f_X11_image w = some rv) : CI yX11_image cX11_image 2 .int 0 0 (fun ad => [.ref (ad 76)]) w rv.1 rv.2 := by
  refine CI.of (by decide) ?_
  intro l D ad sx ca p e s m below meth c C S hr hlocks
  have hl := lv_entry ([.ref (ad 76)]) (n := 2) (Nat.le_of_ble_eq_true rfl)
  rw [lg_entry_eq]
  generalize (lg_sl ([.ref (ad 76)]) ++ List.replicate (2 - (lg_sl ([.ref (ad 76)])).length) Slot.unset).toArray = ls at hl ⊢
  have hl : lv_has ls 2 [(0, .ref (ad 76))] := hl
  generalize ha9 : ([.ref (ad 76)] : List Value).toArray = args at C ⊢
  generalize s.heap = H at S ⊢
  generalize ([] : List Loc) = locs at S ⊢
  unfold f_X11_image at h
  refine lv_iconst (v := 0) C.1 C.2.1 dX11_image_0 (by decide) ?_
  refine lv_istore_n (lv' := [(1, .int 0), (0, .ref (ad 76))]) C.1 C.2.1 dX11_image_1 rfl hl (by decide) rfl (fun ls hl => ?_)
  obtain ⟨o5, e6, h⟩ := Option.bind_eq_some_iff.mp h
  refine k_X11_image_L2 C  FU _ _ e6 (fun ls H locs hl S => ?_) ls H locs (lv_sub hl [1, 0] rfl) S
  refine lv_aload_n C.1 C.2.1 dX11_image_27 rfl (lv_at hl 0 rfl) ?_
  refine lv_iconst (v := 1) C.1 C.2.1 dX11_image_28 (by decide) ?_
  refine r_put C S o_76 cf_11 2 rfl (by decide) rfl (zo_nar (by decide)) b_fl_RX11_307 dX11_image_29 (fun H locs S => ?_)
  obtain ⟨w7, h, S⟩ := lw_S (P := fun y => St D ad ca s y H locs) h S
  refine lv_iconst (v := 1) C.1 C.2.1 dX11_image_32 (by decide) ?_
  have h9 := Option.some.inj h
  subst h9
  exact r_iret C S hr hlocks dX11_image_33
set_option maxHeartbeats 4000000 in
set_option maxRecDepth 100000 in
theorem k_X11_undo_L16 {p : Program} {l : Launch} {e : Env} {s : State} {m : MethodId} {args : Array Value} {below : List Frame} {meth : Method} {c : Code} {D : va_G} {ad sx : Nat → Nat} {ca : Nat → ClassId} (C : Cx D ad sx ca p s m c args RX11 cX11_undo 2) {Q : State → Prop}   : ∀ (n9 : Nat) (z : Int32 × Wd) (o : Int32 × Wd), lp (f_X11_undo_L16) n9 z = some o → (∀ (ls : Array Slot) (H : Heap) (locs : List Loc), lv_has ls 2 [(0, .ref (ad 76))] → St D ad ca s o.2 H locs → W p l e (RM 1 21) s m args below meth c H locs 0 0 Q (F0 m 41 ls [])) → (∀ (ls : Array Slot) (H : Heap) (locs : List Loc), lv_has ls 2 [(0, .ref (ad 76)), (1, .int z.1)] → St D ad ca s z.2 H locs → W p l e (RM 1 21) s m args below meth c H locs 0 0 Q (F0 m 16 ls [])) := by
  refine lp_W (HW := fun (z : Int32 × Wd) => ∀ (ls : Array Slot) (H : Heap) (locs : List Loc), lv_has ls 2 [(0, .ref (ad 76)), (1, .int z.1)] → St D ad ca s z.2 H locs → W p l e (RM 1 21) s m args below meth c H locs 0 0 Q (F0 m 16 ls [])) (XW := fun (o : Int32 × Wd) => ∀ (ls : Array Slot) (H : Heap) (locs : List Loc), lv_has ls 2 [(0, .ref (ad 76))] → St D ad ca s o.2 H locs → W p l e (RM 1 21) s m args below meth c H locs 0 0 Q (F0 m 41 ls [])) ?_
  intro z x h hN hX ls H locs hl S
  unfold f_X11_undo_L16 at h
  refine lv_iload_n C.1 C.2.1 dX11_undo_16 rfl (lv_at hl 1 rfl) ?_
  refine lv_sipush (v := 291) C.1 C.2.1 dX11_undo_17 (by decide) ?_
  refine lv_icmp_ge (tgt := 41) C.1 C.2.1 dX11_undo_20 (by decide) (fun q2 => ?_) (fun q2 => ?_)
  · replace h := (if_pos q2).symm.trans h
    exact hX _ (Option.some.inj h).symm _ _ _ (lv_sub hl [0] rfl) S
  · replace h := (if_neg q2).symm.trans h
    refine lv_aload_n C.1 C.2.1 dX11_undo_23 rfl (lv_at hl 0 rfl) ?_
    refine r_getr C S o_76 cf_11 0 rfl (by decide) b_fl_RX11_9 dX11_undo_24 ?_
    refine lv_iload_n C.1 C.2.1 dX11_undo_27 rfl (lv_at hl 1 rfl) ?_
    refine lv_aload_n C.1 C.2.1 dX11_undo_28 rfl (lv_at hl 0 rfl) ?_
    refine r_getr C S o_76 cf_11 1 rfl (by decide) b_fl_RX11_13 dX11_undo_29 ?_
    refine lv_iload_n C.1 C.2.1 dX11_undo_32 rfl (lv_at hl 1 rfl) ?_
    obtain ⟨g3, h⟩ := gd_some h
    refine r_iald C S a_78 g3 dX11_undo_33 ?_
    obtain ⟨g4, h⟩ := gd_some h
    refine r_iast C S a_77 g4 dX11_undo_34 (fun H locs S => ?_)
    obtain ⟨w5, h, S⟩ := lw_S (P := fun y => St D ad ca s y H locs) h S
    refine lv_iinc (v := z.1 + 1) (lv' := [(1, .int (z.1 + 1)), (0, .ref (ad 76))]) C.1 C.2.1 dX11_undo_35 hl (k := 1) rfl rfl (by decide) rfl (fun ls hl => ?_)
    refine lv_goto (tgt := 16) C.1 C.2.1 dX11_undo_38 (by decide) ?_
    exact hN _ (Option.some.inj h).symm _ _ _ (lv_sub hl [1, 0] rfl) S
set_option maxHeartbeats 4000000 in
set_option maxRecDepth 100000 in
theorem k_X11_undo   {w : Wd} {rv : Int32 × Wd} (h : f_X11_undo w = some rv) : CI yX11_undo cX11_undo 2 .int 1 21 (fun ad => [.ref (ad 76)]) w rv.1 rv.2 := by
  refine CI.of (by decide) ?_
  intro l D ad sx ca p e s m below meth c C S hr hlocks
  have hl := lv_entry ([.ref (ad 76)]) (n := 2) (Nat.le_of_ble_eq_true rfl)
  rw [lg_entry_eq]
  generalize (lg_sl ([.ref (ad 76)]) ++ List.replicate (2 - (lg_sl ([.ref (ad 76)])).length) Slot.unset).toArray = ls at hl ⊢
  have hl : lv_has ls 2 [(0, .ref (ad 76))] := hl
  generalize ha9 : ([.ref (ad 76)] : List Value).toArray = args at C ⊢
  generalize s.heap = H at S ⊢
  generalize ([] : List Loc) = locs at S ⊢
  unfold f_X11_undo at h
  refine lv_aload_n C.1 C.2.1 dX11_undo_0 rfl (lv_at hl 0 rfl) ?_
  refine r_geti C S o_76 cf_11 2 rfl (by decide) b_fl_RX11_307 dX11_undo_1 ?_
  refine lv_if_ne (tgt := 14) C.1 C.2.1 dX11_undo_4 (by decide) (fun q1 => ?_) (fun q1 => ?_)
  · replace h := (if_neg q1).symm.trans h
    refine lv_iconst (v := 0) C.1 C.2.1 dX11_undo_14 (by decide) ?_
    refine lv_istore_n (lv' := [(1, .int 0), (0, .ref (ad 76))]) C.1 C.2.1 dX11_undo_15 rfl hl (by decide) rfl (fun ls hl => ?_)
    obtain ⟨o6, e7, h⟩ := Option.bind_eq_some_iff.mp h
    refine k_X11_undo_L16 C  FU _ _ e7 (fun ls H locs hl S => ?_) ls H locs (lv_sub hl [1, 0] rfl) S
    refine lv_aload_n C.1 C.2.1 dX11_undo_41 rfl (lv_at hl 0 rfl) ?_
    refine lv_iconst (v := 0) C.1 C.2.1 dX11_undo_42 (by decide) ?_
    refine r_put C S o_76 cf_11 30 rfl (by decide) rfl (zo_nar (by decide)) b_fl_RX11_105 dX11_undo_43 (fun H locs S => ?_)
    obtain ⟨w8, h, S⟩ := lw_S (P := fun y => St D ad ca s y H locs) h S
    refine lv_aload_n C.1 C.2.1 dX11_undo_46 rfl (lv_at hl 0 rfl) ?_
    refine r_getr C S o_76 cf_11 0 rfl (by decide) b_fl_RX11_9 dX11_undo_47 ?_
    refine lv_iconst (v := 0) C.1 C.2.1 dX11_undo_50 (by decide) ?_
    refine r_ialdn (j := 0) C S a_77 (by decide) (by decide) dX11_undo_51 ?_
    have h9 := Option.some.inj h
    subst h9
    exact r_iret C S hr hlocks dX11_undo_52
  · replace h := (if_pos q1).symm.trans h
    refine lv_aload_n C.1 C.2.1 dX11_undo_7 rfl (lv_at hl 0 rfl) ?_
    refine r_ldc C (-1000000004) b_cn_RX11_225 dX11_undo_8 ?_
    obtain ⟨o9, e10, h⟩ := Option.bind_eq_some_iff.mp h
    refine r_vi C S hl o_76 cf_11 (k_X11_finds e10) b_vb_RX11_109 [.int (-1000000004)] rfl [] rfl rfl (Nat.le_of_ble_eq_true rfl) ⟨Nat.le_of_ble_eq_true rfl, Nat.le_of_ble_eq_true rfl⟩ dX11_undo_10 (fun H locs S => ?_)
    have h9 := Option.some.inj h
    subst h9
    exact r_iret C S hr hlocks dX11_undo_13
set_option maxHeartbeats 4000000 in
set_option maxRecDepth 100000 in
theorem k_X11_tear   {w : Wd} {rv : Int32 × Wd} (h : f_X11_tear w = some rv) : CI yX11_tear cX11_tear 2 .int 0 0 (fun ad => [.ref (ad 76)]) w rv.1 rv.2 := by
  refine CI.of (by decide) ?_
  intro l D ad sx ca p e s m below meth c C S hr hlocks
  have hl := lv_entry ([.ref (ad 76)]) (n := 2) (Nat.le_of_ble_eq_true rfl)
  rw [lg_entry_eq]
  generalize (lg_sl ([.ref (ad 76)]) ++ List.replicate (2 - (lg_sl ([.ref (ad 76)])).length) Slot.unset).toArray = ls at hl ⊢
  have hl : lv_has ls 2 [(0, .ref (ad 76))] := hl
  generalize ha9 : ([.ref (ad 76)] : List Value).toArray = args at C ⊢
  generalize s.heap = H at S ⊢
  generalize ([] : List Loc) = locs at S ⊢
  unfold f_X11_tear at h
  refine lv_aload_n C.1 C.2.1 dX11_tear_0 rfl (lv_at hl 0 rfl) ?_
  refine r_geti C S o_76 cf_11 2 rfl (by decide) b_fl_RX11_307 dX11_tear_1 ?_
  refine lv_istore_n (lv' := [(1, .int (w.1 76 2)), (0, .ref (ad 76))]) C.1 C.2.1 dX11_tear_4 rfl hl (by decide) rfl (fun ls hl => ?_)
  refine lv_aload_n C.1 C.2.1 dX11_tear_5 rfl (lv_at hl 1 rfl) ?_
  refine lv_iconst (v := 0) C.1 C.2.1 dX11_tear_6 (by decide) ?_
  refine r_put C S o_76 cf_11 2 rfl (by decide) rfl (zo_nar (by decide)) b_fl_RX11_307 dX11_tear_7 (fun H locs S => ?_)
  obtain ⟨w1, h, S⟩ := lw_S (P := fun y => St D ad ca s y H locs) h S
  refine lv_iload_n C.1 C.2.1 dX11_tear_10 rfl (lv_at hl 0 rfl) ?_
  refine lv_if_eq (tgt := 18) C.1 C.2.1 dX11_tear_11 (by decide) (fun q2 => ?_) (fun q2 => ?_)
  · replace h := (if_pos q2).symm.trans h
    refine lv_iconst (v := 0) C.1 C.2.1 dX11_tear_18 (by decide) ?_
    have h9 := Option.some.inj h
    subst h9
    exact r_iret C S hr hlocks dX11_tear_19
  · replace h := (if_neg q2).symm.trans h
    refine lv_iconst (v := 1) C.1 C.2.1 dX11_tear_14 (by decide) ?_
    refine lv_goto (tgt := 19) C.1 C.2.1 dX11_tear_15 (by decide) ?_
    have h9 := Option.some.inj h
    subst h9
    exact r_iret C S hr hlocks dX11_tear_19
set_option maxHeartbeats 4000000 in
set_option maxRecDepth 100000 in
theorem k_X11_fullest_L17 {p : Program} {l : Launch} {e : Env} {s : State} {m : MethodId} {args : Array Value} {below : List Frame} {meth : Method} {c : Code} {D : va_G} {ad sx : Nat → Nat} {ca : Nat → ClassId} (C : Cx D ad sx ca p s m c args RX11 cX11_fullest 6) {Q : State → Prop} {w : Wd} {v1 : Int32} {v2 : Int32} {v3 : Int32}  : ∀ (n9 : Nat) (z : Int32 × Int32) (o : Int32 × Int32), lp (f_X11_fullest_L17 v1 v2 v3 w) n9 z = some o → (∀ (ls : Array Slot) (H : Heap) (locs : List Loc), lv_has ls 6 [(0, .ref (ad 76)), (1, .int v1), (2, .int v2), (3, .int v3), (4, .int o.1)] → St D ad ca s w H locs → W p l e (RM 1 22) s m args below meth c H locs 0 0 Q (F0 m 55 ls [])) → (∀ (ls : Array Slot) (H : Heap) (locs : List Loc), lv_has ls 6 [(0, .ref (ad 76)), (1, .int v1), (2, .int v2), (3, .int v3), (4, .int z.1), (5, .int z.2)] → St D ad ca s w H locs → W p l e (RM 1 22) s m args below meth c H locs 0 0 Q (F0 m 17 ls [])) := by
  refine lp_W (HW := fun (z : Int32 × Int32) => ∀ (ls : Array Slot) (H : Heap) (locs : List Loc), lv_has ls 6 [(0, .ref (ad 76)), (1, .int v1), (2, .int v2), (3, .int v3), (4, .int z.1), (5, .int z.2)] → St D ad ca s w H locs → W p l e (RM 1 22) s m args below meth c H locs 0 0 Q (F0 m 17 ls [])) (XW := fun (o : Int32 × Int32) => ∀ (ls : Array Slot) (H : Heap) (locs : List Loc), lv_has ls 6 [(0, .ref (ad 76)), (1, .int v1), (2, .int v2), (3, .int v3), (4, .int o.1)] → St D ad ca s w H locs → W p l e (RM 1 22) s m args below meth c H locs 0 0 Q (F0 m 55 ls [])) ?_
  intro z x h hN hX ls H locs hl S
  unfold f_X11_fullest_L17 at h
  refine lv_iload C.1 C.2.1 dX11_fullest_17 (lv_at hl 5 rfl) ?_
  refine lv_aload_n C.1 C.2.1 dX11_fullest_19 rfl (lv_at hl 0 rfl) ?_
  refine r_getr C S o_76 cf_11 0 rfl (by decide) b_fl_RX11_9 dX11_fullest_20 ?_
  refine lv_iconst (v := 4) C.1 C.2.1 dX11_fullest_23 (by decide) ?_
  refine r_ialdn (j := 4) C S a_77 (by decide) (by decide) dX11_fullest_24 ?_
  refine lv_icmp_ge (tgt := 55) C.1 C.2.1 dX11_fullest_25 (by decide) (fun q2 => ?_) (fun q2 => ?_)
  · replace h := (if_pos q2).symm.trans h
    exact hX _ (Option.some.inj h).symm _ _ _ (lv_sub hl [0, 1, 2, 3, 4] rfl) S
  · replace h := (if_neg q2).symm.trans h
    refine lv_iload C.1 C.2.1 dX11_fullest_28 (lv_at hl 4 rfl) ?_
    refine lv_aload_n C.1 C.2.1 dX11_fullest_30 rfl (lv_at hl 0 rfl) ?_
    refine lv_iload C.1 C.2.1 dX11_fullest_31 (lv_at hl 5 rfl) ?_
    refine lv_iconst (v := 1) C.1 C.2.1 dX11_fullest_33 (by decide) ?_
    obtain ⟨o3, e4, h⟩ := Option.bind_eq_some_iff.mp h
    refine r_vi C S hl o_76 cf_11 (k_X11_get e4) b_vb_RX11_101 [.int z.2, .int 1] rfl [.int z.1] rfl rfl (Nat.le_of_ble_eq_true rfl) ⟨Nat.le_of_ble_eq_true rfl, Nat.le_of_ble_eq_true rfl⟩ dX11_fullest_34 (fun H locs S => ?_)
    refine lv_iload_n C.1 C.2.1 dX11_fullest_37 rfl (lv_at hl 3 rfl) ?_
    refine lv_icmp_ne (tgt := 45) C.1 C.2.1 dX11_fullest_38 (by decide) (fun q5 => ?_) (fun q5 => ?_)
    · replace h := (if_neg q5).symm.trans h
      refine lv_iconst (v := 0) C.1 C.2.1 dX11_fullest_45 (by decide) ?_
      refine lv_iadd C.1 C.2.1 dX11_fullest_46 ?_
      refine lv_istore (lv' := [(4, .int (z.1 + 0)), (0, .ref (ad 76)), (1, .int v1), (2, .int v2), (3, .int v3), (5, .int z.2)]) C.1 C.2.1 dX11_fullest_47 hl (by decide) rfl (fun ls hl => ?_)
      refine lv_iinc (v := z.2 + 1) (lv' := [(5, .int (z.2 + 1)), (4, .int (z.1 + 0)), (0, .ref (ad 76)), (1, .int v1), (2, .int v2), (3, .int v3)]) C.1 C.2.1 dX11_fullest_49 hl (k := 5) rfl rfl (by decide) rfl (fun ls hl => ?_)
      refine lv_goto (tgt := 17) C.1 C.2.1 dX11_fullest_52 (by decide) ?_
      exact hN _ (Option.some.inj h).symm _ _ _ (lv_sub hl [2, 3, 4, 5, 1, 0] rfl) S
    · replace h := (if_pos q5).symm.trans h
      refine lv_iconst (v := 1) C.1 C.2.1 dX11_fullest_41 (by decide) ?_
      refine lv_goto (tgt := 46) C.1 C.2.1 dX11_fullest_42 (by decide) ?_
      refine lv_iadd C.1 C.2.1 dX11_fullest_46 ?_
      refine lv_istore (lv' := [(4, .int (z.1 + 1)), (0, .ref (ad 76)), (1, .int v1), (2, .int v2), (3, .int v3), (5, .int z.2)]) C.1 C.2.1 dX11_fullest_47 hl (by decide) rfl (fun ls hl => ?_)
      refine lv_iinc (v := z.2 + 1) (lv' := [(5, .int (z.2 + 1)), (4, .int (z.1 + 1)), (0, .ref (ad 76)), (1, .int v1), (2, .int v2), (3, .int v3)]) C.1 C.2.1 dX11_fullest_49 hl (k := 5) rfl rfl (by decide) rfl (fun ls hl => ?_)
      refine lv_goto (tgt := 17) C.1 C.2.1 dX11_fullest_52 (by decide) ?_
      exact hN _ (Option.some.inj h).symm _ _ _ (lv_sub hl [2, 3, 4, 5, 1, 0] rfl) S
set_option maxHeartbeats 4000000 in
set_option maxRecDepth 100000 in
theorem k_X11_fullest_J66 {p : Program} {l : Launch} {e : Env} {s : State} {m : MethodId} {args : Array Value} {below : List Frame} {meth : Method} {c : Code} {D : va_G} {ad sx : Nat → Nat} {ca : Nat → ClassId} (C : Cx D ad sx ca p s m c args RX11 cX11_fullest 6) {Q : State → Prop} {w : Wd} {v1 : Int32} {v2 : Int32} {v3 : Int32} {v4 : Int32} {v100 : Int32}  {x : (Int32 × Int32 × Int32) ⊕ (Int32 × Int32 × Int32)} (h : f_X11_fullest_J66 v1 v2 v3 v4 v100 w = some x) (hN : ∀ z, x = .inl z → ∀ (ls : Array Slot) (H : Heap) (locs : List Loc), lv_has ls 6 [(0, .ref (ad 76)), (1, .int z.1), (2, .int z.2.1), (3, .int z.2.2)] → St D ad ca s w H locs → W p l e (RM 1 22) s m args below meth c H locs 0 0 Q (F0 m 6 ls [])) (hX : ∀ o, x = .inr o → ∀ (ls : Array Slot) (H : Heap) (locs : List Loc), lv_has ls 6 [(1, .int o.1)] → St D ad ca s w H locs → W p l e (RM 1 22) s m args below meth c H locs 0 0 Q (F0 m 86 ls [])) {ls : Array Slot} {H : Heap} {locs : List Loc} (hl : lv_has ls 6 [(0, .ref (ad 76)), (1, .int v1), (2, .int v2), (3, .int v3), (4, .int v4)]) (S : St D ad ca s w H locs) : W p l e (RM 1 22) s m args below meth c H locs 0 0 Q (F0 m 66 ls [.int v100]) := by
  unfold f_X11_fullest_J66 at h
  refine lv_istore_n (lv' := [(1, .int v100), (0, .ref (ad 76)), (2, .int v2), (3, .int v3), (4, .int v4)]) C.1 C.2.1 dX11_fullest_66 rfl hl (by decide) rfl (fun ls hl => ?_)
  refine lv_iload C.1 C.2.1 dX11_fullest_67 (lv_at hl 4 rfl) ?_
  refine lv_iload_n C.1 C.2.1 dX11_fullest_69 rfl (lv_at hl 2 rfl) ?_
  refine lv_icmp_le (tgt := 78) C.1 C.2.1 dX11_fullest_70 (by decide) (fun q9 => ?_) (fun q9 => ?_)
  · replace h := (if_pos q9).symm.trans h
    refine lv_iload_n C.1 C.2.1 dX11_fullest_78 rfl (lv_at hl 2 rfl) ?_
    refine lv_istore_n (lv' := [(2, .int v2), (1, .int v100), (0, .ref (ad 76)), (3, .int v3), (4, .int v4)]) C.1 C.2.1 dX11_fullest_79 rfl hl (by decide) rfl (fun ls hl => ?_)
    refine lv_iinc (v := v3 + 1) (lv' := [(3, .int (v3 + 1)), (2, .int v2), (1, .int v100), (0, .ref (ad 76)), (4, .int v4)]) C.1 C.2.1 dX11_fullest_80 hl (k := 3) rfl rfl (by decide) rfl (fun ls hl => ?_)
    refine lv_goto (tgt := 6) C.1 C.2.1 dX11_fullest_83 (by decide) ?_
    exact hN _ (Option.some.inj h).symm _ _ _ (lv_sub hl [3, 2, 1, 0] rfl) S
  · replace h := (if_neg q9).symm.trans h
    refine lv_iload C.1 C.2.1 dX11_fullest_73 (lv_at hl 4 rfl) ?_
    refine lv_goto (tgt := 79) C.1 C.2.1 dX11_fullest_75 (by decide) ?_
    refine lv_istore_n (lv' := [(2, .int v4), (1, .int v100), (0, .ref (ad 76)), (3, .int v3), (4, .int v4)]) C.1 C.2.1 dX11_fullest_79 rfl hl (by decide) rfl (fun ls hl => ?_)
    refine lv_iinc (v := v3 + 1) (lv' := [(3, .int (v3 + 1)), (2, .int v4), (1, .int v100), (0, .ref (ad 76)), (4, .int v4)]) C.1 C.2.1 dX11_fullest_80 hl (k := 3) rfl rfl (by decide) rfl (fun ls hl => ?_)
    refine lv_goto (tgt := 6) C.1 C.2.1 dX11_fullest_83 (by decide) ?_
    exact hN _ (Option.some.inj h).symm _ _ _ (lv_sub hl [3, 2, 1, 0] rfl) S
set_option maxHeartbeats 4000000 in
set_option maxRecDepth 100000 in
theorem k_X11_fullest_L6 {p : Program} {l : Launch} {e : Env} {s : State} {m : MethodId} {args : Array Value} {below : List Frame} {meth : Method} {c : Code} {D : va_G} {ad sx : Nat → Nat} {ca : Nat → ClassId} (C : Cx D ad sx ca p s m c args RX11 cX11_fullest 6) {Q : State → Prop} {w : Wd}   : ∀ (n9 : Nat) (z : Int32 × Int32 × Int32) (o : Int32 × Int32 × Int32), lp (f_X11_fullest_L6 w) n9 z = some o → (∀ (ls : Array Slot) (H : Heap) (locs : List Loc), lv_has ls 6 [(1, .int o.1)] → St D ad ca s w H locs → W p l e (RM 1 22) s m args below meth c H locs 0 0 Q (F0 m 86 ls [])) → (∀ (ls : Array Slot) (H : Heap) (locs : List Loc), lv_has ls 6 [(0, .ref (ad 76)), (1, .int z.1), (2, .int z.2.1), (3, .int z.2.2)] → St D ad ca s w H locs → W p l e (RM 1 22) s m args below meth c H locs 0 0 Q (F0 m 6 ls [])) := by
  refine lp_W (HW := fun (z : Int32 × Int32 × Int32) => ∀ (ls : Array Slot) (H : Heap) (locs : List Loc), lv_has ls 6 [(0, .ref (ad 76)), (1, .int z.1), (2, .int z.2.1), (3, .int z.2.2)] → St D ad ca s w H locs → W p l e (RM 1 22) s m args below meth c H locs 0 0 Q (F0 m 6 ls [])) (XW := fun (o : Int32 × Int32 × Int32) => ∀ (ls : Array Slot) (H : Heap) (locs : List Loc), lv_has ls 6 [(1, .int o.1)] → St D ad ca s w H locs → W p l e (RM 1 22) s m args below meth c H locs 0 0 Q (F0 m 86 ls [])) ?_
  intro z x h hN hX ls H locs hl S
  unfold f_X11_fullest_L6 at h
  refine lv_iload_n C.1 C.2.1 dX11_fullest_6 rfl (lv_at hl 3 rfl) ?_
  refine lv_iconst (v := 4) C.1 C.2.1 dX11_fullest_7 (by decide) ?_
  refine lv_icmp_ge (tgt := 86) C.1 C.2.1 dX11_fullest_8 (by decide) (fun q1 => ?_) (fun q1 => ?_)
  · replace h := (if_pos q1).symm.trans h
    exact hX _ (Option.some.inj h).symm _ _ _ (lv_sub hl [1] rfl) S
  · replace h := (if_neg q1).symm.trans h
    refine lv_iconst (v := 0) C.1 C.2.1 dX11_fullest_11 (by decide) ?_
    refine lv_istore (lv' := [(4, .int 0), (0, .ref (ad 76)), (1, .int z.1), (2, .int z.2.1), (3, .int z.2.2)]) C.1 C.2.1 dX11_fullest_12 hl (by decide) rfl (fun ls hl => ?_)
    refine lv_iconst (v := 0) C.1 C.2.1 dX11_fullest_14 (by decide) ?_
    refine lv_istore (lv' := [(5, .int 0), (4, .int 0), (0, .ref (ad 76)), (1, .int z.1), (2, .int z.2.1), (3, .int z.2.2)]) C.1 C.2.1 dX11_fullest_15 hl (by decide) rfl (fun ls hl => ?_)
    obtain ⟨o6, e7, h⟩ := Option.bind_eq_some_iff.mp h
    refine k_X11_fullest_L17 C  FU _ _ e7 (fun ls H locs hl S => ?_) ls H locs (lv_sub hl [2, 3, 4, 5, 1, 0] rfl) S
    refine lv_iload C.1 C.2.1 dX11_fullest_55 (lv_at hl 4 rfl) ?_
    refine lv_iload_n C.1 C.2.1 dX11_fullest_57 rfl (lv_at hl 2 rfl) ?_
    refine lv_icmp_le (tgt := 65) C.1 C.2.1 dX11_fullest_58 (by decide) (fun q8 => ?_) (fun q8 => ?_)
    · replace h := (if_pos q8).symm.trans h
      refine lv_iload_n C.1 C.2.1 dX11_fullest_65 rfl (lv_at hl 1 rfl) ?_
      exact k_X11_fullest_J66 C  h hN hX (lv_sub hl [0, 1, 2, 3, 4] rfl) S
    · replace h := (if_neg q8).symm.trans h
      refine lv_iload_n C.1 C.2.1 dX11_fullest_61 rfl (lv_at hl 3 rfl) ?_
      refine lv_goto (tgt := 66) C.1 C.2.1 dX11_fullest_62 (by decide) ?_
      exact k_X11_fullest_J66 C  h hN hX (lv_sub hl [0, 1, 2, 3, 4] rfl) S
set_option maxHeartbeats 4000000 in
set_option maxRecDepth 100000 in
theorem k_X11_fullest   {w : Wd} {rv : Int32} (h : f_X11_fullest w = some rv) : CI yX11_fullest cX11_fullest 6 .int 1 22 (fun ad => [.ref (ad 76)]) w rv w := by
  refine CI.of (by decide) ?_
  intro l D ad sx ca p e s m below meth c C S hr hlocks
  have hl := lv_entry ([.ref (ad 76)]) (n := 6) (Nat.le_of_ble_eq_true rfl)
  rw [lg_entry_eq]
  generalize (lg_sl ([.ref (ad 76)]) ++ List.replicate (6 - (lg_sl ([.ref (ad 76)])).length) Slot.unset).toArray = ls at hl ⊢
  have hl : lv_has ls 6 [(0, .ref (ad 76))] := hl
  generalize ha9 : ([.ref (ad 76)] : List Value).toArray = args at C ⊢
  generalize s.heap = H at S ⊢
  generalize ([] : List Loc) = locs at S ⊢
  unfold f_X11_fullest at h
  refine lv_iconst (v := 0) C.1 C.2.1 dX11_fullest_0 (by decide) ?_
  refine lv_istore_n (lv' := [(1, .int 0), (0, .ref (ad 76))]) C.1 C.2.1 dX11_fullest_1 rfl hl (by decide) rfl (fun ls hl => ?_)
  refine lv_iconst (v := 0) C.1 C.2.1 dX11_fullest_2 (by decide) ?_
  refine lv_istore_n (lv' := [(2, .int 0), (1, .int 0), (0, .ref (ad 76))]) C.1 C.2.1 dX11_fullest_3 rfl hl (by decide) rfl (fun ls hl => ?_)
  refine lv_iconst (v := 0) C.1 C.2.1 dX11_fullest_4 (by decide) ?_
  refine lv_istore_n (lv' := [(3, .int 0), (2, .int 0), (1, .int 0), (0, .ref (ad 76))]) C.1 C.2.1 dX11_fullest_5 rfl hl (by decide) rfl (fun ls hl => ?_)
  obtain ⟨o10, e11, h⟩ := Option.bind_eq_some_iff.mp h
  refine k_X11_fullest_L6 C  FU _ _ e11 (fun ls H locs hl S => ?_) ls H locs (lv_sub hl [3, 2, 1, 0] rfl) S
  refine lv_iload_n C.1 C.2.1 dX11_fullest_86 rfl (lv_at hl 0 rfl) ?_
  have h9 := Option.some.inj h
  subst h9
  exact r_iret C S hr hlocks dX11_fullest_87
set_option maxHeartbeats 4000000 in
set_option maxRecDepth 100000 in
theorem k_X11_flowAll_L8 {p : Program} {l : Launch} {e : Env} {s : State} {m : MethodId} {args : Array Value} {below : List Frame} {meth : Method} {c : Code} {D : va_G} {ad sx : Nat → Nat} {ca : Nat → ClassId} (C : Cx D ad sx ca p s m c args RX11 cX11_flowAll 3) {Q : State → Prop} {w : Wd}   : ∀ (n9 : Nat) (z : Int32 × Int32) (o : Int32 × Int32), lp (f_X11_flowAll_L8 w) n9 z = some o → (∀ (ls : Array Slot) (H : Heap) (locs : List Loc), lv_has ls 3 [(1, .int o.1)] → St D ad ca s w H locs → W p l e (RM 5 114) s m args below meth c H locs 0 0 Q (F0 m 33 ls [])) → (∀ (ls : Array Slot) (H : Heap) (locs : List Loc), lv_has ls 3 [(0, .ref (ad 76)), (1, .int z.1), (2, .int z.2)] → St D ad ca s w H locs → W p l e (RM 5 114) s m args below meth c H locs 0 0 Q (F0 m 8 ls [])) := by
  refine lp_W (HW := fun (z : Int32 × Int32) => ∀ (ls : Array Slot) (H : Heap) (locs : List Loc), lv_has ls 3 [(0, .ref (ad 76)), (1, .int z.1), (2, .int z.2)] → St D ad ca s w H locs → W p l e (RM 5 114) s m args below meth c H locs 0 0 Q (F0 m 8 ls [])) (XW := fun (o : Int32 × Int32) => ∀ (ls : Array Slot) (H : Heap) (locs : List Loc), lv_has ls 3 [(1, .int o.1)] → St D ad ca s w H locs → W p l e (RM 5 114) s m args below meth c H locs 0 0 Q (F0 m 33 ls [])) ?_
  intro z x h hN hX ls H locs hl S
  unfold f_X11_flowAll_L8 at h
  refine lv_iload_n C.1 C.2.1 dX11_flowAll_8 rfl (lv_at hl 2 rfl) ?_
  refine lv_aload_n C.1 C.2.1 dX11_flowAll_9 rfl (lv_at hl 0 rfl) ?_
  refine r_getr C S o_76 cf_11 0 rfl (by decide) b_fl_RX11_9 dX11_flowAll_10 ?_
  refine lv_iconst (v := 4) C.1 C.2.1 dX11_flowAll_13 (by decide) ?_
  refine r_ialdn (j := 4) C S a_77 (by decide) (by decide) dX11_flowAll_14 ?_
  refine lv_icmp_ge (tgt := 33) C.1 C.2.1 dX11_flowAll_15 (by decide) (fun q3 => ?_) (fun q3 => ?_)
  · replace h := (if_pos q3).symm.trans h
    exact hX _ (Option.some.inj h).symm _ _ _ (lv_sub hl [1] rfl) S
  · replace h := (if_neg q3).symm.trans h
    refine lv_iload_n C.1 C.2.1 dX11_flowAll_18 rfl (lv_at hl 1 rfl) ?_
    refine lv_aload_n C.1 C.2.1 dX11_flowAll_19 rfl (lv_at hl 0 rfl) ?_
    refine r_getr C S o_76 cf_11 11 rfl (by decide) b_fl_RX11_37 dX11_flowAll_20 ?_
    refine lv_iload_n C.1 C.2.1 dX11_flowAll_23 rfl (lv_at hl 2 rfl) ?_
    obtain ⟨g4, h⟩ := gd_some h
    refine r_iald C S a_86 g4 dX11_flowAll_24 ?_
    refine lv_iadd C.1 C.2.1 dX11_flowAll_25 ?_
    refine lv_istore_n (lv' := [(1, .int (z.1 + (w.1 86 z.2.toNatClampNeg))), (0, .ref (ad 76)), (2, .int z.2)]) C.1 C.2.1 dX11_flowAll_26 rfl hl (by decide) rfl (fun ls hl => ?_)
    refine lv_iinc (v := z.2 + 1) (lv' := [(2, .int (z.2 + 1)), (1, .int (z.1 + (w.1 86 z.2.toNatClampNeg))), (0, .ref (ad 76))]) C.1 C.2.1 dX11_flowAll_27 hl (k := 2) rfl rfl (by decide) rfl (fun ls hl => ?_)
    refine lv_goto (tgt := 8) C.1 C.2.1 dX11_flowAll_30 (by decide) ?_
    exact hN _ (Option.some.inj h).symm _ _ _ (lv_sub hl [2, 1, 0] rfl) S
set_option maxHeartbeats 4000000 in
set_option maxRecDepth 100000 in
theorem k_X11_flowAll   {w : Wd} {rv : Int32 × Wd} (h : f_X11_flowAll w = some rv) : CI yX11_flowAll cX11_flowAll 3 .int 5 114 (fun ad => [.ref (ad 76)]) w rv.1 rv.2 := by
  refine CI.of (by decide) ?_
  intro l D ad sx ca p e s m below meth c C S hr hlocks
  have hl := lv_entry ([.ref (ad 76)]) (n := 3) (Nat.le_of_ble_eq_true rfl)
  rw [lg_entry_eq]
  generalize (lg_sl ([.ref (ad 76)]) ++ List.replicate (3 - (lg_sl ([.ref (ad 76)])).length) Slot.unset).toArray = ls at hl ⊢
  have hl : lv_has ls 3 [(0, .ref (ad 76))] := hl
  generalize ha9 : ([.ref (ad 76)] : List Value).toArray = args at C ⊢
  generalize s.heap = H at S ⊢
  generalize ([] : List Loc) = locs at S ⊢
  unfold f_X11_flowAll at h
  refine lv_aload_n C.1 C.2.1 dX11_flowAll_0 rfl (lv_at hl 0 rfl) ?_
  obtain ⟨o1, e2, h⟩ := Option.bind_eq_some_iff.mp h
  refine r_vv C S hl o_76 cf_11 (k_X11_setsAside e2) b_vb_RX11_145 [] rfl [] rfl rfl (Nat.le_of_ble_eq_true rfl) ⟨Nat.le_of_ble_eq_true rfl, Nat.le_of_ble_eq_true rfl⟩ dX11_flowAll_1 (fun H locs S => ?_)
  refine lv_iconst (v := 0) C.1 C.2.1 dX11_flowAll_4 (by decide) ?_
  refine lv_istore_n (lv' := [(1, .int 0), (0, .ref (ad 76))]) C.1 C.2.1 dX11_flowAll_5 rfl hl (by decide) rfl (fun ls hl => ?_)
  refine lv_iconst (v := 0) C.1 C.2.1 dX11_flowAll_6 (by decide) ?_
  refine lv_istore_n (lv' := [(2, .int 0), (1, .int 0), (0, .ref (ad 76))]) C.1 C.2.1 dX11_flowAll_7 rfl hl (by decide) rfl (fun ls hl => ?_)
  obtain ⟨o5, e6, h⟩ := Option.bind_eq_some_iff.mp h
  refine k_X11_flowAll_L8 C  FU _ _ e6 (fun ls H locs hl S => ?_) ls H locs (lv_sub hl [2, 1, 0] rfl) S
  refine lv_iload_n C.1 C.2.1 dX11_flowAll_33 rfl (lv_at hl 0 rfl) ?_
  have h9 := Option.some.inj h
  subst h9
  exact r_iret C S hr hlocks dX11_flowAll_34
set_option maxHeartbeats 4000000 in
set_option maxRecDepth 100000 in
theorem k_X11_count {v1 : Int32}  {w : Wd} {rv : Int32 × Wd} (h : f_X11_count v1 w = some rv) : CI yX11_count cX11_count 2 .int 6 136 (fun ad => [.ref (ad 76), .int v1]) w rv.1 rv.2 := by
  refine CI.of (by decide) ?_
  intro l D ad sx ca p e s m below meth c C S hr hlocks
  have hl := lv_entry ([.ref (ad 76), .int v1]) (n := 2) (Nat.le_of_ble_eq_true rfl)
  rw [lg_entry_eq]
  generalize (lg_sl ([.ref (ad 76), .int v1]) ++ List.replicate (2 - (lg_sl ([.ref (ad 76), .int v1])).length) Slot.unset).toArray = ls at hl ⊢
  have hl : lv_has ls 2 [(0, .ref (ad 76)), (1, .int v1)] := hl
  generalize ha9 : ([.ref (ad 76), .int v1] : List Value).toArray = args at C ⊢
  generalize s.heap = H at S ⊢
  generalize ([] : List Loc) = locs at S ⊢
  unfold f_X11_count at h
  refine lv_iload_n C.1 C.2.1 dX11_count_0 rfl (lv_at hl 1 rfl) ?_
  by_cases q1 : v1 = 0
  · replace h := (if_pos q1).symm.trans h
    refine lv_tableIn (off := 51) (tgt := 52) C.1 C.2.1 dX11_count_1 (by rw [q1]; decide) (by rw [q1]; decide) (by rw [q1]; rfl) (by decide) ?_
    refine lv_aload_n C.1 C.2.1 dX11_count_52 rfl (lv_at hl 0 rfl) ?_
    refine r_getr C S o_76 cf_11 0 rfl (by decide) b_fl_RX11_9 dX11_count_53 ?_
    refine lv_iconst (v := 0) C.1 C.2.1 dX11_count_56 (by decide) ?_
    refine r_ialdn (j := 0) C S a_77 (by decide) (by decide) dX11_count_57 ?_
    have h9 := Option.some.inj h
    subst h9
    exact r_iret C S hr hlocks dX11_count_58
  · replace h := (if_neg q1).symm.trans h
    by_cases q2 : v1 = 1
    · replace h := (if_pos q2).symm.trans h
      refine lv_tableIn (off := 58) (tgt := 59) C.1 C.2.1 dX11_count_1 (by rw [q2]; decide) (by rw [q2]; decide) (by rw [q2]; rfl) (by decide) ?_
      refine lv_aload_n C.1 C.2.1 dX11_count_59 rfl (lv_at hl 0 rfl) ?_
      refine r_getr C S o_76 cf_11 0 rfl (by decide) b_fl_RX11_9 dX11_count_60 ?_
      refine lv_iconst (v := 4) C.1 C.2.1 dX11_count_63 (by decide) ?_
      refine r_ialdn (j := 4) C S a_77 (by decide) (by decide) dX11_count_64 ?_
      have h9 := Option.some.inj h
      subst h9
      exact r_iret C S hr hlocks dX11_count_65
    · replace h := (if_neg q2).symm.trans h
      by_cases q3 : v1 = 2
      · replace h := (if_pos q3).symm.trans h
        refine lv_tableIn (off := 65) (tgt := 66) C.1 C.2.1 dX11_count_1 (by rw [q3]; decide) (by rw [q3]; decide) (by rw [q3]; rfl) (by decide) ?_
        refine lv_aload_n C.1 C.2.1 dX11_count_66 rfl (lv_at hl 0 rfl) ?_
        refine lv_iconst (v := 4) C.1 C.2.1 dX11_count_67 (by decide) ?_
        obtain ⟨o4, e5, h⟩ := Option.bind_eq_some_iff.mp h
        refine r_vi C S hl o_76 cf_11 (k_X11_sumOf e5) b_vb_RX11_226 [.int 4] rfl [] rfl rfl (Nat.le_of_ble_eq_true rfl) ⟨Nat.le_of_ble_eq_true rfl, Nat.le_of_ble_eq_true rfl⟩ dX11_count_68 (fun H locs S => ?_)
        have h9 := Option.some.inj h
        subst h9
        exact r_iret C S hr hlocks dX11_count_71
      · replace h := (if_neg q3).symm.trans h
        by_cases q6 : v1 = 3
        · replace h := (if_pos q6).symm.trans h
          refine lv_tableIn (off := 71) (tgt := 72) C.1 C.2.1 dX11_count_1 (by rw [q6]; decide) (by rw [q6]; decide) (by rw [q6]; rfl) (by decide) ?_
          refine lv_aload_n C.1 C.2.1 dX11_count_72 rfl (lv_at hl 0 rfl) ?_
          refine r_getr C S o_76 cf_11 0 rfl (by decide) b_fl_RX11_9 dX11_count_73 ?_
          refine lv_iconst (v := 5) C.1 C.2.1 dX11_count_76 (by decide) ?_
          refine r_ialdn (j := 5) C S a_77 (by decide) (by decide) dX11_count_77 ?_
          have h9 := Option.some.inj h
          subst h9
          exact r_iret C S hr hlocks dX11_count_78
        · replace h := (if_neg q6).symm.trans h
          by_cases q7 : v1 = 4
          · replace h := (if_pos q7).symm.trans h
            refine lv_tableIn (off := 78) (tgt := 79) C.1 C.2.1 dX11_count_1 (by rw [q7]; decide) (by rw [q7]; decide) (by rw [q7]; rfl) (by decide) ?_
            refine lv_aload_n C.1 C.2.1 dX11_count_79 rfl (lv_at hl 0 rfl) ?_
            refine r_geti C S o_76 cf_11 18 rfl (by decide) b_fl_RX11_161 dX11_count_80 ?_
            have h9 := Option.some.inj h
            subst h9
            exact r_iret C S hr hlocks dX11_count_83
          · replace h := (if_neg q7).symm.trans h
            by_cases q8 : v1 = 5
            · replace h := (if_pos q8).symm.trans h
              refine lv_tableIn (off := 83) (tgt := 84) C.1 C.2.1 dX11_count_1 (by rw [q8]; decide) (by rw [q8]; decide) (by rw [q8]; rfl) (by decide) ?_
              refine lv_aload_n C.1 C.2.1 dX11_count_84 rfl (lv_at hl 0 rfl) ?_
              refine lv_bipush (v := 7) C.1 C.2.1 dX11_count_85 (by decide) ?_
              obtain ⟨o9, e10, h⟩ := Option.bind_eq_some_iff.mp h
              refine r_vi C S hl o_76 cf_11 (k_X11_sumOf e10) b_vb_RX11_226 [.int 7] rfl [] rfl rfl (Nat.le_of_ble_eq_true rfl) ⟨Nat.le_of_ble_eq_true rfl, Nat.le_of_ble_eq_true rfl⟩ dX11_count_87 (fun H locs S => ?_)
              have h9 := Option.some.inj h
              subst h9
              exact r_iret C S hr hlocks dX11_count_90
            · replace h := (if_neg q8).symm.trans h
              by_cases q11 : v1 = 6
              · replace h := (if_pos q11).symm.trans h
                refine lv_tableIn (off := 90) (tgt := 91) C.1 C.2.1 dX11_count_1 (by rw [q11]; decide) (by rw [q11]; decide) (by rw [q11]; rfl) (by decide) ?_
                refine lv_aload_n C.1 C.2.1 dX11_count_91 rfl (lv_at hl 0 rfl) ?_
                refine lv_bipush (v := 8) C.1 C.2.1 dX11_count_92 (by decide) ?_
                obtain ⟨o12, e13, h⟩ := Option.bind_eq_some_iff.mp h
                refine r_vi C S hl o_76 cf_11 (k_X11_sumOf e13) b_vb_RX11_226 [.int 8] rfl [] rfl rfl (Nat.le_of_ble_eq_true rfl) ⟨Nat.le_of_ble_eq_true rfl, Nat.le_of_ble_eq_true rfl⟩ dX11_count_94 (fun H locs S => ?_)
                have h9 := Option.some.inj h
                subst h9
                exact r_iret C S hr hlocks dX11_count_97
              · replace h := (if_neg q11).symm.trans h
                by_cases q14 : v1 = 7
                · replace h := (if_pos q14).symm.trans h
                  refine lv_tableIn (off := 97) (tgt := 98) C.1 C.2.1 dX11_count_1 (by rw [q14]; decide) (by rw [q14]; decide) (by rw [q14]; rfl) (by decide) ?_
                  refine lv_aload_n C.1 C.2.1 dX11_count_98 rfl (lv_at hl 0 rfl) ?_
                  obtain ⟨o15, e16, h⟩ := Option.bind_eq_some_iff.mp h
                  refine r_vi C S hl o_76 cf_11 (k_X11_fullest e16) b_vb_RX11_310 [] rfl [] rfl rfl (Nat.le_of_ble_eq_true rfl) ⟨Nat.le_of_ble_eq_true rfl, Nat.le_of_ble_eq_true rfl⟩ dX11_count_99 (fun H locs S => ?_)
                  have h9 := Option.some.inj h
                  subst h9
                  exact r_iret C S hr hlocks dX11_count_102
                · replace h := (if_neg q14).symm.trans h
                  by_cases q17 : v1 = 8
                  · replace h := (if_pos q17).symm.trans h
                    refine lv_tableIn (off := 102) (tgt := 103) C.1 C.2.1 dX11_count_1 (by rw [q17]; decide) (by rw [q17]; decide) (by rw [q17]; rfl) (by decide) ?_
                    refine lv_aload_n C.1 C.2.1 dX11_count_103 rfl (lv_at hl 0 rfl) ?_
                    obtain ⟨o18, e19, h⟩ := Option.bind_eq_some_iff.mp h
                    refine r_vi C S hl o_76 cf_11 (k_X11_flowAll e19) b_vb_RX11_313 [] rfl [] rfl rfl (Nat.le_of_ble_eq_true rfl) ⟨Nat.le_of_ble_eq_true rfl, Nat.le_of_ble_eq_true rfl⟩ dX11_count_104 (fun H locs S => ?_)
                    have h9 := Option.some.inj h
                    subst h9
                    exact r_iret C S hr hlocks dX11_count_107
                  · replace h := (if_neg q17).symm.trans h
                    have hb9 : (v1).toInt < 0 ∨ 8 < (v1).toInt := by
                      have zq1 := tb_ne q1
                      have zq2 := tb_ne q2
                      have zq3 := tb_ne q3
                      have zq6 := tb_ne q6
                      have zq7 := tb_ne q7
                      have zq8 := tb_ne q8
                      have zq11 := tb_ne q11
                      have zq14 := tb_ne q14
                      have zq17 := tb_ne q17
                      rw [show ((0 : Int32)).toInt = 0 from by decide] at zq1
                      rw [show ((1 : Int32)).toInt = 1 from by decide] at zq2
                      rw [show ((2 : Int32)).toInt = 2 from by decide] at zq3
                      rw [show ((3 : Int32)).toInt = 3 from by decide] at zq6
                      rw [show ((4 : Int32)).toInt = 4 from by decide] at zq7
                      rw [show ((5 : Int32)).toInt = 5 from by decide] at zq8
                      rw [show ((6 : Int32)).toInt = 6 from by decide] at zq11
                      rw [show ((7 : Int32)).toInt = 7 from by decide] at zq14
                      rw [show ((8 : Int32)).toInt = 8 from by decide] at zq17
                      omega
                    refine lv_tableOut (tgt := 108) C.1 C.2.1 dX11_count_1 hb9 (by decide) ?_
                    refine lv_aload_n C.1 C.2.1 dX11_count_108 rfl (lv_at hl 0 rfl) ?_
                    refine r_ldc C (-1000000001) b_cn_RX11_92 dX11_count_109 ?_
                    obtain ⟨o20, e21, h⟩ := Option.bind_eq_some_iff.mp h
                    refine r_vi C S hl o_76 cf_11 (k_X11_finds e21) b_vb_RX11_109 [.int (-1000000001)] rfl [] rfl rfl (Nat.le_of_ble_eq_true rfl) ⟨Nat.le_of_ble_eq_true rfl, Nat.le_of_ble_eq_true rfl⟩ dX11_count_111 (fun H locs S => ?_)
                    have h9 := Option.some.inj h
                    subst h9
                    exact r_iret C S hr hlocks dX11_count_114

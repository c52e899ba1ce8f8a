set_option maxHeartbeats 4000000 in
set_option maxRecDepth 100000 in
theorem k_X11_complain {v1 : Int32} {v2 : Int32}  {w : Wd} {rv : Int32 × Wd} (h : f_X11_complain v1 v2 w = some rv) : CI yX11_complain cX11_complain 4 .int 2 43 (fun ad => [.ref (ad 76), .int v1, .int v2]) w rv.1 rv.2 := by
  refine CI.of (by decide) ?_
  intro l D ad sx ca p e s m below meth c C S hr hlocks
  have hl := lv_entry ([.ref (ad 76), .int v1, .int v2]) (n := 4) (Nat.le_of_ble_eq_true rfl)
  rw [lg_entry_eq]
  generalize (lg_sl ([.ref (ad 76), .int v1, .int v2]) ++ List.replicate (4 - (lg_sl ([.ref (ad 76), .int v1, .int v2])).length) Slot.unset).toArray = ls at hl ⊢
  have hl : lv_has ls 4 [(0, .ref (ad 76)), (1, .int v1), (2, .int v2)] := hl
  generalize ha9 : ([.ref (ad 76), .int v1, .int v2] : List Value).toArray = args at C ⊢
  generalize s.heap = H at S ⊢
  generalize ([] : List Loc) = locs at S ⊢
  unfold f_X11_complain at h
  refine lv_aload_n C.1 C.2.1 dX11_complain_0 rfl (lv_at hl 0 rfl) ?_
  refine lv_iload_n C.1 C.2.1 dX11_complain_1 rfl (lv_at hl 1 rfl) ?_
  obtain ⟨o1, e2, h⟩ := Option.bind_eq_some_iff.mp h
  refine r_vi C S hl o_76 cf_11 (k_X11_isFlat e2) b_vb_RX11_141 [.int v1] rfl [] rfl rfl (Nat.le_of_ble_eq_true rfl) ⟨Nat.le_of_ble_eq_true rfl, Nat.le_of_ble_eq_true rfl⟩ dX11_complain_2 (fun H locs S => ?_)
  refine lv_if_eq (tgt := 17) C.1 C.2.1 dX11_complain_5 (by decide) (fun q3 => ?_) (fun q3 => ?_)
  · replace h := (if_pos q3).symm.trans h
    refine lv_aload_n C.1 C.2.1 dX11_complain_17 rfl (lv_at hl 0 rfl) ?_
    refine r_ldc C (-1000000001) b_cn_RX11_92 dX11_complain_18 ?_
    obtain ⟨o4, e5, h⟩ := Option.bind_eq_some_iff.mp h
    refine r_vi C S hl o_76 cf_11 (k_X11_finds e5) b_vb_RX11_109 [.int (-1000000001)] rfl [] rfl rfl (Nat.le_of_ble_eq_true rfl) ⟨Nat.le_of_ble_eq_true rfl, Nat.le_of_ble_eq_true rfl⟩ dX11_complain_20 (fun H locs S => ?_)
    have h9 := Option.some.inj h
    subst h9
    exact r_iret C S hr hlocks dX11_complain_23
  · replace h := (if_neg q3).symm.trans h
    refine lv_iload_n C.1 C.2.1 dX11_complain_8 rfl (lv_at hl 2 rfl) ?_
    refine lv_iconst (v := 1) C.1 C.2.1 dX11_complain_9 (by decide) ?_
    refine lv_iconst (v := 2) C.1 C.2.1 dX11_complain_10 (by decide) ?_
    obtain ⟨o6, e7, h⟩ := Option.bind_eq_some_iff.mp h
    refine r_si C S hl (k_X11_in e7) b_sb_RX11_97 [.int v2, .int 1, .int 2] rfl [] rfl rfl (Nat.le_of_ble_eq_true rfl) ⟨Nat.le_of_ble_eq_true rfl, Nat.le_of_ble_eq_true rfl⟩ dX11_complain_11 (fun H locs S => ?_)
    refine lv_if_ne (tgt := 24) C.1 C.2.1 dX11_complain_14 (by decide) (fun q8 => ?_) (fun q8 => ?_)
    · replace h := (if_neg q8).symm.trans h
      refine lv_aload_n C.1 C.2.1 dX11_complain_24 rfl (lv_at hl 0 rfl) ?_
      refine r_getr C S o_76 cf_11 0 rfl (by decide) b_fl_RX11_9 dX11_complain_25 ?_
      refine lv_iconst (v := 5) C.1 C.2.1 dX11_complain_28 (by decide) ?_
      refine r_ialdn (j := 5) C S a_77 (by decide) (by decide) dX11_complain_29 ?_
      refine lv_bipush (v := 24) C.1 C.2.1 dX11_complain_30 (by decide) ?_
      refine lv_icmp_ne (tgt := 42) C.1 C.2.1 dX11_complain_32 (by decide) (fun q9 => ?_) (fun q9 => ?_)
      · replace h := (if_neg q9).symm.trans h
        refine lv_sipush (v := 139) C.1 C.2.1 dX11_complain_42 (by decide) ?_
        refine lv_iconst (v := 3) C.1 C.2.1 dX11_complain_45 (by decide) ?_
        refine lv_aload_n C.1 C.2.1 dX11_complain_46 rfl (lv_at hl 0 rfl) ?_
        refine r_getr C S o_76 cf_11 0 rfl (by decide) b_fl_RX11_9 dX11_complain_47 ?_
        refine lv_iconst (v := 5) C.1 C.2.1 dX11_complain_50 (by decide) ?_
        refine r_ialdn (j := 5) C S a_77 (by decide) (by decide) dX11_complain_51 ?_
        refine lv_imul C.1 C.2.1 dX11_complain_52 ?_
        refine lv_iadd C.1 C.2.1 dX11_complain_53 ?_
        refine lv_istore_n (lv' := [(3, .int (139 + (3 * (w.1 77 5)))), (0, .ref (ad 76)), (1, .int v1), (2, .int v2)]) C.1 C.2.1 dX11_complain_54 rfl hl (by decide) rfl (fun ls hl => ?_)
        refine lv_aload_n C.1 C.2.1 dX11_complain_55 rfl (lv_at hl 1 rfl) ?_
        refine r_getr C S o_76 cf_11 0 rfl (by decide) b_fl_RX11_9 dX11_complain_56 ?_
        refine lv_iload_n C.1 C.2.1 dX11_complain_59 rfl (lv_at hl 0 rfl) ?_
        refine lv_iload_n C.1 C.2.1 dX11_complain_60 rfl (lv_at hl 2 rfl) ?_
        obtain ⟨g10, h⟩ := gd_some h
        refine r_iast C S a_77 g10 dX11_complain_61 (fun H locs S => ?_)
        obtain ⟨w11, h, S⟩ := lw_S (P := fun y => St D ad ca s y H locs) h S
        refine lv_aload_n C.1 C.2.1 dX11_complain_62 rfl (lv_at hl 1 rfl) ?_
        refine r_getr C S o_76 cf_11 0 rfl (by decide) b_fl_RX11_9 dX11_complain_63 ?_
        refine lv_iload_n C.1 C.2.1 dX11_complain_66 rfl (lv_at hl 0 rfl) ?_
        refine lv_iconst (v := 1) C.1 C.2.1 dX11_complain_67 (by decide) ?_
        refine lv_iadd C.1 C.2.1 dX11_complain_68 ?_
        refine lv_iload_n C.1 C.2.1 dX11_complain_69 rfl (lv_at hl 3 rfl) ?_
        obtain ⟨g12, h⟩ := gd_some h
        refine r_iast C S a_77 g12 dX11_complain_70 (fun H locs S => ?_)
        obtain ⟨w13, h, S⟩ := lw_S (P := fun y => St D ad ca s y H locs) h S
        refine lv_aload_n C.1 C.2.1 dX11_complain_71 rfl (lv_at hl 1 rfl) ?_
        refine r_getr C S o_76 cf_11 0 rfl (by decide) b_fl_RX11_9 dX11_complain_72 ?_
        refine lv_iload_n C.1 C.2.1 dX11_complain_75 rfl (lv_at hl 0 rfl) ?_
        refine lv_iconst (v := 2) C.1 C.2.1 dX11_complain_76 (by decide) ?_
        refine lv_iadd C.1 C.2.1 dX11_complain_77 ?_
        refine lv_aload_n C.1 C.2.1 dX11_complain_78 rfl (lv_at hl 1 rfl) ?_
        refine r_getr C S o_76 cf_11 0 rfl (by decide) b_fl_RX11_9 dX11_complain_79 ?_
        refine lv_iconst (v := 0) C.1 C.2.1 dX11_complain_82 (by decide) ?_
        refine r_ialdn (j := 0) C S a_77 (by decide) (by decide) dX11_complain_83 ?_
        obtain ⟨g14, h⟩ := gd_some h
        refine r_iast C S a_77 g14 dX11_complain_84 (fun H locs S => ?_)
        obtain ⟨w15, h, S⟩ := lw_S (P := fun y => St D ad ca s y H locs) h S
        refine lv_aload_n C.1 C.2.1 dX11_complain_85 rfl (lv_at hl 1 rfl) ?_
        refine r_getr C S o_76 cf_11 0 rfl (by decide) b_fl_RX11_9 dX11_complain_86 ?_
        refine lv_iconst (v := 5) C.1 C.2.1 dX11_complain_89 (by decide) ?_
        refine lv_dup2_11 C.1 C.2.1 dX11_complain_90 rfl rfl ?_
        refine r_ialdn (j := 5) C S a_77 (by decide) (by decide) dX11_complain_91 ?_
        refine lv_iconst (v := 1) C.1 C.2.1 dX11_complain_92 (by decide) ?_
        refine lv_iadd C.1 C.2.1 dX11_complain_93 ?_
        refine r_iastn (j := 5) C S a_77 (by decide) (by decide) dX11_complain_94 (fun H locs S => ?_)
        obtain ⟨w16, h, S⟩ := lw_S (P := fun y => St D ad ca s y H locs) h S
        refine lv_aload_n C.1 C.2.1 dX11_complain_95 rfl (lv_at hl 1 rfl) ?_
        refine r_getr C S o_76 cf_11 0 rfl (by decide) b_fl_RX11_9 dX11_complain_96 ?_
        refine lv_iconst (v := 5) C.1 C.2.1 dX11_complain_99 (by decide) ?_
        refine r_ialdn (j := 5) C S a_77 (by decide) (by decide) dX11_complain_100 ?_
        refine lv_iconst (v := 1) C.1 C.2.1 dX11_complain_101 (by decide) ?_
        refine lv_isub C.1 C.2.1 dX11_complain_102 ?_
        have h9 := Option.some.inj h
        subst h9
        exact r_iret C S hr hlocks dX11_complain_103
      · replace h := (if_pos q9).symm.trans h
        refine lv_aload_n C.1 C.2.1 dX11_complain_35 rfl (lv_at hl 0 rfl) ?_
        refine r_ldc C (-1000000002) b_cn_RX11_113 dX11_complain_36 ?_
        obtain ⟨o17, e18, h⟩ := Option.bind_eq_some_iff.mp h
        refine r_vi C S hl o_76 cf_11 (k_X11_finds e18) b_vb_RX11_109 [.int (-1000000002)] rfl [] rfl rfl (Nat.le_of_ble_eq_true rfl) ⟨Nat.le_of_ble_eq_true rfl, Nat.le_of_ble_eq_true rfl⟩ dX11_complain_38 (fun H locs S => ?_)
        have h9 := Option.some.inj h
        subst h9
        exact r_iret C S hr hlocks dX11_complain_41
    · replace h := (if_pos q8).symm.trans h
      refine lv_aload_n C.1 C.2.1 dX11_complain_17 rfl (lv_at hl 0 rfl) ?_
      refine r_ldc C (-1000000001) b_cn_RX11_92 dX11_complain_18 ?_
      obtain ⟨o19, e20, h⟩ := Option.bind_eq_some_iff.mp h
      refine r_vi C S hl o_76 cf_11 (k_X11_finds e20) b_vb_RX11_109 [.int (-1000000001)] rfl [] rfl rfl (Nat.le_of_ble_eq_true rfl) ⟨Nat.le_of_ble_eq_true rfl, Nat.le_of_ble_eq_true rfl⟩ dX11_complain_20 (fun H locs S => ?_)
      have h9 := Option.some.inj h
      subst h9
      exact r_iret C S hr hlocks dX11_complain_23
set_option maxHeartbeats 4000000 in
set_option maxRecDepth 100000 in
theorem k_X11_areNear {v0 : Int32} {v1 : Int32} {v2 : Int32}  {w : Wd} {rv : Int32} (h : f_X11_areNear v0 v1 v2 = some rv) : CI yX11_areNear cX11_areNear 3 .boolean 0 0 (fun ad => [.int v0, .int v1, .int v2]) w rv w := by
  refine CI.of (by decide) ?_
  intro l D ad sx ca p e s m below meth c C S hr hlocks
  have hl := lv_entry ([.int v0, .int v1, .int v2]) (n := 3) (Nat.le_of_ble_eq_true rfl)
  rw [lg_entry_eq]
  generalize (lg_sl ([.int v0, .int v1, .int v2]) ++ List.replicate (3 - (lg_sl ([.int v0, .int v1, .int v2])).length) Slot.unset).toArray = ls at hl ⊢
  have hl : lv_has ls 3 [(0, .int v0), (1, .int v1), (2, .int v2)] := hl
  generalize ha9 : ([.int v0, .int v1, .int v2] : List Value).toArray = args at C ⊢
  generalize s.heap = H at S ⊢
  generalize ([] : List Loc) = locs at S ⊢
  unfold f_X11_areNear at h
  refine lv_iload_n C.1 C.2.1 dX11_areNear_0 rfl (lv_at hl 0 rfl) ?_
  refine lv_iload_n C.1 C.2.1 dX11_areNear_1 rfl (lv_at hl 1 rfl) ?_
  refine lv_isub C.1 C.2.1 dX11_areNear_2 ?_
  refine lv_iload_n C.1 C.2.1 dX11_areNear_3 rfl (lv_at hl 2 rfl) ?_
  refine lv_icmp_gt (tgt := 18) C.1 C.2.1 dX11_areNear_4 (by decide) (fun q1 => ?_) (fun q1 => ?_)
  · replace h := (if_pos q1).symm.trans h
    refine lv_iconst (v := 0) C.1 C.2.1 dX11_areNear_18 (by decide) ?_
    have h9 := Option.some.inj h
    subst h9
    exact r_zret C S hr hlocks (Or.inl rfl) dX11_areNear_19
  · replace h := (if_neg q1).symm.trans h
    refine lv_iload_n C.1 C.2.1 dX11_areNear_7 rfl (lv_at hl 1 rfl) ?_
    refine lv_iload_n C.1 C.2.1 dX11_areNear_8 rfl (lv_at hl 0 rfl) ?_
    refine lv_isub C.1 C.2.1 dX11_areNear_9 ?_
    refine lv_iload_n C.1 C.2.1 dX11_areNear_10 rfl (lv_at hl 2 rfl) ?_
    refine lv_icmp_gt (tgt := 18) C.1 C.2.1 dX11_areNear_11 (by decide) (fun q2 => ?_) (fun q2 => ?_)
    · replace h := (if_pos q2).symm.trans h
      refine lv_iconst (v := 0) C.1 C.2.1 dX11_areNear_18 (by decide) ?_
      have h9 := Option.some.inj h
      subst h9
      exact r_zret C S hr hlocks (Or.inl rfl) dX11_areNear_19
    · replace h := (if_neg q2).symm.trans h
      refine lv_iconst (v := 1) C.1 C.2.1 dX11_areNear_14 (by decide) ?_
      refine lv_goto (tgt := 19) C.1 C.2.1 dX11_areNear_15 (by decide) ?_
      have h9 := Option.some.inj h
      subst h9
      exact r_zret C S hr hlocks (Or.inr rfl) dX11_areNear_19
set_option maxHeartbeats 4000000 in
set_option maxRecDepth 100000 in
theorem k_X11_join_J60 {p : Program} {l : Launch} {e : Env} {s : State} {m : MethodId} {args : Array Value} {below : List Frame} {meth : Method} {c : Code} {D : va_G} {ad sx : Nat → Nat} {ca : Nat → ClassId} (C : Cx D ad sx ca p s m c args RX11 cX11_join 6) (hr : meth.sig.returnType = (some .boolean)) (hlocks : meth.locks = false) {w : Wd} {v1 : Int32} {v2 : Int32} {v100 : Int32}  {rv : Int32} (h : f_X11_join_J60 v1 v2 v100 w = some rv) {ls : Array Slot} {H : Heap} {locs : List Loc} (hl : lv_has ls 6 [(0, .ref (ad 76)), (1, .int v1), (2, .int v2)]) (S : St D ad ca s w H locs) : W p l e (RM 2 45) s m args below meth c H locs 0 0 (MQ below (Qi D ad ca rv w) args s 0 0 (Aad ad)) (F0 m 60 ls [.int v100]) := by
  unfold f_X11_join_J60 at h
  refine lv_istore (lv' := [(5, .int v100), (0, .ref (ad 76)), (1, .int v1), (2, .int v2)]) C.1 C.2.1 dX11_join_60 hl (by decide) rfl (fun ls hl => ?_)
  refine lv_iload C.1 C.2.1 dX11_join_62 (lv_at hl 0 rfl) ?_
  refine lv_if_eq (tgt := 105) C.1 C.2.1 dX11_join_64 (by decide) (fun q6 => ?_) (fun q6 => ?_)
  · replace h := (if_pos q6).symm.trans h
    refine lv_iconst (v := 0) C.1 C.2.1 dX11_join_105 (by decide) ?_
    have h9 := Option.some.inj h
    subst h9
    exact r_zret C S hr hlocks (Or.inl rfl) dX11_join_106
  · replace h := (if_neg q6).symm.trans h
    refine lv_aload_n C.1 C.2.1 dX11_join_67 rfl (lv_at hl 1 rfl) ?_
    refine lv_iload_n C.1 C.2.1 dX11_join_68 rfl (lv_at hl 2 rfl) ?_
    refine lv_iconst (v := 1) C.1 C.2.1 dX11_join_69 (by decide) ?_
    obtain ⟨o7, e8, h⟩ := Option.bind_eq_some_iff.mp h
    refine r_vi C S hl o_76 cf_11 (k_X11_about e8) b_vb_RX11_280 [.int v1, .int 1] rfl [] rfl rfl (Nat.le_of_ble_eq_true rfl) ⟨Nat.le_of_ble_eq_true rfl, Nat.le_of_ble_eq_true rfl⟩ dX11_join_70 (fun H locs S => ?_)
    refine lv_aload_n C.1 C.2.1 dX11_join_73 rfl (lv_at hl 1 rfl) ?_
    refine lv_iload_n C.1 C.2.1 dX11_join_74 rfl (lv_at hl 3 rfl) ?_
    refine lv_iconst (v := 1) C.1 C.2.1 dX11_join_75 (by decide) ?_
    obtain ⟨o9, e10, h⟩ := Option.bind_eq_some_iff.mp h
    refine r_vi C S hl o_76 cf_11 (k_X11_about e10) b_vb_RX11_280 [.int v2, .int 1] rfl [.int o7] rfl rfl (Nat.le_of_ble_eq_true rfl) ⟨Nat.le_of_ble_eq_true rfl, Nat.le_of_ble_eq_true rfl⟩ dX11_join_76 (fun H locs S => ?_)
    refine lv_icmp_ne (tgt := 105) C.1 C.2.1 dX11_join_79 (by decide) (fun q11 => ?_) (fun q11 => ?_)
    · replace h := (if_neg q11).symm.trans h
      refine lv_iconst (v := 0) C.1 C.2.1 dX11_join_105 (by decide) ?_
      have h9 := Option.some.inj h
      subst h9
      exact r_zret C S hr hlocks (Or.inl rfl) dX11_join_106
    · replace h := (if_pos q11).symm.trans h
      refine lv_aload_n C.1 C.2.1 dX11_join_82 rfl (lv_at hl 1 rfl) ?_
      refine lv_iload_n C.1 C.2.1 dX11_join_83 rfl (lv_at hl 2 rfl) ?_
      refine lv_iconst (v := 2) C.1 C.2.1 dX11_join_84 (by decide) ?_
      obtain ⟨o12, e13, h⟩ := Option.bind_eq_some_iff.mp h
      refine r_vi C S hl o_76 cf_11 (k_X11_about e13) b_vb_RX11_280 [.int v1, .int 2] rfl [] rfl rfl (Nat.le_of_ble_eq_true rfl) ⟨Nat.le_of_ble_eq_true rfl, Nat.le_of_ble_eq_true rfl⟩ dX11_join_85 (fun H locs S => ?_)
      refine lv_aload_n C.1 C.2.1 dX11_join_88 rfl (lv_at hl 1 rfl) ?_
      refine lv_iload_n C.1 C.2.1 dX11_join_89 rfl (lv_at hl 3 rfl) ?_
      refine lv_iconst (v := 2) C.1 C.2.1 dX11_join_90 (by decide) ?_
      obtain ⟨o14, e15, h⟩ := Option.bind_eq_some_iff.mp h
      refine r_vi C S hl o_76 cf_11 (k_X11_about e15) b_vb_RX11_280 [.int v2, .int 2] rfl [.int o12] rfl rfl (Nat.le_of_ble_eq_true rfl) ⟨Nat.le_of_ble_eq_true rfl, Nat.le_of_ble_eq_true rfl⟩ dX11_join_91 (fun H locs S => ?_)
      refine lv_iconst (v := 3) C.1 C.2.1 dX11_join_94 (by decide) ?_
      obtain ⟨o16, e17, h⟩ := Option.bind_eq_some_iff.mp h
      refine r_si C S hl (k_X11_areNear e17) b_sb_RX11_283 [.int o12, .int o14, .int 3] rfl [] rfl rfl (Nat.le_of_ble_eq_true rfl) ⟨Nat.le_of_ble_eq_true rfl, Nat.le_of_ble_eq_true rfl⟩ dX11_join_95 (fun H locs S => ?_)
      refine lv_if_eq (tgt := 105) C.1 C.2.1 dX11_join_98 (by decide) (fun q18 => ?_) (fun q18 => ?_)
      · replace h := (if_pos q18).symm.trans h
        refine lv_iconst (v := 0) C.1 C.2.1 dX11_join_105 (by decide) ?_
        have h9 := Option.some.inj h
        subst h9
        exact r_zret C S hr hlocks (Or.inl rfl) dX11_join_106
      · replace h := (if_neg q18).symm.trans h
        refine lv_iconst (v := 1) C.1 C.2.1 dX11_join_101 (by decide) ?_
        refine lv_goto (tgt := 106) C.1 C.2.1 dX11_join_102 (by decide) ?_
        have h9 := Option.some.inj h
        subst h9
        exact r_zret C S hr hlocks (Or.inr rfl) dX11_join_106
set_option maxHeartbeats 4000000 in
set_option maxRecDepth 100000 in
theorem k_X11_join_J55 {p : Program} {l : Launch} {e : Env} {s : State} {m : MethodId} {args : Array Value} {below : List Frame} {meth : Method} {c : Code} {D : va_G} {ad sx : Nat → Nat} {ca : Nat → ClassId} (C : Cx D ad sx ca p s m c args RX11 cX11_join 6) (hr : meth.sig.returnType = (some .boolean)) (hlocks : meth.locks = false) {w : Wd} {v1 : Int32} {v2 : Int32}  {rv : Int32} (h : f_X11_join_J55 v1 v2 w = some rv) {ls : Array Slot} {H : Heap} {locs : List Loc} (hl : lv_has ls 6 [(0, .ref (ad 76)), (1, .int v1), (2, .int v2)]) (S : St D ad ca s w H locs) : W p l e (RM 2 45) s m args below meth c H locs 0 0 (MQ below (Qi D ad ca rv w) args s 0 0 (Aad ad)) (F0 m 55 ls []) := by
  unfold f_X11_join_J55 at h
  refine lv_iconst (v := 1) C.1 C.2.1 dX11_join_55 (by decide) ?_
  refine lv_goto (tgt := 60) C.1 C.2.1 dX11_join_56 (by decide) ?_
  exact k_X11_join_J60 C hr hlocks  h (lv_sub hl [0, 1, 2] rfl) S
set_option maxHeartbeats 4000000 in
set_option maxRecDepth 100000 in
theorem k_X11_join_J59 {p : Program} {l : Launch} {e : Env} {s : State} {m : MethodId} {args : Array Value} {below : List Frame} {meth : Method} {c : Code} {D : va_G} {ad sx : Nat → Nat} {ca : Nat → ClassId} (C : Cx D ad sx ca p s m c args RX11 cX11_join 6) (hr : meth.sig.returnType = (some .boolean)) (hlocks : meth.locks = false) {w : Wd} {v1 : Int32} {v2 : Int32}  {rv : Int32} (h : f_X11_join_J59 v1 v2 w = some rv) {ls : Array Slot} {H : Heap} {locs : List Loc} (hl : lv_has ls 6 [(0, .ref (ad 76)), (1, .int v1), (2, .int v2)]) (S : St D ad ca s w H locs) : W p l e (RM 2 45) s m args below meth c H locs 0 0 (MQ below (Qi D ad ca rv w) args s 0 0 (Aad ad)) (F0 m 59 ls []) := by
  unfold f_X11_join_J59 at h
  refine lv_iconst (v := 0) C.1 C.2.1 dX11_join_59 (by decide) ?_
  exact k_X11_join_J60 C hr hlocks  h (lv_sub hl [0, 1, 2] rfl) S
set_option maxHeartbeats 4000000 in
set_option maxRecDepth 100000 in
theorem k_X11_join {v1 : Int32} {v2 : Int32}  {w : Wd} {rv : Int32} (h : f_X11_join v1 v2 w = some rv) : CI yX11_join cX11_join 6 .boolean 2 45 (fun ad => [.ref (ad 76), .int v1, .int v2]) w rv w := by
  refine CI.of (by decide) ?_
  intro l D ad sx ca p e s m below meth c C S hr hlocks
  have hl := lv_entry ([.ref (ad 76), .int v1, .int v2]) (n := 6) (Nat.le_of_ble_eq_true rfl)
  rw [lg_entry_eq]
  generalize (lg_sl ([.ref (ad 76), .int v1, .int v2]) ++ List.replicate (6 - (lg_sl ([.ref (ad 76), .int v1, .int v2])).length) Slot.unset).toArray = ls at hl ⊢
  have hl : lv_has ls 6 [(0, .ref (ad 76)), (1, .int v1), (2, .int v2)] := hl
  generalize ha9 : ([.ref (ad 76), .int v1, .int v2] : List Value).toArray = args at C ⊢
  generalize s.heap = H at S ⊢
  generalize ([] : List Loc) = locs at S ⊢
  unfold f_X11_join at h
  refine lv_aload_n C.1 C.2.1 dX11_join_0 rfl (lv_at hl 0 rfl) ?_
  refine lv_iload_n C.1 C.2.1 dX11_join_1 rfl (lv_at hl 1 rfl) ?_
  refine lv_iconst (v := 0) C.1 C.2.1 dX11_join_2 (by decide) ?_
  obtain ⟨o1, e2, h⟩ := Option.bind_eq_some_iff.mp h
  refine r_vi C S hl o_76 cf_11 (k_X11_about e2) b_vb_RX11_280 [.int v1, .int 0] rfl [] rfl rfl (Nat.le_of_ble_eq_true rfl) ⟨Nat.le_of_ble_eq_true rfl, Nat.le_of_ble_eq_true rfl⟩ dX11_join_3 (fun H locs S => ?_)
  refine lv_istore_n (lv' := [(3, .int o1), (0, .ref (ad 76)), (1, .int v1), (2, .int v2)]) C.1 C.2.1 dX11_join_6 rfl hl (by decide) rfl (fun ls hl => ?_)
  refine lv_aload_n C.1 C.2.1 dX11_join_7 rfl (lv_at hl 1 rfl) ?_
  refine lv_iload_n C.1 C.2.1 dX11_join_8 rfl (lv_at hl 3 rfl) ?_
  refine lv_iconst (v := 0) C.1 C.2.1 dX11_join_9 (by decide) ?_
  obtain ⟨o3, e4, h⟩ := Option.bind_eq_some_iff.mp h
  refine r_vi C S hl o_76 cf_11 (k_X11_about e4) b_vb_RX11_280 [.int v2, .int 0] rfl [] rfl rfl (Nat.le_of_ble_eq_true rfl) ⟨Nat.le_of_ble_eq_true rfl, Nat.le_of_ble_eq_true rfl⟩ dX11_join_10 (fun H locs S => ?_)
  refine lv_istore (lv' := [(4, .int o3), (3, .int o1), (0, .ref (ad 76)), (1, .int v1), (2, .int v2)]) C.1 C.2.1 dX11_join_13 hl (by decide) rfl (fun ls hl => ?_)
  refine lv_iload_n C.1 C.2.1 dX11_join_15 rfl (lv_at hl 1 rfl) ?_
  refine lv_iload C.1 C.2.1 dX11_join_16 (lv_at hl 0 rfl) ?_
  refine lv_icmp_eq (tgt := 55) C.1 C.2.1 dX11_join_18 (by decide) (fun q5 => ?_) (fun q5 => ?_)
  · replace h := (if_pos q5).symm.trans h
    exact k_X11_join_J55 C hr hlocks  h (lv_sub hl [2, 3, 4] rfl) S
  · replace h := (if_neg q5).symm.trans h
    refine lv_aload_n C.1 C.2.1 dX11_join_21 rfl (lv_at hl 2 rfl) ?_
    refine lv_iload_n C.1 C.2.1 dX11_join_22 rfl (lv_at hl 1 rfl) ?_
    refine lv_iconst (v := 1) C.1 C.2.1 dX11_join_23 (by decide) ?_
    obtain ⟨o19, e20, h⟩ := Option.bind_eq_some_iff.mp h
    refine r_vi C S hl o_76 cf_11 (k_X11_get e20) b_vb_RX11_101 [.int o1, .int 1] rfl [] rfl rfl (Nat.le_of_ble_eq_true rfl) ⟨Nat.le_of_ble_eq_true rfl, Nat.le_of_ble_eq_true rfl⟩ dX11_join_24 (fun H locs S => ?_)
    refine lv_aload_n C.1 C.2.1 dX11_join_27 rfl (lv_at hl 2 rfl) ?_
    refine lv_iload C.1 C.2.1 dX11_join_28 (lv_at hl 0 rfl) ?_
    refine lv_iconst (v := 1) C.1 C.2.1 dX11_join_30 (by decide) ?_
    obtain ⟨o21, e22, h⟩ := Option.bind_eq_some_iff.mp h
    refine r_vi C S hl o_76 cf_11 (k_X11_get e22) b_vb_RX11_101 [.int o3, .int 1] rfl [.int o19] rfl rfl (Nat.le_of_ble_eq_true rfl) ⟨Nat.le_of_ble_eq_true rfl, Nat.le_of_ble_eq_true rfl⟩ dX11_join_31 (fun H locs S => ?_)
    refine lv_icmp_ne (tgt := 59) C.1 C.2.1 dX11_join_34 (by decide) (fun q23 => ?_) (fun q23 => ?_)
    · replace h := (if_neg q23).symm.trans h
      exact k_X11_join_J59 C hr hlocks  h (lv_sub hl [2, 3, 4] rfl) S
    · replace h := (if_pos q23).symm.trans h
      refine lv_aload_n C.1 C.2.1 dX11_join_37 rfl (lv_at hl 2 rfl) ?_
      refine lv_iload_n C.1 C.2.1 dX11_join_38 rfl (lv_at hl 1 rfl) ?_
      obtain ⟨o24, e25, h⟩ := Option.bind_eq_some_iff.mp h
      refine r_vi C S hl o_76 cf_11 (k_X11_placeOf e25) b_vb_RX11_114 [.int o1] rfl [] rfl rfl (Nat.le_of_ble_eq_true rfl) ⟨Nat.le_of_ble_eq_true rfl, Nat.le_of_ble_eq_true rfl⟩ dX11_join_39 (fun H locs S => ?_)
      refine lv_aload_n C.1 C.2.1 dX11_join_42 rfl (lv_at hl 2 rfl) ?_
      refine lv_iload C.1 C.2.1 dX11_join_43 (lv_at hl 0 rfl) ?_
      obtain ⟨o26, e27, h⟩ := Option.bind_eq_some_iff.mp h
      refine r_vi C S hl o_76 cf_11 (k_X11_placeOf e27) b_vb_RX11_114 [.int o3] rfl [.int o24] rfl rfl (Nat.le_of_ble_eq_true rfl) ⟨Nat.le_of_ble_eq_true rfl, Nat.le_of_ble_eq_true rfl⟩ dX11_join_45 (fun H locs S => ?_)
      refine lv_iconst (v := 1) C.1 C.2.1 dX11_join_48 (by decide) ?_
      obtain ⟨o28, e29, h⟩ := Option.bind_eq_some_iff.mp h
      refine r_si C S hl (k_X11_areNear e29) b_sb_RX11_283 [.int o24, .int o26, .int 1] rfl [] rfl rfl (Nat.le_of_ble_eq_true rfl) ⟨Nat.le_of_ble_eq_true rfl, Nat.le_of_ble_eq_true rfl⟩ dX11_join_49 (fun H locs S => ?_)
      refine lv_if_eq (tgt := 59) C.1 C.2.1 dX11_join_52 (by decide) (fun q30 => ?_) (fun q30 => ?_)
      · replace h := (if_pos q30).symm.trans h
        exact k_X11_join_J59 C hr hlocks  h (lv_sub hl [2, 3, 4] rfl) S
      · replace h := (if_neg q30).symm.trans h
        exact k_X11_join_J55 C hr hlocks  h (lv_sub hl [2, 3, 4] rfl) S
set_option maxHeartbeats 4000000 in
set_option maxRecDepth 100000 in
theorem k_X11_findGroups_L2 {p : Program} {l : Launch} {e : Env} {s : State} {m : MethodId} {args : Array Value} {below : List Frame} {meth : Method} {c : Code} {D : va_G} {ad sx : Nat → Nat} {ca : Nat → ClassId} (C : Cx D ad sx ca p s m c args RX11 cX11_findGroups 5) {Q : State → Prop}   : ∀ (n9 : Nat) (z : Int32 × Wd) (o : Int32 × Wd), lp (f_X11_findGroups_L2) n9 z = some o → (∀ (ls : Array Slot) (H : Heap) (locs : List Loc), lv_has ls 5 [(0, .ref (ad 76))] → St D ad ca s o.2 H locs → W p l e (RM 3 70) s m args below meth c H locs 0 0 Q (F0 m 25 ls [])) → (∀ (ls : Array Slot) (H : Heap) (locs : List Loc), lv_has ls 5 [(0, .ref (ad 76)), (1, .int z.1)] → St D ad ca s z.2 H locs → W p l e (RM 3 70) s m args below meth c H locs 0 0 Q (F0 m 2 ls [])) := by
  refine lp_W (HW := fun (z : Int32 × Wd) => ∀ (ls : Array Slot) (H : Heap) (locs : List Loc), lv_has ls 5 [(0, .ref (ad 76)), (1, .int z.1)] → St D ad ca s z.2 H locs → W p l e (RM 3 70) s m args below meth c H locs 0 0 Q (F0 m 2 ls [])) (XW := fun (o : Int32 × Wd) => ∀ (ls : Array Slot) (H : Heap) (locs : List Loc), lv_has ls 5 [(0, .ref (ad 76))] → St D ad ca s o.2 H locs → W p l e (RM 3 70) s m args below meth c H locs 0 0 Q (F0 m 25 ls [])) ?_
  intro z x h hN hX ls H locs hl S
  unfold f_X11_findGroups_L2 at h
  refine lv_iload_n C.1 C.2.1 dX11_findGroups_2 rfl (lv_at hl 1 rfl) ?_
  refine lv_aload_n C.1 C.2.1 dX11_findGroups_3 rfl (lv_at hl 0 rfl) ?_
  refine r_getr C S o_76 cf_11 0 rfl (by decide) b_fl_RX11_9 dX11_findGroups_4 ?_
  refine lv_iconst (v := 5) C.1 C.2.1 dX11_findGroups_7 (by decide) ?_
  refine r_ialdn (j := 5) C S a_77 (by decide) (by decide) dX11_findGroups_8 ?_
  refine lv_icmp_ge (tgt := 25) C.1 C.2.1 dX11_findGroups_9 (by decide) (fun q1 => ?_) (fun q1 => ?_)
  · replace h := (if_pos q1).symm.trans h
    exact hX _ (Option.some.inj h).symm _ _ _ (lv_sub hl [0] rfl) S
  · replace h := (if_neg q1).symm.trans h
    refine lv_aload_n C.1 C.2.1 dX11_findGroups_12 rfl (lv_at hl 0 rfl) ?_
    refine r_getr C S o_76 cf_11 38 rfl (by decide) b_fl_RX11_76 dX11_findGroups_13 ?_
    refine lv_iload_n C.1 C.2.1 dX11_findGroups_16 rfl (lv_at hl 1 rfl) ?_
    refine lv_iload_n C.1 C.2.1 dX11_findGroups_17 rfl (lv_at hl 1 rfl) ?_
    obtain ⟨g2, h⟩ := gd_some h
    refine r_iast C S a_99 g2 dX11_findGroups_18 (fun H locs S => ?_)
    obtain ⟨w3, h, S⟩ := lw_S (P := fun y => St D ad ca s y H locs) h S
    refine lv_iinc (v := z.1 + 1) (lv' := [(1, .int (z.1 + 1)), (0, .ref (ad 76))]) C.1 C.2.1 dX11_findGroups_19 hl (k := 1) rfl rfl (by decide) rfl (fun ls hl => ?_)
    refine lv_goto (tgt := 2) C.1 C.2.1 dX11_findGroups_22 (by decide) ?_
    exact hN _ (Option.some.inj h).symm _ _ _ (lv_sub hl [1, 0] rfl) S
set_option maxHeartbeats 4000000 in
set_option maxRecDepth 100000 in
theorem k_X11_findGroups_J106 {p : Program} {l : Launch} {e : Env} {s : State} {m : MethodId} {args : Array Value} {below : List Frame} {meth : Method} {c : Code} {D : va_G} {ad sx : Nat → Nat} {ca : Nat → ClassId} (C : Cx D ad sx ca p s m c args RX11 cX11_findGroups 5) {Q : State → Prop} {w : Wd} {v1 : Int32} {v2 : Int32} {v3 : Int32} {v100 : Int32}  {x : (Int32 × Int32 × Wd) ⊕ (Int32 × Int32 × Wd)} (h : f_X11_findGroups_J106 v1 v2 v3 v100 w = some x) (hN : ∀ z, x = .inl z → ∀ (ls : Array Slot) (H : Heap) (locs : List Loc), lv_has ls 5 [(0, .ref (ad 76)), (1, .int z.1), (2, .int v2), (3, .int z.2.1)] → St D ad ca s z.2.2 H locs → W p l e (RM 3 70) s m args below meth c H locs 0 0 Q (F0 m 47 ls [])) (hX : ∀ o, x = .inr o → ∀ (ls : Array Slot) (H : Heap) (locs : List Loc), lv_has ls 5 [(0, .ref (ad 76)), (1, .int o.1), (2, .int v2)] → St D ad ca s o.2.2 H locs → W p l e (RM 3 70) s m args below meth c H locs 0 0 Q (F0 m 132 ls [])) {ls : Array Slot} {H : Heap} {locs : List Loc} (hl : lv_has ls 5 [(0, .ref (ad 76)), (1, .int v1), (2, .int v2), (3, .int v3)]) (S : St D ad ca s w H locs) : W p l e (RM 3 70) s m args below meth c H locs 0 0 Q (F0 m 106 ls [.int v100]) := by
  unfold f_X11_findGroups_J106 at h
  refine lv_istore (lv' := [(4, .int v100), (0, .ref (ad 76)), (1, .int v1), (2, .int v2), (3, .int v3)]) C.1 C.2.1 dX11_findGroups_106 hl (by decide) rfl (fun ls hl => ?_)
  refine lv_aload_n C.1 C.2.1 dX11_findGroups_108 rfl (lv_at hl 1 rfl) ?_
  refine r_getr C S o_76 cf_11 38 rfl (by decide) b_fl_RX11_76 dX11_findGroups_109 ?_
  refine lv_iload_n C.1 C.2.1 dX11_findGroups_112 rfl (lv_at hl 3 rfl) ?_
  refine lv_iload C.1 C.2.1 dX11_findGroups_113 (lv_at hl 0 rfl) ?_
  obtain ⟨g19, h⟩ := gd_some h
  refine r_iast C S a_99 g19 dX11_findGroups_115 (fun H locs S => ?_)
  obtain ⟨w20, h, S⟩ := lw_S (P := fun y => St D ad ca s y H locs) h S
  refine lv_aload_n C.1 C.2.1 dX11_findGroups_116 rfl (lv_at hl 1 rfl) ?_
  refine r_getr C S o_76 cf_11 38 rfl (by decide) b_fl_RX11_76 dX11_findGroups_117 ?_
  refine lv_iload_n C.1 C.2.1 dX11_findGroups_120 rfl (lv_at hl 4 rfl) ?_
  refine lv_iload C.1 C.2.1 dX11_findGroups_121 (lv_at hl 0 rfl) ?_
  obtain ⟨g21, h⟩ := gd_some h
  refine r_iast C S a_99 g21 dX11_findGroups_123 (fun H locs S => ?_)
  obtain ⟨w22, h, S⟩ := lw_S (P := fun y => St D ad ca s y H locs) h S
  refine lv_iconst (v := 1) C.1 C.2.1 dX11_findGroups_124 (by decide) ?_
  refine lv_istore_n (lv' := [(1, .int 1), (4, .int v100), (0, .ref (ad 76)), (2, .int v2), (3, .int v3)]) C.1 C.2.1 dX11_findGroups_125 rfl hl (by decide) rfl (fun ls hl => ?_)
  refine lv_iinc (v := v3 + 1) (lv' := [(3, .int (v3 + 1)), (1, .int 1), (4, .int v100), (0, .ref (ad 76)), (2, .int v2)]) C.1 C.2.1 dX11_findGroups_126 hl (k := 4) rfl rfl (by decide) rfl (fun ls hl => ?_)
  refine lv_goto (tgt := 47) C.1 C.2.1 dX11_findGroups_129 (by decide) ?_
  exact hN _ (Option.some.inj h).symm _ _ _ (lv_sub hl [3, 1, 4, 0] rfl) S
set_option maxHeartbeats 4000000 in
set_option maxRecDepth 100000 in
theorem k_X11_findGroups_L47 {p : Program} {l : Launch} {e : Env} {s : State} {m : MethodId} {args : Array Value} {below : List Frame} {meth : Method} {c : Code} {D : va_G} {ad sx : Nat → Nat} {ca : Nat → ClassId} (C : Cx D ad sx ca p s m c args RX11 cX11_findGroups 5) {Q : State → Prop} {v2 : Int32}  : ∀ (n9 : Nat) (z : Int32 × Int32 × Wd) (o : Int32 × Int32 × Wd), lp (f_X11_findGroups_L47 v2) n9 z = some o → (∀ (ls : Array Slot) (H : Heap) (locs : List Loc), lv_has ls 5 [(0, .ref (ad 76)), (1, .int o.1), (2, .int v2)] → St D ad ca s o.2.2 H locs → W p l e (RM 3 70) s m args below meth c H locs 0 0 Q (F0 m 132 ls [])) → (∀ (ls : Array Slot) (H : Heap) (locs : List Loc), lv_has ls 5 [(0, .ref (ad 76)), (1, .int z.1), (2, .int v2), (3, .int z.2.1)] → St D ad ca s z.2.2 H locs → W p l e (RM 3 70) s m args below meth c H locs 0 0 Q (F0 m 47 ls [])) := by
  refine lp_W (HW := fun (z : Int32 × Int32 × Wd) => ∀ (ls : Array Slot) (H : Heap) (locs : List Loc), lv_has ls 5 [(0, .ref (ad 76)), (1, .int z.1), (2, .int v2), (3, .int z.2.1)] → St D ad ca s z.2.2 H locs → W p l e (RM 3 70) s m args below meth c H locs 0 0 Q (F0 m 47 ls [])) (XW := fun (o : Int32 × Int32 × Wd) => ∀ (ls : Array Slot) (H : Heap) (locs : List Loc), lv_has ls 5 [(0, .ref (ad 76)), (1, .int o.1), (2, .int v2)] → St D ad ca s o.2.2 H locs → W p l e (RM 3 70) s m args below meth c H locs 0 0 Q (F0 m 132 ls [])) ?_
  intro z x h hN hX ls H locs hl S
  unfold f_X11_findGroups_L47 at h
  refine lv_iload_n C.1 C.2.1 dX11_findGroups_47 rfl (lv_at hl 3 rfl) ?_
  refine lv_iload_n C.1 C.2.1 dX11_findGroups_48 rfl (lv_at hl 2 rfl) ?_
  refine lv_icmp_ge (tgt := 132) C.1 C.2.1 dX11_findGroups_49 (by decide) (fun q8 => ?_) (fun q8 => ?_)
  · replace h := (if_pos q8).symm.trans h
    exact hX _ (Option.some.inj h).symm _ _ _ (lv_sub hl [0, 1, 2] rfl) S
  · replace h := (if_neg q8).symm.trans h
    refine lv_aload_n C.1 C.2.1 dX11_findGroups_52 rfl (lv_at hl 0 rfl) ?_
    refine r_getr C S o_76 cf_11 38 rfl (by decide) b_fl_RX11_76 dX11_findGroups_53 ?_
    refine lv_iload_n C.1 C.2.1 dX11_findGroups_56 rfl (lv_at hl 2 rfl) ?_
    obtain ⟨g9, h⟩ := gd_some h
    refine r_iald C S a_99 g9 dX11_findGroups_57 ?_
    refine lv_aload_n C.1 C.2.1 dX11_findGroups_58 rfl (lv_at hl 0 rfl) ?_
    refine r_getr C S o_76 cf_11 38 rfl (by decide) b_fl_RX11_76 dX11_findGroups_59 ?_
    refine lv_iload_n C.1 C.2.1 dX11_findGroups_62 rfl (lv_at hl 3 rfl) ?_
    obtain ⟨g10, h⟩ := gd_some h
    refine r_iald C S a_99 g10 dX11_findGroups_63 ?_
    refine lv_icmp_eq (tgt := 126) C.1 C.2.1 dX11_findGroups_64 (by decide) (fun q11 => ?_) (fun q11 => ?_)
    · replace h := (if_pos q11).symm.trans h
      refine lv_iinc (v := z.2.1 + 1) (lv' := [(3, .int (z.2.1 + 1)), (0, .ref (ad 76)), (1, .int z.1), (2, .int v2)]) C.1 C.2.1 dX11_findGroups_126 hl (k := 3) rfl rfl (by decide) rfl (fun ls hl => ?_)
      refine lv_goto (tgt := 47) C.1 C.2.1 dX11_findGroups_129 (by decide) ?_
      exact hN _ (Option.some.inj h).symm _ _ _ (lv_sub hl [1, 2, 3, 0] rfl) S
    · replace h := (if_neg q11).symm.trans h
      refine lv_aload_n C.1 C.2.1 dX11_findGroups_67 rfl (lv_at hl 0 rfl) ?_
      refine lv_iload_n C.1 C.2.1 dX11_findGroups_68 rfl (lv_at hl 2 rfl) ?_
      refine lv_iload_n C.1 C.2.1 dX11_findGroups_69 rfl (lv_at hl 3 rfl) ?_
      obtain ⟨o12, e13, h⟩ := Option.bind_eq_some_iff.mp h
      refine r_vi C S hl o_76 cf_11 (k_X11_join e13) b_vb_RX11_286 [.int v2, .int z.2.1] rfl [] rfl rfl (Nat.le_of_ble_eq_true rfl) ⟨Nat.le_of_ble_eq_true rfl, Nat.le_of_ble_eq_true rfl⟩ dX11_findGroups_70 (fun H locs S => ?_)
      refine lv_if_eq (tgt := 126) C.1 C.2.1 dX11_findGroups_73 (by decide) (fun q14 => ?_) (fun q14 => ?_)
      · replace h := (if_pos q14).symm.trans h
        refine lv_iinc (v := z.2.1 + 1) (lv' := [(3, .int (z.2.1 + 1)), (0, .ref (ad 76)), (1, .int z.1), (2, .int v2)]) C.1 C.2.1 dX11_findGroups_126 hl (k := 3) rfl rfl (by decide) rfl (fun ls hl => ?_)
        refine lv_goto (tgt := 47) C.1 C.2.1 dX11_findGroups_129 (by decide) ?_
        exact hN _ (Option.some.inj h).symm _ _ _ (lv_sub hl [1, 2, 3, 0] rfl) S
      · replace h := (if_neg q14).symm.trans h
        refine lv_aload_n C.1 C.2.1 dX11_findGroups_76 rfl (lv_at hl 0 rfl) ?_
        refine r_getr C S o_76 cf_11 38 rfl (by decide) b_fl_RX11_76 dX11_findGroups_77 ?_
        refine lv_iload_n C.1 C.2.1 dX11_findGroups_80 rfl (lv_at hl 2 rfl) ?_
        obtain ⟨g15, h⟩ := gd_some h
        refine r_iald C S a_99 g15 dX11_findGroups_81 ?_
        refine lv_aload_n C.1 C.2.1 dX11_findGroups_82 rfl (lv_at hl 0 rfl) ?_
        refine r_getr C S o_76 cf_11 38 rfl (by decide) b_fl_RX11_76 dX11_findGroups_83 ?_
        refine lv_iload_n C.1 C.2.1 dX11_findGroups_86 rfl (lv_at hl 3 rfl) ?_
        obtain ⟨g16, h⟩ := gd_some h
        refine r_iald C S a_99 g16 dX11_findGroups_87 ?_
        refine lv_icmp_ge (tgt := 100) C.1 C.2.1 dX11_findGroups_88 (by decide) (fun q17 => ?_) (fun q17 => ?_)
        · replace h := (if_pos q17).symm.trans h
          refine lv_aload_n C.1 C.2.1 dX11_findGroups_100 rfl (lv_at hl 0 rfl) ?_
          refine r_getr C S o_76 cf_11 38 rfl (by decide) b_fl_RX11_76 dX11_findGroups_101 ?_
          refine lv_iload_n C.1 C.2.1 dX11_findGroups_104 rfl (lv_at hl 3 rfl) ?_
          obtain ⟨g18, h⟩ := gd_some h
          refine r_iald C S a_99 g18 dX11_findGroups_105 ?_
          exact k_X11_findGroups_J106 C  h hN hX (lv_sub hl [0, 1, 2, 3] rfl) S
        · replace h := (if_neg q17).symm.trans h
          refine lv_aload_n C.1 C.2.1 dX11_findGroups_91 rfl (lv_at hl 0 rfl) ?_
          refine r_getr C S o_76 cf_11 38 rfl (by decide) b_fl_RX11_76 dX11_findGroups_92 ?_
          refine lv_iload_n C.1 C.2.1 dX11_findGroups_95 rfl (lv_at hl 2 rfl) ?_
          obtain ⟨g23, h⟩ := gd_some h
          refine r_iald C S a_99 g23 dX11_findGroups_96 ?_
          refine lv_goto (tgt := 106) C.1 C.2.1 dX11_findGroups_97 (by decide) ?_
          exact k_X11_findGroups_J106 C  h hN hX (lv_sub hl [0, 1, 2, 3] rfl) S
set_option maxHeartbeats 4000000 in
set_option maxRecDepth 100000 in
theorem k_X11_findGroups_L35 {p : Program} {l : Launch} {e : Env} {s : State} {m : MethodId} {args : Array Value} {below : List Frame} {meth : Method} {c : Code} {D : va_G} {ad sx : Nat → Nat} {ca : Nat → ClassId} (C : Cx D ad sx ca p s m c args RX11 cX11_findGroups 5) {Q : State → Prop}   : ∀ (n9 : Nat) (z : Int32 × Int32 × Wd) (o : Int32 × Int32 × Wd), lp (f_X11_findGroups_L35) n9 z = some o → (∀ (ls : Array Slot) (H : Heap) (locs : List Loc), lv_has ls 5 [(0, .ref (ad 76)), (1, .int o.1)] → St D ad ca s o.2.2 H locs → W p l e (RM 3 70) s m args below meth c H locs 0 0 Q (F0 m 138 ls [])) → (∀ (ls : Array Slot) (H : Heap) (locs : List Loc), lv_has ls 5 [(0, .ref (ad 76)), (1, .int z.1), (2, .int z.2.1)] → St D ad ca s z.2.2 H locs → W p l e (RM 3 70) s m args below meth c H locs 0 0 Q (F0 m 35 ls [])) := by
  refine lp_W (HW := fun (z : Int32 × Int32 × Wd) => ∀ (ls : Array Slot) (H : Heap) (locs : List Loc), lv_has ls 5 [(0, .ref (ad 76)), (1, .int z.1), (2, .int z.2.1)] → St D ad ca s z.2.2 H locs → W p l e (RM 3 70) s m args below meth c H locs 0 0 Q (F0 m 35 ls [])) (XW := fun (o : Int32 × Int32 × Wd) => ∀ (ls : Array Slot) (H : Heap) (locs : List Loc), lv_has ls 5 [(0, .ref (ad 76)), (1, .int o.1)] → St D ad ca s o.2.2 H locs → W p l e (RM 3 70) s m args below meth c H locs 0 0 Q (F0 m 138 ls [])) ?_
  intro z x h hN hX ls H locs hl S
  unfold f_X11_findGroups_L35 at h
  refine lv_iload_n C.1 C.2.1 dX11_findGroups_35 rfl (lv_at hl 2 rfl) ?_
  refine lv_aload_n C.1 C.2.1 dX11_findGroups_36 rfl (lv_at hl 0 rfl) ?_
  refine r_getr C S o_76 cf_11 0 rfl (by decide) b_fl_RX11_9 dX11_findGroups_37 ?_
  refine lv_iconst (v := 5) C.1 C.2.1 dX11_findGroups_40 (by decide) ?_
  refine r_ialdn (j := 5) C S a_77 (by decide) (by decide) dX11_findGroups_41 ?_
  refine lv_icmp_ge (tgt := 138) C.1 C.2.1 dX11_findGroups_42 (by decide) (fun q7 => ?_) (fun q7 => ?_)
  · replace h := (if_pos q7).symm.trans h
    exact hX _ (Option.some.inj h).symm _ _ _ (lv_sub hl [0, 1] rfl) S
  · replace h := (if_neg q7).symm.trans h
    refine lv_iconst (v := 0) C.1 C.2.1 dX11_findGroups_45 (by decide) ?_
    refine lv_istore_n (lv' := [(3, .int 0), (0, .ref (ad 76)), (1, .int z.1), (2, .int z.2.1)]) C.1 C.2.1 dX11_findGroups_46 rfl hl (by decide) rfl (fun ls hl => ?_)
    obtain ⟨o24, e25, h⟩ := Option.bind_eq_some_iff.mp h
    refine k_X11_findGroups_L47 C  FU _ _ e25 (fun ls H locs hl S => ?_) ls H locs (lv_sub hl [1, 2, 3, 0] rfl) S
    refine lv_iinc (v := z.2.1 + 1) (lv' := [(2, .int (z.2.1 + 1)), (0, .ref (ad 76)), (1, .int o24.1)]) C.1 C.2.1 dX11_findGroups_132 hl (k := 2) rfl rfl (by decide) rfl (fun ls hl => ?_)
    refine lv_goto (tgt := 35) C.1 C.2.1 dX11_findGroups_135 (by decide) ?_
    exact hN _ (Option.some.inj h).symm _ _ _ (lv_sub hl [1, 2, 0] rfl) S
set_option maxHeartbeats 4000000 in
set_option maxRecDepth 100000 in
theorem k_X11_findGroups_L27 {p : Program} {l : Launch} {e : Env} {s : State} {m : MethodId} {args : Array Value} {below : List Frame} {meth : Method} {c : Code} {D : va_G} {ad sx : Nat → Nat} {ca : Nat → ClassId} (C : Cx D ad sx ca p s m c args RX11 cX11_findGroups 5) {Q : State → Prop}   : ∀ (n9 : Nat) (z : Int32 × Wd) (o : Int32 × Wd), lp (f_X11_findGroups_L27) n9 z = some o → (∀ (ls : Array Slot) (H : Heap) (locs : List Loc), lv_has ls 5 [] → St D ad ca s o.2 H locs → W p l e (RM 3 70) s m args below meth c H locs 0 0 Q (F0 m 141 ls [])) → (∀ (ls : Array Slot) (H : Heap) (locs : List Loc), lv_has ls 5 [(0, .ref (ad 76)), (1, .int z.1)] → St D ad ca s z.2 H locs → W p l e (RM 3 70) s m args below meth c H locs 0 0 Q (F0 m 27 ls [])) := by
  refine lp_W (HW := fun (z : Int32 × Wd) => ∀ (ls : Array Slot) (H : Heap) (locs : List Loc), lv_has ls 5 [(0, .ref (ad 76)), (1, .int z.1)] → St D ad ca s z.2 H locs → W p l e (RM 3 70) s m args below meth c H locs 0 0 Q (F0 m 27 ls [])) (XW := fun (o : Int32 × Wd) => ∀ (ls : Array Slot) (H : Heap) (locs : List Loc), lv_has ls 5 [] → St D ad ca s o.2 H locs → W p l e (RM 3 70) s m args below meth c H locs 0 0 Q (F0 m 141 ls [])) ?_
  intro z x h hN hX ls H locs hl S
  unfold f_X11_findGroups_L27 at h
  refine lv_iload_n C.1 C.2.1 dX11_findGroups_27 rfl (lv_at hl 1 rfl) ?_
  refine lv_if_eq (tgt := 141) C.1 C.2.1 dX11_findGroups_28 (by decide) (fun q6 => ?_) (fun q6 => ?_)
  · replace h := (if_pos q6).symm.trans h
    exact hX _ (Option.some.inj h).symm _ _ _ (lv_sub hl [] rfl) S
  · replace h := (if_neg q6).symm.trans h
    refine lv_iconst (v := 0) C.1 C.2.1 dX11_findGroups_31 (by decide) ?_
    refine lv_istore_n (lv' := [(1, .int 0), (0, .ref (ad 76))]) C.1 C.2.1 dX11_findGroups_32 rfl hl (by decide) rfl (fun ls hl => ?_)
    refine lv_iconst (v := 0) C.1 C.2.1 dX11_findGroups_33 (by decide) ?_
    refine lv_istore_n (lv' := [(2, .int 0), (1, .int 0), (0, .ref (ad 76))]) C.1 C.2.1 dX11_findGroups_34 rfl hl (by decide) rfl (fun ls hl => ?_)
    obtain ⟨o26, e27, h⟩ := Option.bind_eq_some_iff.mp h
    refine k_X11_findGroups_L35 C  FU _ _ e27 (fun ls H locs hl S => ?_) ls H locs (lv_sub hl [2, 1, 0] rfl) S
    refine lv_goto (tgt := 27) C.1 C.2.1 dX11_findGroups_138 (by decide) ?_
    exact hN _ (Option.some.inj h).symm _ _ _ (lv_sub hl [0, 1] rfl) S
set_option maxHeartbeats 4000000 in
set_option maxRecDepth 100000 in
theorem k_X11_findGroups   {w : Wd} {rv : Wd} (h : f_X11_findGroups w = some rv) : CV yX11_findGroups cX11_findGroups 5 3 70 (fun ad => [.ref (ad 76)]) w rv := by
  refine CV.of (by decide) ?_
  intro l D ad sx ca p e s m below meth c C S hr hlocks
  have hl := lv_entry ([.ref (ad 76)]) (n := 5) (Nat.le_of_ble_eq_true rfl)
  rw [lg_entry_eq]
  generalize (lg_sl ([.ref (ad 76)]) ++ List.replicate (5 - (lg_sl ([.ref (ad 76)])).length) Slot.unset).toArray = ls at hl ⊢
  have hl : lv_has ls 5 [(0, .ref (ad 76))] := hl
  generalize ha9 : ([.ref (ad 76)] : List Value).toArray = args at C ⊢
  generalize s.heap = H at S ⊢
  generalize ([] : List Loc) = locs at S ⊢
  unfold f_X11_findGroups at h
  refine lv_iconst (v := 0) C.1 C.2.1 dX11_findGroups_0 (by decide) ?_
  refine lv_istore_n (lv' := [(1, .int 0), (0, .ref (ad 76))]) C.1 C.2.1 dX11_findGroups_1 rfl hl (by decide) rfl (fun ls hl => ?_)
  obtain ⟨o4, e5, h⟩ := Option.bind_eq_some_iff.mp h
  refine k_X11_findGroups_L2 C  FU _ _ e5 (fun ls H locs hl S => ?_) ls H locs (lv_sub hl [1, 0] rfl) S
  refine lv_iconst (v := 1) C.1 C.2.1 dX11_findGroups_25 (by decide) ?_
  refine lv_istore_n (lv' := [(1, .int 1), (0, .ref (ad 76))]) C.1 C.2.1 dX11_findGroups_26 rfl hl (by decide) rfl (fun ls hl => ?_)
  obtain ⟨o28, e29, h⟩ := Option.bind_eq_some_iff.mp h
  refine k_X11_findGroups_L27 C  FU _ _ e29 (fun ls H locs hl S => ?_) ls H locs (lv_sub hl [1, 0] rfl) S
  have h9 := Option.some.inj h
  subst h9
  exact r_vret C S hr hlocks dX11_findGroups_141
set_option maxHeartbeats 4000000 in
set_option maxRecDepth 100000 in
theorem k_X11_complaint {v1 : Int32} {v2 : Int32}  {w : Wd} {rv : Int32 × Wd} (h : f_X11_complaint v1 v2 w = some rv) : CI yX11_complaint cX11_complaint 3 .int 4 94 (fun ad => [.ref (ad 76), .int v1, .int v2]) w rv.1 rv.2 := by
  refine CI.of (by decide) ?_
  intro l D ad sx ca p e s m below meth c C S hr hlocks
  have hl := lv_entry ([.ref (ad 76), .int v1, .int v2]) (n := 3) (Nat.le_of_ble_eq_true rfl)
  rw [lg_entry_eq]
  generalize (lg_sl ([.ref (ad 76), .int v1, .int v2]) ++ List.replicate (3 - (lg_sl ([.ref (ad 76), .int v1, .int v2])).length) Slot.unset).toArray = ls at hl ⊢
  have hl : lv_has ls 3 [(0, .ref (ad 76)), (1, .int v1), (2, .int v2)] := hl
  generalize ha9 : ([.ref (ad 76), .int v1, .int v2] : List Value).toArray = args at C ⊢
  generalize s.heap = H at S ⊢
  generalize ([] : List Loc) = locs at S ⊢
  unfold f_X11_complaint at h
  refine lv_aload_n C.1 C.2.1 dX11_complaint_0 rfl (lv_at hl 0 rfl) ?_
  refine lv_iload_n C.1 C.2.1 dX11_complaint_1 rfl (lv_at hl 1 rfl) ?_
  obtain ⟨o1, e2, h⟩ := Option.bind_eq_some_iff.mp h
  refine r_vi C S hl o_76 cf_11 (k_X11_isComplaint e2) b_vb_RX11_289 [.int v1] rfl [] rfl rfl (Nat.le_of_ble_eq_true rfl) ⟨Nat.le_of_ble_eq_true rfl, Nat.le_of_ble_eq_true rfl⟩ dX11_complaint_2 (fun H locs S => ?_)
  refine lv_if_eq (tgt := 17) C.1 C.2.1 dX11_complaint_5 (by decide) (fun q3 => ?_) (fun q3 => ?_)
  · replace h := (if_pos q3).symm.trans h
    refine lv_aload_n C.1 C.2.1 dX11_complaint_17 rfl (lv_at hl 0 rfl) ?_
    refine r_ldc C (-1000000001) b_cn_RX11_92 dX11_complaint_18 ?_
    obtain ⟨o4, e5, h⟩ := Option.bind_eq_some_iff.mp h
    refine r_vi C S hl o_76 cf_11 (k_X11_finds e5) b_vb_RX11_109 [.int (-1000000001)] rfl [] rfl rfl (Nat.le_of_ble_eq_true rfl) ⟨Nat.le_of_ble_eq_true rfl, Nat.le_of_ble_eq_true rfl⟩ dX11_complaint_20 (fun H locs S => ?_)
    have h9 := Option.some.inj h
    subst h9
    exact r_iret C S hr hlocks dX11_complaint_23
  · replace h := (if_neg q3).symm.trans h
    refine lv_iload_n C.1 C.2.1 dX11_complaint_8 rfl (lv_at hl 2 rfl) ?_
    refine lv_iconst (v := 0) C.1 C.2.1 dX11_complaint_9 (by decide) ?_
    refine lv_iconst (v := 3) C.1 C.2.1 dX11_complaint_10 (by decide) ?_
    obtain ⟨o6, e7, h⟩ := Option.bind_eq_some_iff.mp h
    refine r_si C S hl (k_X11_in e7) b_sb_RX11_97 [.int v2, .int 0, .int 3] rfl [] rfl rfl (Nat.le_of_ble_eq_true rfl) ⟨Nat.le_of_ble_eq_true rfl, Nat.le_of_ble_eq_true rfl⟩ dX11_complaint_11 (fun H locs S => ?_)
    refine lv_if_ne (tgt := 24) C.1 C.2.1 dX11_complaint_14 (by decide) (fun q8 => ?_) (fun q8 => ?_)
    · replace h := (if_neg q8).symm.trans h
      refine lv_iload_n C.1 C.2.1 dX11_complaint_24 rfl (lv_at hl 2 rfl) ?_
      refine lv_iconst (v := 3) C.1 C.2.1 dX11_complaint_25 (by decide) ?_
      refine lv_icmp_ge (tgt := 36) C.1 C.2.1 dX11_complaint_26 (by decide) (fun q9 => ?_) (fun q9 => ?_)
      · replace h := (if_pos q9).symm.trans h
        refine lv_aload_n C.1 C.2.1 dX11_complaint_36 rfl (lv_at hl 0 rfl) ?_
        obtain ⟨o10, e11, h⟩ := Option.bind_eq_some_iff.mp h
        refine r_vv C S hl o_76 cf_11 (k_X11_findGroups e11) b_vb_RX11_292 [] rfl [] rfl rfl (Nat.le_of_ble_eq_true rfl) ⟨Nat.le_of_ble_eq_true rfl, Nat.le_of_ble_eq_true rfl⟩ dX11_complaint_37 (fun H locs S => ?_)
        refine lv_aload_n C.1 C.2.1 dX11_complaint_40 rfl (lv_at hl 0 rfl) ?_
        refine r_getr C S o_76 cf_11 38 rfl (by decide) b_fl_RX11_76 dX11_complaint_41 ?_
        refine lv_iload_n C.1 C.2.1 dX11_complaint_44 rfl (lv_at hl 1 rfl) ?_
        obtain ⟨g12, h⟩ := gd_some h
        refine r_iald C S a_99 g12 dX11_complaint_45 ?_
        have h9 := Option.some.inj h
        subst h9
        exact r_iret C S hr hlocks dX11_complaint_46
      · replace h := (if_neg q9).symm.trans h
        refine lv_aload_n C.1 C.2.1 dX11_complaint_29 rfl (lv_at hl 0 rfl) ?_
        refine lv_iload_n C.1 C.2.1 dX11_complaint_30 rfl (lv_at hl 1 rfl) ?_
        refine lv_iload_n C.1 C.2.1 dX11_complaint_31 rfl (lv_at hl 2 rfl) ?_
        obtain ⟨o13, e14, h⟩ := Option.bind_eq_some_iff.mp h
        refine r_vi C S hl o_76 cf_11 (k_X11_about e14) b_vb_RX11_280 [.int v1, .int v2] rfl [] rfl rfl (Nat.le_of_ble_eq_true rfl) ⟨Nat.le_of_ble_eq_true rfl, Nat.le_of_ble_eq_true rfl⟩ dX11_complaint_32 (fun H locs S => ?_)
        have h9 := Option.some.inj h
        subst h9
        exact r_iret C S hr hlocks dX11_complaint_35
    · replace h := (if_pos q8).symm.trans h
      refine lv_aload_n C.1 C.2.1 dX11_complaint_17 rfl (lv_at hl 0 rfl) ?_
      refine r_ldc C (-1000000001) b_cn_RX11_92 dX11_complaint_18 ?_
      obtain ⟨o15, e16, h⟩ := Option.bind_eq_some_iff.mp h
      refine r_vi C S hl o_76 cf_11 (k_X11_finds e16) b_vb_RX11_109 [.int (-1000000001)] rfl [] rfl rfl (Nat.le_of_ble_eq_true rfl) ⟨Nat.le_of_ble_eq_true rfl, Nat.le_of_ble_eq_true rfl⟩ dX11_complaint_20 (fun H locs S => ?_)
      have h9 := Option.some.inj h
      subst h9
      exact r_iret C S hr hlocks dX11_complaint_23
set_option maxHeartbeats 4000000 in
set_option maxRecDepth 100000 in
theorem k_X11_joined {v1 : Int32} {v2 : Int32}  {w : Wd} {rv : Int32 × Wd} (h : f_X11_joined v1 v2 w = some rv) : CI yX11_joined cX11_joined 3 .int 4 94 (fun ad => [.ref (ad 76), .int v1, .int v2]) w rv.1 rv.2 := by
  refine CI.of (by decide) ?_
  intro l D ad sx ca p e s m below meth c C S hr hlocks
  have hl := lv_entry ([.ref (ad 76), .int v1, .int v2]) (n := 3) (Nat.le_of_ble_eq_true rfl)
  rw [lg_entry_eq]
  generalize (lg_sl ([.ref (ad 76), .int v1, .int v2]) ++ List.replicate (3 - (lg_sl ([.ref (ad 76), .int v1, .int v2])).length) Slot.unset).toArray = ls at hl ⊢
  have hl : lv_has ls 3 [(0, .ref (ad 76)), (1, .int v1), (2, .int v2)] := hl
  generalize ha9 : ([.ref (ad 76), .int v1, .int v2] : List Value).toArray = args at C ⊢
  generalize s.heap = H at S ⊢
  generalize ([] : List Loc) = locs at S ⊢
  unfold f_X11_joined at h
  refine lv_aload_n C.1 C.2.1 dX11_joined_0 rfl (lv_at hl 0 rfl) ?_
  refine lv_iload_n C.1 C.2.1 dX11_joined_1 rfl (lv_at hl 1 rfl) ?_
  obtain ⟨o1, e2, h⟩ := Option.bind_eq_some_iff.mp h
  refine r_vi C S hl o_76 cf_11 (k_X11_isComplaint e2) b_vb_RX11_289 [.int v1] rfl [] rfl rfl (Nat.le_of_ble_eq_true rfl) ⟨Nat.le_of_ble_eq_true rfl, Nat.le_of_ble_eq_true rfl⟩ dX11_joined_2 (fun H locs S => ?_)
  refine lv_if_eq (tgt := 16) C.1 C.2.1 dX11_joined_5 (by decide) (fun q3 => ?_) (fun q3 => ?_)
  · replace h := (if_pos q3).symm.trans h
    refine lv_aload_n C.1 C.2.1 dX11_joined_16 rfl (lv_at hl 0 rfl) ?_
    refine r_ldc C (-1000000001) b_cn_RX11_92 dX11_joined_17 ?_
    obtain ⟨o4, e5, h⟩ := Option.bind_eq_some_iff.mp h
    refine r_vi C S hl o_76 cf_11 (k_X11_finds e5) b_vb_RX11_109 [.int (-1000000001)] rfl [] rfl rfl (Nat.le_of_ble_eq_true rfl) ⟨Nat.le_of_ble_eq_true rfl, Nat.le_of_ble_eq_true rfl⟩ dX11_joined_19 (fun H locs S => ?_)
    have h9 := Option.some.inj h
    subst h9
    exact r_iret C S hr hlocks dX11_joined_22
  · replace h := (if_neg q3).symm.trans h
    refine lv_aload_n C.1 C.2.1 dX11_joined_8 rfl (lv_at hl 0 rfl) ?_
    refine lv_iload_n C.1 C.2.1 dX11_joined_9 rfl (lv_at hl 2 rfl) ?_
    obtain ⟨o6, e7, h⟩ := Option.bind_eq_some_iff.mp h
    refine r_vi C S hl o_76 cf_11 (k_X11_isComplaint e7) b_vb_RX11_289 [.int v2] rfl [] rfl rfl (Nat.le_of_ble_eq_true rfl) ⟨Nat.le_of_ble_eq_true rfl, Nat.le_of_ble_eq_true rfl⟩ dX11_joined_10 (fun H locs S => ?_)
    refine lv_if_ne (tgt := 23) C.1 C.2.1 dX11_joined_13 (by decide) (fun q8 => ?_) (fun q8 => ?_)
    · replace h := (if_neg q8).symm.trans h
      refine lv_aload_n C.1 C.2.1 dX11_joined_23 rfl (lv_at hl 0 rfl) ?_
      obtain ⟨o9, e10, h⟩ := Option.bind_eq_some_iff.mp h
      refine r_vv C S hl o_76 cf_11 (k_X11_findGroups e10) b_vb_RX11_292 [] rfl [] rfl rfl (Nat.le_of_ble_eq_true rfl) ⟨Nat.le_of_ble_eq_true rfl, Nat.le_of_ble_eq_true rfl⟩ dX11_joined_24 (fun H locs S => ?_)
      refine lv_aload_n C.1 C.2.1 dX11_joined_27 rfl (lv_at hl 0 rfl) ?_
      refine r_getr C S o_76 cf_11 38 rfl (by decide) b_fl_RX11_76 dX11_joined_28 ?_
      refine lv_iload_n C.1 C.2.1 dX11_joined_31 rfl (lv_at hl 1 rfl) ?_
      obtain ⟨g11, h⟩ := gd_some h
      refine r_iald C S a_99 g11 dX11_joined_32 ?_
      refine lv_aload_n C.1 C.2.1 dX11_joined_33 rfl (lv_at hl 0 rfl) ?_
      refine r_getr C S o_76 cf_11 38 rfl (by decide) b_fl_RX11_76 dX11_joined_34 ?_
      refine lv_iload_n C.1 C.2.1 dX11_joined_37 rfl (lv_at hl 2 rfl) ?_
      obtain ⟨g12, h⟩ := gd_some h
      refine r_iald C S a_99 g12 dX11_joined_38 ?_
      refine lv_icmp_ne (tgt := 46) C.1 C.2.1 dX11_joined_39 (by decide) (fun q13 => ?_) (fun q13 => ?_)
      · replace h := (if_neg q13).symm.trans h
        refine lv_iconst (v := 0) C.1 C.2.1 dX11_joined_46 (by decide) ?_
        have h9 := Option.some.inj h
        subst h9
        exact r_iret C S hr hlocks dX11_joined_47
      · replace h := (if_pos q13).symm.trans h
        refine lv_iconst (v := 1) C.1 C.2.1 dX11_joined_42 (by decide) ?_
        refine lv_goto (tgt := 47) C.1 C.2.1 dX11_joined_43 (by decide) ?_
        have h9 := Option.some.inj h
        subst h9
        exact r_iret C S hr hlocks dX11_joined_47
    · replace h := (if_pos q8).symm.trans h
      refine lv_aload_n C.1 C.2.1 dX11_joined_16 rfl (lv_at hl 0 rfl) ?_
      refine r_ldc C (-1000000001) b_cn_RX11_92 dX11_joined_17 ?_
      obtain ⟨o14, e15, h⟩ := Option.bind_eq_some_iff.mp h
      refine r_vi C S hl o_76 cf_11 (k_X11_finds e15) b_vb_RX11_109 [.int (-1000000001)] rfl [] rfl rfl (Nat.le_of_ble_eq_true rfl) ⟨Nat.le_of_ble_eq_true rfl, Nat.le_of_ble_eq_true rfl⟩ dX11_joined_19 (fun H locs S => ?_)
      have h9 := Option.some.inj h
      subst h9
      exact r_iret C S hr hlocks dX11_joined_22

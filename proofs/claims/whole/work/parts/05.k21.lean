set_option maxHeartbeats 4000000 in
set_option maxRecDepth 100000 in
theorem k_X11_sheet_L86 {p : Program} {l : Launch} {e : Env} {s : State} {m : MethodId} {args : Array Value} {below : List Frame} {meth : Method} {c : Code} {D : va_G} {ad sx : Nat → Nat} {ca : Nat → ClassId} (C : Cx D ad sx ca p s m c args RX11 cX11_sheet 5) {Q : State → Prop} {w : Wd} {v1 : Int32}  : ∀ (n : Nat) (z : Int32 × Wd) (o : Int32 × Wd), lp (f_X11_sheet_L86 v1) n z = some o → (∀ (ls : Array Slot) (H : Heap) (locs : List Loc), lv_has ls 5 [(0, .ref (ad 76)), (1, .int v1)] → St D ad ca s o.2 H locs → W p l e (RM 2 42) s m args below meth c H locs 0 0 Q (F0 m 112 ls [])) → (∀ (ls : Array Slot) (H : Heap) (locs : List Loc), lv_has ls 5 [(0, .ref (ad 76)), (1, .int v1), (4, .int z.1)] → St D ad ca s z.2 H locs → W p l e (RM 2 42) s m args below meth c H locs 0 0 Q (F0 m 86 ls [])) := by
  refine lp_W (HW := fun z => ∀ (ls : Array Slot) (H : Heap) (locs : List Loc), lv_has ls 5 [(0, .ref (ad 76)), (1, .int v1), (4, .int z.1)] → St D ad ca s z.2 H locs → W p l e (RM 2 42) s m args below meth c H locs 0 0 Q (F0 m 86 ls [])) (XW := fun o => ∀ (ls : Array Slot) (H : Heap) (locs : List Loc), lv_has ls 5 [(0, .ref (ad 76)), (1, .int v1)] → St D ad ca s o.2 H locs → W p l e (RM 2 42) s m args below meth c H locs 0 0 Q (F0 m 112 ls [])) ?_
  intro z x h hN hX ls H locs hl S
  unfold f_X11_sheet_L86 at h
  refine lv_iload C.1 C.2.1 dX11_sheet_86 (lv_at hl 2 rfl) ?_
  refine lv_bipush (v := 40) C.1 C.2.1 dX11_sheet_88 (by decide) ?_
  refine lv_icmp_ge (tgt := 112) C.1 C.2.1 dX11_sheet_90 (by decide) (fun q12 => ?_) (fun q12 => ?_)
  · replace h := (if_pos q12).symm.trans h
    exact hX _ (Option.some.inj h).symm _ _ _ (lv_sub hl [0, 1] rfl) S
  · replace h := (if_neg q12).symm.trans h
    refine lv_aload_n C.1 C.2.1 dX11_sheet_93 rfl (lv_at hl 0 rfl) ?_
    refine r_getr C S o_76 cf_11 41 rfl (by decide) b_fl_RX11_85 dX11_sheet_94 ?_
    refine lv_bipush (v := 40) C.1 C.2.1 dX11_sheet_97 (by decide) ?_
    refine lv_iload_n C.1 C.2.1 dX11_sheet_99 rfl (lv_at hl 1 rfl) ?_
    refine lv_imul C.1 C.2.1 dX11_sheet_100 ?_
    refine lv_iload C.1 C.2.1 dX11_sheet_101 (lv_at hl 2 rfl) ?_
    refine lv_iadd C.1 C.2.1 dX11_sheet_103 ?_
    refine lv_lconst (v := 0) C.1 C.2.1 dX11_sheet_104 (by decide) ?_
    obtain ⟨g13, h⟩ := gd_some h
    refine r_last C S a_102 g13 dX11_sheet_105 (fun H locs S => ?_)
    refine lv_iinc (v := z.1 + 1) (lv' := [(4, .int (z.1 + 1)), (0, .ref (ad 76)), (1, .int v1)]) C.1 C.2.1 dX11_sheet_106 hl (k := 2) rfl rfl (by decide) rfl (fun ls hl => ?_)
    refine lv_goto (tgt := 86) C.1 C.2.1 dX11_sheet_109 (by decide) ?_
    exact hN _ (Option.some.inj h).symm _ _ _ (lv_sub hl [1, 2, 0] rfl) S
set_option maxHeartbeats 4000000 in
set_option maxRecDepth 100000 in
theorem k_X11_sheet_J82 {p : Program} {l : Launch} {e : Env} {s : State} {m : MethodId} {args : Array Value} {below : List Frame} {meth : Method} {c : Code} {D : va_G} {ad sx : Nat → Nat} {ca : Nat → ClassId} (C : Cx D ad sx ca p s m c args RX11 cX11_sheet 5) (hr : meth.sig.returnType = (some .int)) (hlocks : meth.locks = false) {w : Wd} {v1 : Int32} {v101 : Int32} {v102 : Int32}  {rv : Int32 × Wd} (h : f_X11_sheet_J82 v1 v101 v102 w = some rv) {ls : Array Slot} {H : Heap} {locs : List Loc} (hl : lv_has ls 5 [(0, .ref (ad 76)), (1, .int v1)]) (S : St D ad ca s w H locs) : W p l e (RM 2 42) s m args below meth c H locs 0 0 (MQ below (Qi D ad ca rv.1 rv.2) args s 0 0 (Aad ad)) (F0 m 82 ls [.int v102, .int v101, .ref (ad 101)]) := by
  unfold f_X11_sheet_J82 at h
  obtain ⟨g11, h⟩ := gd_some h
  refine r_iast C S a_101 g11 dX11_sheet_82 (fun H locs S => ?_)
  refine lv_iconst (v := 0) C.1 C.2.1 dX11_sheet_83 (by decide) ?_
  refine lv_istore (lv' := [(4, .int 0), (0, .ref (ad 76)), (1, .int v1)]) C.1 C.2.1 dX11_sheet_84 hl (by decide) rfl (fun ls hl => ?_)
  obtain ⟨o14, e15, h⟩ := Option.bind_eq_some_iff.mp h
  refine k_X11_sheet_L86 C  FU _ _ e15 (fun ls H locs hl S => ?_) ls H locs (lv_sub hl [1, 2, 0] rfl) S
  refine lv_aload_n C.1 C.2.1 dX11_sheet_112 rfl (lv_at hl 0 rfl) ?_
  refine r_getr C S o_76 cf_11 40 rfl (by decide) b_fl_RX11_82 dX11_sheet_113 ?_
  refine lv_iload_n C.1 C.2.1 dX11_sheet_116 rfl (lv_at hl 1 rfl) ?_
  obtain ⟨g16, h⟩ := gd_some h
  refine r_iald C S a_101 g16 dX11_sheet_117 ?_
  cases h
  exact r_iret C S hr hlocks dX11_sheet_118
set_option maxHeartbeats 4000000 in
set_option maxRecDepth 100000 in
theorem k_X11_sheet_J36 {p : Program} {l : Launch} {e : Env} {s : State} {m : MethodId} {args : Array Value} {below : List Frame} {meth : Method} {c : Code} {D : va_G} {ad sx : Nat → Nat} {ca : Nat → ClassId} (C : Cx D ad sx ca p s m c args RX11 cX11_sheet 5) (hr : meth.sig.returnType = (some .int)) (hlocks : meth.locks = false) {w : Wd} {v1 : Int32} {v2 : Int32} {v3 : Int32}  {rv : Int32 × Wd} (h : f_X11_sheet_J36 v1 v2 v3 w = some rv) {ls : Array Slot} {H : Heap} {locs : List Loc} (hl : lv_has ls 5 [(0, .ref (ad 76)), (1, .int v1), (2, .int v2), (3, .int v3)]) (S : St D ad ca s w H locs) : W p l e (RM 2 42) s m args below meth c H locs 0 0 (MQ below (Qi D ad ca rv.1 rv.2) args s 0 0 (Aad ad)) (F0 m 36 ls []) := by
  unfold f_X11_sheet_J36 at h
  refine lv_iload_n C.1 C.2.1 dX11_sheet_36 rfl (lv_at hl 3 rfl) ?_
  refine lv_if_ge (tgt := 48) C.1 C.2.1 dX11_sheet_37 (by decide) (fun q7 => ?_) (fun q7 => ?_)
  · replace h := (if_pos q7).symm.trans h
    refine lv_iload_n C.1 C.2.1 dX11_sheet_48 rfl (lv_at hl 3 rfl) ?_
    refine lv_bipush (v := 40) C.1 C.2.1 dX11_sheet_49 (by decide) ?_
    refine lv_icmp_le (tgt := 61) C.1 C.2.1 dX11_sheet_51 (by decide) (fun q8 => ?_) (fun q8 => ?_)
    · replace h := (if_pos q8).symm.trans h
      refine lv_aload_n C.1 C.2.1 dX11_sheet_61 rfl (lv_at hl 0 rfl) ?_
      refine r_getr C S o_76 cf_11 39 rfl (by decide) b_fl_RX11_79 dX11_sheet_62 ?_
      refine lv_iload_n C.1 C.2.1 dX11_sheet_65 rfl (lv_at hl 1 rfl) ?_
      refine lv_iload_n C.1 C.2.1 dX11_sheet_66 rfl (lv_at hl 2 rfl) ?_
      obtain ⟨g9, h⟩ := gd_some h
      refine r_iast C S a_100 g9 dX11_sheet_67 (fun H locs S => ?_)
      refine lv_aload_n C.1 C.2.1 dX11_sheet_68 rfl (lv_at hl 0 rfl) ?_
      refine r_getr C S o_76 cf_11 40 rfl (by decide) b_fl_RX11_82 dX11_sheet_69 ?_
      refine lv_iload_n C.1 C.2.1 dX11_sheet_72 rfl (lv_at hl 1 rfl) ?_
      refine lv_iload_n C.1 C.2.1 dX11_sheet_73 rfl (lv_at hl 2 rfl) ?_
      refine lv_if_ne (tgt := 81) C.1 C.2.1 dX11_sheet_74 (by decide) (fun q10 => ?_) (fun q10 => ?_)
      · replace h := (if_neg q10).symm.trans h
        refine lv_iload_n C.1 C.2.1 dX11_sheet_81 rfl (lv_at hl 3 rfl) ?_
        exact k_X11_sheet_J82 C hr hlocks  h (lv_sub hl [0, 1] rfl) S
      · replace h := (if_pos q10).symm.trans h
        refine lv_iconst (v := 0) C.1 C.2.1 dX11_sheet_77 (by decide) ?_
        refine lv_goto (tgt := 82) C.1 C.2.1 dX11_sheet_78 (by decide) ?_
        exact k_X11_sheet_J82 C hr hlocks  h (lv_sub hl [0, 1] rfl) S
    · replace h := (if_neg q8).symm.trans h
      refine lv_aload_n C.1 C.2.1 dX11_sheet_54 rfl (lv_at hl 0 rfl) ?_
      refine r_ldc C (-1000000001) b_cn_RX11_92 dX11_sheet_55 ?_
      obtain ⟨o17, e18, h⟩ := Option.bind_eq_some_iff.mp h
      refine r_vi C S hl o_76 cf_11 (k_X11_finds e18) b_vb_RX11_109 [.int (-1000000001)] rfl [] rfl rfl (by decide) ⟨Nat.le_of_ble_eq_true rfl, Nat.le_of_ble_eq_true rfl⟩ dX11_sheet_57 (fun H locs S => ?_)
      cases h
      exact r_iret C S hr hlocks dX11_sheet_60
  · replace h := (if_neg q7).symm.trans h
    refine lv_aload_n C.1 C.2.1 dX11_sheet_40 rfl (lv_at hl 0 rfl) ?_
    refine r_ldcw C (-1000000007) b_cn_RX11_298 dX11_sheet_41 ?_
    obtain ⟨o19, e20, h⟩ := Option.bind_eq_some_iff.mp h
    refine r_vi C S hl o_76 cf_11 (k_X11_finds e20) b_vb_RX11_109 [.int (-1000000007)] rfl [] rfl rfl (by decide) ⟨Nat.le_of_ble_eq_true rfl, Nat.le_of_ble_eq_true rfl⟩ dX11_sheet_44 (fun H locs S => ?_)
    cases h
    exact r_iret C S hr hlocks dX11_sheet_47
set_option maxHeartbeats 4000000 in
set_option maxRecDepth 100000 in
theorem k_X11_sheet {v1 : Int32} {v2 : Int32} {v3 : Int32}  {w : Wd} {rv : Int32 × Wd} (h : f_X11_sheet v1 v2 v3 w = some rv) : CI yX11_sheet cX11_sheet 5 .int 2 42 (fun ad => [.ref (ad 76), .int v1, .int v2, .int v3]) w rv.1 rv.2 := by
  refine CI.of (by decide) ?_
  intro l D ad sx ca p e s m below meth c C S hr hlocks
  have hl := lv_entry ([.ref (ad 76), .int v1, .int v2, .int v3]) (n := 5) (Nat.le_of_ble_eq_true rfl)
  rw [lg_entry_eq]
  generalize (lg_sl ([.ref (ad 76), .int v1, .int v2, .int v3]) ++ List.replicate (5 - (lg_sl ([.ref (ad 76), .int v1, .int v2, .int v3])).length) Slot.unset).toArray = ls at hl ⊢
  have hl : lv_has ls 5 [(0, .ref (ad 76)), (1, .int v1), (2, .int v2), (3, .int v3)] := hl
  generalize ha9 : ([.ref (ad 76), .int v1, .int v2, .int v3] : List Value).toArray = args at C ⊢
  generalize s.heap = H at S ⊢
  generalize ([] : List Loc) = locs at S ⊢
  unfold f_X11_sheet at h
  refine lv_iload_n C.1 C.2.1 dX11_sheet_0 rfl (lv_at hl 1 rfl) ?_
  obtain ⟨o1, e2, h⟩ := Option.bind_eq_some_iff.mp h
  refine r_si C S hl (k_X11_isSheet e2) b_sb_RX11_295 [.int v1] rfl [] rfl rfl (by decide) ⟨Nat.le_of_ble_eq_true rfl, Nat.le_of_ble_eq_true rfl⟩ dX11_sheet_1 (fun H locs S => ?_)
  refine lv_if_eq (tgt := 29) C.1 C.2.1 dX11_sheet_4 (by decide) (fun q3 => ?_) (fun q3 => ?_)
  · replace h := (if_pos q3).symm.trans h
    refine lv_aload_n C.1 C.2.1 dX11_sheet_29 rfl (lv_at hl 0 rfl) ?_
    refine r_ldc C (-1000000001) b_cn_RX11_92 dX11_sheet_30 ?_
    obtain ⟨o4, e5, h⟩ := Option.bind_eq_some_iff.mp h
    refine r_vi C S hl o_76 cf_11 (k_X11_finds e5) b_vb_RX11_109 [.int (-1000000001)] rfl [] rfl rfl (by decide) ⟨Nat.le_of_ble_eq_true rfl, Nat.le_of_ble_eq_true rfl⟩ dX11_sheet_32 (fun H locs S => ?_)
    cases h
    exact r_iret C S hr hlocks dX11_sheet_35
  · replace h := (if_neg q3).symm.trans h
    refine lv_iload_n C.1 C.2.1 dX11_sheet_7 rfl (lv_at hl 2 rfl) ?_
    refine lv_if_eq (tgt := 36) C.1 C.2.1 dX11_sheet_8 (by decide) (fun q6 => ?_) (fun q6 => ?_)
    · replace h := (if_pos q6).symm.trans h
      exact k_X11_sheet_J36 C hr hlocks  h (lv_sub hl [0, 1, 2, 3] rfl) S
    · replace h := (if_neg q6).symm.trans h
      refine lv_iload_n C.1 C.2.1 dX11_sheet_11 rfl (lv_at hl 2 rfl) ?_
      refine lv_bipush (v := 8) C.1 C.2.1 dX11_sheet_12 (by decide) ?_
      refine lv_icmp_eq (tgt := 36) C.1 C.2.1 dX11_sheet_14 (by decide) (fun q21 => ?_) (fun q21 => ?_)
      · replace h := (if_pos q21).symm.trans h
        exact k_X11_sheet_J36 C hr hlocks  h (lv_sub hl [0, 1, 2, 3] rfl) S
      · replace h := (if_neg q21).symm.trans h
        refine lv_iload_n C.1 C.2.1 dX11_sheet_17 rfl (lv_at hl 2 rfl) ?_
        refine lv_bipush (v := 16) C.1 C.2.1 dX11_sheet_18 (by decide) ?_
        refine lv_icmp_eq (tgt := 36) C.1 C.2.1 dX11_sheet_20 (by decide) (fun q22 => ?_) (fun q22 => ?_)
        · replace h := (if_pos q22).symm.trans h
          exact k_X11_sheet_J36 C hr hlocks  h (lv_sub hl [0, 1, 2, 3] rfl) S
        · replace h := (if_neg q22).symm.trans h
          refine lv_iload_n C.1 C.2.1 dX11_sheet_23 rfl (lv_at hl 2 rfl) ?_
          refine lv_bipush (v := 64) C.1 C.2.1 dX11_sheet_24 (by decide) ?_
          refine lv_icmp_eq (tgt := 36) C.1 C.2.1 dX11_sheet_26 (by decide) (fun q23 => ?_) (fun q23 => ?_)
          · replace h := (if_pos q23).symm.trans h
            exact k_X11_sheet_J36 C hr hlocks  h (lv_sub hl [0, 1, 2, 3] rfl) S
          · replace h := (if_neg q23).symm.trans h
            refine lv_aload_n C.1 C.2.1 dX11_sheet_29 rfl (lv_at hl 0 rfl) ?_
            refine r_ldc C (-1000000001) b_cn_RX11_92 dX11_sheet_30 ?_
            obtain ⟨o24, e25, h⟩ := Option.bind_eq_some_iff.mp h
            refine r_vi C S hl o_76 cf_11 (k_X11_finds e25) b_vb_RX11_109 [.int (-1000000001)] rfl [] rfl rfl (by decide) ⟨Nat.le_of_ble_eq_true rfl, Nat.le_of_ble_eq_true rfl⟩ dX11_sheet_32 (fun H locs S => ?_)
            cases h
            exact r_iret C S hr hlocks dX11_sheet_35
set_option maxHeartbeats 4000000 in
set_option maxRecDepth 100000 in
theorem k_X11_write {v1 : Int32} {v2 : Int32} {v3 : Int64}  {w : Wd} {rv : Int64 × Wd} (h : f_X11_write v1 v2 v3 w = some rv) : CL yX11_write cX11_write 7 2 42 (fun ad => [.ref (ad 76), .int v1, .int v2, .long v3]) w rv.1 rv.2 := by
  refine CL.of (by decide) ?_
  intro l D ad sx ca p e s m below meth c C S hr hlocks
  have hl := lv_entry ([.ref (ad 76), .int v1, .int v2, .long v3]) (n := 7) (Nat.le_of_ble_eq_true rfl)
  rw [lg_entry_eq]
  generalize (lg_sl ([.ref (ad 76), .int v1, .int v2, .long v3]) ++ List.replicate (7 - (lg_sl ([.ref (ad 76), .int v1, .int v2, .long v3])).length) Slot.unset).toArray = ls at hl ⊢
  have hl : lv_has ls 7 [(0, .ref (ad 76)), (1, .int v1), (2, .int v2), (3, .long v3)] := hl
  generalize ha9 : ([.ref (ad 76), .int v1, .int v2, .long v3] : List Value).toArray = args at C ⊢
  generalize s.heap = H at S ⊢
  generalize ([] : List Loc) = locs at S ⊢
  unfold f_X11_write at h
  refine lv_iload_n C.1 C.2.1 dX11_write_0 rfl (lv_at hl 1 rfl) ?_
  obtain ⟨o1, e2, h⟩ := Option.bind_eq_some_iff.mp h
  refine r_si C S hl (k_X11_isSheet e2) b_sb_RX11_295 [.int v1] rfl [] rfl rfl (by decide) ⟨Nat.le_of_ble_eq_true rfl, Nat.le_of_ble_eq_true rfl⟩ dX11_write_1 (fun H locs S => ?_)
  refine lv_if_ne (tgt := 15) C.1 C.2.1 dX11_write_4 (by decide) (fun q3 => ?_) (fun q3 => ?_)
  · replace h := (if_neg q3).symm.trans h
    refine lv_aload_n C.1 C.2.1 dX11_write_15 rfl (lv_at hl 0 rfl) ?_
    refine r_getr C S o_76 cf_11 39 rfl (by decide) b_fl_RX11_79 dX11_write_16 ?_
    refine lv_iload_n C.1 C.2.1 dX11_write_19 rfl (lv_at hl 1 rfl) ?_
    obtain ⟨g4, h⟩ := gd_some h
    refine r_iald C S a_100 g4 dX11_write_20 ?_
    refine lv_if_ne (tgt := 33) C.1 C.2.1 dX11_write_21 (by decide) (fun q5 => ?_) (fun q5 => ?_)
    · replace h := (if_neg q5).symm.trans h
      refine lv_iload_n C.1 C.2.1 dX11_write_33 rfl (lv_at hl 2 rfl) ?_
      refine lv_iconst (v := 0) C.1 C.2.1 dX11_write_34 (by decide) ?_
      refine lv_aload_n C.1 C.2.1 dX11_write_35 rfl (lv_at hl 0 rfl) ?_
      refine r_getr C S o_76 cf_11 40 rfl (by decide) b_fl_RX11_82 dX11_write_36 ?_
      refine lv_iload_n C.1 C.2.1 dX11_write_39 rfl (lv_at hl 1 rfl) ?_
      obtain ⟨g6, h⟩ := gd_some h
      refine r_iald C S a_101 g6 dX11_write_40 ?_
      refine lv_iconst (v := 1) C.1 C.2.1 dX11_write_41 (by decide) ?_
      refine lv_isub C.1 C.2.1 dX11_write_42 ?_
      obtain ⟨o7, e8, h⟩ := Option.bind_eq_some_iff.mp h
      refine r_si C S hl (k_X11_in e8) b_sb_RX11_97 [.int v2, .int 0, .int ((w.1 101 v1.toNatClampNeg) - 1)] rfl [] rfl rfl (by decide) ⟨Nat.le_of_ble_eq_true rfl, Nat.le_of_ble_eq_true rfl⟩ dX11_write_43 (fun H locs S => ?_)
      refine lv_if_ne (tgt := 57) C.1 C.2.1 dX11_write_46 (by decide) (fun q9 => ?_) (fun q9 => ?_)
      · replace h := (if_neg q9).symm.trans h
        refine lv_aload_n C.1 C.2.1 dX11_write_57 rfl (lv_at hl 0 rfl) ?_
        refine r_getr C S o_76 cf_11 41 rfl (by decide) b_fl_RX11_85 dX11_write_58 ?_
        refine lv_bipush (v := 40) C.1 C.2.1 dX11_write_61 (by decide) ?_
        refine lv_iload_n C.1 C.2.1 dX11_write_63 rfl (lv_at hl 1 rfl) ?_
        refine lv_imul C.1 C.2.1 dX11_write_64 ?_
        refine lv_iload_n C.1 C.2.1 dX11_write_65 rfl (lv_at hl 2 rfl) ?_
        refine lv_iadd C.1 C.2.1 dX11_write_66 ?_
        obtain ⟨g10, h⟩ := gd_some h
        refine r_lald C S a_102 g10 dX11_write_67 ?_
        refine lv_lstore (lv' := [(5, .long (w.2 102 (((40 * v1) + v2).toNatClampNeg))), (0, .ref (ad 76)), (1, .int v1), (2, .int v2), (3, .long v3)]) C.1 C.2.1 dX11_write_68 hl (by decide) rfl (fun ls hl => ?_)
        refine lv_aload_n C.1 C.2.1 dX11_write_70 rfl (lv_at hl 1 rfl) ?_
        refine r_getr C S o_76 cf_11 41 rfl (by decide) b_fl_RX11_85 dX11_write_71 ?_
        refine lv_bipush (v := 40) C.1 C.2.1 dX11_write_74 (by decide) ?_
        refine lv_iload_n C.1 C.2.1 dX11_write_76 rfl (lv_at hl 2 rfl) ?_
        refine lv_imul C.1 C.2.1 dX11_write_77 ?_
        refine lv_iload_n C.1 C.2.1 dX11_write_78 rfl (lv_at hl 3 rfl) ?_
        refine lv_iadd C.1 C.2.1 dX11_write_79 ?_
        refine lv_aload_n C.1 C.2.1 dX11_write_80 rfl (lv_at hl 1 rfl) ?_
        refine r_getr C S o_76 cf_11 39 rfl (by decide) b_fl_RX11_79 dX11_write_81 ?_
        refine lv_iload_n C.1 C.2.1 dX11_write_84 rfl (lv_at hl 2 rfl) ?_
        obtain ⟨g11, h⟩ := gd_some h
        refine r_iald C S a_100 g11 dX11_write_85 ?_
        refine lv_bipush (v := 8) C.1 C.2.1 dX11_write_86 (by decide) ?_
        refine lv_icmp_ne (tgt := 98) C.1 C.2.1 dX11_write_88 (by decide) (fun q12 => ?_) (fun q12 => ?_)
        · replace h := (if_neg q12).symm.trans h
          refine lv_aload_n C.1 C.2.1 dX11_write_98 rfl (lv_at hl 1 rfl) ?_
          refine r_getr C S o_76 cf_11 39 rfl (by decide) b_fl_RX11_79 dX11_write_99 ?_
          refine lv_iload_n C.1 C.2.1 dX11_write_102 rfl (lv_at hl 2 rfl) ?_
          obtain ⟨g13, h⟩ := gd_some h
          refine r_iald C S a_100 g13 dX11_write_103 ?_
          refine lv_bipush (v := 16) C.1 C.2.1 dX11_write_104 (by decide) ?_
          refine lv_icmp_ne (tgt := 116) C.1 C.2.1 dX11_write_106 (by decide) (fun q14 => ?_) (fun q14 => ?_)
          · replace h := (if_neg q14).symm.trans h
            refine lv_lload_n C.1 C.2.1 dX11_write_116 rfl (lv_at hl 4 rfl) ?_
            obtain ⟨g15, h⟩ := gd_some h
            refine r_last C S a_102 g15 dX11_write_117 (fun H locs S => ?_)
            refine lv_lload C.1 C.2.1 dX11_write_118 (lv_at hl 0 rfl) ?_
            cases h
            exact r_lret C S hr hlocks dX11_write_120
          · replace h := (if_pos q14).symm.trans h
            refine lv_lload_n C.1 C.2.1 dX11_write_109 rfl (lv_at hl 4 rfl) ?_
            refine lv_l2i C.1 C.2.1 dX11_write_110 rfl ?_
            refine lv_i2s C.1 C.2.1 dX11_write_111 rfl ?_
            refine lv_i2l C.1 C.2.1 dX11_write_112 rfl ?_
            refine lv_goto (tgt := 117) C.1 C.2.1 dX11_write_113 (by decide) ?_
            obtain ⟨g16, h⟩ := gd_some h
            refine r_last C S a_102 g16 dX11_write_117 (fun H locs S => ?_)
            refine lv_lload C.1 C.2.1 dX11_write_118 (lv_at hl 0 rfl) ?_
            cases h
            exact r_lret C S hr hlocks dX11_write_120
        · replace h := (if_pos q12).symm.trans h
          refine lv_lload_n C.1 C.2.1 dX11_write_91 rfl (lv_at hl 4 rfl) ?_
          refine lv_l2i C.1 C.2.1 dX11_write_92 rfl ?_
          refine lv_i2b C.1 C.2.1 dX11_write_93 rfl ?_
          refine lv_i2l C.1 C.2.1 dX11_write_94 rfl ?_
          refine lv_goto (tgt := 117) C.1 C.2.1 dX11_write_95 (by decide) ?_
          obtain ⟨g17, h⟩ := gd_some h
          refine r_last C S a_102 g17 dX11_write_117 (fun H locs S => ?_)
          refine lv_lload C.1 C.2.1 dX11_write_118 (lv_at hl 0 rfl) ?_
          cases h
          exact r_lret C S hr hlocks dX11_write_120
      · replace h := (if_pos q9).symm.trans h
        refine lv_aload_n C.1 C.2.1 dX11_write_49 rfl (lv_at hl 0 rfl) ?_
        refine r_ldc C (-1000000001) b_cn_RX11_92 dX11_write_50 ?_
        obtain ⟨o18, e19, h⟩ := Option.bind_eq_some_iff.mp h
        refine r_vi C S hl o_76 cf_11 (k_X11_finds e19) b_vb_RX11_109 [.int (-1000000001)] rfl [] rfl rfl (by decide) ⟨Nat.le_of_ble_eq_true rfl, Nat.le_of_ble_eq_true rfl⟩ dX11_write_52 (fun H locs S => ?_)
        refine lv_i2l C.1 C.2.1 dX11_write_55 rfl ?_
        cases h
        exact r_lret C S hr hlocks dX11_write_56
    · replace h := (if_pos q5).symm.trans h
      refine lv_aload_n C.1 C.2.1 dX11_write_24 rfl (lv_at hl 0 rfl) ?_
      refine r_ldcw C (-1000000006) b_cn_RX11_299 dX11_write_25 ?_
      obtain ⟨o20, e21, h⟩ := Option.bind_eq_some_iff.mp h
      refine r_vi C S hl o_76 cf_11 (k_X11_finds e21) b_vb_RX11_109 [.int (-1000000006)] rfl [] rfl rfl (by decide) ⟨Nat.le_of_ble_eq_true rfl, Nat.le_of_ble_eq_true rfl⟩ dX11_write_28 (fun H locs S => ?_)
      refine lv_i2l C.1 C.2.1 dX11_write_31 rfl ?_
      cases h
      exact r_lret C S hr hlocks dX11_write_32
  · replace h := (if_pos q3).symm.trans h
    refine lv_aload_n C.1 C.2.1 dX11_write_7 rfl (lv_at hl 0 rfl) ?_
    refine r_ldc C (-1000000001) b_cn_RX11_92 dX11_write_8 ?_
    obtain ⟨o22, e23, h⟩ := Option.bind_eq_some_iff.mp h
    refine r_vi C S hl o_76 cf_11 (k_X11_finds e23) b_vb_RX11_109 [.int (-1000000001)] rfl [] rfl rfl (by decide) ⟨Nat.le_of_ble_eq_true rfl, Nat.le_of_ble_eq_true rfl⟩ dX11_write_10 (fun H locs S => ?_)
    refine lv_i2l C.1 C.2.1 dX11_write_13 rfl ?_
    cases h
    exact r_lret C S hr hlocks dX11_write_14
set_option maxHeartbeats 4000000 in
set_option maxRecDepth 100000 in
theorem k_X11_has {v1 : Int32} {v2 : Int32} {v3 : Int32}  {w : Wd} {rv : Int32} (h : f_X11_has v1 v2 v3 w = some rv) : CI yX11_has cX11_has 4 .boolean 0 0 (fun ad => [.ref (ad 76), .int v1, .int v2, .int v3]) w rv w := by
  refine CI.of (by decide) ?_
  intro l D ad sx ca p e s m below meth c C S hr hlocks
  have hl := lv_entry ([.ref (ad 76), .int v1, .int v2, .int v3]) (n := 4) (Nat.le_of_ble_eq_true rfl)
  rw [lg_entry_eq]
  generalize (lg_sl ([.ref (ad 76), .int v1, .int v2, .int v3]) ++ List.replicate (4 - (lg_sl ([.ref (ad 76), .int v1, .int v2, .int v3])).length) Slot.unset).toArray = ls at hl ⊢
  have hl : lv_has ls 4 [(0, .ref (ad 76)), (1, .int v1), (2, .int v2), (3, .int v3)] := hl
  generalize ha9 : ([.ref (ad 76), .int v1, .int v2, .int v3] : List Value).toArray = args at C ⊢
  generalize s.heap = H at S ⊢
  generalize ([] : List Loc) = locs at S ⊢
  unfold f_X11_has at h
  refine lv_iload_n C.1 C.2.1 dX11_has_0 rfl (lv_at hl 2 rfl) ?_
  refine lv_if_lt (tgt := 24) C.1 C.2.1 dX11_has_1 (by decide) (fun q1 => ?_) (fun q1 => ?_)
  · replace h := (if_pos q1).symm.trans h
    refine lv_iconst (v := 0) C.1 C.2.1 dX11_has_24 (by decide) ?_
    cases h
    exact r_zret C S hr hlocks (by decide) dX11_has_25
  · replace h := (if_neg q1).symm.trans h
    refine lv_iload_n C.1 C.2.1 dX11_has_4 rfl (lv_at hl 3 rfl) ?_
    refine lv_if_lt (tgt := 24) C.1 C.2.1 dX11_has_5 (by decide) (fun q2 => ?_) (fun q2 => ?_)
    · replace h := (if_pos q2).symm.trans h
      refine lv_iconst (v := 0) C.1 C.2.1 dX11_has_24 (by decide) ?_
      cases h
      exact r_zret C S hr hlocks (by decide) dX11_has_25
    · replace h := (if_neg q2).symm.trans h
      refine lv_iload_n C.1 C.2.1 dX11_has_8 rfl (lv_at hl 2 rfl) ?_
      refine lv_aload_n C.1 C.2.1 dX11_has_9 rfl (lv_at hl 0 rfl) ?_
      refine r_getr C S o_76 cf_11 40 rfl (by decide) b_fl_RX11_82 dX11_has_10 ?_
      refine lv_iload_n C.1 C.2.1 dX11_has_13 rfl (lv_at hl 1 rfl) ?_
      obtain ⟨g3, h⟩ := gd_some h
      refine r_iald C S a_101 g3 dX11_has_14 ?_
      refine lv_iload_n C.1 C.2.1 dX11_has_15 rfl (lv_at hl 3 rfl) ?_
      refine lv_isub C.1 C.2.1 dX11_has_16 ?_
      refine lv_icmp_gt (tgt := 24) C.1 C.2.1 dX11_has_17 (by decide) (fun q4 => ?_) (fun q4 => ?_)
      · replace h := (if_pos q4).symm.trans h
        refine lv_iconst (v := 0) C.1 C.2.1 dX11_has_24 (by decide) ?_
        cases h
        exact r_zret C S hr hlocks (by decide) dX11_has_25
      · replace h := (if_neg q4).symm.trans h
        refine lv_iconst (v := 1) C.1 C.2.1 dX11_has_20 (by decide) ?_
        refine lv_goto (tgt := 25) C.1 C.2.1 dX11_has_21 (by decide) ?_
        cases h
        exact r_zret C S hr hlocks (by decide) dX11_has_25
set_option maxHeartbeats 4000000 in
set_option maxRecDepth 100000 in
theorem k_X11_copy_L102 {p : Program} {l : Launch} {e : Env} {s : State} {m : MethodId} {args : Array Value} {below : List Frame} {meth : Method} {c : Code} {D : va_G} {ad sx : Nat → Nat} {ca : Nat → ClassId} (C : Cx D ad sx ca p s m c args RX11 cX11_copy 7) {Q : State → Prop} {w : Wd} {v1 : Int32} {v2 : Int32} {v3 : Int32} {v4 : Int32} {v5 : Int32}  : ∀ (n : Nat) (z : Int32 × Wd) (o : Int32 × Wd), lp (f_X11_copy_L102 v1 v2 v3 v4 v5) n z = some o → (∀ (ls : Array Slot) (H : Heap) (locs : List Loc), lv_has ls 7 [(0, .ref (ad 76)), (3, .int v3), (4, .int v4), (5, .int v5)] → St D ad ca s o.2 H locs → W p l e (RM 2 42) s m args below meth c H locs 0 0 Q (F0 m 136 ls [])) → (∀ (ls : Array Slot) (H : Heap) (locs : List Loc), lv_has ls 7 [(0, .ref (ad 76)), (1, .int v1), (2, .int v2), (3, .int v3), (4, .int v4), (5, .int v5), (6, .int z.1)] → St D ad ca s z.2 H locs → W p l e (RM 2 42) s m args below meth c H locs 0 0 Q (F0 m 102 ls [])) := by
  refine lp_W (HW := fun z => ∀ (ls : Array Slot) (H : Heap) (locs : List Loc), lv_has ls 7 [(0, .ref (ad 76)), (1, .int v1), (2, .int v2), (3, .int v3), (4, .int v4), (5, .int v5), (6, .int z.1)] → St D ad ca s z.2 H locs → W p l e (RM 2 42) s m args below meth c H locs 0 0 Q (F0 m 102 ls [])) (XW := fun o => ∀ (ls : Array Slot) (H : Heap) (locs : List Loc), lv_has ls 7 [(0, .ref (ad 76)), (3, .int v3), (4, .int v4), (5, .int v5)] → St D ad ca s o.2 H locs → W p l e (RM 2 42) s m args below meth c H locs 0 0 Q (F0 m 136 ls [])) ?_
  intro z x h hN hX ls H locs hl S
  unfold f_X11_copy_L102 at h
  refine lv_iload C.1 C.2.1 dX11_copy_102 (lv_at hl 6 rfl) ?_
  refine lv_iload C.1 C.2.1 dX11_copy_104 (lv_at hl 5 rfl) ?_
  refine lv_icmp_ge (tgt := 136) C.1 C.2.1 dX11_copy_106 (by decide) (fun q26 => ?_) (fun q26 => ?_)
  · replace h := (if_pos q26).symm.trans h
    exact hX _ (Option.some.inj h).symm _ _ _ (lv_sub hl [0, 3, 4, 5] rfl) S
  · replace h := (if_neg q26).symm.trans h
    refine lv_aload_n C.1 C.2.1 dX11_copy_109 rfl (lv_at hl 0 rfl) ?_
    refine r_getr C S o_76 cf_11 42 rfl (by decide) b_fl_RX11_89 dX11_copy_110 ?_
    refine lv_iload C.1 C.2.1 dX11_copy_113 (lv_at hl 6 rfl) ?_
    refine lv_aload_n C.1 C.2.1 dX11_copy_115 rfl (lv_at hl 0 rfl) ?_
    refine r_getr C S o_76 cf_11 41 rfl (by decide) b_fl_RX11_85 dX11_copy_116 ?_
    refine lv_bipush (v := 40) C.1 C.2.1 dX11_copy_119 (by decide) ?_
    refine lv_iload_n C.1 C.2.1 dX11_copy_121 rfl (lv_at hl 1 rfl) ?_
    refine lv_imul C.1 C.2.1 dX11_copy_122 ?_
    refine lv_iload_n C.1 C.2.1 dX11_copy_123 rfl (lv_at hl 2 rfl) ?_
    refine lv_iadd C.1 C.2.1 dX11_copy_124 ?_
    refine lv_iload C.1 C.2.1 dX11_copy_125 (lv_at hl 6 rfl) ?_
    refine lv_iadd C.1 C.2.1 dX11_copy_127 ?_
    obtain ⟨g27, h⟩ := gd_some h
    refine r_lald C S a_102 g27 dX11_copy_128 ?_
    obtain ⟨g28, h⟩ := gd_some h
    refine r_last C S a_103 g28 dX11_copy_129 (fun H locs S => ?_)
    refine lv_iinc (v := z.1 + 1) (lv' := [(6, .int (z.1 + 1)), (0, .ref (ad 76)), (1, .int v1), (2, .int v2), (3, .int v3), (4, .int v4), (5, .int v5)]) C.1 C.2.1 dX11_copy_130 hl (k := 6) rfl rfl (by decide) rfl (fun ls hl => ?_)
    refine lv_goto (tgt := 102) C.1 C.2.1 dX11_copy_133 (by decide) ?_
    exact hN _ (Option.some.inj h).symm _ _ _ (lv_sub hl [1, 2, 3, 4, 5, 6, 0] rfl) S
set_option maxHeartbeats 4000000 in
set_option maxRecDepth 100000 in
theorem k_X11_copy_L139 {p : Program} {l : Launch} {e : Env} {s : State} {m : MethodId} {args : Array Value} {below : List Frame} {meth : Method} {c : Code} {D : va_G} {ad sx : Nat → Nat} {ca : Nat → ClassId} (C : Cx D ad sx ca p s m c args RX11 cX11_copy 7) {Q : State → Prop} {w : Wd} {v3 : Int32} {v4 : Int32} {v5 : Int32}  : ∀ (n : Nat) (z : Int32 × Wd) (o : Int32 × Wd), lp (f_X11_copy_L139 v3 v4 v5) n z = some o → (∀ (ls : Array Slot) (H : Heap) (locs : List Loc), lv_has ls 7 [(5, .int v5)] → St D ad ca s o.2 H locs → W p l e (RM 2 42) s m args below meth c H locs 0 0 Q (F0 m 174 ls [])) → (∀ (ls : Array Slot) (H : Heap) (locs : List Loc), lv_has ls 7 [(0, .ref (ad 76)), (3, .int v3), (4, .int v4), (5, .int v5), (6, .int z.1)] → St D ad ca s z.2 H locs → W p l e (RM 2 42) s m args below meth c H locs 0 0 Q (F0 m 139 ls [])) := by
  refine lp_W (HW := fun z => ∀ (ls : Array Slot) (H : Heap) (locs : List Loc), lv_has ls 7 [(0, .ref (ad 76)), (3, .int v3), (4, .int v4), (5, .int v5), (6, .int z.1)] → St D ad ca s z.2 H locs → W p l e (RM 2 42) s m args below meth c H locs 0 0 Q (F0 m 139 ls [])) (XW := fun o => ∀ (ls : Array Slot) (H : Heap) (locs : List Loc), lv_has ls 7 [(5, .int v5)] → St D ad ca s o.2 H locs → W p l e (RM 2 42) s m args below meth c H locs 0 0 Q (F0 m 174 ls [])) ?_
  intro z x h hN hX ls H locs hl S
  unfold f_X11_copy_L139 at h
  refine lv_iload C.1 C.2.1 dX11_copy_139 (lv_at hl 4 rfl) ?_
  refine lv_iload C.1 C.2.1 dX11_copy_141 (lv_at hl 3 rfl) ?_
  refine lv_icmp_ge (tgt := 174) C.1 C.2.1 dX11_copy_143 (by decide) (fun q31 => ?_) (fun q31 => ?_)
  · replace h := (if_pos q31).symm.trans h
    exact hX _ (Option.some.inj h).symm _ _ _ (lv_sub hl [3] rfl) S
  · replace h := (if_neg q31).symm.trans h
    refine lv_aload_n C.1 C.2.1 dX11_copy_146 rfl (lv_at hl 0 rfl) ?_
    refine r_getr C S o_76 cf_11 41 rfl (by decide) b_fl_RX11_85 dX11_copy_147 ?_
    refine lv_bipush (v := 40) C.1 C.2.1 dX11_copy_150 (by decide) ?_
    refine lv_iload_n C.1 C.2.1 dX11_copy_152 rfl (lv_at hl 1 rfl) ?_
    refine lv_imul C.1 C.2.1 dX11_copy_153 ?_
    refine lv_iload C.1 C.2.1 dX11_copy_154 (lv_at hl 2 rfl) ?_
    refine lv_iadd C.1 C.2.1 dX11_copy_156 ?_
    refine lv_iload C.1 C.2.1 dX11_copy_157 (lv_at hl 4 rfl) ?_
    refine lv_iadd C.1 C.2.1 dX11_copy_159 ?_
    refine lv_aload_n C.1 C.2.1 dX11_copy_160 rfl (lv_at hl 0 rfl) ?_
    refine r_getr C S o_76 cf_11 42 rfl (by decide) b_fl_RX11_89 dX11_copy_161 ?_
    refine lv_iload C.1 C.2.1 dX11_copy_164 (lv_at hl 4 rfl) ?_
    obtain ⟨g32, h⟩ := gd_some h
    refine r_lald C S a_103 g32 dX11_copy_166 ?_
    obtain ⟨g33, h⟩ := gd_some h
    refine r_last C S a_102 g33 dX11_copy_167 (fun H locs S => ?_)
    refine lv_iinc (v := z.1 + 1) (lv' := [(6, .int (z.1 + 1)), (0, .ref (ad 76)), (3, .int v3), (4, .int v4), (5, .int v5)]) C.1 C.2.1 dX11_copy_168 hl (k := 4) rfl rfl (by decide) rfl (fun ls hl => ?_)
    refine lv_goto (tgt := 139) C.1 C.2.1 dX11_copy_171 (by decide) ?_
    exact hN _ (Option.some.inj h).symm _ _ _ (lv_sub hl [1, 2, 3, 4, 0] rfl) S
set_option maxHeartbeats 4000000 in
set_option maxRecDepth 100000 in
theorem k_X11_copy {v1 : Int32} {v2 : Int32} {v3 : Int32} {v4 : Int32} {v5 : Int32}  {w : Wd} {rv : Int32 × Wd} (h : f_X11_copy v1 v2 v3 v4 v5 w = some rv) : CI yX11_copy cX11_copy 7 .int 2 42 (fun ad => [.ref (ad 76), .int v1, .int v2, .int v3, .int v4, .int v5]) w rv.1 rv.2 := by
  refine CI.of (by decide) ?_
  intro l D ad sx ca p e s m below meth c C S hr hlocks
  have hl := lv_entry ([.ref (ad 76), .int v1, .int v2, .int v3, .int v4, .int v5]) (n := 7) (Nat.le_of_ble_eq_true rfl)
  rw [lg_entry_eq]
  generalize (lg_sl ([.ref (ad 76), .int v1, .int v2, .int v3, .int v4, .int v5]) ++ List.replicate (7 - (lg_sl ([.ref (ad 76), .int v1, .int v2, .int v3, .int v4, .int v5])).length) Slot.unset).toArray = ls at hl ⊢
  have hl : lv_has ls 7 [(0, .ref (ad 76)), (1, .int v1), (2, .int v2), (3, .int v3), (4, .int v4), (5, .int v5)] := hl
  generalize ha9 : ([.ref (ad 76), .int v1, .int v2, .int v3, .int v4, .int v5] : List Value).toArray = args at C ⊢
  generalize s.heap = H at S ⊢
  generalize ([] : List Loc) = locs at S ⊢
  unfold f_X11_copy at h
  refine lv_iload_n C.1 C.2.1 dX11_copy_0 rfl (lv_at hl 1 rfl) ?_
  obtain ⟨o1, e2, h⟩ := Option.bind_eq_some_iff.mp h
  refine r_si C S hl (k_X11_isSheet e2) b_sb_RX11_295 [.int v1] rfl [] rfl rfl (by decide) ⟨Nat.le_of_ble_eq_true rfl, Nat.le_of_ble_eq_true rfl⟩ dX11_copy_1 (fun H locs S => ?_)
  refine lv_if_eq (tgt := 14) C.1 C.2.1 dX11_copy_4 (by decide) (fun q3 => ?_) (fun q3 => ?_)
  · replace h := (if_pos q3).symm.trans h
    refine lv_aload_n C.1 C.2.1 dX11_copy_14 rfl (lv_at hl 0 rfl) ?_
    refine r_ldc C (-1000000001) b_cn_RX11_92 dX11_copy_15 ?_
    obtain ⟨o4, e5, h⟩ := Option.bind_eq_some_iff.mp h
    refine r_vi C S hl o_76 cf_11 (k_X11_finds e5) b_vb_RX11_109 [.int (-1000000001)] rfl [] rfl rfl (by decide) ⟨Nat.le_of_ble_eq_true rfl, Nat.le_of_ble_eq_true rfl⟩ dX11_copy_17 (fun H locs S => ?_)
    cases h
    exact r_iret C S hr hlocks dX11_copy_20
  · replace h := (if_neg q3).symm.trans h
    refine lv_iload_n C.1 C.2.1 dX11_copy_7 rfl (lv_at hl 3 rfl) ?_
    obtain ⟨o6, e7, h⟩ := Option.bind_eq_some_iff.mp h
    refine r_si C S hl (k_X11_isSheet e7) b_sb_RX11_295 [.int v3] rfl [] rfl rfl (by decide) ⟨Nat.le_of_ble_eq_true rfl, Nat.le_of_ble_eq_true rfl⟩ dX11_copy_8 (fun H locs S => ?_)
    refine lv_if_ne (tgt := 21) C.1 C.2.1 dX11_copy_11 (by decide) (fun q8 => ?_) (fun q8 => ?_)
    · replace h := (if_neg q8).symm.trans h
      refine lv_aload_n C.1 C.2.1 dX11_copy_21 rfl (lv_at hl 0 rfl) ?_
      refine r_getr C S o_76 cf_11 39 rfl (by decide) b_fl_RX11_79 dX11_copy_22 ?_
      refine lv_iload_n C.1 C.2.1 dX11_copy_25 rfl (lv_at hl 1 rfl) ?_
      obtain ⟨g9, h⟩ := gd_some h
      refine r_iald C S a_100 g9 dX11_copy_26 ?_
      refine lv_if_eq (tgt := 39) C.1 C.2.1 dX11_copy_27 (by decide) (fun q10 => ?_) (fun q10 => ?_)
      · replace h := (if_pos q10).symm.trans h
        refine lv_aload_n C.1 C.2.1 dX11_copy_39 rfl (lv_at hl 0 rfl) ?_
        refine r_ldcw C (-1000000006) b_cn_RX11_299 dX11_copy_40 ?_
        obtain ⟨o11, e12, h⟩ := Option.bind_eq_some_iff.mp h
        refine r_vi C S hl o_76 cf_11 (k_X11_finds e12) b_vb_RX11_109 [.int (-1000000006)] rfl [] rfl rfl (by decide) ⟨Nat.le_of_ble_eq_true rfl, Nat.le_of_ble_eq_true rfl⟩ dX11_copy_43 (fun H locs S => ?_)
        cases h
        exact r_iret C S hr hlocks dX11_copy_46
      · replace h := (if_neg q10).symm.trans h
        refine lv_aload_n C.1 C.2.1 dX11_copy_30 rfl (lv_at hl 0 rfl) ?_
        refine r_getr C S o_76 cf_11 39 rfl (by decide) b_fl_RX11_79 dX11_copy_31 ?_
        refine lv_iload_n C.1 C.2.1 dX11_copy_34 rfl (lv_at hl 3 rfl) ?_
        obtain ⟨g13, h⟩ := gd_some h
        refine r_iald C S a_100 g13 dX11_copy_35 ?_
        refine lv_if_ne (tgt := 47) C.1 C.2.1 dX11_copy_36 (by decide) (fun q14 => ?_) (fun q14 => ?_)
        · replace h := (if_neg q14).symm.trans h
          refine lv_aload_n C.1 C.2.1 dX11_copy_47 rfl (lv_at hl 0 rfl) ?_
          refine r_getr C S o_76 cf_11 39 rfl (by decide) b_fl_RX11_79 dX11_copy_48 ?_
          refine lv_iload_n C.1 C.2.1 dX11_copy_51 rfl (lv_at hl 1 rfl) ?_
          obtain ⟨g15, h⟩ := gd_some h
          refine r_iald C S a_100 g15 dX11_copy_52 ?_
          refine lv_aload_n C.1 C.2.1 dX11_copy_53 rfl (lv_at hl 0 rfl) ?_
          refine r_getr C S o_76 cf_11 39 rfl (by decide) b_fl_RX11_79 dX11_copy_54 ?_
          refine lv_iload_n C.1 C.2.1 dX11_copy_57 rfl (lv_at hl 3 rfl) ?_
          obtain ⟨g16, h⟩ := gd_some h
          refine r_iald C S a_100 g16 dX11_copy_58 ?_
          refine lv_icmp_eq (tgt := 69) C.1 C.2.1 dX11_copy_59 (by decide) (fun q17 => ?_) (fun q17 => ?_)
          · replace h := (if_pos q17).symm.trans h
            refine lv_aload_n C.1 C.2.1 dX11_copy_69 rfl (lv_at hl 0 rfl) ?_
            refine lv_iload_n C.1 C.2.1 dX11_copy_70 rfl (lv_at hl 1 rfl) ?_
            refine lv_iload_n C.1 C.2.1 dX11_copy_71 rfl (lv_at hl 2 rfl) ?_
            refine lv_iload C.1 C.2.1 dX11_copy_72 (lv_at hl 5 rfl) ?_
            obtain ⟨o18, e19, h⟩ := Option.bind_eq_some_iff.mp h
            refine r_vi C S hl o_76 cf_11 (k_X11_has e19) b_vb_RX11_300 [.int v1, .int v2, .int v5] rfl [] rfl rfl (by decide) ⟨Nat.le_of_ble_eq_true rfl, Nat.le_of_ble_eq_true rfl⟩ dX11_copy_74 (fun H locs S => ?_)
            refine lv_if_eq (tgt := 92) C.1 C.2.1 dX11_copy_77 (by decide) (fun q20 => ?_) (fun q20 => ?_)
            · replace h := (if_pos q20).symm.trans h
              refine lv_aload_n C.1 C.2.1 dX11_copy_92 rfl (lv_at hl 0 rfl) ?_
              refine r_ldc C (-1000000001) b_cn_RX11_92 dX11_copy_93 ?_
              obtain ⟨o21, e22, h⟩ := Option.bind_eq_some_iff.mp h
              refine r_vi C S hl o_76 cf_11 (k_X11_finds e22) b_vb_RX11_109 [.int (-1000000001)] rfl [] rfl rfl (by decide) ⟨Nat.le_of_ble_eq_true rfl, Nat.le_of_ble_eq_true rfl⟩ dX11_copy_95 (fun H locs S => ?_)
              cases h
              exact r_iret C S hr hlocks dX11_copy_98
            · replace h := (if_neg q20).symm.trans h
              refine lv_aload_n C.1 C.2.1 dX11_copy_80 rfl (lv_at hl 0 rfl) ?_
              refine lv_iload_n C.1 C.2.1 dX11_copy_81 rfl (lv_at hl 3 rfl) ?_
              refine lv_iload C.1 C.2.1 dX11_copy_82 (lv_at hl 4 rfl) ?_
              refine lv_iload C.1 C.2.1 dX11_copy_84 (lv_at hl 5 rfl) ?_
              obtain ⟨o23, e24, h⟩ := Option.bind_eq_some_iff.mp h
              refine r_vi C S hl o_76 cf_11 (k_X11_has e24) b_vb_RX11_300 [.int v3, .int v4, .int v5] rfl [] rfl rfl (by decide) ⟨Nat.le_of_ble_eq_true rfl, Nat.le_of_ble_eq_true rfl⟩ dX11_copy_86 (fun H locs S => ?_)
              refine lv_if_ne (tgt := 99) C.1 C.2.1 dX11_copy_89 (by decide) (fun q25 => ?_) (fun q25 => ?_)
              · replace h := (if_neg q25).symm.trans h
                refine lv_iconst (v := 0) C.1 C.2.1 dX11_copy_99 (by decide) ?_
                refine lv_istore (lv' := [(6, .int 0), (0, .ref (ad 76)), (1, .int v1), (2, .int v2), (3, .int v3), (4, .int v4), (5, .int v5)]) C.1 C.2.1 dX11_copy_100 hl (by decide) rfl (fun ls hl => ?_)
                obtain ⟨o29, e30, h⟩ := Option.bind_eq_some_iff.mp h
                refine k_X11_copy_L102 C  FU _ _ e30 (fun ls H locs hl S => ?_) ls H locs (lv_sub hl [1, 2, 3, 4, 5, 6, 0] rfl) S
                refine lv_iconst (v := 0) C.1 C.2.1 dX11_copy_136 (by decide) ?_
                refine lv_istore (lv' := [(6, .int 0), (0, .ref (ad 76)), (3, .int v3), (4, .int v4), (5, .int v5)]) C.1 C.2.1 dX11_copy_137 hl (by decide) rfl (fun ls hl => ?_)
                obtain ⟨o34, e35, h⟩ := Option.bind_eq_some_iff.mp h
                refine k_X11_copy_L139 C  FU _ _ e35 (fun ls H locs hl S => ?_) ls H locs (lv_sub hl [1, 2, 3, 4, 0] rfl) S
                refine lv_iload C.1 C.2.1 dX11_copy_174 (lv_at hl 0 rfl) ?_
                cases h
                exact r_iret C S hr hlocks dX11_copy_176
              · replace h := (if_pos q25).symm.trans h
                refine lv_aload_n C.1 C.2.1 dX11_copy_92 rfl (lv_at hl 0 rfl) ?_
                refine r_ldc C (-1000000001) b_cn_RX11_92 dX11_copy_93 ?_
                obtain ⟨o36, e37, h⟩ := Option.bind_eq_some_iff.mp h
                refine r_vi C S hl o_76 cf_11 (k_X11_finds e37) b_vb_RX11_109 [.int (-1000000001)] rfl [] rfl rfl (by decide) ⟨Nat.le_of_ble_eq_true rfl, Nat.le_of_ble_eq_true rfl⟩ dX11_copy_95 (fun H locs S => ?_)
                cases h
                exact r_iret C S hr hlocks dX11_copy_98
          · replace h := (if_neg q17).symm.trans h
            refine lv_aload_n C.1 C.2.1 dX11_copy_62 rfl (lv_at hl 0 rfl) ?_
            refine r_ldc C (-1000000003) b_cn_RX11_152 dX11_copy_63 ?_
            obtain ⟨o38, e39, h⟩ := Option.bind_eq_some_iff.mp h
            refine r_vi C S hl o_76 cf_11 (k_X11_finds e39) b_vb_RX11_109 [.int (-1000000003)] rfl [] rfl rfl (by decide) ⟨Nat.le_of_ble_eq_true rfl, Nat.le_of_ble_eq_true rfl⟩ dX11_copy_65 (fun H locs S => ?_)
            cases h
            exact r_iret C S hr hlocks dX11_copy_68
        · replace h := (if_pos q14).symm.trans h
          refine lv_aload_n C.1 C.2.1 dX11_copy_39 rfl (lv_at hl 0 rfl) ?_
          refine r_ldcw C (-1000000006) b_cn_RX11_299 dX11_copy_40 ?_
          obtain ⟨o40, e41, h⟩ := Option.bind_eq_some_iff.mp h
          refine r_vi C S hl o_76 cf_11 (k_X11_finds e41) b_vb_RX11_109 [.int (-1000000006)] rfl [] rfl rfl (by decide) ⟨Nat.le_of_ble_eq_true rfl, Nat.le_of_ble_eq_true rfl⟩ dX11_copy_43 (fun H locs S => ?_)
          cases h
          exact r_iret C S hr hlocks dX11_copy_46
    · replace h := (if_pos q8).symm.trans h
      refine lv_aload_n C.1 C.2.1 dX11_copy_14 rfl (lv_at hl 0 rfl) ?_
      refine r_ldc C (-1000000001) b_cn_RX11_92 dX11_copy_15 ?_
      obtain ⟨o42, e43, h⟩ := Option.bind_eq_some_iff.mp h
      refine r_vi C S hl o_76 cf_11 (k_X11_finds e43) b_vb_RX11_109 [.int (-1000000001)] rfl [] rfl rfl (by decide) ⟨Nat.le_of_ble_eq_true rfl, Nat.le_of_ble_eq_true rfl⟩ dX11_copy_17 (fun H locs S => ?_)
      cases h
      exact r_iret C S hr hlocks dX11_copy_20
set_option maxHeartbeats 4000000 in
set_option maxRecDepth 100000 in
theorem k_X11_weather_L39 {p : Program} {l : Launch} {e : Env} {s : State} {m : MethodId} {args : Array Value} {below : List Frame} {meth : Method} {c : Code} {D : va_G} {ad sx : Nat → Nat} {ca : Nat → ClassId} (C : Cx D ad sx ca p s m c args RX11 cX11_weather 6) {Q : State → Prop} {w : Wd} {v1 : Int32}  : ∀ (n : Nat) (z : Int32 × Int32 × Wd) (o : Int32 × Int32 × Wd), lp (f_X11_weather_L39 v1) n z = some o → (∀ (ls : Array Slot) (H : Heap) (locs : List Loc), lv_has ls 6 [(2, .int o.1)] → St D ad ca s o.2.2 H locs → W p l e (RM 5 114) s m args below meth c H locs 0 0 Q (F0 m 114 ls [])) → (∀ (ls : Array Slot) (H : Heap) (locs : List Loc), lv_has ls 6 [(0, .ref (ad 76)), (1, .int v1), (2, .int z.1), (3, .int z.2.1)] → St D ad ca s z.2.2 H locs → W p l e (RM 5 114) s m args below meth c H locs 0 0 Q (F0 m 39 ls [])) := by
  refine lp_W (HW := fun z => ∀ (ls : Array Slot) (H : Heap) (locs : List Loc), lv_has ls 6 [(0, .ref (ad 76)), (1, .int v1), (2, .int z.1), (3, .int z.2.1)] → St D ad ca s z.2.2 H locs → W p l e (RM 5 114) s m args below meth c H locs 0 0 Q (F0 m 39 ls [])) (XW := fun o => ∀ (ls : Array Slot) (H : Heap) (locs : List Loc), lv_has ls 6 [(2, .int o.1)] → St D ad ca s o.2.2 H locs → W p l e (RM 5 114) s m args below meth c H locs 0 0 Q (F0 m 114 ls [])) ?_
  intro z x h hN hX ls H locs hl S
  unfold f_X11_weather_L39 at h
  refine lv_iload_n C.1 C.2.1 dX11_weather_39 rfl (lv_at hl 3 rfl) ?_
  refine lv_aload_n C.1 C.2.1 dX11_weather_40 rfl (lv_at hl 0 rfl) ?_
  refine r_getr C S o_76 cf_11 40 rfl (by decide) b_fl_RX11_82 dX11_weather_41 ?_
  refine lv_iload_n C.1 C.2.1 dX11_weather_44 rfl (lv_at hl 1 rfl) ?_
  obtain ⟨g8, h⟩ := gd_some h
  refine r_iald C S a_101 g8 dX11_weather_45 ?_
  refine lv_icmp_ge (tgt := 114) C.1 C.2.1 dX11_weather_46 (by decide) (fun q9 => ?_) (fun q9 => ?_)
  · replace h := (if_pos q9).symm.trans h
    exact hX _ (Option.some.inj h).symm _ _ _ (lv_sub hl [2] rfl) S
  · replace h := (if_neg q9).symm.trans h
    refine lv_aload_n C.1 C.2.1 dX11_weather_49 rfl (lv_at hl 0 rfl) ?_
    refine r_getr C S o_76 cf_11 0 rfl (by decide) b_fl_RX11_9 dX11_weather_50 ?_
    refine lv_iconst (v := 0) C.1 C.2.1 dX11_weather_53 (by decide) ?_
    refine r_iald C S a_77 (by decide) dX11_weather_54 ?_
    refine lv_sipush (v := 2000) C.1 C.2.1 dX11_weather_55 (by decide) ?_
    refine lv_icmp_ge (tgt := 114) C.1 C.2.1 dX11_weather_58 (by decide) (fun q10 => ?_) (fun q10 => ?_)
    · replace h := (if_pos q10).symm.trans h
      exact hX _ (Option.some.inj h).symm _ _ _ (lv_sub hl [2] rfl) S
    · replace h := (if_neg q10).symm.trans h
      refine lv_aload_n C.1 C.2.1 dX11_weather_61 rfl (lv_at hl 0 rfl) ?_
      refine r_getr C S o_76 cf_11 41 rfl (by decide) b_fl_RX11_85 dX11_weather_62 ?_
      refine lv_bipush (v := 40) C.1 C.2.1 dX11_weather_65 (by decide) ?_
      refine lv_iload_n C.1 C.2.1 dX11_weather_67 rfl (lv_at hl 1 rfl) ?_
      refine lv_imul C.1 C.2.1 dX11_weather_68 ?_
      refine lv_iload_n C.1 C.2.1 dX11_weather_69 rfl (lv_at hl 3 rfl) ?_
      refine lv_iadd C.1 C.2.1 dX11_weather_70 ?_
      obtain ⟨g11, h⟩ := gd_some h
      refine r_lald C S a_102 g11 dX11_weather_71 ?_
      refine lv_lstore (lv' := [(4, .long (z.2.2.2 102 (((40 * v1) + z.2.1).toNatClampNeg))), (0, .ref (ad 76)), (1, .int v1), (2, .int z.1), (3, .int z.2.1)]) C.1 C.2.1 dX11_weather_72 hl (by decide) rfl (fun ls hl => ?_)
      refine lv_lload C.1 C.2.1 dX11_weather_74 (lv_at hl 0 rfl) ?_
      refine r_ldc2 C (-300) b_cl_RX11_303 dX11_weather_76 ?_
      refine W.lcmp C.1 C.2.1 dX11_weather_79 ?_
      refine lv_if_lt (tgt := 108) C.1 C.2.1 dX11_weather_80 (by decide) (fun q12 => ?_) (fun q12 => ?_)
      · replace h := (if_pos q12).symm.trans h
        refine lv_iinc (v := z.2.1 + 1) (lv' := [(3, .int (z.2.1 + 1)), (4, .long (z.2.2.2 102 (((40 * v1) + z.2.1).toNatClampNeg))), (0, .ref (ad 76)), (1, .int v1), (2, .int z.1)]) C.1 C.2.1 dX11_weather_108 hl (k := 4) rfl rfl (by decide) rfl (fun ls hl => ?_)
        refine lv_goto (tgt := 39) C.1 C.2.1 dX11_weather_111 (by decide) ?_
        exact hN _ (Option.some.inj h).symm _ _ _ (lv_sub hl [2, 3, 4, 0] rfl) S
      · replace h := (if_neg q12).symm.trans h
        refine lv_lload C.1 C.2.1 dX11_weather_83 (lv_at hl 0 rfl) ?_
        refine r_ldc2 C 400 b_cl_RX11_305 dX11_weather_85 ?_
        refine W.lcmp C.1 C.2.1 dX11_weather_88 ?_
        refine lv_if_gt (tgt := 108) C.1 C.2.1 dX11_weather_89 (by decide) (fun q13 => ?_) (fun q13 => ?_)
        · replace h := (if_pos q13).symm.trans h
          refine lv_iinc (v := z.2.1 + 1) (lv' := [(3, .int (z.2.1 + 1)), (4, .long (z.2.2.2 102 (((40 * v1) + z.2.1).toNatClampNeg))), (0, .ref (ad 76)), (1, .int v1), (2, .int z.1)]) C.1 C.2.1 dX11_weather_108 hl (k := 4) rfl rfl (by decide) rfl (fun ls hl => ?_)
          refine lv_goto (tgt := 39) C.1 C.2.1 dX11_weather_111 (by decide) ?_
          exact hN _ (Option.some.inj h).symm _ _ _ (lv_sub hl [2, 3, 4, 0] rfl) S
        · replace h := (if_neg q13).symm.trans h
          refine lv_aload_n C.1 C.2.1 dX11_weather_92 rfl (lv_at hl 1 rfl) ?_
          refine r_getr C S o_76 cf_11 0 rfl (by decide) b_fl_RX11_9 dX11_weather_93 ?_
          refine lv_iconst (v := 1) C.1 C.2.1 dX11_weather_96 (by decide) ?_
          refine lv_lload C.1 C.2.1 dX11_weather_97 (lv_at hl 0 rfl) ?_
          refine lv_l2i C.1 C.2.1 dX11_weather_99 rfl ?_
          refine r_iast C S a_77 (by decide) dX11_weather_100 (fun H locs S => ?_)
          refine lv_aload_n C.1 C.2.1 dX11_weather_101 rfl (lv_at hl 1 rfl) ?_
          obtain ⟨o14, e15, h⟩ := Option.bind_eq_some_iff.mp h
          refine r_vv C S hl o_76 cf_11 (k_X11_anHour e15) b_vb_RX11_158 [] rfl [] rfl rfl (by decide) ⟨Nat.le_of_ble_eq_true rfl, Nat.le_of_ble_eq_true rfl⟩ dX11_weather_102 (fun H locs S => ?_)
          refine lv_iinc (v := z.1 + 1) (lv' := [(2, .int (z.1 + 1)), (4, .long (z.2.2.2 102 (((40 * v1) + z.2.1).toNatClampNeg))), (0, .ref (ad 76)), (1, .int v1), (3, .int z.2.1)]) C.1 C.2.1 dX11_weather_105 hl (k := 3) rfl rfl (by decide) rfl (fun ls hl => ?_)
          refine lv_iinc (v := z.2.1 + 1) (lv' := [(3, .int (z.2.1 + 1)), (2, .int (z.1 + 1)), (4, .long (z.2.2.2 102 (((40 * v1) + z.2.1).toNatClampNeg))), (0, .ref (ad 76)), (1, .int v1)]) C.1 C.2.1 dX11_weather_108 hl (k := 4) rfl rfl (by decide) rfl (fun ls hl => ?_)
          refine lv_goto (tgt := 39) C.1 C.2.1 dX11_weather_111 (by decide) ?_
          exact hN _ (Option.some.inj h).symm _ _ _ (lv_sub hl [3, 4, 1, 0] rfl) S
set_option maxHeartbeats 4000000 in
set_option maxRecDepth 100000 in
theorem k_X11_weather {v1 : Int32}  {w : Wd} {rv : Int32 × Wd} (h : f_X11_weather v1 w = some rv) : CI yX11_weather cX11_weather 6 .int 5 114 (fun ad => [.ref (ad 76), .int v1]) w rv.1 rv.2 := by
  refine CI.of (by decide) ?_
  intro l D ad sx ca p e s m below meth c C S hr hlocks
  have hl := lv_entry ([.ref (ad 76), .int v1]) (n := 6) (Nat.le_of_ble_eq_true rfl)
  rw [lg_entry_eq]
  generalize (lg_sl ([.ref (ad 76), .int v1]) ++ List.replicate (6 - (lg_sl ([.ref (ad 76), .int v1])).length) Slot.unset).toArray = ls at hl ⊢
  have hl : lv_has ls 6 [(0, .ref (ad 76)), (1, .int v1)] := hl
  generalize ha9 : ([.ref (ad 76), .int v1] : List Value).toArray = args at C ⊢
  generalize s.heap = H at S ⊢
  generalize ([] : List Loc) = locs at S ⊢
  unfold f_X11_weather at h
  refine lv_iload_n C.1 C.2.1 dX11_weather_0 rfl (lv_at hl 1 rfl) ?_
  obtain ⟨o1, e2, h⟩ := Option.bind_eq_some_iff.mp h
  refine r_si C S hl (k_X11_isSheet e2) b_sb_RX11_295 [.int v1] rfl [] rfl rfl (by decide) ⟨Nat.le_of_ble_eq_true rfl, Nat.le_of_ble_eq_true rfl⟩ dX11_weather_1 (fun H locs S => ?_)
  refine lv_if_ne (tgt := 14) C.1 C.2.1 dX11_weather_4 (by decide) (fun q3 => ?_) (fun q3 => ?_)
  · replace h := (if_neg q3).symm.trans h
    refine lv_aload_n C.1 C.2.1 dX11_weather_14 rfl (lv_at hl 0 rfl) ?_
    refine r_getr C S o_76 cf_11 39 rfl (by decide) b_fl_RX11_79 dX11_weather_15 ?_
    refine lv_iload_n C.1 C.2.1 dX11_weather_18 rfl (lv_at hl 1 rfl) ?_
    obtain ⟨g4, h⟩ := gd_some h
    refine r_iald C S a_100 g4 dX11_weather_19 ?_
    refine lv_if_ne (tgt := 31) C.1 C.2.1 dX11_weather_20 (by decide) (fun q5 => ?_) (fun q5 => ?_)
    · replace h := (if_neg q5).symm.trans h
      refine lv_aload_n C.1 C.2.1 dX11_weather_31 rfl (lv_at hl 0 rfl) ?_
      obtain ⟨o6, e7, h⟩ := Option.bind_eq_some_iff.mp h
      refine r_vv C S hl o_76 cf_11 (k_X11_setsAside e7) b_vb_RX11_145 [] rfl [] rfl rfl (by decide) ⟨Nat.le_of_ble_eq_true rfl, Nat.le_of_ble_eq_true rfl⟩ dX11_weather_32 (fun H locs S => ?_)
      refine lv_iconst (v := 0) C.1 C.2.1 dX11_weather_35 (by decide) ?_
      refine lv_istore_n (lv' := [(2, .int 0), (0, .ref (ad 76)), (1, .int v1)]) C.1 C.2.1 dX11_weather_36 rfl hl (by decide) rfl (fun ls hl => ?_)
      refine lv_iconst (v := 0) C.1 C.2.1 dX11_weather_37 (by decide) ?_
      refine lv_istore_n (lv' := [(3, .int 0), (2, .int 0), (0, .ref (ad 76)), (1, .int v1)]) C.1 C.2.1 dX11_weather_38 rfl hl (by decide) rfl (fun ls hl => ?_)
      obtain ⟨o16, e17, h⟩ := Option.bind_eq_some_iff.mp h
      refine k_X11_weather_L39 C  FU _ _ e17 (fun ls H locs hl S => ?_) ls H locs (lv_sub hl [2, 3, 1, 0] rfl) S
      refine lv_iload_n C.1 C.2.1 dX11_weather_114 rfl (lv_at hl 0 rfl) ?_
      cases h
      exact r_iret C S hr hlocks dX11_weather_115
    · replace h := (if_pos q5).symm.trans h
      refine lv_aload_n C.1 C.2.1 dX11_weather_23 rfl (lv_at hl 0 rfl) ?_
      refine r_ldcw C (-1000000006) b_cn_RX11_299 dX11_weather_24 ?_
      obtain ⟨o18, e19, h⟩ := Option.bind_eq_some_iff.mp h
      refine r_vi C S hl o_76 cf_11 (k_X11_finds e19) b_vb_RX11_109 [.int (-1000000006)] rfl [] rfl rfl (by decide) ⟨Nat.le_of_ble_eq_true rfl, Nat.le_of_ble_eq_true rfl⟩ dX11_weather_27 (fun H locs S => ?_)
      cases h
      exact r_iret C S hr hlocks dX11_weather_30
  · replace h := (if_pos q3).symm.trans h
    refine lv_aload_n C.1 C.2.1 dX11_weather_7 rfl (lv_at hl 0 rfl) ?_
    refine r_ldc C (-1000000001) b_cn_RX11_92 dX11_weather_8 ?_
    obtain ⟨o20, e21, h⟩ := Option.bind_eq_some_iff.mp h
    refine r_vi C S hl o_76 cf_11 (k_X11_finds e21) b_vb_RX11_109 [.int (-1000000001)] rfl [] rfl rfl (by decide) ⟨Nat.le_of_ble_eq_true rfl, Nat.le_of_ble_eq_true rfl⟩ dX11_weather_10 (fun H locs S => ?_)
    cases h
    exact r_iret C S hr hlocks dX11_weather_13
set_option maxHeartbeats 4000000 in
set_option maxRecDepth 100000 in
theorem k_X11_read_L33 {p : Program} {l : Launch} {e : Env} {s : State} {m : MethodId} {args : Array Value} {below : List Frame} {meth : Method} {c : Code} {D : va_G} {ad sx : Nat → Nat} {ca : Nat → ClassId} (C : Cx D ad sx ca p s m c args RX11 cX11_read 3) (hr : meth.sig.returnType = (some .int)) (hlocks : meth.locks = false) {rv : Int32 × Wd} {w : Wd} {v1 : Int32}  : ∀ (n : Nat) (z : Int32) (o : (Int32) ⊕ (Int32 × Wd)), lp (f_X11_read_L33 v1 w) n z = some o → ((∀ x, o = .inl x → ∀ (ls : Array Slot) (H : Heap) (locs : List Loc), lv_has ls 3 [] → St D ad ca s w H locs → W p l e (RM 2 43) s m args below meth c H locs 0 0 (MQ below (Qi D ad ca rv.1 rv.2) args s 0 0 (Aad ad)) (F0 m 84 ls [])) ∧ ∀ y, o = .inr y → y = rv) → (∀ (ls : Array Slot) (H : Heap) (locs : List Loc), lv_has ls 3 [(0, .ref (ad 76)), (1, .int v1), (2, .int z)] → St D ad ca s w H locs → W p l e (RM 2 43) s m args below meth c H locs 0 0 (MQ below (Qi D ad ca rv.1 rv.2) args s 0 0 (Aad ad)) (F0 m 33 ls [])) := by
  refine lp_W (HW := fun z => ∀ (ls : Array Slot) (H : Heap) (locs : List Loc), lv_has ls 3 [(0, .ref (ad 76)), (1, .int v1), (2, .int z)] → St D ad ca s w H locs → W p l e (RM 2 43) s m args below meth c H locs 0 0 (MQ below (Qi D ad ca rv.1 rv.2) args s 0 0 (Aad ad)) (F0 m 33 ls [])) (XW := fun o => (∀ x, o = .inl x → ∀ (ls : Array Slot) (H : Heap) (locs : List Loc), lv_has ls 3 [] → St D ad ca s w H locs → W p l e (RM 2 43) s m args below meth c H locs 0 0 (MQ below (Qi D ad ca rv.1 rv.2) args s 0 0 (Aad ad)) (F0 m 84 ls [])) ∧ ∀ y, o = .inr y → y = rv) ?_
  intro z x h hN hX ls H locs hl S
  unfold f_X11_read_L33 at h
  refine lv_iload_n C.1 C.2.1 dX11_read_33 rfl (lv_at hl 2 rfl) ?_
  refine lv_aload_n C.1 C.2.1 dX11_read_34 rfl (lv_at hl 0 rfl) ?_
  refine r_getr C S o_76 cf_11 40 rfl (by decide) b_fl_RX11_82 dX11_read_35 ?_
  refine lv_iload_n C.1 C.2.1 dX11_read_38 rfl (lv_at hl 1 rfl) ?_
  obtain ⟨g6, h⟩ := gd_some h
  refine r_iald C S a_101 g6 dX11_read_39 ?_
  refine lv_icmp_ge (tgt := 84) C.1 C.2.1 dX11_read_40 (by decide) (fun q7 => ?_) (fun q7 => ?_)
  · replace h := (if_pos q7).symm.trans h
    exact (hX _ (Option.some.inj h).symm).1 _ rfl _ _ _ (lv_sub hl [] rfl) S
  · replace h := (if_neg q7).symm.trans h
    refine lv_aload_n C.1 C.2.1 dX11_read_43 rfl (lv_at hl 0 rfl) ?_
    refine lv_iload_n C.1 C.2.1 dX11_read_44 rfl (lv_at hl 2 rfl) ?_
    obtain ⟨o8, e9, h⟩ := Option.bind_eq_some_iff.mp h
    refine r_vi C S hl o_76 cf_11 (k_X11_isFlat e9) b_vb_RX11_141 [.int z] rfl [] rfl rfl (by decide) ⟨Nat.le_of_ble_eq_true rfl, Nat.le_of_ble_eq_true rfl⟩ dX11_read_45 (fun H locs S => ?_)
    refine lv_if_eq (tgt := 74) C.1 C.2.1 dX11_read_48 (by decide) (fun q10 => ?_) (fun q10 => ?_)
    · replace h := (if_pos q10).symm.trans h
      refine lv_iconst (v := 1) C.1 C.2.1 dX11_read_74 (by decide) ?_
      refine lv_iload_n C.1 C.2.1 dX11_read_75 rfl (lv_at hl 2 rfl) ?_
      refine lv_iadd C.1 C.2.1 dX11_read_76 ?_
      have h9 := (hX _ (Option.some.inj h).symm).2 _ rfl
      subst h9
      exact r_iret C S hr hlocks dX11_read_77
    · replace h := (if_neg q10).symm.trans h
      refine lv_aload_n C.1 C.2.1 dX11_read_51 rfl (lv_at hl 0 rfl) ?_
      refine r_getr C S o_76 cf_11 41 rfl (by decide) b_fl_RX11_85 dX11_read_52 ?_
      refine lv_bipush (v := 40) C.1 C.2.1 dX11_read_55 (by decide) ?_
      refine lv_iload_n C.1 C.2.1 dX11_read_57 rfl (lv_at hl 1 rfl) ?_
      refine lv_imul C.1 C.2.1 dX11_read_58 ?_
      refine lv_iload_n C.1 C.2.1 dX11_read_59 rfl (lv_at hl 2 rfl) ?_
      refine lv_iadd C.1 C.2.1 dX11_read_60 ?_
      obtain ⟨g11, h⟩ := gd_some h
      refine r_lald C S a_102 g11 dX11_read_61 ?_
      refine lv_aload_n C.1 C.2.1 dX11_read_62 rfl (lv_at hl 0 rfl) ?_
      refine lv_iload_n C.1 C.2.1 dX11_read_63 rfl (lv_at hl 2 rfl) ?_
      refine lv_bipush (v := 6) C.1 C.2.1 dX11_read_64 (by decide) ?_
      obtain ⟨o12, e13, h⟩ := Option.bind_eq_some_iff.mp h
      refine r_vi C S hl o_76 cf_11 (k_X11_get e13) b_vb_RX11_101 [.int z, .int 6] rfl [.long (w.2 102 (((40 * v1) + z).toNatClampNeg))] rfl rfl (by decide) ⟨Nat.le_of_ble_eq_true rfl, Nat.le_of_ble_eq_true rfl⟩ dX11_read_66 (fun H locs S => ?_)
      refine lv_i2l C.1 C.2.1 dX11_read_69 rfl ?_
      refine W.lcmp C.1 C.2.1 dX11_read_70 ?_
      refine lv_if_eq (tgt := 78) C.1 C.2.1 dX11_read_71 (by decide) (fun q14 => ?_) (fun q14 => ?_)
      · replace h := (if_pos q14).symm.trans h
        refine lv_iinc (v := z + 1) (lv' := [(2, .int (z + 1)), (0, .ref (ad 76)), (1, .int v1)]) C.1 C.2.1 dX11_read_78 hl (k := 2) rfl rfl (by decide) rfl (fun ls hl => ?_)
        refine lv_goto (tgt := 33) C.1 C.2.1 dX11_read_81 (by decide) ?_
        exact hN _ (Option.some.inj h).symm _ _ _ (lv_sub hl [1, 2, 0] rfl) S
      · replace h := (if_neg q14).symm.trans h
        refine lv_iconst (v := 1) C.1 C.2.1 dX11_read_74 (by decide) ?_
        refine lv_iload_n C.1 C.2.1 dX11_read_75 rfl (lv_at hl 2 rfl) ?_
        refine lv_iadd C.1 C.2.1 dX11_read_76 ?_
        have h9 := (hX _ (Option.some.inj h).symm).2 _ rfl
        subst h9
        exact r_iret C S hr hlocks dX11_read_77
set_option maxHeartbeats 4000000 in
set_option maxRecDepth 100000 in
theorem k_X11_read {v1 : Int32}  {w : Wd} {rv : Int32 × Wd} (h : f_X11_read v1 w = some rv) : CI yX11_read cX11_read 3 .int 2 43 (fun ad => [.ref (ad 76), .int v1]) w rv.1 rv.2 := by
  refine CI.of (by decide) ?_
  intro l D ad sx ca p e s m below meth c C S hr hlocks
  have hl := lv_entry ([.ref (ad 76), .int v1]) (n := 3) (Nat.le_of_ble_eq_true rfl)
  rw [lg_entry_eq]
  generalize (lg_sl ([.ref (ad 76), .int v1]) ++ List.replicate (3 - (lg_sl ([.ref (ad 76), .int v1])).length) Slot.unset).toArray = ls at hl ⊢
  have hl : lv_has ls 3 [(0, .ref (ad 76)), (1, .int v1)] := hl
  generalize ha9 : ([.ref (ad 76), .int v1] : List Value).toArray = args at C ⊢
  generalize s.heap = H at S ⊢
  generalize ([] : List Loc) = locs at S ⊢
  unfold f_X11_read at h
  refine lv_iload_n C.1 C.2.1 dX11_read_0 rfl (lv_at hl 1 rfl) ?_
  obtain ⟨o1, e2, h⟩ := Option.bind_eq_some_iff.mp h
  refine r_si C S hl (k_X11_isSheet e2) b_sb_RX11_295 [.int v1] rfl [] rfl rfl (by decide) ⟨Nat.le_of_ble_eq_true rfl, Nat.le_of_ble_eq_true rfl⟩ dX11_read_1 (fun H locs S => ?_)
  refine lv_if_ne (tgt := 14) C.1 C.2.1 dX11_read_4 (by decide) (fun q3 => ?_) (fun q3 => ?_)
  · replace h := (if_neg q3).symm.trans h
    refine lv_aload_n C.1 C.2.1 dX11_read_14 rfl (lv_at hl 0 rfl) ?_
    refine r_getr C S o_76 cf_11 39 rfl (by decide) b_fl_RX11_79 dX11_read_15 ?_
    refine lv_iload_n C.1 C.2.1 dX11_read_18 rfl (lv_at hl 1 rfl) ?_
    obtain ⟨g4, h⟩ := gd_some h
    refine r_iald C S a_100 g4 dX11_read_19 ?_
    refine lv_if_ne (tgt := 31) C.1 C.2.1 dX11_read_20 (by decide) (fun q5 => ?_) (fun q5 => ?_)
    · replace h := (if_neg q5).symm.trans h
      refine lv_iconst (v := 0) C.1 C.2.1 dX11_read_31 (by decide) ?_
      refine lv_istore_n (lv' := [(2, .int 0), (0, .ref (ad 76)), (1, .int v1)]) C.1 C.2.1 dX11_read_32 rfl hl (by decide) rfl (fun ls hl => ?_)
      obtain ⟨o15, e16, h⟩ := Option.bind_eq_some_iff.mp h
      refine k_X11_read_L33 C hr hlocks  FU _ _ e16 ⟨fun x17 hx ls H locs hl S => ?_, fun y18 hy => ?_⟩ ls H locs (lv_sub hl [1, 2, 0] rfl) S
      · subst hx
        rw [sm_inl] at h
        refine lv_iconst (v := 0) C.1 C.2.1 dX11_read_84 (by decide) ?_
        cases h
        exact r_iret C S hr hlocks dX11_read_85
      · subst hy
        rw [sm_inr] at h
        exact Option.some.inj h
    · replace h := (if_pos q5).symm.trans h
      refine lv_aload_n C.1 C.2.1 dX11_read_23 rfl (lv_at hl 0 rfl) ?_
      refine r_ldcw C (-1000000006) b_cn_RX11_299 dX11_read_24 ?_
      obtain ⟨o19, e20, h⟩ := Option.bind_eq_some_iff.mp h
      refine r_vi C S hl o_76 cf_11 (k_X11_finds e20) b_vb_RX11_109 [.int (-1000000006)] rfl [] rfl rfl (by decide) ⟨Nat.le_of_ble_eq_true rfl, Nat.le_of_ble_eq_true rfl⟩ dX11_read_27 (fun H locs S => ?_)
      cases h
      exact r_iret C S hr hlocks dX11_read_30
  · replace h := (if_pos q3).symm.trans h
    refine lv_aload_n C.1 C.2.1 dX11_read_7 rfl (lv_at hl 0 rfl) ?_
    refine r_ldc C (-1000000001) b_cn_RX11_92 dX11_read_8 ?_
    obtain ⟨o21, e22, h⟩ := Option.bind_eq_some_iff.mp h
    refine r_vi C S hl o_76 cf_11 (k_X11_finds e22) b_vb_RX11_109 [.int (-1000000001)] rfl [] rfl rfl (by decide) ⟨Nat.le_of_ble_eq_true rfl, Nat.le_of_ble_eq_true rfl⟩ dX11_read_10 (fun H locs S => ?_)
    cases h
    exact r_iret C S hr hlocks dX11_read_13

set_option maxHeartbeats 4000000 in
set_option maxRecDepth 100000 in
theorem k_X11_groups_L24 {p : Program} {l : Launch} {e : Env} {s : State} {m : MethodId} {args : Array Value} {below : List Frame} {meth : Method} {c : Code} {D : va_G} {ad sx : Nat → Nat} {ca : Nat → ClassId} (C : Cx D ad sx ca p s m c args RX11 cX11_groups 4) {Q : State → Prop} {w : Wd} {v1 : Int32}  : ∀ (n9 : Nat) (z : Int32 × Int32) (o : Int32 × Int32), lp (f_X11_groups_L24 v1 w) n9 z = some o → (∀ (ls : Array Slot) (H : Heap) (locs : List Loc), lv_has ls 4 [(2, .int o.1)] → St D ad ca s w H locs → W p l e (RM 4 94) s m args below meth c H locs 0 0 Q (F0 m 72 ls [])) → (∀ (ls : Array Slot) (H : Heap) (locs : List Loc), lv_has ls 4 [(0, .ref (ad 76)), (1, .int v1), (2, .int z.1), (3, .int z.2)] → St D ad ca s w H locs → W p l e (RM 4 94) s m args below meth c H locs 0 0 Q (F0 m 24 ls [])) := by
  refine lp_W (HW := fun (z : Int32 × Int32) => ∀ (ls : Array Slot) (H : Heap) (locs : List Loc), lv_has ls 4 [(0, .ref (ad 76)), (1, .int v1), (2, .int z.1), (3, .int z.2)] → St D ad ca s w H locs → W p l e (RM 4 94) s m args below meth c H locs 0 0 Q (F0 m 24 ls [])) (XW := fun (o : Int32 × Int32) => ∀ (ls : Array Slot) (H : Heap) (locs : List Loc), lv_has ls 4 [(2, .int o.1)] → St D ad ca s w H locs → W p l e (RM 4 94) s m args below meth c H locs 0 0 Q (F0 m 72 ls [])) ?_
  intro z x h hN hX ls H locs hl S
  unfold f_X11_groups_L24 at h
  refine lv_iload_n C.1 C.2.1 dX11_groups_24 rfl (lv_at hl 3 rfl) ?_
  refine lv_aload_n C.1 C.2.1 dX11_groups_25 rfl (lv_at hl 0 rfl) ?_
  refine r_getr C S o_76 cf_11 0 rfl (by decide) b_fl_RX11_9 dX11_groups_26 ?_
  refine lv_iconst (v := 5) C.1 C.2.1 dX11_groups_29 (by decide) ?_
  refine r_ialdn (j := 5) C S a_77 (by decide) (by decide) dX11_groups_30 ?_
  refine lv_icmp_ge (tgt := 72) C.1 C.2.1 dX11_groups_31 (by decide) (fun q6 => ?_) (fun q6 => ?_)
  · replace h := (if_pos q6).symm.trans h
    exact hX _ (Option.some.inj h).symm _ _ _ (lv_sub hl [2] rfl) S
  · replace h := (if_neg q6).symm.trans h
    refine lv_iload_n C.1 C.2.1 dX11_groups_34 rfl (lv_at hl 2 rfl) ?_
    refine lv_aload_n C.1 C.2.1 dX11_groups_35 rfl (lv_at hl 0 rfl) ?_
    refine r_getr C S o_76 cf_11 38 rfl (by decide) b_fl_RX11_76 dX11_groups_36 ?_
    refine lv_iload_n C.1 C.2.1 dX11_groups_39 rfl (lv_at hl 3 rfl) ?_
    obtain ⟨g7, h⟩ := gd_some h
    refine r_iald C S a_99 g7 dX11_groups_40 ?_
    refine lv_iload_n C.1 C.2.1 dX11_groups_41 rfl (lv_at hl 3 rfl) ?_
    refine lv_icmp_ne (tgt := 63) C.1 C.2.1 dX11_groups_42 (by decide) (fun q8 => ?_) (fun q8 => ?_)
    · replace h := (if_neg q8).symm.trans h
      refine lv_iconst (v := 0) C.1 C.2.1 dX11_groups_63 (by decide) ?_
      refine lv_iadd C.1 C.2.1 dX11_groups_64 ?_
      refine lv_istore_n (lv' := [(2, .int (z.1 + 0)), (0, .ref (ad 76)), (1, .int v1), (3, .int z.2)]) C.1 C.2.1 dX11_groups_65 rfl hl (by decide) rfl (fun ls hl => ?_)
      refine lv_iinc (v := z.2 + 1) (lv' := [(3, .int (z.2 + 1)), (2, .int (z.1 + 0)), (0, .ref (ad 76)), (1, .int v1)]) C.1 C.2.1 dX11_groups_66 hl (k := 3) rfl rfl (by decide) rfl (fun ls hl => ?_)
      refine lv_goto (tgt := 24) C.1 C.2.1 dX11_groups_69 (by decide) ?_
      exact hN _ (Option.some.inj h).symm _ _ _ (lv_sub hl [2, 3, 1, 0] rfl) S
    · replace h := (if_pos q8).symm.trans h
      refine lv_iload_n C.1 C.2.1 dX11_groups_45 rfl (lv_at hl 1 rfl) ?_
      refine lv_if_eq (tgt := 59) C.1 C.2.1 dX11_groups_46 (by decide) (fun q9 => ?_) (fun q9 => ?_)
      · replace h := (if_pos q9).symm.trans h
        refine lv_iconst (v := 1) C.1 C.2.1 dX11_groups_59 (by decide) ?_
        refine lv_goto (tgt := 64) C.1 C.2.1 dX11_groups_60 (by decide) ?_
        refine lv_iadd C.1 C.2.1 dX11_groups_64 ?_
        refine lv_istore_n (lv' := [(2, .int (z.1 + 1)), (0, .ref (ad 76)), (1, .int v1), (3, .int z.2)]) C.1 C.2.1 dX11_groups_65 rfl hl (by decide) rfl (fun ls hl => ?_)
        refine lv_iinc (v := z.2 + 1) (lv' := [(3, .int (z.2 + 1)), (2, .int (z.1 + 1)), (0, .ref (ad 76)), (1, .int v1)]) C.1 C.2.1 dX11_groups_66 hl (k := 3) rfl rfl (by decide) rfl (fun ls hl => ?_)
        refine lv_goto (tgt := 24) C.1 C.2.1 dX11_groups_69 (by decide) ?_
        exact hN _ (Option.some.inj h).symm _ _ _ (lv_sub hl [2, 3, 1, 0] rfl) S
      · replace h := (if_neg q9).symm.trans h
        refine lv_aload_n C.1 C.2.1 dX11_groups_49 rfl (lv_at hl 0 rfl) ?_
        refine lv_iload_n C.1 C.2.1 dX11_groups_50 rfl (lv_at hl 3 rfl) ?_
        refine lv_iconst (v := 1) C.1 C.2.1 dX11_groups_51 (by decide) ?_
        obtain ⟨o10, e11, h⟩ := Option.bind_eq_some_iff.mp h
        refine r_vi C S hl o_76 cf_11 (k_X11_about e11) b_vb_RX11_280 [.int z.2, .int 1] rfl [.int z.1] rfl rfl (Nat.le_of_ble_eq_true rfl) ⟨Nat.le_of_ble_eq_true rfl, Nat.le_of_ble_eq_true rfl⟩ dX11_groups_52 (fun H locs S => ?_)
        refine lv_iload_n C.1 C.2.1 dX11_groups_55 rfl (lv_at hl 1 rfl) ?_
        refine lv_icmp_ne (tgt := 63) C.1 C.2.1 dX11_groups_56 (by decide) (fun q12 => ?_) (fun q12 => ?_)
        · replace h := (if_neg q12).symm.trans h
          refine lv_iconst (v := 0) C.1 C.2.1 dX11_groups_63 (by decide) ?_
          refine lv_iadd C.1 C.2.1 dX11_groups_64 ?_
          refine lv_istore_n (lv' := [(2, .int (z.1 + 0)), (0, .ref (ad 76)), (1, .int v1), (3, .int z.2)]) C.1 C.2.1 dX11_groups_65 rfl hl (by decide) rfl (fun ls hl => ?_)
          refine lv_iinc (v := z.2 + 1) (lv' := [(3, .int (z.2 + 1)), (2, .int (z.1 + 0)), (0, .ref (ad 76)), (1, .int v1)]) C.1 C.2.1 dX11_groups_66 hl (k := 3) rfl rfl (by decide) rfl (fun ls hl => ?_)
          refine lv_goto (tgt := 24) C.1 C.2.1 dX11_groups_69 (by decide) ?_
          exact hN _ (Option.some.inj h).symm _ _ _ (lv_sub hl [2, 3, 1, 0] rfl) S
        · replace h := (if_pos q12).symm.trans h
          refine lv_iconst (v := 1) C.1 C.2.1 dX11_groups_59 (by decide) ?_
          refine lv_goto (tgt := 64) C.1 C.2.1 dX11_groups_60 (by decide) ?_
          refine lv_iadd C.1 C.2.1 dX11_groups_64 ?_
          refine lv_istore_n (lv' := [(2, .int (z.1 + 1)), (0, .ref (ad 76)), (1, .int v1), (3, .int z.2)]) C.1 C.2.1 dX11_groups_65 rfl hl (by decide) rfl (fun ls hl => ?_)
          refine lv_iinc (v := z.2 + 1) (lv' := [(3, .int (z.2 + 1)), (2, .int (z.1 + 1)), (0, .ref (ad 76)), (1, .int v1)]) C.1 C.2.1 dX11_groups_66 hl (k := 3) rfl rfl (by decide) rfl (fun ls hl => ?_)
          refine lv_goto (tgt := 24) C.1 C.2.1 dX11_groups_69 (by decide) ?_
          exact hN _ (Option.some.inj h).symm _ _ _ (lv_sub hl [2, 3, 1, 0] rfl) S
set_option maxHeartbeats 4000000 in
set_option maxRecDepth 100000 in
theorem k_X11_groups {v1 : Int32}  {w : Wd} {rv : Int32 × Wd} (h : f_X11_groups v1 w = some rv) : CI yX11_groups cX11_groups 4 .int 4 94 (fun ad => [.ref (ad 76), .int v1]) w rv.1 rv.2 := by
  refine CI.of (by decide) ?_
  intro l D ad sx ca p e s m below meth c C S hr hlocks
  have hl := lv_entry ([.ref (ad 76), .int v1]) (n := 4) (Nat.le_of_ble_eq_true rfl)
  rw [lg_entry_eq]
  generalize (lg_sl ([.ref (ad 76), .int v1]) ++ List.replicate (4 - (lg_sl ([.ref (ad 76), .int v1])).length) Slot.unset).toArray = ls at hl ⊢
  have hl : lv_has ls 4 [(0, .ref (ad 76)), (1, .int v1)] := hl
  generalize ha9 : ([.ref (ad 76), .int v1] : List Value).toArray = args at C ⊢
  generalize s.heap = H at S ⊢
  generalize ([] : List Loc) = locs at S ⊢
  unfold f_X11_groups at h
  refine lv_iload_n C.1 C.2.1 dX11_groups_0 rfl (lv_at hl 1 rfl) ?_
  refine lv_iconst (v := 0) C.1 C.2.1 dX11_groups_1 (by decide) ?_
  refine lv_iconst (v := 2) C.1 C.2.1 dX11_groups_2 (by decide) ?_
  obtain ⟨o1, e2, h⟩ := Option.bind_eq_some_iff.mp h
  refine r_si C S hl (k_X11_in e2) b_sb_RX11_97 [.int v1, .int 0, .int 2] rfl [] rfl rfl (Nat.le_of_ble_eq_true rfl) ⟨Nat.le_of_ble_eq_true rfl, Nat.le_of_ble_eq_true rfl⟩ dX11_groups_3 (fun H locs S => ?_)
  refine lv_if_ne (tgt := 16) C.1 C.2.1 dX11_groups_6 (by decide) (fun q3 => ?_) (fun q3 => ?_)
  · replace h := (if_neg q3).symm.trans h
    refine lv_aload_n C.1 C.2.1 dX11_groups_16 rfl (lv_at hl 0 rfl) ?_
    obtain ⟨o4, e5, h⟩ := Option.bind_eq_some_iff.mp h
    refine r_vv C S hl o_76 cf_11 (k_X11_findGroups e5) b_vb_RX11_292 [] rfl [] rfl rfl (Nat.le_of_ble_eq_true rfl) ⟨Nat.le_of_ble_eq_true rfl, Nat.le_of_ble_eq_true rfl⟩ dX11_groups_17 (fun H locs S => ?_)
    refine lv_iconst (v := 0) C.1 C.2.1 dX11_groups_20 (by decide) ?_
    refine lv_istore_n (lv' := [(2, .int 0), (0, .ref (ad 76)), (1, .int v1)]) C.1 C.2.1 dX11_groups_21 rfl hl (by decide) rfl (fun ls hl => ?_)
    refine lv_iconst (v := 0) C.1 C.2.1 dX11_groups_22 (by decide) ?_
    refine lv_istore_n (lv' := [(3, .int 0), (2, .int 0), (0, .ref (ad 76)), (1, .int v1)]) C.1 C.2.1 dX11_groups_23 rfl hl (by decide) rfl (fun ls hl => ?_)
    obtain ⟨o13, e14, h⟩ := Option.bind_eq_some_iff.mp h
    refine k_X11_groups_L24 C  FU _ _ e14 (fun ls H locs hl S => ?_) ls H locs (lv_sub hl [2, 3, 1, 0] rfl) S
    refine lv_iload_n C.1 C.2.1 dX11_groups_72 rfl (lv_at hl 0 rfl) ?_
    have h9 := Option.some.inj h
    subst h9
    exact r_iret C S hr hlocks dX11_groups_73
  · replace h := (if_pos q3).symm.trans h
    refine lv_aload_n C.1 C.2.1 dX11_groups_9 rfl (lv_at hl 0 rfl) ?_
    refine r_ldc C (-1000000001) b_cn_RX11_92 dX11_groups_10 ?_
    obtain ⟨o15, e16, h⟩ := Option.bind_eq_some_iff.mp h
    refine r_vi C S hl o_76 cf_11 (k_X11_finds e16) b_vb_RX11_109 [.int (-1000000001)] rfl [] rfl rfl (Nat.le_of_ble_eq_true rfl) ⟨Nat.le_of_ble_eq_true rfl, Nat.le_of_ble_eq_true rfl⟩ dX11_groups_12 (fun H locs S => ?_)
    have h9 := Option.some.inj h
    subst h9
    exact r_iret C S hr hlocks dX11_groups_15
set_option maxHeartbeats 4000000 in
set_option maxRecDepth 100000 in
theorem k_X11_isSheet {v0 : Int32}  {w : Wd} {rv : Int32} (h : f_X11_isSheet v0 = some rv) : CI yX11_isSheet cX11_isSheet 1 .boolean 1 22 (fun ad => [.int v0]) w rv w := by
  refine CI.of (by decide) ?_
  intro l D ad sx ca p e s m below meth c C S hr hlocks
  have hl := lv_entry ([.int v0]) (n := 1) (Nat.le_of_ble_eq_true rfl)
  rw [lg_entry_eq]
  generalize (lg_sl ([.int v0]) ++ List.replicate (1 - (lg_sl ([.int v0])).length) Slot.unset).toArray = ls at hl ⊢
  have hl : lv_has ls 1 [(0, .int v0)] := hl
  generalize ha9 : ([.int v0] : List Value).toArray = args at C ⊢
  generalize s.heap = H at S ⊢
  generalize ([] : List Loc) = locs at S ⊢
  unfold f_X11_isSheet at h
  refine lv_iload_n C.1 C.2.1 dX11_isSheet_0 rfl (lv_at hl 0 rfl) ?_
  refine lv_iconst (v := 0) C.1 C.2.1 dX11_isSheet_1 (by decide) ?_
  refine lv_iconst (v := 3) C.1 C.2.1 dX11_isSheet_2 (by decide) ?_
  obtain ⟨o1, e2, h⟩ := Option.bind_eq_some_iff.mp h
  refine r_si C S hl (k_X11_in e2) b_sb_RX11_97 [.int v0, .int 0, .int 3] rfl [] rfl rfl (Nat.le_of_ble_eq_true rfl) ⟨Nat.le_of_ble_eq_true rfl, Nat.le_of_ble_eq_true rfl⟩ dX11_isSheet_3 (fun H locs S => ?_)
  obtain ⟨g3, h⟩ := gd_some h
  have h9 := Option.some.inj h
  subst h9
  exact r_zret C S hr hlocks (zo_or g3) dX11_isSheet_6
set_option maxHeartbeats 4000000 in
set_option maxRecDepth 100000 in
theorem k_X11_sheet_L86 {p : Program} {l : Launch} {e : Env} {s : State} {m : MethodId} {args : Array Value} {below : List Frame} {meth : Method} {c : Code} {D : va_G} {ad sx : Nat → Nat} {ca : Nat → ClassId} (C : Cx D ad sx ca p s m c args RX11 cX11_sheet 5) {Q : State → Prop} {v1 : Int32}  : ∀ (n9 : Nat) (z : Int32 × Wd) (o : Int32 × Wd), lp (f_X11_sheet_L86 v1) n9 z = some o → (∀ (ls : Array Slot) (H : Heap) (locs : List Loc), lv_has ls 5 [(0, .ref (ad 76)), (1, .int v1)] → St D ad ca s o.2 H locs → W p l e (RM 2 42) s m args below meth c H locs 0 0 Q (F0 m 112 ls [])) → (∀ (ls : Array Slot) (H : Heap) (locs : List Loc), lv_has ls 5 [(0, .ref (ad 76)), (1, .int v1), (4, .int z.1)] → St D ad ca s z.2 H locs → W p l e (RM 2 42) s m args below meth c H locs 0 0 Q (F0 m 86 ls [])) := by
  refine lp_W (HW := fun (z : Int32 × Wd) => ∀ (ls : Array Slot) (H : Heap) (locs : List Loc), lv_has ls 5 [(0, .ref (ad 76)), (1, .int v1), (4, .int z.1)] → St D ad ca s z.2 H locs → W p l e (RM 2 42) s m args below meth c H locs 0 0 Q (F0 m 86 ls [])) (XW := fun (o : Int32 × Wd) => ∀ (ls : Array Slot) (H : Heap) (locs : List Loc), lv_has ls 5 [(0, .ref (ad 76)), (1, .int v1)] → St D ad ca s o.2 H locs → W p l e (RM 2 42) s m args below meth c H locs 0 0 Q (F0 m 112 ls [])) ?_
  intro z x h hN hX ls H locs hl S
  unfold f_X11_sheet_L86 at h
  refine lv_iload C.1 C.2.1 dX11_sheet_86 (lv_at hl 2 rfl) ?_
  refine lv_bipush (v := 40) C.1 C.2.1 dX11_sheet_88 (by decide) ?_
  refine lv_icmp_ge (tgt := 112) C.1 C.2.1 dX11_sheet_90 (by decide) (fun q14 => ?_) (fun q14 => ?_)
  · replace h := (if_pos q14).symm.trans h
    exact hX _ (Option.some.inj h).symm _ _ _ (lv_sub hl [0, 1] rfl) S
  · replace h := (if_neg q14).symm.trans h
    refine lv_aload_n C.1 C.2.1 dX11_sheet_93 rfl (lv_at hl 0 rfl) ?_
    refine r_getr C S o_76 cf_11 41 rfl (by decide) b_fl_RX11_85 dX11_sheet_94 ?_
    refine lv_bipush (v := 40) C.1 C.2.1 dX11_sheet_97 (by decide) ?_
    refine lv_iload_n C.1 C.2.1 dX11_sheet_99 rfl (lv_at hl 1 rfl) ?_
    refine lv_imul C.1 C.2.1 dX11_sheet_100 ?_
    refine lv_iload C.1 C.2.1 dX11_sheet_101 (lv_at hl 2 rfl) ?_
    refine lv_iadd C.1 C.2.1 dX11_sheet_103 ?_
    refine lv_lconst (v := 0) C.1 C.2.1 dX11_sheet_104 (by decide) ?_
    obtain ⟨g15, h⟩ := gd_some h
    refine r_last C S a_102 g15 dX11_sheet_105 (fun H locs S => ?_)
    obtain ⟨w16, h, S⟩ := lw_S (P := fun y => St D ad ca s y H locs) h S
    refine lv_iinc (v := z.1 + 1) (lv' := [(4, .int (z.1 + 1)), (0, .ref (ad 76)), (1, .int v1)]) C.1 C.2.1 dX11_sheet_106 hl (k := 2) rfl rfl (by decide) rfl (fun ls hl => ?_)
    refine lv_goto (tgt := 86) C.1 C.2.1 dX11_sheet_109 (by decide) ?_
    exact hN _ (Option.some.inj h).symm _ _ _ (lv_sub hl [1, 2, 0] rfl) S
set_option maxHeartbeats 4000000 in
set_option maxRecDepth 100000 in
theorem k_X11_sheet_J82 {p : Program} {l : Launch} {e : Env} {s : State} {m : MethodId} {args : Array Value} {below : List Frame} {meth : Method} {c : Code} {D : va_G} {ad sx : Nat → Nat} {ca : Nat → ClassId} (C : Cx D ad sx ca p s m c args RX11 cX11_sheet 5) (hr : meth.sig.returnType = (some .int)) (hlocks : meth.locks = false) {w : Wd} {v1 : Int32} {v101 : Int32} {v102 : Int32}  {rv : Int32 × Wd} (h : f_X11_sheet_J82 v1 v101 v102 w = some rv) {ls : Array Slot} {H : Heap} {locs : List Loc} (hl : lv_has ls 5 [(0, .ref (ad 76)), (1, .int v1)]) (S : St D ad ca s w H locs) : W p l e (RM 2 42) s m args below meth c H locs 0 0 (MQ below (Qi D ad ca rv.1 rv.2) args s 0 0 (Aad ad)) (F0 m 82 ls [.int v102, .int v101, .ref (ad 101)]) := by
  unfold f_X11_sheet_J82 at h
  obtain ⟨g12, h⟩ := gd_some h
  refine r_iast C S a_101 g12 dX11_sheet_82 (fun H locs S => ?_)
  obtain ⟨w13, h, S⟩ := lw_S (P := fun y => St D ad ca s y H locs) h S
  refine lv_iconst (v := 0) C.1 C.2.1 dX11_sheet_83 (by decide) ?_
  refine lv_istore (lv' := [(4, .int 0), (0, .ref (ad 76)), (1, .int v1)]) C.1 C.2.1 dX11_sheet_84 hl (by decide) rfl (fun ls hl => ?_)
  obtain ⟨o17, e18, h⟩ := Option.bind_eq_some_iff.mp h
  refine k_X11_sheet_L86 C  FU _ _ e18 (fun ls H locs hl S => ?_) ls H locs (lv_sub hl [1, 2, 0] rfl) S
  refine lv_aload_n C.1 C.2.1 dX11_sheet_112 rfl (lv_at hl 0 rfl) ?_
  refine r_getr C S o_76 cf_11 40 rfl (by decide) b_fl_RX11_82 dX11_sheet_113 ?_
  refine lv_iload_n C.1 C.2.1 dX11_sheet_116 rfl (lv_at hl 1 rfl) ?_
  obtain ⟨g19, h⟩ := gd_some h
  refine r_iald C S a_101 g19 dX11_sheet_117 ?_
  have h9 := Option.some.inj h
  subst h9
  exact r_iret C S hr hlocks dX11_sheet_118
set_option maxHeartbeats 4000000 in
set_option maxRecDepth 100000 in
theorem k_X11_sheet_J36 {p : Program} {l : Launch} {e : Env} {s : State} {m : MethodId} {args : Array Value} {below : List Frame} {meth : Method} {c : Code} {D : va_G} {ad sx : Nat → Nat} {ca : Nat → ClassId} (C : Cx D ad sx ca p s m c args RX11 cX11_sheet 5) (hr : meth.sig.returnType = (some .int)) (hlocks : meth.locks = false) {w : Wd} {v1 : Int32} {v2 : Int32} {v3 : Int32}  {rv : Int32 × Wd} (h : f_X11_sheet_J36 v1 v2 v3 w = some rv) {ls : Array Slot} {H : Heap} {locs : List Loc} (hl : lv_has ls 5 [(0, .ref (ad 76)), (1, .int v1), (2, .int v2), (3, .int v3)]) (S : St D ad ca s w H locs) : W p l e (RM 2 42) s m args below meth c H locs 0 0 (MQ below (Qi D ad ca rv.1 rv.2) args s 0 0 (Aad ad)) (F0 m 36 ls []) := by
  unfold f_X11_sheet_J36 at h
  refine lv_iload_n C.1 C.2.1 dX11_sheet_36 rfl (lv_at hl 3 rfl) ?_
  refine lv_if_ge (tgt := 48) C.1 C.2.1 dX11_sheet_37 (by decide) (fun q7 => ?_) (fun q7 => ?_)
  · replace h := (if_pos q7).symm.trans h
    refine lv_iload_n C.1 C.2.1 dX11_sheet_48 rfl (lv_at hl 3 rfl) ?_
    refine lv_bipush (v := 40) C.1 C.2.1 dX11_sheet_49 (by decide) ?_
    refine lv_icmp_le (tgt := 61) C.1 C.2.1 dX11_sheet_51 (by decide) (fun q8 => ?_) (fun q8 => ?_)
    · replace h := (if_pos q8).symm.trans h
      refine lv_aload_n C.1 C.2.1 dX11_sheet_61 rfl (lv_at hl 0 rfl) ?_
      refine r_getr C S o_76 cf_11 39 rfl (by decide) b_fl_RX11_79 dX11_sheet_62 ?_
      refine lv_iload_n C.1 C.2.1 dX11_sheet_65 rfl (lv_at hl 1 rfl) ?_
      refine lv_iload_n C.1 C.2.1 dX11_sheet_66 rfl (lv_at hl 2 rfl) ?_
      obtain ⟨g9, h⟩ := gd_some h
      refine r_iast C S a_100 g9 dX11_sheet_67 (fun H locs S => ?_)
      obtain ⟨w10, h, S⟩ := lw_S (P := fun y => St D ad ca s y H locs) h S
      refine lv_aload_n C.1 C.2.1 dX11_sheet_68 rfl (lv_at hl 0 rfl) ?_
      refine r_getr C S o_76 cf_11 40 rfl (by decide) b_fl_RX11_82 dX11_sheet_69 ?_
      refine lv_iload_n C.1 C.2.1 dX11_sheet_72 rfl (lv_at hl 1 rfl) ?_
      refine lv_iload_n C.1 C.2.1 dX11_sheet_73 rfl (lv_at hl 2 rfl) ?_
      refine lv_if_ne (tgt := 81) C.1 C.2.1 dX11_sheet_74 (by decide) (fun q11 => ?_) (fun q11 => ?_)
      · replace h := (if_neg q11).symm.trans h
        refine lv_iload_n C.1 C.2.1 dX11_sheet_81 rfl (lv_at hl 3 rfl) ?_
        exact k_X11_sheet_J82 C hr hlocks  h (lv_sub hl [0, 1] rfl) S
      · replace h := (if_pos q11).symm.trans h
        refine lv_iconst (v := 0) C.1 C.2.1 dX11_sheet_77 (by decide) ?_
        refine lv_goto (tgt := 82) C.1 C.2.1 dX11_sheet_78 (by decide) ?_
        exact k_X11_sheet_J82 C hr hlocks  h (lv_sub hl [0, 1] rfl) S
    · replace h := (if_neg q8).symm.trans h
      refine lv_aload_n C.1 C.2.1 dX11_sheet_54 rfl (lv_at hl 0 rfl) ?_
      refine r_ldc C (-1000000001) b_cn_RX11_92 dX11_sheet_55 ?_
      obtain ⟨o20, e21, h⟩ := Option.bind_eq_some_iff.mp h
      refine r_vi C S hl o_76 cf_11 (k_X11_finds e21) b_vb_RX11_109 [.int (-1000000001)] rfl [] rfl rfl (Nat.le_of_ble_eq_true rfl) ⟨Nat.le_of_ble_eq_true rfl, Nat.le_of_ble_eq_true rfl⟩ dX11_sheet_57 (fun H locs S => ?_)
      have h9 := Option.some.inj h
      subst h9
      exact r_iret C S hr hlocks dX11_sheet_60
  · replace h := (if_neg q7).symm.trans h
    refine lv_aload_n C.1 C.2.1 dX11_sheet_40 rfl (lv_at hl 0 rfl) ?_
    refine r_ldcw C (-1000000007) b_cn_RX11_298 dX11_sheet_41 ?_
    obtain ⟨o22, e23, h⟩ := Option.bind_eq_some_iff.mp h
    refine r_vi C S hl o_76 cf_11 (k_X11_finds e23) b_vb_RX11_109 [.int (-1000000007)] rfl [] rfl rfl (Nat.le_of_ble_eq_true rfl) ⟨Nat.le_of_ble_eq_true rfl, Nat.le_of_ble_eq_true rfl⟩ dX11_sheet_44 (fun H locs S => ?_)
    have h9 := Option.some.inj h
    subst h9
    exact r_iret C S hr hlocks dX11_sheet_47
set_option maxHeartbeats 4000000 in
set_option maxRecDepth 100000 in
theorem k_X11_sheet {v1 : Int32} {v2 : Int32} {v3 : Int32}  {w : Wd} {rv : Int32 × Wd} (h : f_X11_sheet v1 v2 v3 w = some rv) : CI yX11_sheet cX11_sheet 5 .int 2 42 (fun ad => [.ref (ad 76), .int v1, .int v2, .int v3]) w rv.1 rv.2 := by
  refine CI.of (by decide) ?_
  intro l D ad sx ca p e s m below meth c C S hr hlocks
  have hl := lv_entry ([.ref (ad 76), .int v1, .int v2, .int v3]) (n := 5) (Nat.le_of_ble_eq_true rfl)
  rw [lg_entry_eq]
  generalize (lg_sl ([.ref (ad 76), .int v1, .int v2, .int v3]) ++ List.replicate (5 - (lg_sl ([.ref (ad 76), .int v1, .int v2, .int v3])).length) Slot.unset).toArray = ls at hl ⊢
  have hl : lv_has ls 5 [(0, .ref (ad 76)), (1, .int v1), (2, .int v2), (3, .int v3)] := hl
  generalize ha9 : ([.ref (ad 76), .int v1, .int v2, .int v3] : List Value).toArray = args at C ⊢
  generalize s.heap = H at S ⊢
  generalize ([] : List Loc) = locs at S ⊢
  unfold f_X11_sheet at h
  refine lv_iload_n C.1 C.2.1 dX11_sheet_0 rfl (lv_at hl 1 rfl) ?_
  obtain ⟨o1, e2, h⟩ := Option.bind_eq_some_iff.mp h
  refine r_si C S hl (k_X11_isSheet e2) b_sb_RX11_295 [.int v1] rfl [] rfl rfl (Nat.le_of_ble_eq_true rfl) ⟨Nat.le_of_ble_eq_true rfl, Nat.le_of_ble_eq_true rfl⟩ dX11_sheet_1 (fun H locs S => ?_)
  refine lv_if_eq (tgt := 29) C.1 C.2.1 dX11_sheet_4 (by decide) (fun q3 => ?_) (fun q3 => ?_)
  · replace h := (if_pos q3).symm.trans h
    refine lv_aload_n C.1 C.2.1 dX11_sheet_29 rfl (lv_at hl 0 rfl) ?_
    refine r_ldc C (-1000000001) b_cn_RX11_92 dX11_sheet_30 ?_
    obtain ⟨o4, e5, h⟩ := Option.bind_eq_some_iff.mp h
    refine r_vi C S hl o_76 cf_11 (k_X11_finds e5) b_vb_RX11_109 [.int (-1000000001)] rfl [] rfl rfl (Nat.le_of_ble_eq_true rfl) ⟨Nat.le_of_ble_eq_true rfl, Nat.le_of_ble_eq_true rfl⟩ dX11_sheet_32 (fun H locs S => ?_)
    have h9 := Option.some.inj h
    subst h9
    exact r_iret C S hr hlocks dX11_sheet_35
  · replace h := (if_neg q3).symm.trans h
    refine lv_iload_n C.1 C.2.1 dX11_sheet_7 rfl (lv_at hl 2 rfl) ?_
    refine lv_if_eq (tgt := 36) C.1 C.2.1 dX11_sheet_8 (by decide) (fun q6 => ?_) (fun q6 => ?_)
    · replace h := (if_pos q6).symm.trans h
      exact k_X11_sheet_J36 C hr hlocks  h (lv_sub hl [0, 1, 2, 3] rfl) S
    · replace h := (if_neg q6).symm.trans h
      refine lv_iload_n C.1 C.2.1 dX11_sheet_11 rfl (lv_at hl 2 rfl) ?_
      refine lv_bipush (v := 8) C.1 C.2.1 dX11_sheet_12 (by decide) ?_
      refine lv_icmp_eq (tgt := 36) C.1 C.2.1 dX11_sheet_14 (by decide) (fun q24 => ?_) (fun q24 => ?_)
      · replace h := (if_pos q24).symm.trans h
        exact k_X11_sheet_J36 C hr hlocks  h (lv_sub hl [0, 1, 2, 3] rfl) S
      · replace h := (if_neg q24).symm.trans h
        refine lv_iload_n C.1 C.2.1 dX11_sheet_17 rfl (lv_at hl 2 rfl) ?_
        refine lv_bipush (v := 16) C.1 C.2.1 dX11_sheet_18 (by decide) ?_
        refine lv_icmp_eq (tgt := 36) C.1 C.2.1 dX11_sheet_20 (by decide) (fun q25 => ?_) (fun q25 => ?_)
        · replace h := (if_pos q25).symm.trans h
          exact k_X11_sheet_J36 C hr hlocks  h (lv_sub hl [0, 1, 2, 3] rfl) S
        · replace h := (if_neg q25).symm.trans h
          refine lv_iload_n C.1 C.2.1 dX11_sheet_23 rfl (lv_at hl 2 rfl) ?_
          refine lv_bipush (v := 64) C.1 C.2.1 dX11_sheet_24 (by decide) ?_
          refine lv_icmp_eq (tgt := 36) C.1 C.2.1 dX11_sheet_26 (by decide) (fun q26 => ?_) (fun q26 => ?_)
          · replace h := (if_pos q26).symm.trans h
            exact k_X11_sheet_J36 C hr hlocks  h (lv_sub hl [0, 1, 2, 3] rfl) S
          · replace h := (if_neg q26).symm.trans h
            refine lv_aload_n C.1 C.2.1 dX11_sheet_29 rfl (lv_at hl 0 rfl) ?_
            refine r_ldc C (-1000000001) b_cn_RX11_92 dX11_sheet_30 ?_
            obtain ⟨o27, e28, h⟩ := Option.bind_eq_some_iff.mp h
            refine r_vi C S hl o_76 cf_11 (k_X11_finds e28) b_vb_RX11_109 [.int (-1000000001)] rfl [] rfl rfl (Nat.le_of_ble_eq_true rfl) ⟨Nat.le_of_ble_eq_true rfl, Nat.le_of_ble_eq_true rfl⟩ dX11_sheet_32 (fun H locs S => ?_)
            have h9 := Option.some.inj h
            subst h9
            exact r_iret C S hr hlocks dX11_sheet_35
set_option maxHeartbeats 4000000 in
set_option maxRecDepth 100000 in
theorem k_X11_write {v1 : Int32} {v2 : Int32} {v3 : Int64}  {w : Wd} {rv : Int64 × Wd} (h : f_X11_write v1 v2 v3 w = some rv) : CL yX11_write cX11_write 7 2 42 (fun ad => [.ref (ad 76), .int v1, .int v2, .long v3]) w rv.1 rv.2 := by
  refine CL.of (by decide) ?_
  intro l D ad sx ca p e s m below meth c C S hr hlocks
  have hl := lv_entry ([.ref (ad 76), .int v1, .int v2, .long v3]) (n := 7) (Nat.le_of_ble_eq_true rfl)
  rw [lg_entry_eq]
  generalize (lg_sl ([.ref (ad 76), .int v1, .int v2, .long v3]) ++ List.replicate (7 - (lg_sl ([.ref (ad 76), .int v1, .int v2, .long v3])).length) Slot.unset).toArray = ls at hl ⊢
  have hl : lv_has ls 7 [(0, .ref (ad 76)), (1, .int v1), (2, .int v2), (3, .long v3)] := hl
  generalize ha9 : ([.ref (ad 76), .int v1, .int v2, .long v3] : List Value).toArray = args at C ⊢
  generalize s.heap = H at S ⊢
  generalize ([] : List Loc) = locs at S ⊢
  unfold f_X11_write at h
  refine lv_iload_n C.1 C.2.1 dX11_write_0 rfl (lv_at hl 1 rfl) ?_
  obtain ⟨o1, e2, h⟩ := Option.bind_eq_some_iff.mp h
  refine r_si C S hl (k_X11_isSheet e2) b_sb_RX11_295 [.int v1] rfl [] rfl rfl (Nat.le_of_ble_eq_true rfl) ⟨Nat.le_of_ble_eq_true rfl, Nat.le_of_ble_eq_true rfl⟩ dX11_write_1 (fun H locs S => ?_)
  refine lv_if_ne (tgt := 15) C.1 C.2.1 dX11_write_4 (by decide) (fun q3 => ?_) (fun q3 => ?_)
  · replace h := (if_neg q3).symm.trans h
    refine lv_aload_n C.1 C.2.1 dX11_write_15 rfl (lv_at hl 0 rfl) ?_
    refine r_getr C S o_76 cf_11 39 rfl (by decide) b_fl_RX11_79 dX11_write_16 ?_
    refine lv_iload_n C.1 C.2.1 dX11_write_19 rfl (lv_at hl 1 rfl) ?_
    obtain ⟨g4, h⟩ := gd_some h
    refine r_iald C S a_100 g4 dX11_write_20 ?_
    refine lv_if_ne (tgt := 33) C.1 C.2.1 dX11_write_21 (by decide) (fun q5 => ?_) (fun q5 => ?_)
    · replace h := (if_neg q5).symm.trans h
      refine lv_iload_n C.1 C.2.1 dX11_write_33 rfl (lv_at hl 2 rfl) ?_
      refine lv_iconst (v := 0) C.1 C.2.1 dX11_write_34 (by decide) ?_
      refine lv_aload_n C.1 C.2.1 dX11_write_35 rfl (lv_at hl 0 rfl) ?_
      refine r_getr C S o_76 cf_11 40 rfl (by decide) b_fl_RX11_82 dX11_write_36 ?_
      refine lv_iload_n C.1 C.2.1 dX11_write_39 rfl (lv_at hl 1 rfl) ?_
      obtain ⟨g6, h⟩ := gd_some h
      refine r_iald C S a_101 g6 dX11_write_40 ?_
      refine lv_iconst (v := 1) C.1 C.2.1 dX11_write_41 (by decide) ?_
      refine lv_isub C.1 C.2.1 dX11_write_42 ?_
      obtain ⟨o7, e8, h⟩ := Option.bind_eq_some_iff.mp h
      refine r_si C S hl (k_X11_in e8) b_sb_RX11_97 [.int v2, .int 0, .int ((w.1 101 v1.toNatClampNeg) - 1)] rfl [] rfl rfl (Nat.le_of_ble_eq_true rfl) ⟨Nat.le_of_ble_eq_true rfl, Nat.le_of_ble_eq_true rfl⟩ dX11_write_43 (fun H locs S => ?_)
      refine lv_if_ne (tgt := 57) C.1 C.2.1 dX11_write_46 (by decide) (fun q9 => ?_) (fun q9 => ?_)
      · replace h := (if_neg q9).symm.trans h
        refine lv_aload_n C.1 C.2.1 dX11_write_57 rfl (lv_at hl 0 rfl) ?_
        refine r_getr C S o_76 cf_11 41 rfl (by decide) b_fl_RX11_85 dX11_write_58 ?_
        refine lv_bipush (v := 40) C.1 C.2.1 dX11_write_61 (by decide) ?_
        refine lv_iload_n C.1 C.2.1 dX11_write_63 rfl (lv_at hl 1 rfl) ?_
        refine lv_imul C.1 C.2.1 dX11_write_64 ?_
        refine lv_iload_n C.1 C.2.1 dX11_write_65 rfl (lv_at hl 2 rfl) ?_
        refine lv_iadd C.1 C.2.1 dX11_write_66 ?_
        obtain ⟨g10, h⟩ := gd_some h
        refine r_lald C S a_102 g10 dX11_write_67 ?_
        refine lv_lstore (lv' := [(5, .long (w.2 102 (((40 * v1) + v2).toNatClampNeg))), (0, .ref (ad 76)), (1, .int v1), (2, .int v2), (3, .long v3)]) C.1 C.2.1 dX11_write_68 hl (by decide) rfl (fun ls hl => ?_)
        refine lv_aload_n C.1 C.2.1 dX11_write_70 rfl (lv_at hl 1 rfl) ?_
        refine r_getr C S o_76 cf_11 41 rfl (by decide) b_fl_RX11_85 dX11_write_71 ?_
        refine lv_bipush (v := 40) C.1 C.2.1 dX11_write_74 (by decide) ?_
        refine lv_iload_n C.1 C.2.1 dX11_write_76 rfl (lv_at hl 2 rfl) ?_
        refine lv_imul C.1 C.2.1 dX11_write_77 ?_
        refine lv_iload_n C.1 C.2.1 dX11_write_78 rfl (lv_at hl 3 rfl) ?_
        refine lv_iadd C.1 C.2.1 dX11_write_79 ?_
        refine lv_aload_n C.1 C.2.1 dX11_write_80 rfl (lv_at hl 1 rfl) ?_
        refine r_getr C S o_76 cf_11 39 rfl (by decide) b_fl_RX11_79 dX11_write_81 ?_
        refine lv_iload_n C.1 C.2.1 dX11_write_84 rfl (lv_at hl 2 rfl) ?_
        obtain ⟨g11, h⟩ := gd_some h
        refine r_iald C S a_100 g11 dX11_write_85 ?_
        refine lv_bipush (v := 8) C.1 C.2.1 dX11_write_86 (by decide) ?_
        refine lv_icmp_ne (tgt := 98) C.1 C.2.1 dX11_write_88 (by decide) (fun q12 => ?_) (fun q12 => ?_)
        · replace h := (if_neg q12).symm.trans h
          refine lv_aload_n C.1 C.2.1 dX11_write_98 rfl (lv_at hl 1 rfl) ?_
          refine r_getr C S o_76 cf_11 39 rfl (by decide) b_fl_RX11_79 dX11_write_99 ?_
          refine lv_iload_n C.1 C.2.1 dX11_write_102 rfl (lv_at hl 2 rfl) ?_
          obtain ⟨g13, h⟩ := gd_some h
          refine r_iald C S a_100 g13 dX11_write_103 ?_
          refine lv_bipush (v := 16) C.1 C.2.1 dX11_write_104 (by decide) ?_
          refine lv_icmp_ne (tgt := 116) C.1 C.2.1 dX11_write_106 (by decide) (fun q14 => ?_) (fun q14 => ?_)
          · replace h := (if_neg q14).symm.trans h
            refine lv_lload_n C.1 C.2.1 dX11_write_116 rfl (lv_at hl 4 rfl) ?_
            obtain ⟨g15, h⟩ := gd_some h
            refine r_last C S a_102 g15 dX11_write_117 (fun H locs S => ?_)
            obtain ⟨w16, h, S⟩ := lw_S (P := fun y => St D ad ca s y H locs) h S
            refine lv_lload C.1 C.2.1 dX11_write_118 (lv_at hl 0 rfl) ?_
            have h9 := Option.some.inj h
            subst h9
            exact r_lret C S hr hlocks dX11_write_120
          · replace h := (if_pos q14).symm.trans h
            refine lv_lload_n C.1 C.2.1 dX11_write_109 rfl (lv_at hl 4 rfl) ?_
            refine lv_l2i C.1 C.2.1 dX11_write_110 rfl ?_
            refine lv_i2s C.1 C.2.1 dX11_write_111 rfl ?_
            refine lv_i2l C.1 C.2.1 dX11_write_112 rfl ?_
            refine lv_goto (tgt := 117) C.1 C.2.1 dX11_write_113 (by decide) ?_
            obtain ⟨g17, h⟩ := gd_some h
            refine r_last C S a_102 g17 dX11_write_117 (fun H locs S => ?_)
            obtain ⟨w18, h, S⟩ := lw_S (P := fun y => St D ad ca s y H locs) h S
            refine lv_lload C.1 C.2.1 dX11_write_118 (lv_at hl 0 rfl) ?_
            have h9 := Option.some.inj h
            subst h9
            exact r_lret C S hr hlocks dX11_write_120
        · replace h := (if_pos q12).symm.trans h
          refine lv_lload_n C.1 C.2.1 dX11_write_91 rfl (lv_at hl 4 rfl) ?_
          refine lv_l2i C.1 C.2.1 dX11_write_92 rfl ?_
          refine lv_i2b C.1 C.2.1 dX11_write_93 rfl ?_
          refine lv_i2l C.1 C.2.1 dX11_write_94 rfl ?_
          refine lv_goto (tgt := 117) C.1 C.2.1 dX11_write_95 (by decide) ?_
          obtain ⟨g19, h⟩ := gd_some h
          refine r_last C S a_102 g19 dX11_write_117 (fun H locs S => ?_)
          obtain ⟨w20, h, S⟩ := lw_S (P := fun y => St D ad ca s y H locs) h S
          refine lv_lload C.1 C.2.1 dX11_write_118 (lv_at hl 0 rfl) ?_
          have h9 := Option.some.inj h
          subst h9
          exact r_lret C S hr hlocks dX11_write_120
      · replace h := (if_pos q9).symm.trans h
        refine lv_aload_n C.1 C.2.1 dX11_write_49 rfl (lv_at hl 0 rfl) ?_
        refine r_ldc C (-1000000001) b_cn_RX11_92 dX11_write_50 ?_
        obtain ⟨o21, e22, h⟩ := Option.bind_eq_some_iff.mp h
        refine r_vi C S hl o_76 cf_11 (k_X11_finds e22) b_vb_RX11_109 [.int (-1000000001)] rfl [] rfl rfl (Nat.le_of_ble_eq_true rfl) ⟨Nat.le_of_ble_eq_true rfl, Nat.le_of_ble_eq_true rfl⟩ dX11_write_52 (fun H locs S => ?_)
        refine lv_i2l C.1 C.2.1 dX11_write_55 rfl ?_
        have h9 := Option.some.inj h
        subst h9
        exact r_lret C S hr hlocks dX11_write_56
    · replace h := (if_pos q5).symm.trans h
      refine lv_aload_n C.1 C.2.1 dX11_write_24 rfl (lv_at hl 0 rfl) ?_
      refine r_ldcw C (-1000000006) b_cn_RX11_299 dX11_write_25 ?_
      obtain ⟨o23, e24, h⟩ := Option.bind_eq_some_iff.mp h
      refine r_vi C S hl o_76 cf_11 (k_X11_finds e24) b_vb_RX11_109 [.int (-1000000006)] rfl [] rfl rfl (Nat.le_of_ble_eq_true rfl) ⟨Nat.le_of_ble_eq_true rfl, Nat.le_of_ble_eq_true rfl⟩ dX11_write_28 (fun H locs S => ?_)
      refine lv_i2l C.1 C.2.1 dX11_write_31 rfl ?_
      have h9 := Option.some.inj h
      subst h9
      exact r_lret C S hr hlocks dX11_write_32
  · replace h := (if_pos q3).symm.trans h
    refine lv_aload_n C.1 C.2.1 dX11_write_7 rfl (lv_at hl 0 rfl) ?_
    refine r_ldc C (-1000000001) b_cn_RX11_92 dX11_write_8 ?_
    obtain ⟨o25, e26, h⟩ := Option.bind_eq_some_iff.mp h
    refine r_vi C S hl o_76 cf_11 (k_X11_finds e26) b_vb_RX11_109 [.int (-1000000001)] rfl [] rfl rfl (Nat.le_of_ble_eq_true rfl) ⟨Nat.le_of_ble_eq_true rfl, Nat.le_of_ble_eq_true rfl⟩ dX11_write_10 (fun H locs S => ?_)
    refine lv_i2l C.1 C.2.1 dX11_write_13 rfl ?_
    have h9 := Option.some.inj h
    subst h9
    exact r_lret C S hr hlocks dX11_write_14
set_option maxHeartbeats 4000000 in
set_option maxRecDepth 100000 in
theorem k_X11_has {v1 : Int32} {v2 : Int32} {v3 : Int32}  {w : Wd} {rv : Int32} (h : f_X11_has v1 v2 v3 w = some rv) : CI yX11_has cX11_has 4 .boolean 0 0 (fun ad => [.ref (ad 76), .int v1, .int v2, .int v3]) w rv w := by
  refine CI.of (by decide) ?_
  intro l D ad sx ca p e s m below meth c C S hr hlocks
  have hl := lv_entry ([.ref (ad 76), .int v1, .int v2, .int v3]) (n := 4) (Nat.le_of_ble_eq_true rfl)
  rw [lg_entry_eq]
  generalize (lg_sl ([.ref (ad 76), .int v1, .int v2, .int v3]) ++ List.replicate (4 - (lg_sl ([.ref (ad 76), .int v1, .int v2, .int v3])).length) Slot.unset).toArray = ls at hl ⊢
  have hl : lv_has ls 4 [(0, .ref (ad 76)), (1, .int v1), (2, .int v2), (3, .int v3)] := hl
  generalize ha9 : ([.ref (ad 76), .int v1, .int v2, .int v3] : List Value).toArray = args at C ⊢
  generalize s.heap = H at S ⊢
  generalize ([] : List Loc) = locs at S ⊢
  unfold f_X11_has at h
  refine lv_iload_n C.1 C.2.1 dX11_has_0 rfl (lv_at hl 2 rfl) ?_
  refine lv_if_lt (tgt := 24) C.1 C.2.1 dX11_has_1 (by decide) (fun q1 => ?_) (fun q1 => ?_)
  · replace h := (if_pos q1).symm.trans h
    refine lv_iconst (v := 0) C.1 C.2.1 dX11_has_24 (by decide) ?_
    have h9 := Option.some.inj h
    subst h9
    exact r_zret C S hr hlocks (Or.inl rfl) dX11_has_25
  · replace h := (if_neg q1).symm.trans h
    refine lv_iload_n C.1 C.2.1 dX11_has_4 rfl (lv_at hl 3 rfl) ?_
    refine lv_if_lt (tgt := 24) C.1 C.2.1 dX11_has_5 (by decide) (fun q2 => ?_) (fun q2 => ?_)
    · replace h := (if_pos q2).symm.trans h
      refine lv_iconst (v := 0) C.1 C.2.1 dX11_has_24 (by decide) ?_
      have h9 := Option.some.inj h
      subst h9
      exact r_zret C S hr hlocks (Or.inl rfl) dX11_has_25
    · replace h := (if_neg q2).symm.trans h
      refine lv_iload_n C.1 C.2.1 dX11_has_8 rfl (lv_at hl 2 rfl) ?_
      refine lv_aload_n C.1 C.2.1 dX11_has_9 rfl (lv_at hl 0 rfl) ?_
      refine r_getr C S o_76 cf_11 40 rfl (by decide) b_fl_RX11_82 dX11_has_10 ?_
      refine lv_iload_n C.1 C.2.1 dX11_has_13 rfl (lv_at hl 1 rfl) ?_
      obtain ⟨g3, h⟩ := gd_some h
      refine r_iald C S a_101 g3 dX11_has_14 ?_
      refine lv_iload_n C.1 C.2.1 dX11_has_15 rfl (lv_at hl 3 rfl) ?_
      refine lv_isub C.1 C.2.1 dX11_has_16 ?_
      refine lv_icmp_gt (tgt := 24) C.1 C.2.1 dX11_has_17 (by decide) (fun q4 => ?_) (fun q4 => ?_)
      · replace h := (if_pos q4).symm.trans h
        refine lv_iconst (v := 0) C.1 C.2.1 dX11_has_24 (by decide) ?_
        have h9 := Option.some.inj h
        subst h9
        exact r_zret C S hr hlocks (Or.inl rfl) dX11_has_25
      · replace h := (if_neg q4).symm.trans h
        refine lv_iconst (v := 1) C.1 C.2.1 dX11_has_20 (by decide) ?_
        refine lv_goto (tgt := 25) C.1 C.2.1 dX11_has_21 (by decide) ?_
        have h9 := Option.some.inj h
        subst h9
        exact r_zret C S hr hlocks (Or.inr rfl) dX11_has_25
set_option maxHeartbeats 4000000 in
set_option maxRecDepth 100000 in
theorem k_X11_copy_L102 {p : Program} {l : Launch} {e : Env} {s : State} {m : MethodId} {args : Array Value} {below : List Frame} {meth : Method} {c : Code} {D : va_G} {ad sx : Nat → Nat} {ca : Nat → ClassId} (C : Cx D ad sx ca p s m c args RX11 cX11_copy 7) {Q : State → Prop} {v1 : Int32} {v2 : Int32} {v3 : Int32} {v4 : Int32} {v5 : Int32}  : ∀ (n9 : Nat) (z : Int32 × Wd) (o : Int32 × Wd), lp (f_X11_copy_L102 v1 v2 v3 v4 v5) n9 z = some o → (∀ (ls : Array Slot) (H : Heap) (locs : List Loc), lv_has ls 7 [(0, .ref (ad 76)), (3, .int v3), (4, .int v4), (5, .int v5)] → St D ad ca s o.2 H locs → W p l e (RM 2 42) s m args below meth c H locs 0 0 Q (F0 m 136 ls [])) → (∀ (ls : Array Slot) (H : Heap) (locs : List Loc), lv_has ls 7 [(0, .ref (ad 76)), (1, .int v1), (2, .int v2), (3, .int v3), (4, .int v4), (5, .int v5), (6, .int z.1)] → St D ad ca s z.2 H locs → W p l e (RM 2 42) s m args below meth c H locs 0 0 Q (F0 m 102 ls [])) := by
  refine lp_W (HW := fun (z : Int32 × Wd) => ∀ (ls : Array Slot) (H : Heap) (locs : List Loc), lv_has ls 7 [(0, .ref (ad 76)), (1, .int v1), (2, .int v2), (3, .int v3), (4, .int v4), (5, .int v5), (6, .int z.1)] → St D ad ca s z.2 H locs → W p l e (RM 2 42) s m args below meth c H locs 0 0 Q (F0 m 102 ls [])) (XW := fun (o : Int32 × Wd) => ∀ (ls : Array Slot) (H : Heap) (locs : List Loc), lv_has ls 7 [(0, .ref (ad 76)), (3, .int v3), (4, .int v4), (5, .int v5)] → St D ad ca s o.2 H locs → W p l e (RM 2 42) s m args below meth c H locs 0 0 Q (F0 m 136 ls [])) ?_
  intro z x h hN hX ls H locs hl S
  unfold f_X11_copy_L102 at h
  refine lv_iload C.1 C.2.1 dX11_copy_102 (lv_at hl 6 rfl) ?_
  refine lv_iload C.1 C.2.1 dX11_copy_104 (lv_at hl 5 rfl) ?_
  refine lv_icmp_ge (tgt := 136) C.1 C.2.1 dX11_copy_106 (by decide) (fun q26 => ?_) (fun q26 => ?_)
  · replace h := (if_pos q26).symm.trans h
    exact hX _ (Option.some.inj h).symm _ _ _ (lv_sub hl [0, 3, 4, 5] rfl) S
  · replace h := (if_neg q26).symm.trans h
    refine lv_aload_n C.1 C.2.1 dX11_copy_109 rfl (lv_at hl 0 rfl) ?_
    refine r_getr C S o_76 cf_11 42 rfl (by decide) b_fl_RX11_89 dX11_copy_110 ?_
    refine lv_iload C.1 C.2.1 dX11_copy_113 (lv_at hl 6 rfl) ?_
    refine lv_aload_n C.1 C.2.1 dX11_copy_115 rfl (lv_at hl 0 rfl) ?_
    refine r_getr C S o_76 cf_11 41 rfl (by decide) b_fl_RX11_85 dX11_copy_116 ?_
    refine lv_bipush (v := 40) C.1 C.2.1 dX11_copy_119 (by decide) ?_
    refine lv_iload_n C.1 C.2.1 dX11_copy_121 rfl (lv_at hl 1 rfl) ?_
    refine lv_imul C.1 C.2.1 dX11_copy_122 ?_
    refine lv_iload_n C.1 C.2.1 dX11_copy_123 rfl (lv_at hl 2 rfl) ?_
    refine lv_iadd C.1 C.2.1 dX11_copy_124 ?_
    refine lv_iload C.1 C.2.1 dX11_copy_125 (lv_at hl 6 rfl) ?_
    refine lv_iadd C.1 C.2.1 dX11_copy_127 ?_
    obtain ⟨g27, h⟩ := gd_some h
    refine r_lald C S a_102 g27 dX11_copy_128 ?_
    obtain ⟨g28, h⟩ := gd_some h
    refine r_last C S a_103 g28 dX11_copy_129 (fun H locs S => ?_)
    obtain ⟨w29, h, S⟩ := lw_S (P := fun y => St D ad ca s y H locs) h S
    refine lv_iinc (v := z.1 + 1) (lv' := [(6, .int (z.1 + 1)), (0, .ref (ad 76)), (1, .int v1), (2, .int v2), (3, .int v3), (4, .int v4), (5, .int v5)]) C.1 C.2.1 dX11_copy_130 hl (k := 6) rfl rfl (by decide) rfl (fun ls hl => ?_)
    refine lv_goto (tgt := 102) C.1 C.2.1 dX11_copy_133 (by decide) ?_
    exact hN _ (Option.some.inj h).symm _ _ _ (lv_sub hl [1, 2, 3, 4, 5, 6, 0] rfl) S
set_option maxHeartbeats 4000000 in
set_option maxRecDepth 100000 in
theorem k_X11_copy_L139 {p : Program} {l : Launch} {e : Env} {s : State} {m : MethodId} {args : Array Value} {below : List Frame} {meth : Method} {c : Code} {D : va_G} {ad sx : Nat → Nat} {ca : Nat → ClassId} (C : Cx D ad sx ca p s m c args RX11 cX11_copy 7) {Q : State → Prop} {v3 : Int32} {v4 : Int32} {v5 : Int32}  : ∀ (n9 : Nat) (z : Int32 × Wd) (o : Int32 × Wd), lp (f_X11_copy_L139 v3 v4 v5) n9 z = some o → (∀ (ls : Array Slot) (H : Heap) (locs : List Loc), lv_has ls 7 [(5, .int v5)] → St D ad ca s o.2 H locs → W p l e (RM 2 42) s m args below meth c H locs 0 0 Q (F0 m 174 ls [])) → (∀ (ls : Array Slot) (H : Heap) (locs : List Loc), lv_has ls 7 [(0, .ref (ad 76)), (3, .int v3), (4, .int v4), (5, .int v5), (6, .int z.1)] → St D ad ca s z.2 H locs → W p l e (RM 2 42) s m args below meth c H locs 0 0 Q (F0 m 139 ls [])) := by
  refine lp_W (HW := fun (z : Int32 × Wd) => ∀ (ls : Array Slot) (H : Heap) (locs : List Loc), lv_has ls 7 [(0, .ref (ad 76)), (3, .int v3), (4, .int v4), (5, .int v5), (6, .int z.1)] → St D ad ca s z.2 H locs → W p l e (RM 2 42) s m args below meth c H locs 0 0 Q (F0 m 139 ls [])) (XW := fun (o : Int32 × Wd) => ∀ (ls : Array Slot) (H : Heap) (locs : List Loc), lv_has ls 7 [(5, .int v5)] → St D ad ca s o.2 H locs → W p l e (RM 2 42) s m args below meth c H locs 0 0 Q (F0 m 174 ls [])) ?_
  intro z x h hN hX ls H locs hl S
  unfold f_X11_copy_L139 at h
  refine lv_iload C.1 C.2.1 dX11_copy_139 (lv_at hl 4 rfl) ?_
  refine lv_iload C.1 C.2.1 dX11_copy_141 (lv_at hl 3 rfl) ?_
  refine lv_icmp_ge (tgt := 174) C.1 C.2.1 dX11_copy_143 (by decide) (fun q32 => ?_) (fun q32 => ?_)
  · replace h := (if_pos q32).symm.trans h
    exact hX _ (Option.some.inj h).symm _ _ _ (lv_sub hl [3] rfl) S
  · replace h := (if_neg q32).symm.trans h
    refine lv_aload_n C.1 C.2.1 dX11_copy_146 rfl (lv_at hl 0 rfl) ?_
    refine r_getr C S o_76 cf_11 41 rfl (by decide) b_fl_RX11_85 dX11_copy_147 ?_
    refine lv_bipush (v := 40) C.1 C.2.1 dX11_copy_150 (by decide) ?_
    refine lv_iload_n C.1 C.2.1 dX11_copy_152 rfl (lv_at hl 1 rfl) ?_
    refine lv_imul C.1 C.2.1 dX11_copy_153 ?_
    refine lv_iload C.1 C.2.1 dX11_copy_154 (lv_at hl 2 rfl) ?_
    refine lv_iadd C.1 C.2.1 dX11_copy_156 ?_
    refine lv_iload C.1 C.2.1 dX11_copy_157 (lv_at hl 4 rfl) ?_
    refine lv_iadd C.1 C.2.1 dX11_copy_159 ?_
    refine lv_aload_n C.1 C.2.1 dX11_copy_160 rfl (lv_at hl 0 rfl) ?_
    refine r_getr C S o_76 cf_11 42 rfl (by decide) b_fl_RX11_89 dX11_copy_161 ?_
    refine lv_iload C.1 C.2.1 dX11_copy_164 (lv_at hl 4 rfl) ?_
    obtain ⟨g33, h⟩ := gd_some h
    refine r_lald C S a_103 g33 dX11_copy_166 ?_
    obtain ⟨g34, h⟩ := gd_some h
    refine r_last C S a_102 g34 dX11_copy_167 (fun H locs S => ?_)
    obtain ⟨w35, h, S⟩ := lw_S (P := fun y => St D ad ca s y H locs) h S
    refine lv_iinc (v := z.1 + 1) (lv' := [(6, .int (z.1 + 1)), (0, .ref (ad 76)), (3, .int v3), (4, .int v4), (5, .int v5)]) C.1 C.2.1 dX11_copy_168 hl (k := 4) rfl rfl (by decide) rfl (fun ls hl => ?_)
    refine lv_goto (tgt := 139) C.1 C.2.1 dX11_copy_171 (by decide) ?_
    exact hN _ (Option.some.inj h).symm _ _ _ (lv_sub hl [1, 2, 3, 4, 0] rfl) S
set_option maxHeartbeats 4000000 in
set_option maxRecDepth 100000 in
theorem k_X11_copy {v1 : Int32} {v2 : Int32} {v3 : Int32} {v4 : Int32} {v5 : Int32}  {w : Wd} {rv : Int32 × Wd} (h : f_X11_copy v1 v2 v3 v4 v5 w = some rv) : CI yX11_copy cX11_copy 7 .int 2 42 (fun ad => [.ref (ad 76), .int v1, .int v2, .int v3, .int v4, .int v5]) w rv.1 rv.2 := by
  refine CI.of (by decide) ?_
  intro l D ad sx ca p e s m below meth c C S hr hlocks
  have hl := lv_entry ([.ref (ad 76), .int v1, .int v2, .int v3, .int v4, .int v5]) (n := 7) (Nat.le_of_ble_eq_true rfl)
  rw [lg_entry_eq]
  generalize (lg_sl ([.ref (ad 76), .int v1, .int v2, .int v3, .int v4, .int v5]) ++ List.replicate (7 - (lg_sl ([.ref (ad 76), .int v1, .int v2, .int v3, .int v4, .int v5])).length) Slot.unset).toArray = ls at hl ⊢
  have hl : lv_has ls 7 [(0, .ref (ad 76)), (1, .int v1), (2, .int v2), (3, .int v3), (4, .int v4), (5, .int v5)] := hl
  generalize ha9 : ([.ref (ad 76), .int v1, .int v2, .int v3, .int v4, .int v5] : List Value).toArray = args at C ⊢
  generalize s.heap = H at S ⊢
  generalize ([] : List Loc) = locs at S ⊢
  unfold f_X11_copy at h
  refine lv_iload_n C.1 C.2.1 dX11_copy_0 rfl (lv_at hl 1 rfl) ?_
  obtain ⟨o1, e2, h⟩ := Option.bind_eq_some_iff.mp h
  refine r_si C S hl (k_X11_isSheet e2) b_sb_RX11_295 [.int v1] rfl [] rfl rfl (Nat.le_of_ble_eq_true rfl) ⟨Nat.le_of_ble_eq_true rfl, Nat.le_of_ble_eq_true rfl⟩ dX11_copy_1 (fun H locs S => ?_)
  refine lv_if_eq (tgt := 14) C.1 C.2.1 dX11_copy_4 (by decide) (fun q3 => ?_) (fun q3 => ?_)
  · replace h := (if_pos q3).symm.trans h
    refine lv_aload_n C.1 C.2.1 dX11_copy_14 rfl (lv_at hl 0 rfl) ?_
    refine r_ldc C (-1000000001) b_cn_RX11_92 dX11_copy_15 ?_
    obtain ⟨o4, e5, h⟩ := Option.bind_eq_some_iff.mp h
    refine r_vi C S hl o_76 cf_11 (k_X11_finds e5) b_vb_RX11_109 [.int (-1000000001)] rfl [] rfl rfl (Nat.le_of_ble_eq_true rfl) ⟨Nat.le_of_ble_eq_true rfl, Nat.le_of_ble_eq_true rfl⟩ dX11_copy_17 (fun H locs S => ?_)
    have h9 := Option.some.inj h
    subst h9
    exact r_iret C S hr hlocks dX11_copy_20
  · replace h := (if_neg q3).symm.trans h
    refine lv_iload_n C.1 C.2.1 dX11_copy_7 rfl (lv_at hl 3 rfl) ?_
    obtain ⟨o6, e7, h⟩ := Option.bind_eq_some_iff.mp h
    refine r_si C S hl (k_X11_isSheet e7) b_sb_RX11_295 [.int v3] rfl [] rfl rfl (Nat.le_of_ble_eq_true rfl) ⟨Nat.le_of_ble_eq_true rfl, Nat.le_of_ble_eq_true rfl⟩ dX11_copy_8 (fun H locs S => ?_)
    refine lv_if_ne (tgt := 21) C.1 C.2.1 dX11_copy_11 (by decide) (fun q8 => ?_) (fun q8 => ?_)
    · replace h := (if_neg q8).symm.trans h
      refine lv_aload_n C.1 C.2.1 dX11_copy_21 rfl (lv_at hl 0 rfl) ?_
      refine r_getr C S o_76 cf_11 39 rfl (by decide) b_fl_RX11_79 dX11_copy_22 ?_
      refine lv_iload_n C.1 C.2.1 dX11_copy_25 rfl (lv_at hl 1 rfl) ?_
      obtain ⟨g9, h⟩ := gd_some h
      refine r_iald C S a_100 g9 dX11_copy_26 ?_
      refine lv_if_eq (tgt := 39) C.1 C.2.1 dX11_copy_27 (by decide) (fun q10 => ?_) (fun q10 => ?_)
      · replace h := (if_pos q10).symm.trans h
        refine lv_aload_n C.1 C.2.1 dX11_copy_39 rfl (lv_at hl 0 rfl) ?_
        refine r_ldcw C (-1000000006) b_cn_RX11_299 dX11_copy_40 ?_
        obtain ⟨o11, e12, h⟩ := Option.bind_eq_some_iff.mp h
        refine r_vi C S hl o_76 cf_11 (k_X11_finds e12) b_vb_RX11_109 [.int (-1000000006)] rfl [] rfl rfl (Nat.le_of_ble_eq_true rfl) ⟨Nat.le_of_ble_eq_true rfl, Nat.le_of_ble_eq_true rfl⟩ dX11_copy_43 (fun H locs S => ?_)
        have h9 := Option.some.inj h
        subst h9
        exact r_iret C S hr hlocks dX11_copy_46
      · replace h := (if_neg q10).symm.trans h
        refine lv_aload_n C.1 C.2.1 dX11_copy_30 rfl (lv_at hl 0 rfl) ?_
        refine r_getr C S o_76 cf_11 39 rfl (by decide) b_fl_RX11_79 dX11_copy_31 ?_
        refine lv_iload_n C.1 C.2.1 dX11_copy_34 rfl (lv_at hl 3 rfl) ?_
        obtain ⟨g13, h⟩ := gd_some h
        refine r_iald C S a_100 g13 dX11_copy_35 ?_
        refine lv_if_ne (tgt := 47) C.1 C.2.1 dX11_copy_36 (by decide) (fun q14 => ?_) (fun q14 => ?_)
        · replace h := (if_neg q14).symm.trans h
          refine lv_aload_n C.1 C.2.1 dX11_copy_47 rfl (lv_at hl 0 rfl) ?_
          refine r_getr C S o_76 cf_11 39 rfl (by decide) b_fl_RX11_79 dX11_copy_48 ?_
          refine lv_iload_n C.1 C.2.1 dX11_copy_51 rfl (lv_at hl 1 rfl) ?_
          obtain ⟨g15, h⟩ := gd_some h
          refine r_iald C S a_100 g15 dX11_copy_52 ?_
          refine lv_aload_n C.1 C.2.1 dX11_copy_53 rfl (lv_at hl 0 rfl) ?_
          refine r_getr C S o_76 cf_11 39 rfl (by decide) b_fl_RX11_79 dX11_copy_54 ?_
          refine lv_iload_n C.1 C.2.1 dX11_copy_57 rfl (lv_at hl 3 rfl) ?_
          obtain ⟨g16, h⟩ := gd_some h
          refine r_iald C S a_100 g16 dX11_copy_58 ?_
          refine lv_icmp_eq (tgt := 69) C.1 C.2.1 dX11_copy_59 (by decide) (fun q17 => ?_) (fun q17 => ?_)
          · replace h := (if_pos q17).symm.trans h
            refine lv_aload_n C.1 C.2.1 dX11_copy_69 rfl (lv_at hl 0 rfl) ?_
            refine lv_iload_n C.1 C.2.1 dX11_copy_70 rfl (lv_at hl 1 rfl) ?_
            refine lv_iload_n C.1 C.2.1 dX11_copy_71 rfl (lv_at hl 2 rfl) ?_
            refine lv_iload C.1 C.2.1 dX11_copy_72 (lv_at hl 5 rfl) ?_
            obtain ⟨o18, e19, h⟩ := Option.bind_eq_some_iff.mp h
            refine r_vi C S hl o_76 cf_11 (k_X11_has e19) b_vb_RX11_300 [.int v1, .int v2, .int v5] rfl [] rfl rfl (Nat.le_of_ble_eq_true rfl) ⟨Nat.le_of_ble_eq_true rfl, Nat.le_of_ble_eq_true rfl⟩ dX11_copy_74 (fun H locs S => ?_)
            refine lv_if_eq (tgt := 92) C.1 C.2.1 dX11_copy_77 (by decide) (fun q20 => ?_) (fun q20 => ?_)
            · replace h := (if_pos q20).symm.trans h
              refine lv_aload_n C.1 C.2.1 dX11_copy_92 rfl (lv_at hl 0 rfl) ?_
              refine r_ldc C (-1000000001) b_cn_RX11_92 dX11_copy_93 ?_
              obtain ⟨o21, e22, h⟩ := Option.bind_eq_some_iff.mp h
              refine r_vi C S hl o_76 cf_11 (k_X11_finds e22) b_vb_RX11_109 [.int (-1000000001)] rfl [] rfl rfl (Nat.le_of_ble_eq_true rfl) ⟨Nat.le_of_ble_eq_true rfl, Nat.le_of_ble_eq_true rfl⟩ dX11_copy_95 (fun H locs S => ?_)
              have h9 := Option.some.inj h
              subst h9
              exact r_iret C S hr hlocks dX11_copy_98
            · replace h := (if_neg q20).symm.trans h
              refine lv_aload_n C.1 C.2.1 dX11_copy_80 rfl (lv_at hl 0 rfl) ?_
              refine lv_iload_n C.1 C.2.1 dX11_copy_81 rfl (lv_at hl 3 rfl) ?_
              refine lv_iload C.1 C.2.1 dX11_copy_82 (lv_at hl 4 rfl) ?_
              refine lv_iload C.1 C.2.1 dX11_copy_84 (lv_at hl 5 rfl) ?_
              obtain ⟨o23, e24, h⟩ := Option.bind_eq_some_iff.mp h
              refine r_vi C S hl o_76 cf_11 (k_X11_has e24) b_vb_RX11_300 [.int v3, .int v4, .int v5] rfl [] rfl rfl (Nat.le_of_ble_eq_true rfl) ⟨Nat.le_of_ble_eq_true rfl, Nat.le_of_ble_eq_true rfl⟩ dX11_copy_86 (fun H locs S => ?_)
              refine lv_if_ne (tgt := 99) C.1 C.2.1 dX11_copy_89 (by decide) (fun q25 => ?_) (fun q25 => ?_)
              · replace h := (if_neg q25).symm.trans h
                refine lv_iconst (v := 0) C.1 C.2.1 dX11_copy_99 (by decide) ?_
                refine lv_istore (lv' := [(6, .int 0), (0, .ref (ad 76)), (1, .int v1), (2, .int v2), (3, .int v3), (4, .int v4), (5, .int v5)]) C.1 C.2.1 dX11_copy_100 hl (by decide) rfl (fun ls hl => ?_)
                obtain ⟨o30, e31, h⟩ := Option.bind_eq_some_iff.mp h
                refine k_X11_copy_L102 C  FU _ _ e31 (fun ls H locs hl S => ?_) ls H locs (lv_sub hl [1, 2, 3, 4, 5, 6, 0] rfl) S
                refine lv_iconst (v := 0) C.1 C.2.1 dX11_copy_136 (by decide) ?_
                refine lv_istore (lv' := [(6, .int 0), (0, .ref (ad 76)), (3, .int v3), (4, .int v4), (5, .int v5)]) C.1 C.2.1 dX11_copy_137 hl (by decide) rfl (fun ls hl => ?_)
                obtain ⟨o36, e37, h⟩ := Option.bind_eq_some_iff.mp h
                refine k_X11_copy_L139 C  FU _ _ e37 (fun ls H locs hl S => ?_) ls H locs (lv_sub hl [1, 2, 3, 4, 0] rfl) S
                refine lv_iload C.1 C.2.1 dX11_copy_174 (lv_at hl 0 rfl) ?_
                have h9 := Option.some.inj h
                subst h9
                exact r_iret C S hr hlocks dX11_copy_176
              · replace h := (if_pos q25).symm.trans h
                refine lv_aload_n C.1 C.2.1 dX11_copy_92 rfl (lv_at hl 0 rfl) ?_
                refine r_ldc C (-1000000001) b_cn_RX11_92 dX11_copy_93 ?_
                obtain ⟨o38, e39, h⟩ := Option.bind_eq_some_iff.mp h
                refine r_vi C S hl o_76 cf_11 (k_X11_finds e39) b_vb_RX11_109 [.int (-1000000001)] rfl [] rfl rfl (Nat.le_of_ble_eq_true rfl) ⟨Nat.le_of_ble_eq_true rfl, Nat.le_of_ble_eq_true rfl⟩ dX11_copy_95 (fun H locs S => ?_)
                have h9 := Option.some.inj h
                subst h9
                exact r_iret C S hr hlocks dX11_copy_98
          · replace h := (if_neg q17).symm.trans h
            refine lv_aload_n C.1 C.2.1 dX11_copy_62 rfl (lv_at hl 0 rfl) ?_
            refine r_ldc C (-1000000003) b_cn_RX11_152 dX11_copy_63 ?_
            obtain ⟨o40, e41, h⟩ := Option.bind_eq_some_iff.mp h
            refine r_vi C S hl o_76 cf_11 (k_X11_finds e41) b_vb_RX11_109 [.int (-1000000003)] rfl [] rfl rfl (Nat.le_of_ble_eq_true rfl) ⟨Nat.le_of_ble_eq_true rfl, Nat.le_of_ble_eq_true rfl⟩ dX11_copy_65 (fun H locs S => ?_)
            have h9 := Option.some.inj h
            subst h9
            exact r_iret C S hr hlocks dX11_copy_68
        · replace h := (if_pos q14).symm.trans h
          refine lv_aload_n C.1 C.2.1 dX11_copy_39 rfl (lv_at hl 0 rfl) ?_
          refine r_ldcw C (-1000000006) b_cn_RX11_299 dX11_copy_40 ?_
          obtain ⟨o42, e43, h⟩ := Option.bind_eq_some_iff.mp h
          refine r_vi C S hl o_76 cf_11 (k_X11_finds e43) b_vb_RX11_109 [.int (-1000000006)] rfl [] rfl rfl (Nat.le_of_ble_eq_true rfl) ⟨Nat.le_of_ble_eq_true rfl, Nat.le_of_ble_eq_true rfl⟩ dX11_copy_43 (fun H locs S => ?_)
          have h9 := Option.some.inj h
          subst h9
          exact r_iret C S hr hlocks dX11_copy_46
    · replace h := (if_pos q8).symm.trans h
      refine lv_aload_n C.1 C.2.1 dX11_copy_14 rfl (lv_at hl 0 rfl) ?_
      refine r_ldc C (-1000000001) b_cn_RX11_92 dX11_copy_15 ?_
      obtain ⟨o44, e45, h⟩ := Option.bind_eq_some_iff.mp h
      refine r_vi C S hl o_76 cf_11 (k_X11_finds e45) b_vb_RX11_109 [.int (-1000000001)] rfl [] rfl rfl (Nat.le_of_ble_eq_true rfl) ⟨Nat.le_of_ble_eq_true rfl, Nat.le_of_ble_eq_true rfl⟩ dX11_copy_17 (fun H locs S => ?_)
      have h9 := Option.some.inj h
      subst h9
      exact r_iret C S hr hlocks dX11_copy_20

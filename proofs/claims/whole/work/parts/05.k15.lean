set_option maxHeartbeats 4000000 in
set_option maxRecDepth 100000 in
theorem k_X11_anHour_L13 {p : Program} {l : Launch} {e : Env} {s : State} {m : MethodId} {args : Array Value} {below : List Frame} {meth : Method} {c : Code} {D : va_G} {ad sx : Nat → Nat} {ca : Nat → ClassId} (C : Cx D ad sx ca p s m c args RX11 cX11_anHour 3) {Q : State → Prop}   : ∀ (n9 : Nat) (z : Int32 × Wd) (o : Int32 × Wd), lp (f_X11_anHour_L13) n9 z = some o → (∀ (ls : Array Slot) (H : Heap) (locs : List Loc), lv_has ls 3 [(0, .ref (ad 76))] → St D ad ca s o.2 H locs → W p l e (RM 2 46) s m args below meth c H locs 0 0 Q (F0 m 117 ls [])) → (∀ (ls : Array Slot) (H : Heap) (locs : List Loc), lv_has ls 3 [(0, .ref (ad 76)), (1, .int z.1)] → St D ad ca s z.2 H locs → W p l e (RM 2 46) s m args below meth c H locs 0 0 Q (F0 m 13 ls [])) := by
  refine lp_W (HW := fun (z : Int32 × Wd) => ∀ (ls : Array Slot) (H : Heap) (locs : List Loc), lv_has ls 3 [(0, .ref (ad 76)), (1, .int z.1)] → St D ad ca s z.2 H locs → W p l e (RM 2 46) s m args below meth c H locs 0 0 Q (F0 m 13 ls [])) (XW := fun (o : Int32 × Wd) => ∀ (ls : Array Slot) (H : Heap) (locs : List Loc), lv_has ls 3 [(0, .ref (ad 76))] → St D ad ca s o.2 H locs → W p l e (RM 2 46) s m args below meth c H locs 0 0 Q (F0 m 117 ls [])) ?_
  intro z x h hN hX ls H locs hl S
  unfold f_X11_anHour_L13 at h
  refine lv_iload_n C.1 C.2.1 dX11_anHour_13 rfl (lv_at hl 1 rfl) ?_
  refine lv_aload_n C.1 C.2.1 dX11_anHour_14 rfl (lv_at hl 0 rfl) ?_
  refine r_getr C S o_76 cf_11 0 rfl (by decide) b_fl_RX11_9 dX11_anHour_15 ?_
  refine lv_iconst (v := 4) C.1 C.2.1 dX11_anHour_18 (by decide) ?_
  refine r_ialdn (j := 4) C S a_77 (by decide) (by decide) dX11_anHour_19 ?_
  refine lv_icmp_ge (tgt := 117) C.1 C.2.1 dX11_anHour_20 (by decide) (fun q3 => ?_) (fun q3 => ?_)
  · replace h := (if_pos q3).symm.trans h
    exact hX _ (Option.some.inj h).symm _ _ _ (lv_sub hl [0] rfl) S
  · replace h := (if_neg q3).symm.trans h
    refine lv_bipush (v := 7) C.1 C.2.1 dX11_anHour_23 (by decide) ?_
    refine lv_bipush (v := 11) C.1 C.2.1 dX11_anHour_25 (by decide) ?_
    refine lv_iload_n C.1 C.2.1 dX11_anHour_27 rfl (lv_at hl 1 rfl) ?_
    refine lv_imul C.1 C.2.1 dX11_anHour_28 ?_
    refine lv_iadd C.1 C.2.1 dX11_anHour_29 ?_
    refine lv_istore_n (lv' := [(2, .int (7 + (11 * z.1))), (0, .ref (ad 76)), (1, .int z.1)]) C.1 C.2.1 dX11_anHour_30 rfl hl (by decide) rfl (fun ls hl => ?_)
    refine lv_aload_n C.1 C.2.1 dX11_anHour_31 rfl (lv_at hl 1 rfl) ?_
    refine r_getr C S o_76 cf_11 0 rfl (by decide) b_fl_RX11_9 dX11_anHour_32 ?_
    refine lv_iload_n C.1 C.2.1 dX11_anHour_35 rfl (lv_at hl 0 rfl) ?_
    refine lv_bipush (v := 6) C.1 C.2.1 dX11_anHour_36 (by decide) ?_
    refine lv_iadd C.1 C.2.1 dX11_anHour_38 ?_
    refine lv_aload_n C.1 C.2.1 dX11_anHour_39 rfl (lv_at hl 1 rfl) ?_
    refine r_getr C S o_76 cf_11 13 rfl (by decide) b_fl_RX11_43 dX11_anHour_40 ?_
    refine lv_iload_n C.1 C.2.1 dX11_anHour_43 rfl (lv_at hl 2 rfl) ?_
    obtain ⟨g4, h⟩ := gd_some h
    refine r_iald C S a_88 g4 dX11_anHour_44 ?_
    obtain ⟨g5, h⟩ := gd_some h
    refine r_iast C S a_77 g5 dX11_anHour_45 (fun H locs S => ?_)
    obtain ⟨w6, h, S⟩ := lw_S (P := fun y => St D ad ca s y H locs) h S
    refine lv_aload_n C.1 C.2.1 dX11_anHour_46 rfl (lv_at hl 1 rfl) ?_
    refine r_getr C S o_76 cf_11 0 rfl (by decide) b_fl_RX11_9 dX11_anHour_47 ?_
    refine lv_iload_n C.1 C.2.1 dX11_anHour_50 rfl (lv_at hl 0 rfl) ?_
    refine lv_bipush (v := 7) C.1 C.2.1 dX11_anHour_51 (by decide) ?_
    refine lv_iadd C.1 C.2.1 dX11_anHour_53 ?_
    refine lv_dup2_11 C.1 C.2.1 dX11_anHour_54 rfl rfl ?_
    obtain ⟨g7, h⟩ := gd_some h
    refine r_iald C S a_77 g7 dX11_anHour_55 ?_
    refine lv_aload_n C.1 C.2.1 dX11_anHour_56 rfl (lv_at hl 1 rfl) ?_
    refine r_getr C S o_76 cf_11 15 rfl (by decide) b_fl_RX11_49 dX11_anHour_57 ?_
    refine lv_iload_n C.1 C.2.1 dX11_anHour_60 rfl (lv_at hl 2 rfl) ?_
    obtain ⟨g8, h⟩ := gd_some h
    refine r_iald C S a_90 g8 dX11_anHour_61 ?_
    refine lv_aload_n C.1 C.2.1 dX11_anHour_62 rfl (lv_at hl 1 rfl) ?_
    refine lv_iload_n C.1 C.2.1 dX11_anHour_63 rfl (lv_at hl 2 rfl) ?_
    refine lv_bipush (v := 10) C.1 C.2.1 dX11_anHour_64 (by decide) ?_
    obtain ⟨o9, e10, h⟩ := Option.bind_eq_some_iff.mp h
    refine r_vi C S hl o_76 cf_11 (k_X11_get e10) b_vb_RX11_101 [.int z.1, .int 10] rfl [.int (w6.1 90 z.1.toNatClampNeg), .int (w6.1 77 (((7 + (11 * z.1)) + 7).toNatClampNeg)), .int ((7 + (11 * z.1)) + 7), .ref (ad 77)] rfl rfl (Nat.le_of_ble_eq_true rfl) ⟨Nat.le_of_ble_eq_true rfl, Nat.le_of_ble_eq_true rfl⟩ dX11_anHour_66 (fun H locs S => ?_)
    refine lv_imul C.1 C.2.1 dX11_anHour_69 ?_
    refine lv_bipush (v := 100) C.1 C.2.1 dX11_anHour_70 (by decide) ?_
    refine lv_idiv C.1 C.2.1 dX11_anHour_72 (by decide) ?_
    refine lv_iadd C.1 C.2.1 dX11_anHour_73 ?_
    obtain ⟨g11, h⟩ := gd_some h
    refine r_iast C S a_77 g11 dX11_anHour_74 (fun H locs S => ?_)
    obtain ⟨w12, h, S⟩ := lw_S (P := fun y => St D ad ca s y H locs) h S
    refine lv_aload_n C.1 C.2.1 dX11_anHour_75 rfl (lv_at hl 1 rfl) ?_
    refine r_getr C S o_76 cf_11 0 rfl (by decide) b_fl_RX11_9 dX11_anHour_76 ?_
    refine lv_iload_n C.1 C.2.1 dX11_anHour_79 rfl (lv_at hl 0 rfl) ?_
    refine lv_bipush (v := 8) C.1 C.2.1 dX11_anHour_80 (by decide) ?_
    refine lv_iadd C.1 C.2.1 dX11_anHour_82 ?_
    refine lv_dup2_11 C.1 C.2.1 dX11_anHour_83 rfl rfl ?_
    obtain ⟨g13, h⟩ := gd_some h
    refine r_iald C S a_77 g13 dX11_anHour_84 ?_
    refine lv_aload_n C.1 C.2.1 dX11_anHour_85 rfl (lv_at hl 1 rfl) ?_
    refine r_getr C S o_76 cf_11 15 rfl (by decide) b_fl_RX11_49 dX11_anHour_86 ?_
    refine lv_iload_n C.1 C.2.1 dX11_anHour_89 rfl (lv_at hl 2 rfl) ?_
    obtain ⟨g14, h⟩ := gd_some h
    refine r_iald C S a_90 g14 dX11_anHour_90 ?_
    refine lv_iadd C.1 C.2.1 dX11_anHour_91 ?_
    obtain ⟨g15, h⟩ := gd_some h
    refine r_iast C S a_77 g15 dX11_anHour_92 (fun H locs S => ?_)
    obtain ⟨w16, h, S⟩ := lw_S (P := fun y => St D ad ca s y H locs) h S
    refine lv_aload_n C.1 C.2.1 dX11_anHour_93 rfl (lv_at hl 1 rfl) ?_
    refine r_getr C S o_76 cf_11 0 rfl (by decide) b_fl_RX11_9 dX11_anHour_94 ?_
    refine lv_iload_n C.1 C.2.1 dX11_anHour_97 rfl (lv_at hl 0 rfl) ?_
    refine lv_bipush (v := 9) C.1 C.2.1 dX11_anHour_98 (by decide) ?_
    refine lv_iadd C.1 C.2.1 dX11_anHour_100 ?_
    refine lv_dup2_11 C.1 C.2.1 dX11_anHour_101 rfl rfl ?_
    obtain ⟨g17, h⟩ := gd_some h
    refine r_iald C S a_77 g17 dX11_anHour_102 ?_
    refine lv_aload_n C.1 C.2.1 dX11_anHour_103 rfl (lv_at hl 1 rfl) ?_
    refine r_getr C S o_76 cf_11 16 rfl (by decide) b_fl_RX11_52 dX11_anHour_104 ?_
    refine lv_iload_n C.1 C.2.1 dX11_anHour_107 rfl (lv_at hl 2 rfl) ?_
    obtain ⟨g18, h⟩ := gd_some h
    refine r_iald C S a_91 g18 dX11_anHour_108 ?_
    refine lv_iadd C.1 C.2.1 dX11_anHour_109 ?_
    obtain ⟨g19, h⟩ := gd_some h
    refine r_iast C S a_77 g19 dX11_anHour_110 (fun H locs S => ?_)
    obtain ⟨w20, h, S⟩ := lw_S (P := fun y => St D ad ca s y H locs) h S
    refine lv_iinc (v := z.1 + 1) (lv' := [(1, .int (z.1 + 1)), (2, .int (7 + (11 * z.1))), (0, .ref (ad 76))]) C.1 C.2.1 dX11_anHour_111 hl (k := 2) rfl rfl (by decide) rfl (fun ls hl => ?_)
    refine lv_goto (tgt := 13) C.1 C.2.1 dX11_anHour_114 (by decide) ?_
    exact hN _ (Option.some.inj h).symm _ _ _ (lv_sub hl [2, 0] rfl) S
set_option maxHeartbeats 4000000 in
set_option maxRecDepth 100000 in
theorem k_X11_anHour   {w : Wd} {rv : Wd} (h : f_X11_anHour w = some rv) : CV yX11_anHour cX11_anHour 3 2 46 (fun ad => [.ref (ad 76)]) w rv := by
  refine CV.of (by decide) ?_
  intro l D ad sx ca p e s m below meth c C S hr hlocks
  have hl := lv_entry ([.ref (ad 76)]) (n := 3) (Nat.le_of_ble_eq_true rfl)
  rw [lg_entry_eq]
  generalize (lg_sl ([.ref (ad 76)]) ++ List.replicate (3 - (lg_sl ([.ref (ad 76)])).length) Slot.unset).toArray = ls at hl ⊢
  have hl : lv_has ls 3 [(0, .ref (ad 76))] := hl
  generalize ha9 : ([.ref (ad 76)] : List Value).toArray = args at C ⊢
  generalize s.heap = H at S ⊢
  generalize ([] : List Loc) = locs at S ⊢
  unfold f_X11_anHour at h
  refine lv_aload_n C.1 C.2.1 dX11_anHour_0 rfl (lv_at hl 0 rfl) ?_
  refine lv_aload_n C.1 C.2.1 dX11_anHour_1 rfl (lv_at hl 0 rfl) ?_
  refine r_getr C S o_76 cf_11 0 rfl (by decide) b_fl_RX11_9 dX11_anHour_2 ?_
  refine lv_iconst (v := 3) C.1 C.2.1 dX11_anHour_5 (by decide) ?_
  refine r_ialdn (j := 3) C S a_77 (by decide) (by decide) dX11_anHour_6 ?_
  obtain ⟨o1, e2, h⟩ := Option.bind_eq_some_iff.mp h
  refine r_vi C S hl o_76 cf_11 (k_X11_goes e2) b_vb_RX11_138 [.int (w.1 77 3)] rfl [] rfl rfl (Nat.le_of_ble_eq_true rfl) ⟨Nat.le_of_ble_eq_true rfl, Nat.le_of_ble_eq_true rfl⟩ dX11_anHour_7 (fun H locs S => ?_)
  refine lv_pop C.1 C.2.1 dX11_anHour_10 rfl ?_
  refine lv_iconst (v := 0) C.1 C.2.1 dX11_anHour_11 (by decide) ?_
  refine lv_istore_n (lv' := [(1, .int 0), (0, .ref (ad 76))]) C.1 C.2.1 dX11_anHour_12 rfl hl (by decide) rfl (fun ls hl => ?_)
  obtain ⟨o21, e22, h⟩ := Option.bind_eq_some_iff.mp h
  refine k_X11_anHour_L13 C  FU _ _ e22 (fun ls H locs hl S => ?_) ls H locs (lv_sub hl [1, 0] rfl) S
  refine lv_aload_n C.1 C.2.1 dX11_anHour_117 rfl (lv_at hl 0 rfl) ?_
  refine r_getr C S o_76 cf_11 0 rfl (by decide) b_fl_RX11_9 dX11_anHour_118 ?_
  refine lv_iconst (v := 0) C.1 C.2.1 dX11_anHour_121 (by decide) ?_
  refine lv_dup2_11 C.1 C.2.1 dX11_anHour_122 rfl rfl ?_
  refine r_ialdn (j := 0) C S a_77 (by decide) (by decide) dX11_anHour_123 ?_
  refine lv_iconst (v := 1) C.1 C.2.1 dX11_anHour_124 (by decide) ?_
  refine lv_iadd C.1 C.2.1 dX11_anHour_125 ?_
  refine r_iastn (j := 0) C S a_77 (by decide) (by decide) dX11_anHour_126 (fun H locs S => ?_)
  obtain ⟨w23, h, S⟩ := lw_S (P := fun y => St D ad ca s y H locs) h S
  refine lv_aload_n C.1 C.2.1 dX11_anHour_127 rfl (lv_at hl 0 rfl) ?_
  refine lv_iconst (v := 0) C.1 C.2.1 dX11_anHour_128 (by decide) ?_
  refine r_put C S o_76 cf_11 30 rfl (by decide) rfl (zo_nar (by decide)) b_fl_RX11_105 dX11_anHour_129 (fun H locs S => ?_)
  obtain ⟨w24, h, S⟩ := lw_S (P := fun y => St D ad ca s y H locs) h S
  have h9 := Option.some.inj h
  subst h9
  exact r_vret C S hr hlocks dX11_anHour_132
set_option maxHeartbeats 4000000 in
set_option maxRecDepth 100000 in
theorem k_X11_hours_L44 {p : Program} {l : Launch} {e : Env} {s : State} {m : MethodId} {args : Array Value} {below : List Frame} {meth : Method} {c : Code} {D : va_G} {ad sx : Nat → Nat} {ca : Nat → ClassId} (C : Cx D ad sx ca p s m c args RX11 cX11_hours 3) {Q : State → Prop} {v1 : Int32}  : ∀ (n9 : Nat) (z : Int32 × Wd) (o : Int32 × Wd), lp (f_X11_hours_L44 v1) n9 z = some o → (∀ (ls : Array Slot) (H : Heap) (locs : List Loc), lv_has ls 3 [(0, .ref (ad 76))] → St D ad ca s o.2 H locs → W p l e (RM 5 114) s m args below meth c H locs 0 0 Q (F0 m 59 ls [])) → (∀ (ls : Array Slot) (H : Heap) (locs : List Loc), lv_has ls 3 [(0, .ref (ad 76)), (1, .int v1), (2, .int z.1)] → St D ad ca s z.2 H locs → W p l e (RM 5 114) s m args below meth c H locs 0 0 Q (F0 m 44 ls [])) := by
  refine lp_W (HW := fun (z : Int32 × Wd) => ∀ (ls : Array Slot) (H : Heap) (locs : List Loc), lv_has ls 3 [(0, .ref (ad 76)), (1, .int v1), (2, .int z.1)] → St D ad ca s z.2 H locs → W p l e (RM 5 114) s m args below meth c H locs 0 0 Q (F0 m 44 ls [])) (XW := fun (o : Int32 × Wd) => ∀ (ls : Array Slot) (H : Heap) (locs : List Loc), lv_has ls 3 [(0, .ref (ad 76))] → St D ad ca s o.2 H locs → W p l e (RM 5 114) s m args below meth c H locs 0 0 Q (F0 m 59 ls [])) ?_
  intro z x h hN hX ls H locs hl S
  unfold f_X11_hours_L44 at h
  refine lv_iload_n C.1 C.2.1 dX11_hours_44 rfl (lv_at hl 2 rfl) ?_
  refine lv_iload_n C.1 C.2.1 dX11_hours_45 rfl (lv_at hl 1 rfl) ?_
  refine lv_icmp_ge (tgt := 59) C.1 C.2.1 dX11_hours_46 (by decide) (fun q7 => ?_) (fun q7 => ?_)
  · replace h := (if_pos q7).symm.trans h
    exact hX _ (Option.some.inj h).symm _ _ _ (lv_sub hl [0] rfl) S
  · replace h := (if_neg q7).symm.trans h
    refine lv_aload_n C.1 C.2.1 dX11_hours_49 rfl (lv_at hl 0 rfl) ?_
    obtain ⟨o8, e9, h⟩ := Option.bind_eq_some_iff.mp h
    refine r_vv C S hl o_76 cf_11 (k_X11_anHour e9) b_vb_RX11_158 [] rfl [] rfl rfl (Nat.le_of_ble_eq_true rfl) ⟨Nat.le_of_ble_eq_true rfl, Nat.le_of_ble_eq_true rfl⟩ dX11_hours_50 (fun H locs S => ?_)
    refine lv_iinc (v := z.1 + 1) (lv' := [(2, .int (z.1 + 1)), (0, .ref (ad 76)), (1, .int v1)]) C.1 C.2.1 dX11_hours_53 hl (k := 2) rfl rfl (by decide) rfl (fun ls hl => ?_)
    refine lv_goto (tgt := 44) C.1 C.2.1 dX11_hours_56 (by decide) ?_
    exact hN _ (Option.some.inj h).symm _ _ _ (lv_sub hl [1, 2, 0] rfl) S
set_option maxHeartbeats 4000000 in
set_option maxRecDepth 100000 in
theorem k_X11_hours {v1 : Int32}  {w : Wd} {rv : Int32 × Wd} (h : f_X11_hours v1 w = some rv) : CI yX11_hours cX11_hours 3 .int 5 114 (fun ad => [.ref (ad 76), .int v1]) w rv.1 rv.2 := by
  refine CI.of (by decide) ?_
  intro l D ad sx ca p e s m below meth c C S hr hlocks
  have hl := lv_entry ([.ref (ad 76), .int v1]) (n := 3) (Nat.le_of_ble_eq_true rfl)
  rw [lg_entry_eq]
  generalize (lg_sl ([.ref (ad 76), .int v1]) ++ List.replicate (3 - (lg_sl ([.ref (ad 76), .int v1])).length) Slot.unset).toArray = ls at hl ⊢
  have hl : lv_has ls 3 [(0, .ref (ad 76)), (1, .int v1)] := hl
  generalize ha9 : ([.ref (ad 76), .int v1] : List Value).toArray = args at C ⊢
  generalize s.heap = H at S ⊢
  generalize ([] : List Loc) = locs at S ⊢
  unfold f_X11_hours at h
  refine lv_iload_n C.1 C.2.1 dX11_hours_0 rfl (lv_at hl 1 rfl) ?_
  refine lv_iconst (v := 1) C.1 C.2.1 dX11_hours_1 (by decide) ?_
  refine lv_bipush (v := 100) C.1 C.2.1 dX11_hours_2 (by decide) ?_
  obtain ⟨o1, e2, h⟩ := Option.bind_eq_some_iff.mp h
  refine r_si C S hl (k_X11_in e2) b_sb_RX11_97 [.int v1, .int 1, .int 100] rfl [] rfl rfl (Nat.le_of_ble_eq_true rfl) ⟨Nat.le_of_ble_eq_true rfl, Nat.le_of_ble_eq_true rfl⟩ dX11_hours_4 (fun H locs S => ?_)
  refine lv_if_ne (tgt := 17) C.1 C.2.1 dX11_hours_7 (by decide) (fun q3 => ?_) (fun q3 => ?_)
  · replace h := (if_neg q3).symm.trans h
    refine lv_aload_n C.1 C.2.1 dX11_hours_17 rfl (lv_at hl 0 rfl) ?_
    refine r_getr C S o_76 cf_11 0 rfl (by decide) b_fl_RX11_9 dX11_hours_18 ?_
    refine lv_iconst (v := 0) C.1 C.2.1 dX11_hours_21 (by decide) ?_
    refine r_ialdn (j := 0) C S a_77 (by decide) (by decide) dX11_hours_22 ?_
    refine lv_iload_n C.1 C.2.1 dX11_hours_23 rfl (lv_at hl 1 rfl) ?_
    refine lv_iadd C.1 C.2.1 dX11_hours_24 ?_
    refine lv_sipush (v := 2000) C.1 C.2.1 dX11_hours_25 (by decide) ?_
    refine lv_icmp_le (tgt := 38) C.1 C.2.1 dX11_hours_28 (by decide) (fun q4 => ?_) (fun q4 => ?_)
    · replace h := (if_pos q4).symm.trans h
      refine lv_aload_n C.1 C.2.1 dX11_hours_38 rfl (lv_at hl 0 rfl) ?_
      obtain ⟨o5, e6, h⟩ := Option.bind_eq_some_iff.mp h
      refine r_vv C S hl o_76 cf_11 (k_X11_setsAside e6) b_vb_RX11_145 [] rfl [] rfl rfl (Nat.le_of_ble_eq_true rfl) ⟨Nat.le_of_ble_eq_true rfl, Nat.le_of_ble_eq_true rfl⟩ dX11_hours_39 (fun H locs S => ?_)
      refine lv_iconst (v := 0) C.1 C.2.1 dX11_hours_42 (by decide) ?_
      refine lv_istore_n (lv' := [(2, .int 0), (0, .ref (ad 76)), (1, .int v1)]) C.1 C.2.1 dX11_hours_43 rfl hl (by decide) rfl (fun ls hl => ?_)
      obtain ⟨o10, e11, h⟩ := Option.bind_eq_some_iff.mp h
      refine k_X11_hours_L44 C  FU _ _ e11 (fun ls H locs hl S => ?_) ls H locs (lv_sub hl [1, 2, 0] rfl) S
      refine lv_aload_n C.1 C.2.1 dX11_hours_59 rfl (lv_at hl 0 rfl) ?_
      refine r_getr C S o_76 cf_11 0 rfl (by decide) b_fl_RX11_9 dX11_hours_60 ?_
      refine lv_iconst (v := 0) C.1 C.2.1 dX11_hours_63 (by decide) ?_
      refine r_ialdn (j := 0) C S a_77 (by decide) (by decide) dX11_hours_64 ?_
      have h9 := Option.some.inj h
      subst h9
      exact r_iret C S hr hlocks dX11_hours_65
    · replace h := (if_neg q4).symm.trans h
      refine lv_aload_n C.1 C.2.1 dX11_hours_31 rfl (lv_at hl 0 rfl) ?_
      refine r_ldc C (-1000000005) b_cn_RX11_153 dX11_hours_32 ?_
      obtain ⟨o12, e13, h⟩ := Option.bind_eq_some_iff.mp h
      refine r_vi C S hl o_76 cf_11 (k_X11_finds e13) b_vb_RX11_109 [.int (-1000000005)] rfl [] rfl rfl (Nat.le_of_ble_eq_true rfl) ⟨Nat.le_of_ble_eq_true rfl, Nat.le_of_ble_eq_true rfl⟩ dX11_hours_34 (fun H locs S => ?_)
      have h9 := Option.some.inj h
      subst h9
      exact r_iret C S hr hlocks dX11_hours_37
  · replace h := (if_pos q3).symm.trans h
    refine lv_aload_n C.1 C.2.1 dX11_hours_10 rfl (lv_at hl 0 rfl) ?_
    refine r_ldc C (-1000000001) b_cn_RX11_92 dX11_hours_11 ?_
    obtain ⟨o14, e15, h⟩ := Option.bind_eq_some_iff.mp h
    refine r_vi C S hl o_76 cf_11 (k_X11_finds e15) b_vb_RX11_109 [.int (-1000000001)] rfl [] rfl rfl (Nat.le_of_ble_eq_true rfl) ⟨Nat.le_of_ble_eq_true rfl, Nat.le_of_ble_eq_true rfl⟩ dX11_hours_13 (fun H locs S => ?_)
    have h9 := Option.some.inj h
    subst h9
    exact r_iret C S hr hlocks dX11_hours_16
set_option maxHeartbeats 4000000 in
set_option maxRecDepth 100000 in
theorem k_X11_riser_L20 {p : Program} {l : Launch} {e : Env} {s : State} {m : MethodId} {args : Array Value} {below : List Frame} {meth : Method} {c : Code} {D : va_G} {ad sx : Nat → Nat} {ca : Nat → ClassId} (C : Cx D ad sx ca p s m c args RX11 cX11_riser 4) {Q : State → Prop} {w : Wd} {v1 : Int32}  : ∀ (n9 : Nat) (z : Int32 × Int32) (o : Int32 × Int32), lp (f_X11_riser_L20 v1 w) n9 z = some o → (∀ (ls : Array Slot) (H : Heap) (locs : List Loc), lv_has ls 4 [(2, .int o.1)] → St D ad ca s w H locs → W p l e (RM 1 22) s m args below meth c H locs 0 0 Q (F0 m 56 ls [])) → (∀ (ls : Array Slot) (H : Heap) (locs : List Loc), lv_has ls 4 [(0, .ref (ad 76)), (1, .int v1), (2, .int z.1), (3, .int z.2)] → St D ad ca s w H locs → W p l e (RM 1 22) s m args below meth c H locs 0 0 Q (F0 m 20 ls [])) := by
  refine lp_W (HW := fun (z : Int32 × Int32) => ∀ (ls : Array Slot) (H : Heap) (locs : List Loc), lv_has ls 4 [(0, .ref (ad 76)), (1, .int v1), (2, .int z.1), (3, .int z.2)] → St D ad ca s w H locs → W p l e (RM 1 22) s m args below meth c H locs 0 0 Q (F0 m 20 ls [])) (XW := fun (o : Int32 × Int32) => ∀ (ls : Array Slot) (H : Heap) (locs : List Loc), lv_has ls 4 [(2, .int o.1)] → St D ad ca s w H locs → W p l e (RM 1 22) s m args below meth c H locs 0 0 Q (F0 m 56 ls [])) ?_
  intro z x h hN hX ls H locs hl S
  unfold f_X11_riser_L20 at h
  refine lv_iload_n C.1 C.2.1 dX11_riser_20 rfl (lv_at hl 3 rfl) ?_
  refine lv_aload_n C.1 C.2.1 dX11_riser_21 rfl (lv_at hl 0 rfl) ?_
  refine r_getr C S o_76 cf_11 0 rfl (by decide) b_fl_RX11_9 dX11_riser_22 ?_
  refine lv_iconst (v := 4) C.1 C.2.1 dX11_riser_25 (by decide) ?_
  refine r_ialdn (j := 4) C S a_77 (by decide) (by decide) dX11_riser_26 ?_
  refine lv_icmp_ge (tgt := 56) C.1 C.2.1 dX11_riser_27 (by decide) (fun q4 => ?_) (fun q4 => ?_)
  · replace h := (if_pos q4).symm.trans h
    exact hX _ (Option.some.inj h).symm _ _ _ (lv_sub hl [2] rfl) S
  · replace h := (if_neg q4).symm.trans h
    refine lv_iload_n C.1 C.2.1 dX11_riser_30 rfl (lv_at hl 2 rfl) ?_
    refine lv_aload_n C.1 C.2.1 dX11_riser_31 rfl (lv_at hl 0 rfl) ?_
    refine lv_iload_n C.1 C.2.1 dX11_riser_32 rfl (lv_at hl 3 rfl) ?_
    refine lv_iconst (v := 1) C.1 C.2.1 dX11_riser_33 (by decide) ?_
    obtain ⟨o5, e6, h⟩ := Option.bind_eq_some_iff.mp h
    refine r_vi C S hl o_76 cf_11 (k_X11_get e6) b_vb_RX11_101 [.int z.2, .int 1] rfl [.int z.1] rfl rfl (Nat.le_of_ble_eq_true rfl) ⟨Nat.le_of_ble_eq_true rfl, Nat.le_of_ble_eq_true rfl⟩ dX11_riser_34 (fun H locs S => ?_)
    refine lv_iload_n C.1 C.2.1 dX11_riser_37 rfl (lv_at hl 1 rfl) ?_
    refine lv_icmp_ne (tgt := 47) C.1 C.2.1 dX11_riser_38 (by decide) (fun q7 => ?_) (fun q7 => ?_)
    · replace h := (if_neg q7).symm.trans h
      refine lv_iconst (v := 0) C.1 C.2.1 dX11_riser_47 (by decide) ?_
      refine lv_ior C.1 C.2.1 dX11_riser_48 ?_
      refine lv_istore_n (lv' := [(2, .int (z.1 ||| 0)), (0, .ref (ad 76)), (1, .int v1), (3, .int z.2)]) C.1 C.2.1 dX11_riser_49 rfl hl (by decide) rfl (fun ls hl => ?_)
      refine lv_iinc (v := z.2 + 1) (lv' := [(3, .int (z.2 + 1)), (2, .int (z.1 ||| 0)), (0, .ref (ad 76)), (1, .int v1)]) C.1 C.2.1 dX11_riser_50 hl (k := 3) rfl rfl (by decide) rfl (fun ls hl => ?_)
      refine lv_goto (tgt := 20) C.1 C.2.1 dX11_riser_53 (by decide) ?_
      exact hN _ (Option.some.inj h).symm _ _ _ (lv_sub hl [2, 3, 1, 0] rfl) S
    · replace h := (if_pos q7).symm.trans h
      refine lv_iconst (v := 1) C.1 C.2.1 dX11_riser_41 (by decide) ?_
      refine lv_iload_n C.1 C.2.1 dX11_riser_42 rfl (lv_at hl 3 rfl) ?_
      refine lv_ishl C.1 C.2.1 dX11_riser_43 ?_
      refine lv_goto (tgt := 48) C.1 C.2.1 dX11_riser_44 (by decide) ?_
      refine lv_ior C.1 C.2.1 dX11_riser_48 ?_
      refine lv_istore_n (lv' := [(2, .int (z.1 ||| (1 <<< (z.2 &&& 31)))), (0, .ref (ad 76)), (1, .int v1), (3, .int z.2)]) C.1 C.2.1 dX11_riser_49 rfl hl (by decide) rfl (fun ls hl => ?_)
      refine lv_iinc (v := z.2 + 1) (lv' := [(3, .int (z.2 + 1)), (2, .int (z.1 ||| (1 <<< (z.2 &&& 31)))), (0, .ref (ad 76)), (1, .int v1)]) C.1 C.2.1 dX11_riser_50 hl (k := 3) rfl rfl (by decide) rfl (fun ls hl => ?_)
      refine lv_goto (tgt := 20) C.1 C.2.1 dX11_riser_53 (by decide) ?_
      exact hN _ (Option.some.inj h).symm _ _ _ (lv_sub hl [2, 3, 1, 0] rfl) S
set_option maxHeartbeats 4000000 in
set_option maxRecDepth 100000 in
theorem k_X11_riser {v1 : Int32}  {w : Wd} {rv : Int32 × Wd} (h : f_X11_riser v1 w = some rv) : CI yX11_riser cX11_riser 4 .int 1 22 (fun ad => [.ref (ad 76), .int v1]) w rv.1 rv.2 := by
  refine CI.of (by decide) ?_
  intro l D ad sx ca p e s m below meth c C S hr hlocks
  have hl := lv_entry ([.ref (ad 76), .int v1]) (n := 4) (Nat.le_of_ble_eq_true rfl)
  rw [lg_entry_eq]
  generalize (lg_sl ([.ref (ad 76), .int v1]) ++ List.replicate (4 - (lg_sl ([.ref (ad 76), .int v1])).length) Slot.unset).toArray = ls at hl ⊢
  have hl : lv_has ls 4 [(0, .ref (ad 76)), (1, .int v1)] := hl
  generalize ha9 : ([.ref (ad 76), .int v1] : List Value).toArray = args at C ⊢
  generalize s.heap = H at S ⊢
  generalize ([] : List Loc) = locs at S ⊢
  unfold f_X11_riser at h
  refine lv_iload_n C.1 C.2.1 dX11_riser_0 rfl (lv_at hl 1 rfl) ?_
  refine lv_iconst (v := 0) C.1 C.2.1 dX11_riser_1 (by decide) ?_
  refine lv_iconst (v := 3) C.1 C.2.1 dX11_riser_2 (by decide) ?_
  obtain ⟨o1, e2, h⟩ := Option.bind_eq_some_iff.mp h
  refine r_si C S hl (k_X11_in e2) b_sb_RX11_97 [.int v1, .int 0, .int 3] rfl [] rfl rfl (Nat.le_of_ble_eq_true rfl) ⟨Nat.le_of_ble_eq_true rfl, Nat.le_of_ble_eq_true rfl⟩ dX11_riser_3 (fun H locs S => ?_)
  refine lv_if_ne (tgt := 16) C.1 C.2.1 dX11_riser_6 (by decide) (fun q3 => ?_) (fun q3 => ?_)
  · replace h := (if_neg q3).symm.trans h
    refine lv_iconst (v := 0) C.1 C.2.1 dX11_riser_16 (by decide) ?_
    refine lv_istore_n (lv' := [(2, .int 0), (0, .ref (ad 76)), (1, .int v1)]) C.1 C.2.1 dX11_riser_17 rfl hl (by decide) rfl (fun ls hl => ?_)
    refine lv_iconst (v := 0) C.1 C.2.1 dX11_riser_18 (by decide) ?_
    refine lv_istore_n (lv' := [(3, .int 0), (2, .int 0), (0, .ref (ad 76)), (1, .int v1)]) C.1 C.2.1 dX11_riser_19 rfl hl (by decide) rfl (fun ls hl => ?_)
    obtain ⟨o8, e9, h⟩ := Option.bind_eq_some_iff.mp h
    refine k_X11_riser_L20 C  FU _ _ e9 (fun ls H locs hl S => ?_) ls H locs (lv_sub hl [2, 3, 1, 0] rfl) S
    refine lv_iload_n C.1 C.2.1 dX11_riser_56 rfl (lv_at hl 0 rfl) ?_
    have h9 := Option.some.inj h
    subst h9
    exact r_iret C S hr hlocks dX11_riser_57
  · replace h := (if_pos q3).symm.trans h
    refine lv_aload_n C.1 C.2.1 dX11_riser_9 rfl (lv_at hl 0 rfl) ?_
    refine r_ldc C (-1000000001) b_cn_RX11_92 dX11_riser_10 ?_
    obtain ⟨o10, e11, h⟩ := Option.bind_eq_some_iff.mp h
    refine r_vi C S hl o_76 cf_11 (k_X11_finds e11) b_vb_RX11_109 [.int (-1000000001)] rfl [] rfl rfl (Nat.le_of_ble_eq_true rfl) ⟨Nat.le_of_ble_eq_true rfl, Nat.le_of_ble_eq_true rfl⟩ dX11_riser_12 (fun H locs S => ?_)
    have h9 := Option.some.inj h
    subst h9
    exact r_iret C S hr hlocks dX11_riser_15
set_option maxHeartbeats 4000000 in
set_option maxRecDepth 100000 in
theorem k_X11_feed_L38 {p : Program} {l : Launch} {e : Env} {s : State} {m : MethodId} {args : Array Value} {below : List Frame} {meth : Method} {c : Code} {D : va_G} {ad sx : Nat → Nat} {ca : Nat → ClassId} (C : Cx D ad sx ca p s m c args RX11 cX11_feed 4) {Q : State → Prop} {v1 : Int32}  : ∀ (n9 : Nat) (z : Int32 × Wd) (o : Int32 × Wd), lp (f_X11_feed_L38 v1) n9 z = some o → (∀ (ls : Array Slot) (H : Heap) (locs : List Loc), lv_has ls 4 [(0, .ref (ad 76))] → St D ad ca s o.2 H locs → W p l e (RM 1 22) s m args below meth c H locs 0 0 Q (F0 m 77 ls [])) → (∀ (ls : Array Slot) (H : Heap) (locs : List Loc), lv_has ls 4 [(0, .ref (ad 76)), (1, .int v1), (3, .int z.1)] → St D ad ca s z.2 H locs → W p l e (RM 1 22) s m args below meth c H locs 0 0 Q (F0 m 38 ls [])) := by
  refine lp_W (HW := fun (z : Int32 × Wd) => ∀ (ls : Array Slot) (H : Heap) (locs : List Loc), lv_has ls 4 [(0, .ref (ad 76)), (1, .int v1), (3, .int z.1)] → St D ad ca s z.2 H locs → W p l e (RM 1 22) s m args below meth c H locs 0 0 Q (F0 m 38 ls [])) (XW := fun (o : Int32 × Wd) => ∀ (ls : Array Slot) (H : Heap) (locs : List Loc), lv_has ls 4 [(0, .ref (ad 76))] → St D ad ca s o.2 H locs → W p l e (RM 1 22) s m args below meth c H locs 0 0 Q (F0 m 77 ls [])) ?_
  intro z x h hN hX ls H locs hl S
  unfold f_X11_feed_L38 at h
  refine lv_iload_n C.1 C.2.1 dX11_feed_38 rfl (lv_at hl 2 rfl) ?_
  refine lv_if_lt (tgt := 77) C.1 C.2.1 dX11_feed_39 (by decide) (fun q5 => ?_) (fun q5 => ?_)
  · replace h := (if_pos q5).symm.trans h
    exact hX _ (Option.some.inj h).symm _ _ _ (lv_sub hl [0] rfl) S
  · replace h := (if_neg q5).symm.trans h
    refine lv_aload_n C.1 C.2.1 dX11_feed_42 rfl (lv_at hl 0 rfl) ?_
    refine r_getr C S o_76 cf_11 17 rfl (by decide) b_fl_RX11_55 dX11_feed_43 ?_
    refine lv_aload_n C.1 C.2.1 dX11_feed_46 rfl (lv_at hl 0 rfl) ?_
    refine r_geti C S o_76 cf_11 18 rfl (by decide) b_fl_RX11_161 dX11_feed_47 ?_
    refine lv_iload_n C.1 C.2.1 dX11_feed_50 rfl (lv_at hl 1 rfl) ?_
    refine lv_bipush (v := 8) C.1 C.2.1 dX11_feed_51 (by decide) ?_
    refine lv_iload_n C.1 C.2.1 dX11_feed_53 rfl (lv_at hl 2 rfl) ?_
    refine lv_imul C.1 C.2.1 dX11_feed_54 ?_
    refine lv_ishr C.1 C.2.1 dX11_feed_55 ?_
    refine lv_sipush (v := 255) C.1 C.2.1 dX11_feed_56 (by decide) ?_
    refine lv_iand C.1 C.2.1 dX11_feed_59 ?_
    obtain ⟨g6, h⟩ := gd_some h
    refine r_iast C S a_92 g6 dX11_feed_60 (fun H locs S => ?_)
    obtain ⟨w7, h, S⟩ := lw_S (P := fun y => St D ad ca s y H locs) h S
    refine lv_aload_n C.1 C.2.1 dX11_feed_61 rfl (lv_at hl 0 rfl) ?_
    refine lv_dup C.1 C.2.1 dX11_feed_62 rfl ?_
    refine r_geti C S o_76 cf_11 18 rfl (by decide) b_fl_RX11_161 dX11_feed_63 ?_
    refine lv_iconst (v := 1) C.1 C.2.1 dX11_feed_66 (by decide) ?_
    refine lv_iadd C.1 C.2.1 dX11_feed_67 ?_
    refine r_put C S o_76 cf_11 18 rfl (by decide) rfl (ni _) b_fl_RX11_161 dX11_feed_68 (fun H locs S => ?_)
    obtain ⟨w8, h, S⟩ := lw_S (P := fun y => St D ad ca s y H locs) h S
    refine lv_iinc (v := z.1 + (-1)) (lv' := [(3, .int (z.1 + (-1))), (0, .ref (ad 76)), (1, .int v1)]) C.1 C.2.1 dX11_feed_71 hl (k := 2) rfl rfl (by decide) rfl (fun ls hl => ?_)
    refine lv_goto (tgt := 38) C.1 C.2.1 dX11_feed_74 (by decide) ?_
    exact hN _ (Option.some.inj h).symm _ _ _ (lv_sub hl [1, 2, 0] rfl) S
set_option maxHeartbeats 4000000 in
set_option maxRecDepth 100000 in
theorem k_X11_feed {v1 : Int32} {v2 : Int32}  {w : Wd} {rv : Int32 × Wd} (h : f_X11_feed v1 v2 w = some rv) : CI yX11_feed cX11_feed 4 .int 1 22 (fun ad => [.ref (ad 76), .int v1, .int v2]) w rv.1 rv.2 := by
  refine CI.of (by decide) ?_
  intro l D ad sx ca p e s m below meth c C S hr hlocks
  have hl := lv_entry ([.ref (ad 76), .int v1, .int v2]) (n := 4) (Nat.le_of_ble_eq_true rfl)
  rw [lg_entry_eq]
  generalize (lg_sl ([.ref (ad 76), .int v1, .int v2]) ++ List.replicate (4 - (lg_sl ([.ref (ad 76), .int v1, .int v2])).length) Slot.unset).toArray = ls at hl ⊢
  have hl : lv_has ls 4 [(0, .ref (ad 76)), (1, .int v1), (2, .int v2)] := hl
  generalize ha9 : ([.ref (ad 76), .int v1, .int v2] : List Value).toArray = args at C ⊢
  generalize s.heap = H at S ⊢
  generalize ([] : List Loc) = locs at S ⊢
  unfold f_X11_feed at h
  refine lv_iload_n C.1 C.2.1 dX11_feed_0 rfl (lv_at hl 2 rfl) ?_
  refine lv_iconst (v := 1) C.1 C.2.1 dX11_feed_1 (by decide) ?_
  refine lv_iconst (v := 4) C.1 C.2.1 dX11_feed_2 (by decide) ?_
  obtain ⟨o1, e2, h⟩ := Option.bind_eq_some_iff.mp h
  refine r_si C S hl (k_X11_in e2) b_sb_RX11_97 [.int v2, .int 1, .int 4] rfl [] rfl rfl (Nat.le_of_ble_eq_true rfl) ⟨Nat.le_of_ble_eq_true rfl, Nat.le_of_ble_eq_true rfl⟩ dX11_feed_3 (fun H locs S => ?_)
  refine lv_if_ne (tgt := 16) C.1 C.2.1 dX11_feed_6 (by decide) (fun q3 => ?_) (fun q3 => ?_)
  · replace h := (if_neg q3).symm.trans h
    refine lv_aload_n C.1 C.2.1 dX11_feed_16 rfl (lv_at hl 0 rfl) ?_
    refine r_geti C S o_76 cf_11 18 rfl (by decide) b_fl_RX11_161 dX11_feed_17 ?_
    refine lv_iload_n C.1 C.2.1 dX11_feed_20 rfl (lv_at hl 2 rfl) ?_
    refine lv_iadd C.1 C.2.1 dX11_feed_21 ?_
    refine lv_bipush (v := 80) C.1 C.2.1 dX11_feed_22 (by decide) ?_
    refine lv_icmp_le (tgt := 34) C.1 C.2.1 dX11_feed_24 (by decide) (fun q4 => ?_) (fun q4 => ?_)
    · replace h := (if_pos q4).symm.trans h
      refine lv_iload_n C.1 C.2.1 dX11_feed_34 rfl (lv_at hl 2 rfl) ?_
      refine lv_iconst (v := 1) C.1 C.2.1 dX11_feed_35 (by decide) ?_
      refine lv_isub C.1 C.2.1 dX11_feed_36 ?_
      refine lv_istore_n (lv' := [(3, .int (v2 - 1)), (0, .ref (ad 76)), (1, .int v1), (2, .int v2)]) C.1 C.2.1 dX11_feed_37 rfl hl (by decide) rfl (fun ls hl => ?_)
      obtain ⟨o9, e10, h⟩ := Option.bind_eq_some_iff.mp h
      refine k_X11_feed_L38 C  FU _ _ e10 (fun ls H locs hl S => ?_) ls H locs (lv_sub hl [1, 2, 0] rfl) S
      refine lv_aload_n C.1 C.2.1 dX11_feed_77 rfl (lv_at hl 0 rfl) ?_
      refine r_geti C S o_76 cf_11 18 rfl (by decide) b_fl_RX11_161 dX11_feed_78 ?_
      have h9 := Option.some.inj h
      subst h9
      exact r_iret C S hr hlocks dX11_feed_81
    · replace h := (if_neg q4).symm.trans h
      refine lv_aload_n C.1 C.2.1 dX11_feed_27 rfl (lv_at hl 0 rfl) ?_
      refine r_ldc C (-1000000002) b_cn_RX11_113 dX11_feed_28 ?_
      obtain ⟨o11, e12, h⟩ := Option.bind_eq_some_iff.mp h
      refine r_vi C S hl o_76 cf_11 (k_X11_finds e12) b_vb_RX11_109 [.int (-1000000002)] rfl [] rfl rfl (Nat.le_of_ble_eq_true rfl) ⟨Nat.le_of_ble_eq_true rfl, Nat.le_of_ble_eq_true rfl⟩ dX11_feed_30 (fun H locs S => ?_)
      have h9 := Option.some.inj h
      subst h9
      exact r_iret C S hr hlocks dX11_feed_33
  · replace h := (if_pos q3).symm.trans h
    refine lv_aload_n C.1 C.2.1 dX11_feed_9 rfl (lv_at hl 0 rfl) ?_
    refine r_ldc C (-1000000001) b_cn_RX11_92 dX11_feed_10 ?_
    obtain ⟨o13, e14, h⟩ := Option.bind_eq_some_iff.mp h
    refine r_vi C S hl o_76 cf_11 (k_X11_finds e14) b_vb_RX11_109 [.int (-1000000001)] rfl [] rfl rfl (Nat.le_of_ble_eq_true rfl) ⟨Nat.le_of_ble_eq_true rfl, Nat.le_of_ble_eq_true rfl⟩ dX11_feed_12 (fun H locs S => ?_)
    have h9 := Option.some.inj h
    subst h9
    exact r_iret C S hr hlocks dX11_feed_15
set_option maxHeartbeats 4000000 in
set_option maxRecDepth 100000 in
theorem k_X11_wipe   {w : Wd} {rv : Int32 × Wd} (h : f_X11_wipe w = some rv) : CI yX11_wipe cX11_wipe 2 .int 0 0 (fun ad => [.ref (ad 76)]) w rv.1 rv.2 := by
  refine CI.of (by decide) ?_
  intro l D ad sx ca p e s m below meth c C S hr hlocks
  have hl := lv_entry ([.ref (ad 76)]) (n := 2) (Nat.le_of_ble_eq_true rfl)
  rw [lg_entry_eq]
  generalize (lg_sl ([.ref (ad 76)]) ++ List.replicate (2 - (lg_sl ([.ref (ad 76)])).length) Slot.unset).toArray = ls at hl ⊢
  have hl : lv_has ls 2 [(0, .ref (ad 76))] := hl
  generalize ha9 : ([.ref (ad 76)] : List Value).toArray = args at C ⊢
  generalize s.heap = H at S ⊢
  generalize ([] : List Loc) = locs at S ⊢
  unfold f_X11_wipe at h
  refine lv_aload_n C.1 C.2.1 dX11_wipe_0 rfl (lv_at hl 0 rfl) ?_
  refine r_geti C S o_76 cf_11 18 rfl (by decide) b_fl_RX11_161 dX11_wipe_1 ?_
  refine lv_istore_n (lv' := [(1, .int (w.1 76 18)), (0, .ref (ad 76))]) C.1 C.2.1 dX11_wipe_4 rfl hl (by decide) rfl (fun ls hl => ?_)
  refine lv_aload_n C.1 C.2.1 dX11_wipe_5 rfl (lv_at hl 1 rfl) ?_
  refine lv_iconst (v := 0) C.1 C.2.1 dX11_wipe_6 (by decide) ?_
  refine r_put C S o_76 cf_11 18 rfl (by decide) rfl (ni _) b_fl_RX11_161 dX11_wipe_7 (fun H locs S => ?_)
  obtain ⟨w1, h, S⟩ := lw_S (P := fun y => St D ad ca s y H locs) h S
  refine lv_iload_n C.1 C.2.1 dX11_wipe_10 rfl (lv_at hl 0 rfl) ?_
  have h9 := Option.some.inj h
  subst h9
  exact r_iret C S hr hlocks dX11_wipe_11
set_option maxHeartbeats 4000000 in
set_option maxRecDepth 100000 in
theorem k_X11_emit {v1 : Int32}  {w : Wd} {rv : Wd} (h : f_X11_emit v1 w = some rv) : CV yX11_emit cX11_emit 2 0 0 (fun ad => [.ref (ad 76), .int v1]) w rv := by
  refine CV.of (by decide) ?_
  intro l D ad sx ca p e s m below meth c C S hr hlocks
  have hl := lv_entry ([.ref (ad 76), .int v1]) (n := 2) (Nat.le_of_ble_eq_true rfl)
  rw [lg_entry_eq]
  generalize (lg_sl ([.ref (ad 76), .int v1]) ++ List.replicate (2 - (lg_sl ([.ref (ad 76), .int v1])).length) Slot.unset).toArray = ls at hl ⊢
  have hl : lv_has ls 2 [(0, .ref (ad 76)), (1, .int v1)] := hl
  generalize ha9 : ([.ref (ad 76), .int v1] : List Value).toArray = args at C ⊢
  generalize s.heap = H at S ⊢
  generalize ([] : List Loc) = locs at S ⊢
  unfold f_X11_emit at h
  refine lv_aload_n C.1 C.2.1 dX11_emit_0 rfl (lv_at hl 0 rfl) ?_
  refine r_getr C S o_76 cf_11 19 rfl (by decide) b_fl_RX11_58 dX11_emit_1 ?_
  refine lv_aload_n C.1 C.2.1 dX11_emit_4 rfl (lv_at hl 0 rfl) ?_
  refine r_geti C S o_76 cf_11 20 rfl (by decide) b_fl_RX11_164 dX11_emit_5 ?_
  refine lv_iload_n C.1 C.2.1 dX11_emit_8 rfl (lv_at hl 1 rfl) ?_
  obtain ⟨g1, h⟩ := gd_some h
  refine r_iast C S a_93 g1 dX11_emit_9 (fun H locs S => ?_)
  obtain ⟨w2, h, S⟩ := lw_S (P := fun y => St D ad ca s y H locs) h S
  refine lv_aload_n C.1 C.2.1 dX11_emit_10 rfl (lv_at hl 0 rfl) ?_
  refine lv_dup C.1 C.2.1 dX11_emit_11 rfl ?_
  refine r_geti C S o_76 cf_11 20 rfl (by decide) b_fl_RX11_164 dX11_emit_12 ?_
  refine lv_iconst (v := 1) C.1 C.2.1 dX11_emit_15 (by decide) ?_
  refine lv_iadd C.1 C.2.1 dX11_emit_16 ?_
  refine r_put C S o_76 cf_11 20 rfl (by decide) rfl (ni _) b_fl_RX11_164 dX11_emit_17 (fun H locs S => ?_)
  obtain ⟨w3, h, S⟩ := lw_S (P := fun y => St D ad ca s y H locs) h S
  have h9 := Option.some.inj h
  subst h9
  exact r_vret C S hr hlocks dX11_emit_20
set_option maxHeartbeats 4000000 in
set_option maxRecDepth 100000 in
theorem k_X11_settles_J46 {p : Program} {l : Launch} {e : Env} {s : State} {m : MethodId} {args : Array Value} {below : List Frame} {meth : Method} {c : Code} {D : va_G} {ad sx : Nat → Nat} {ca : Nat → ClassId} (C : Cx D ad sx ca p s m c args RX11 cX11_settles 2) {Q : State → Prop} {w : Wd} {v1 : Int32}  {x : (Wd) ⊕ (Wd)} (h : f_X11_settles_J46 v1 w = some x) (hN : ∀ z, x = .inl z → ∀ (ls : Array Slot) (H : Heap) (locs : List Loc), lv_has ls 2 [(0, .ref (ad 76)), (1, .int v1)] → St D ad ca s z H locs → W p l e (RM 1 21) s m args below meth c H locs 0 0 Q (F0 m 0 ls [])) (hX : ∀ o, x = .inr o → ∀ (ls : Array Slot) (H : Heap) (locs : List Loc), lv_has ls 2 [] → St D ad ca s o H locs → W p l e (RM 1 21) s m args below meth c H locs 0 0 Q (F0 m 72 ls [])) {ls : Array Slot} {H : Heap} {locs : List Loc} (hl : lv_has ls 2 [(0, .ref (ad 76)), (1, .int v1)]) (S : St D ad ca s w H locs) : W p l e (RM 1 21) s m args below meth c H locs 0 0 Q (F0 m 46 ls []) := by
  unfold f_X11_settles_J46 at h
  refine lv_aload_n C.1 C.2.1 dX11_settles_46 rfl (lv_at hl 0 rfl) ?_
  refine lv_dup C.1 C.2.1 dX11_settles_47 rfl ?_
  refine r_geti C S o_76 cf_11 22 rfl (by decide) b_fl_RX11_167 dX11_settles_48 ?_
  refine lv_iconst (v := 1) C.1 C.2.1 dX11_settles_51 (by decide) ?_
  refine lv_isub C.1 C.2.1 dX11_settles_52 ?_
  refine r_put C S o_76 cf_11 22 rfl (by decide) rfl (ni _) b_fl_RX11_167 dX11_settles_53 (fun H locs S => ?_)
  obtain ⟨w5, h, S⟩ := lw_S (P := fun y => St D ad ca s y H locs) h S
  refine lv_aload_n C.1 C.2.1 dX11_settles_56 rfl (lv_at hl 0 rfl) ?_
  refine lv_aload_n C.1 C.2.1 dX11_settles_57 rfl (lv_at hl 0 rfl) ?_
  refine r_getr C S o_76 cf_11 21 rfl (by decide) b_fl_RX11_61 dX11_settles_58 ?_
  refine lv_aload_n C.1 C.2.1 dX11_settles_61 rfl (lv_at hl 0 rfl) ?_
  refine r_geti C S o_76 cf_11 22 rfl (by decide) b_fl_RX11_167 dX11_settles_62 ?_
  obtain ⟨g6, h⟩ := gd_some h
  refine r_iald C S a_94 g6 dX11_settles_65 ?_
  obtain ⟨o7, e8, h⟩ := Option.bind_eq_some_iff.mp h
  refine r_vv C S hl o_76 cf_11 (k_X11_emit e8) b_vb_RX11_170 [.int (w5.1 94 ((w5.1 76 22).toNatClampNeg))] rfl [] rfl rfl (Nat.le_of_ble_eq_true rfl) ⟨Nat.le_of_ble_eq_true rfl, Nat.le_of_ble_eq_true rfl⟩ dX11_settles_66 (fun H locs S => ?_)
  refine lv_goto (tgt := 0) C.1 C.2.1 dX11_settles_69 (by decide) ?_
  exact hN _ (Option.some.inj h).symm _ _ _ (lv_sub hl [0, 1] rfl) S
set_option maxHeartbeats 4000000 in
set_option maxRecDepth 100000 in
theorem k_X11_settles_L0 {p : Program} {l : Launch} {e : Env} {s : State} {m : MethodId} {args : Array Value} {below : List Frame} {meth : Method} {c : Code} {D : va_G} {ad sx : Nat → Nat} {ca : Nat → ClassId} (C : Cx D ad sx ca p s m c args RX11 cX11_settles 2) {Q : State → Prop} {v1 : Int32}  : ∀ (n9 : Nat) (z : Wd) (o : Wd), lp (f_X11_settles_L0 v1) n9 z = some o → (∀ (ls : Array Slot) (H : Heap) (locs : List Loc), lv_has ls 2 [] → St D ad ca s o H locs → W p l e (RM 1 21) s m args below meth c H locs 0 0 Q (F0 m 72 ls [])) → (∀ (ls : Array Slot) (H : Heap) (locs : List Loc), lv_has ls 2 [(0, .ref (ad 76)), (1, .int v1)] → St D ad ca s z H locs → W p l e (RM 1 21) s m args below meth c H locs 0 0 Q (F0 m 0 ls [])) := by
  refine lp_W (HW := fun (z : Wd) => ∀ (ls : Array Slot) (H : Heap) (locs : List Loc), lv_has ls 2 [(0, .ref (ad 76)), (1, .int v1)] → St D ad ca s z H locs → W p l e (RM 1 21) s m args below meth c H locs 0 0 Q (F0 m 0 ls [])) (XW := fun (o : Wd) => ∀ (ls : Array Slot) (H : Heap) (locs : List Loc), lv_has ls 2 [] → St D ad ca s o H locs → W p l e (RM 1 21) s m args below meth c H locs 0 0 Q (F0 m 72 ls [])) ?_
  intro z x h hN hX ls H locs hl S
  unfold f_X11_settles_L0 at h
  refine lv_aload_n C.1 C.2.1 dX11_settles_0 rfl (lv_at hl 0 rfl) ?_
  refine r_geti C S o_76 cf_11 22 rfl (by decide) b_fl_RX11_167 dX11_settles_1 ?_
  refine lv_if_le (tgt := 72) C.1 C.2.1 dX11_settles_4 (by decide) (fun q1 => ?_) (fun q1 => ?_)
  · replace h := (if_pos q1).symm.trans h
    exact hX _ (Option.some.inj h).symm _ _ _ (lv_sub hl [] rfl) S
  · replace h := (if_neg q1).symm.trans h
    refine lv_aload_n C.1 C.2.1 dX11_settles_7 rfl (lv_at hl 0 rfl) ?_
    refine r_getr C S o_76 cf_11 21 rfl (by decide) b_fl_RX11_61 dX11_settles_8 ?_
    refine lv_aload_n C.1 C.2.1 dX11_settles_11 rfl (lv_at hl 0 rfl) ?_
    refine r_geti C S o_76 cf_11 22 rfl (by decide) b_fl_RX11_167 dX11_settles_12 ?_
    refine lv_iconst (v := 1) C.1 C.2.1 dX11_settles_15 (by decide) ?_
    refine lv_isub C.1 C.2.1 dX11_settles_16 ?_
    obtain ⟨g2, h⟩ := gd_some h
    refine r_iald C S a_94 g2 dX11_settles_17 ?_
    refine lv_sipush (v := 10100) C.1 C.2.1 dX11_settles_18 (by decide) ?_
    refine lv_icmp_lt (tgt := 72) C.1 C.2.1 dX11_settles_21 (by decide) (fun q3 => ?_) (fun q3 => ?_)
    · replace h := (if_pos q3).symm.trans h
      exact hX _ (Option.some.inj h).symm _ _ _ (lv_sub hl [] rfl) S
    · replace h := (if_neg q3).symm.trans h
      refine lv_iload_n C.1 C.2.1 dX11_settles_24 rfl (lv_at hl 1 rfl) ?_
      refine lv_iconst (v := 1) C.1 C.2.1 dX11_settles_25 (by decide) ?_
      refine lv_icmp_eq (tgt := 46) C.1 C.2.1 dX11_settles_26 (by decide) (fun q4 => ?_) (fun q4 => ?_)
      · replace h := (if_pos q4).symm.trans h
        exact k_X11_settles_J46 C  h hN hX (lv_sub hl [0, 1] rfl) S
      · replace h := (if_neg q4).symm.trans h
        refine lv_aload_n C.1 C.2.1 dX11_settles_29 rfl (lv_at hl 0 rfl) ?_
        refine r_getr C S o_76 cf_11 21 rfl (by decide) b_fl_RX11_61 dX11_settles_30 ?_
        refine lv_aload_n C.1 C.2.1 dX11_settles_33 rfl (lv_at hl 0 rfl) ?_
        refine r_geti C S o_76 cf_11 22 rfl (by decide) b_fl_RX11_167 dX11_settles_34 ?_
        refine lv_iconst (v := 1) C.1 C.2.1 dX11_settles_37 (by decide) ?_
        refine lv_isub C.1 C.2.1 dX11_settles_38 ?_
        obtain ⟨g9, h⟩ := gd_some h
        refine r_iald C S a_94 g9 dX11_settles_39 ?_
        refine lv_sipush (v := 10102) C.1 C.2.1 dX11_settles_40 (by decide) ?_
        refine lv_icmp_lt (tgt := 72) C.1 C.2.1 dX11_settles_43 (by decide) (fun q10 => ?_) (fun q10 => ?_)
        · replace h := (if_pos q10).symm.trans h
          exact hX _ (Option.some.inj h).symm _ _ _ (lv_sub hl [] rfl) S
        · replace h := (if_neg q10).symm.trans h
          exact k_X11_settles_J46 C  h hN hX (lv_sub hl [0, 1] rfl) S
set_option maxHeartbeats 4000000 in
set_option maxRecDepth 100000 in
theorem k_X11_settles {v1 : Int32}  {w : Wd} {rv : Wd} (h : f_X11_settles v1 w = some rv) : CV yX11_settles cX11_settles 2 1 21 (fun ad => [.ref (ad 76), .int v1]) w rv := by
  refine CV.of (by decide) ?_
  intro l D ad sx ca p e s m below meth c C S hr hlocks
  have hl := lv_entry ([.ref (ad 76), .int v1]) (n := 2) (Nat.le_of_ble_eq_true rfl)
  rw [lg_entry_eq]
  generalize (lg_sl ([.ref (ad 76), .int v1]) ++ List.replicate (2 - (lg_sl ([.ref (ad 76), .int v1])).length) Slot.unset).toArray = ls at hl ⊢
  have hl : lv_has ls 2 [(0, .ref (ad 76)), (1, .int v1)] := hl
  generalize ha9 : ([.ref (ad 76), .int v1] : List Value).toArray = args at C ⊢
  generalize s.heap = H at S ⊢
  generalize ([] : List Loc) = locs at S ⊢
  unfold f_X11_settles at h
  obtain ⟨o11, e12, h⟩ := Option.bind_eq_some_iff.mp h
  refine k_X11_settles_L0 C  FU _ _ e12 (fun ls H locs hl S => ?_) ls H locs (lv_sub hl [0, 1] rfl) S
  have h9 := Option.some.inj h
  subst h9
  exact r_vret C S hr hlocks dX11_settles_72
set_option maxHeartbeats 4000000 in
set_option maxRecDepth 100000 in
theorem k_X11_waits {v1 : Int32}  {w : Wd} {rv : Wd} (h : f_X11_waits v1 w = some rv) : CV yX11_waits cX11_waits 2 0 0 (fun ad => [.ref (ad 76), .int v1]) w rv := by
  refine CV.of (by decide) ?_
  intro l D ad sx ca p e s m below meth c C S hr hlocks
  have hl := lv_entry ([.ref (ad 76), .int v1]) (n := 2) (Nat.le_of_ble_eq_true rfl)
  rw [lg_entry_eq]
  generalize (lg_sl ([.ref (ad 76), .int v1]) ++ List.replicate (2 - (lg_sl ([.ref (ad 76), .int v1])).length) Slot.unset).toArray = ls at hl ⊢
  have hl : lv_has ls 2 [(0, .ref (ad 76)), (1, .int v1)] := hl
  generalize ha9 : ([.ref (ad 76), .int v1] : List Value).toArray = args at C ⊢
  generalize s.heap = H at S ⊢
  generalize ([] : List Loc) = locs at S ⊢
  unfold f_X11_waits at h
  refine lv_aload_n C.1 C.2.1 dX11_waits_0 rfl (lv_at hl 0 rfl) ?_
  refine r_getr C S o_76 cf_11 21 rfl (by decide) b_fl_RX11_61 dX11_waits_1 ?_
  refine lv_aload_n C.1 C.2.1 dX11_waits_4 rfl (lv_at hl 0 rfl) ?_
  refine r_geti C S o_76 cf_11 22 rfl (by decide) b_fl_RX11_167 dX11_waits_5 ?_
  refine lv_iload_n C.1 C.2.1 dX11_waits_8 rfl (lv_at hl 1 rfl) ?_
  obtain ⟨g1, h⟩ := gd_some h
  refine r_iast C S a_94 g1 dX11_waits_9 (fun H locs S => ?_)
  obtain ⟨w2, h, S⟩ := lw_S (P := fun y => St D ad ca s y H locs) h S
  refine lv_aload_n C.1 C.2.1 dX11_waits_10 rfl (lv_at hl 0 rfl) ?_
  refine lv_dup C.1 C.2.1 dX11_waits_11 rfl ?_
  refine r_geti C S o_76 cf_11 22 rfl (by decide) b_fl_RX11_167 dX11_waits_12 ?_
  refine lv_iconst (v := 1) C.1 C.2.1 dX11_waits_15 (by decide) ?_
  refine lv_iadd C.1 C.2.1 dX11_waits_16 ?_
  refine r_put C S o_76 cf_11 22 rfl (by decide) rfl (ni _) b_fl_RX11_167 dX11_waits_17 (fun H locs S => ?_)
  obtain ⟨w3, h, S⟩ := lw_S (P := fun y => St D ad ca s y H locs) h S
  refine lv_aload_n C.1 C.2.1 dX11_waits_20 rfl (lv_at hl 0 rfl) ?_
  refine lv_dup C.1 C.2.1 dX11_waits_21 rfl ?_
  refine r_geti C S o_76 cf_11 24 rfl (by decide) b_fl_RX11_174 dX11_waits_22 ?_
  refine lv_iconst (v := 1) C.1 C.2.1 dX11_waits_25 (by decide) ?_
  refine lv_iadd C.1 C.2.1 dX11_waits_26 ?_
  refine r_put C S o_76 cf_11 24 rfl (by decide) rfl (ni _) b_fl_RX11_174 dX11_waits_27 (fun H locs S => ?_)
  obtain ⟨w4, h, S⟩ := lw_S (P := fun y => St D ad ca s y H locs) h S
  have h9 := Option.some.inj h
  subst h9
  exact r_vret C S hr hlocks dX11_waits_30
set_option maxHeartbeats 4000000 in
set_option maxRecDepth 100000 in
theorem k_X11_nameOf {v0 : Int32}  {w : Wd} {rv : Int32} (h : f_X11_nameOf v0 = some rv) : CI yX11_nameOf cX11_nameOf 1 .int 0 0 (fun ad => [.int v0]) w rv w := by
  refine CI.of (by decide) ?_
  intro l D ad sx ca p e s m below meth c C S hr hlocks
  have hl := lv_entry ([.int v0]) (n := 1) (Nat.le_of_ble_eq_true rfl)
  rw [lg_entry_eq]
  generalize (lg_sl ([.int v0]) ++ List.replicate (1 - (lg_sl ([.int v0])).length) Slot.unset).toArray = ls at hl ⊢
  have hl : lv_has ls 1 [(0, .int v0)] := hl
  generalize ha9 : ([.int v0] : List Value).toArray = args at C ⊢
  generalize s.heap = H at S ⊢
  generalize ([] : List Loc) = locs at S ⊢
  unfold f_X11_nameOf at h
  refine lv_iload_n C.1 C.2.1 dX11_nameOf_0 rfl (lv_at hl 0 rfl) ?_
  by_cases q1 : v0 = 102
  · replace h := (if_pos q1).symm.trans h
    refine lv_tableIn (off := 97) (tgt := 98) C.1 C.2.1 dX11_nameOf_1 (by rw [q1]; decide) (by rw [q1]; decide) (by rw [q1]; rfl) (by decide) ?_
    refine lv_iconst (v := 5) C.1 C.2.1 dX11_nameOf_98 (by decide) ?_
    have h9 := Option.some.inj h
    subst h9
    exact r_iret C S hr hlocks dX11_nameOf_99
  · replace h := (if_neg q1).symm.trans h
    by_cases q2 : v0 = 103
    · replace h := (if_pos q2).symm.trans h
      refine lv_tableIn (off := 91) (tgt := 92) C.1 C.2.1 dX11_nameOf_1 (by rw [q2]; decide) (by rw [q2]; decide) (by rw [q2]; rfl) (by decide) ?_
      refine lv_iconst (v := 2) C.1 C.2.1 dX11_nameOf_92 (by decide) ?_
      have h9 := Option.some.inj h
      subst h9
      exact r_iret C S hr hlocks dX11_nameOf_93
    · replace h := (if_neg q2).symm.trans h
      by_cases q3 : v0 = 104
      · replace h := (if_pos q3).symm.trans h
        refine lv_tableIn (off := 105) (tgt := 106) C.1 C.2.1 dX11_nameOf_1 (by rw [q3]; decide) (by rw [q3]; decide) (by rw [q3]; rfl) (by decide) ?_
        refine lv_iconst (v := (-1)) C.1 C.2.1 dX11_nameOf_106 (by decide) ?_
        have h9 := Option.some.inj h
        subst h9
        exact r_iret C S hr hlocks dX11_nameOf_107
      · replace h := (if_neg q3).symm.trans h
        by_cases q4 : v0 = 105
        · replace h := (if_pos q4).symm.trans h
          refine lv_tableIn (off := 105) (tgt := 106) C.1 C.2.1 dX11_nameOf_1 (by rw [q4]; decide) (by rw [q4]; decide) (by rw [q4]; rfl) (by decide) ?_
          refine lv_iconst (v := (-1)) C.1 C.2.1 dX11_nameOf_106 (by decide) ?_
          have h9 := Option.some.inj h
          subst h9
          exact r_iret C S hr hlocks dX11_nameOf_107
        · replace h := (if_neg q4).symm.trans h
          by_cases q5 : v0 = 106
          · replace h := (if_pos q5).symm.trans h
            refine lv_tableIn (off := 105) (tgt := 106) C.1 C.2.1 dX11_nameOf_1 (by rw [q5]; decide) (by rw [q5]; decide) (by rw [q5]; rfl) (by decide) ?_
            refine lv_iconst (v := (-1)) C.1 C.2.1 dX11_nameOf_106 (by decide) ?_
            have h9 := Option.some.inj h
            subst h9
            exact r_iret C S hr hlocks dX11_nameOf_107
          · replace h := (if_neg q5).symm.trans h
            by_cases q6 : v0 = 107
            · replace h := (if_pos q6).symm.trans h
              refine lv_tableIn (off := 95) (tgt := 96) C.1 C.2.1 dX11_nameOf_1 (by rw [q6]; decide) (by rw [q6]; decide) (by rw [q6]; rfl) (by decide) ?_
              refine lv_iconst (v := 4) C.1 C.2.1 dX11_nameOf_96 (by decide) ?_
              have h9 := Option.some.inj h
              subst h9
              exact r_iret C S hr hlocks dX11_nameOf_97
            · replace h := (if_neg q6).symm.trans h
              by_cases q7 : v0 = 108
              · replace h := (if_pos q7).symm.trans h
                refine lv_tableIn (off := 105) (tgt := 106) C.1 C.2.1 dX11_nameOf_1 (by rw [q7]; decide) (by rw [q7]; decide) (by rw [q7]; rfl) (by decide) ?_
                refine lv_iconst (v := (-1)) C.1 C.2.1 dX11_nameOf_106 (by decide) ?_
                have h9 := Option.some.inj h
                subst h9
                exact r_iret C S hr hlocks dX11_nameOf_107
              · replace h := (if_neg q7).symm.trans h
                by_cases q8 : v0 = 109
                · replace h := (if_pos q8).symm.trans h
                  refine lv_tableIn (off := 105) (tgt := 106) C.1 C.2.1 dX11_nameOf_1 (by rw [q8]; decide) (by rw [q8]; decide) (by rw [q8]; rfl) (by decide) ?_
                  refine lv_iconst (v := (-1)) C.1 C.2.1 dX11_nameOf_106 (by decide) ?_
                  have h9 := Option.some.inj h
                  subst h9
                  exact r_iret C S hr hlocks dX11_nameOf_107
                · replace h := (if_neg q8).symm.trans h
                  by_cases q9 : v0 = 110
                  · replace h := (if_pos q9).symm.trans h
                    refine lv_tableIn (off := 105) (tgt := 106) C.1 C.2.1 dX11_nameOf_1 (by rw [q9]; decide) (by rw [q9]; decide) (by rw [q9]; rfl) (by decide) ?_
                    refine lv_iconst (v := (-1)) C.1 C.2.1 dX11_nameOf_106 (by decide) ?_
                    have h9 := Option.some.inj h
                    subst h9
                    exact r_iret C S hr hlocks dX11_nameOf_107
                  · replace h := (if_neg q9).symm.trans h
                    by_cases q10 : v0 = 111
                    · replace h := (if_pos q10).symm.trans h
                      refine lv_tableIn (off := 105) (tgt := 106) C.1 C.2.1 dX11_nameOf_1 (by rw [q10]; decide) (by rw [q10]; decide) (by rw [q10]; rfl) (by decide) ?_
                      refine lv_iconst (v := (-1)) C.1 C.2.1 dX11_nameOf_106 (by decide) ?_
                      have h9 := Option.some.inj h
                      subst h9
                      exact r_iret C S hr hlocks dX11_nameOf_107
                    · replace h := (if_neg q10).symm.trans h
                      by_cases q11 : v0 = 112
                      · replace h := (if_pos q11).symm.trans h
                        refine lv_tableIn (off := 102) (tgt := 103) C.1 C.2.1 dX11_nameOf_1 (by rw [q11]; decide) (by rw [q11]; decide) (by rw [q11]; rfl) (by decide) ?_
                        refine lv_bipush (v := 7) C.1 C.2.1 dX11_nameOf_103 (by decide) ?_
                        have h9 := Option.some.inj h
                        subst h9
                        exact r_iret C S hr hlocks dX11_nameOf_105
                      · replace h := (if_neg q11).symm.trans h
                        by_cases q12 : v0 = 113
                        · replace h := (if_pos q12).symm.trans h
                          refine lv_tableIn (off := 105) (tgt := 106) C.1 C.2.1 dX11_nameOf_1 (by rw [q12]; decide) (by rw [q12]; decide) (by rw [q12]; rfl) (by decide) ?_
                          refine lv_iconst (v := (-1)) C.1 C.2.1 dX11_nameOf_106 (by decide) ?_
                          have h9 := Option.some.inj h
                          subst h9
                          exact r_iret C S hr hlocks dX11_nameOf_107
                        · replace h := (if_neg q12).symm.trans h
                          by_cases q13 : v0 = 114
                          · replace h := (if_pos q13).symm.trans h
                            refine lv_tableIn (off := 99) (tgt := 100) C.1 C.2.1 dX11_nameOf_1 (by rw [q13]; decide) (by rw [q13]; decide) (by rw [q13]; rfl) (by decide) ?_
                            refine lv_bipush (v := 6) C.1 C.2.1 dX11_nameOf_100 (by decide) ?_
                            have h9 := Option.some.inj h
                            subst h9
                            exact r_iret C S hr hlocks dX11_nameOf_102
                          · replace h := (if_neg q13).symm.trans h
                            by_cases q14 : v0 = 115
                            · replace h := (if_pos q14).symm.trans h
                              refine lv_tableIn (off := 105) (tgt := 106) C.1 C.2.1 dX11_nameOf_1 (by rw [q14]; decide) (by rw [q14]; decide) (by rw [q14]; rfl) (by decide) ?_
                              refine lv_iconst (v := (-1)) C.1 C.2.1 dX11_nameOf_106 (by decide) ?_
                              have h9 := Option.some.inj h
                              subst h9
                              exact r_iret C S hr hlocks dX11_nameOf_107
                            · replace h := (if_neg q14).symm.trans h
                              by_cases q15 : v0 = 116
                              · replace h := (if_pos q15).symm.trans h
                                refine lv_tableIn (off := 89) (tgt := 90) C.1 C.2.1 dX11_nameOf_1 (by rw [q15]; decide) (by rw [q15]; decide) (by rw [q15]; rfl) (by decide) ?_
                                refine lv_iconst (v := 1) C.1 C.2.1 dX11_nameOf_90 (by decide) ?_
                                have h9 := Option.some.inj h
                                subst h9
                                exact r_iret C S hr hlocks dX11_nameOf_91
                              · replace h := (if_neg q15).symm.trans h
                                by_cases q16 : v0 = 117
                                · replace h := (if_pos q16).symm.trans h
                                  refine lv_tableIn (off := 87) (tgt := 88) C.1 C.2.1 dX11_nameOf_1 (by rw [q16]; decide) (by rw [q16]; decide) (by rw [q16]; rfl) (by decide) ?_
                                  refine lv_iconst (v := 0) C.1 C.2.1 dX11_nameOf_88 (by decide) ?_
                                  have h9 := Option.some.inj h
                                  subst h9
                                  exact r_iret C S hr hlocks dX11_nameOf_89
                                · replace h := (if_neg q16).symm.trans h
                                  by_cases q17 : v0 = 118
                                  · replace h := (if_pos q17).symm.trans h
                                    refine lv_tableIn (off := 105) (tgt := 106) C.1 C.2.1 dX11_nameOf_1 (by rw [q17]; decide) (by rw [q17]; decide) (by rw [q17]; rfl) (by decide) ?_
                                    refine lv_iconst (v := (-1)) C.1 C.2.1 dX11_nameOf_106 (by decide) ?_
                                    have h9 := Option.some.inj h
                                    subst h9
                                    exact r_iret C S hr hlocks dX11_nameOf_107
                                  · replace h := (if_neg q17).symm.trans h
                                    by_cases q18 : v0 = 119
                                    · replace h := (if_pos q18).symm.trans h
                                      refine lv_tableIn (off := 93) (tgt := 94) C.1 C.2.1 dX11_nameOf_1 (by rw [q18]; decide) (by rw [q18]; decide) (by rw [q18]; rfl) (by decide) ?_
                                      refine lv_iconst (v := 3) C.1 C.2.1 dX11_nameOf_94 (by decide) ?_
                                      have h9 := Option.some.inj h
                                      subst h9
                                      exact r_iret C S hr hlocks dX11_nameOf_95
                                    · replace h := (if_neg q18).symm.trans h
                                      have hb9 : (v0).toInt < 102 ∨ 119 < (v0).toInt := by
                                        have zq1 := tb_ne q1
                                        have zq2 := tb_ne q2
                                        have zq3 := tb_ne q3
                                        have zq4 := tb_ne q4
                                        have zq5 := tb_ne q5
                                        have zq6 := tb_ne q6
                                        have zq7 := tb_ne q7
                                        have zq8 := tb_ne q8
                                        have zq9 := tb_ne q9
                                        have zq10 := tb_ne q10
                                        have zq11 := tb_ne q11
                                        have zq12 := tb_ne q12
                                        have zq13 := tb_ne q13
                                        have zq14 := tb_ne q14
                                        have zq15 := tb_ne q15
                                        have zq16 := tb_ne q16
                                        have zq17 := tb_ne q17
                                        have zq18 := tb_ne q18
                                        rw [show ((102 : Int32)).toInt = 102 from by decide] at zq1
                                        rw [show ((103 : Int32)).toInt = 103 from by decide] at zq2
                                        rw [show ((104 : Int32)).toInt = 104 from by decide] at zq3
                                        rw [show ((105 : Int32)).toInt = 105 from by decide] at zq4
                                        rw [show ((106 : Int32)).toInt = 106 from by decide] at zq5
                                        rw [show ((107 : Int32)).toInt = 107 from by decide] at zq6
                                        rw [show ((108 : Int32)).toInt = 108 from by decide] at zq7
                                        rw [show ((109 : Int32)).toInt = 109 from by decide] at zq8
                                        rw [show ((110 : Int32)).toInt = 110 from by decide] at zq9
                                        rw [show ((111 : Int32)).toInt = 111 from by decide] at zq10
                                        rw [show ((112 : Int32)).toInt = 112 from by decide] at zq11
                                        rw [show ((113 : Int32)).toInt = 113 from by decide] at zq12
                                        rw [show ((114 : Int32)).toInt = 114 from by decide] at zq13
                                        rw [show ((115 : Int32)).toInt = 115 from by decide] at zq14
                                        rw [show ((116 : Int32)).toInt = 116 from by decide] at zq15
                                        rw [show ((117 : Int32)).toInt = 117 from by decide] at zq16
                                        rw [show ((118 : Int32)).toInt = 118 from by decide] at zq17
                                        rw [show ((119 : Int32)).toInt = 119 from by decide] at zq18
                                        omega
                                      refine lv_tableOut (tgt := 106) C.1 C.2.1 dX11_nameOf_1 hb9 (by decide) ?_
                                      refine lv_iconst (v := (-1)) C.1 C.2.1 dX11_nameOf_106 (by decide) ?_
                                      have h9 := Option.some.inj h
                                      subst h9
                                      exact r_iret C S hr hlocks dX11_nameOf_107

set_option maxHeartbeats 4000000 in
set_option maxRecDepth 100000 in
theorem k_X11_setsAside_L101 {p : Program} {l : Launch} {e : Env} {s : State} {m : MethodId} {args : Array Value} {below : List Frame} {meth : Method} {c : Code} {D : va_G} {ad sx : Nat → Nat} {ca : Nat → ClassId} (C : Cx D ad sx ca p s m c args RX11 cX11_setsAside 5) {Q : State → Prop} {v1 : Int32} {v3 : Int32}  : ∀ (n9 : Nat) (z : Int32 × Wd) (o : Int32 × Wd), lp (f_X11_setsAside_L101 v1 v3) n9 z = some o → (∀ (ls : Array Slot) (H : Heap) (locs : List Loc), lv_has ls 5 [(0, .ref (ad 76)), (1, .int v1)] → St D ad ca s o.2 H locs → W p l e (RM 4 90) s m args below meth c H locs 0 0 Q (F0 m 143 ls [])) → (∀ (ls : Array Slot) (H : Heap) (locs : List Loc), lv_has ls 5 [(0, .ref (ad 76)), (1, .int v1), (3, .int v3), (4, .int z.1)] → St D ad ca s z.2 H locs → W p l e (RM 4 90) s m args below meth c H locs 0 0 Q (F0 m 101 ls [])) := by
  refine lp_W (HW := fun (z : Int32 × Wd) => ∀ (ls : Array Slot) (H : Heap) (locs : List Loc), lv_has ls 5 [(0, .ref (ad 76)), (1, .int v1), (3, .int v3), (4, .int z.1)] → St D ad ca s z.2 H locs → W p l e (RM 4 90) s m args below meth c H locs 0 0 Q (F0 m 101 ls [])) (XW := fun (o : Int32 × Wd) => ∀ (ls : Array Slot) (H : Heap) (locs : List Loc), lv_has ls 5 [(0, .ref (ad 76)), (1, .int v1)] → St D ad ca s o.2 H locs → W p l e (RM 4 90) s m args below meth c H locs 0 0 Q (F0 m 143 ls [])) ?_
  intro z x h hN hX ls H locs hl S
  unfold f_X11_setsAside_L101 at h
  refine lv_iload C.1 C.2.1 dX11_setsAside_101 (lv_at hl 3 rfl) ?_
  refine lv_aload_n C.1 C.2.1 dX11_setsAside_103 rfl (lv_at hl 0 rfl) ?_
  refine r_getr C S o_76 cf_11 0 rfl (by decide) b_fl_RX11_9 dX11_setsAside_104 ?_
  refine lv_iconst (v := 4) C.1 C.2.1 dX11_setsAside_107 (by decide) ?_
  refine r_ialdn (j := 4) C S a_77 (by decide) (by decide) dX11_setsAside_108 ?_
  refine lv_icmp_ge (tgt := 143) C.1 C.2.1 dX11_setsAside_109 (by decide) (fun q25 => ?_) (fun q25 => ?_)
  · replace h := (if_pos q25).symm.trans h
    exact hX _ (Option.some.inj h).symm _ _ _ (lv_sub hl [0, 1] rfl) S
  · replace h := (if_neg q25).symm.trans h
    refine lv_aload_n C.1 C.2.1 dX11_setsAside_112 rfl (lv_at hl 0 rfl) ?_
    refine r_getr C S o_76 cf_11 9 rfl (by decide) b_fl_RX11_31 dX11_setsAside_113 ?_
    refine lv_iload_n C.1 C.2.1 dX11_setsAside_116 rfl (lv_at hl 1 rfl) ?_
    refine lv_dup2_11 C.1 C.2.1 dX11_setsAside_117 rfl rfl ?_
    obtain ⟨g26, h⟩ := gd_some h
    refine r_iald C S a_84 g26 dX11_setsAside_118 ?_
    refine lv_aload_n C.1 C.2.1 dX11_setsAside_119 rfl (lv_at hl 0 rfl) ?_
    refine lv_iload C.1 C.2.1 dX11_setsAside_120 (lv_at hl 3 rfl) ?_
    refine lv_iconst (v := 1) C.1 C.2.1 dX11_setsAside_122 (by decide) ?_
    obtain ⟨o27, e28, h⟩ := Option.bind_eq_some_iff.mp h
    refine r_vi C S hl o_76 cf_11 (k_X11_get e28) b_vb_RX11_101 [.int z.1, .int 1] rfl [.int (z.2.1 84 v1.toNatClampNeg), .int v1, .ref (ad 84)] rfl rfl (Nat.le_of_ble_eq_true rfl) ⟨Nat.le_of_ble_eq_true rfl, Nat.le_of_ble_eq_true rfl⟩ dX11_setsAside_123 (fun H locs S => ?_)
    refine lv_iload_n C.1 C.2.1 dX11_setsAside_126 rfl (lv_at hl 2 rfl) ?_
    refine lv_icmp_ne (tgt := 134) C.1 C.2.1 dX11_setsAside_127 (by decide) (fun q29 => ?_) (fun q29 => ?_)
    · replace h := (if_neg q29).symm.trans h
      refine lv_iconst (v := 0) C.1 C.2.1 dX11_setsAside_134 (by decide) ?_
      refine lv_iadd C.1 C.2.1 dX11_setsAside_135 ?_
      obtain ⟨g30, h⟩ := gd_some h
      refine r_iast C S a_84 g30 dX11_setsAside_136 (fun H locs S => ?_)
      obtain ⟨w31, h, S⟩ := lw_S (P := fun y => St D ad ca s y H locs) h S
      refine lv_iinc (v := z.1 + 1) (lv' := [(4, .int (z.1 + 1)), (0, .ref (ad 76)), (1, .int v1), (3, .int v3)]) C.1 C.2.1 dX11_setsAside_137 hl (k := 3) rfl rfl (by decide) rfl (fun ls hl => ?_)
      refine lv_goto (tgt := 101) C.1 C.2.1 dX11_setsAside_140 (by decide) ?_
      exact hN _ (Option.some.inj h).symm _ _ _ (lv_sub hl [1, 2, 3, 0] rfl) S
    · replace h := (if_pos q29).symm.trans h
      refine lv_iconst (v := 1) C.1 C.2.1 dX11_setsAside_130 (by decide) ?_
      refine lv_goto (tgt := 135) C.1 C.2.1 dX11_setsAside_131 (by decide) ?_
      refine lv_iadd C.1 C.2.1 dX11_setsAside_135 ?_
      obtain ⟨g32, h⟩ := gd_some h
      refine r_iast C S a_84 g32 dX11_setsAside_136 (fun H locs S => ?_)
      obtain ⟨w33, h, S⟩ := lw_S (P := fun y => St D ad ca s y H locs) h S
      refine lv_iinc (v := z.1 + 1) (lv' := [(4, .int (z.1 + 1)), (0, .ref (ad 76)), (1, .int v1), (3, .int v3)]) C.1 C.2.1 dX11_setsAside_137 hl (k := 3) rfl rfl (by decide) rfl (fun ls hl => ?_)
      refine lv_goto (tgt := 101) C.1 C.2.1 dX11_setsAside_140 (by decide) ?_
      exact hN _ (Option.some.inj h).symm _ _ _ (lv_sub hl [1, 2, 3, 0] rfl) S
set_option maxHeartbeats 4000000 in
set_option maxRecDepth 100000 in
theorem k_X11_setsAside_J60 {p : Program} {l : Launch} {e : Env} {s : State} {m : MethodId} {args : Array Value} {below : List Frame} {meth : Method} {c : Code} {D : va_G} {ad sx : Nat → Nat} {ca : Nat → ClassId} (C : Cx D ad sx ca p s m c args RX11 cX11_setsAside 5) {Q : State → Prop} {w : Wd} {v1 : Int32} {v2 : Int32} {v3 : Int32} {v101 : Int32} {v102 : Int32}  {x : (Int32 × Wd) ⊕ (Int32 × Wd)} (h : f_X11_setsAside_J60 v1 v2 v3 v101 v102 w = some x) (hN : ∀ z, x = .inl z → ∀ (ls : Array Slot) (H : Heap) (locs : List Loc), lv_has ls 5 [(0, .ref (ad 76)), (1, .int z.1)] → St D ad ca s z.2 H locs → W p l e (RM 4 90) s m args below meth c H locs 0 0 Q (F0 m 2 ls [])) (hX : ∀ o, x = .inr o → ∀ (ls : Array Slot) (H : Heap) (locs : List Loc), lv_has ls 5 [(0, .ref (ad 76))] → St D ad ca s o.2 H locs → W p l e (RM 4 90) s m args below meth c H locs 0 0 Q (F0 m 178 ls [])) {ls : Array Slot} {H : Heap} {locs : List Loc} (hl : lv_has ls 5 [(0, .ref (ad 76)), (1, .int v1), (2, .int v2), (3, .int v3)]) (S : St D ad ca s w H locs) : W p l e (RM 4 90) s m args below meth c H locs 0 0 Q (F0 m 60 ls [.int v102, .int v101, .ref (ad 81)]) := by
  unfold f_X11_setsAside_J60 at h
  obtain ⟨g13, h⟩ := gd_some h
  refine r_iast C S a_81 g13 dX11_setsAside_60 (fun H locs S => ?_)
  obtain ⟨w14, h, S⟩ := lw_S (P := fun y => St D ad ca s y H locs) h S
  refine lv_aload_n C.1 C.2.1 dX11_setsAside_61 rfl (lv_at hl 0 rfl) ?_
  refine r_getr C S o_76 cf_11 7 rfl (by decide) b_fl_RX11_25 dX11_setsAside_62 ?_
  refine lv_iload_n C.1 C.2.1 dX11_setsAside_65 rfl (lv_at hl 1 rfl) ?_
  refine lv_aload_n C.1 C.2.1 dX11_setsAside_66 rfl (lv_at hl 0 rfl) ?_
  refine lv_iload_n C.1 C.2.1 dX11_setsAside_67 rfl (lv_at hl 3 rfl) ?_
  refine lv_iconst (v := 1) C.1 C.2.1 dX11_setsAside_68 (by decide) ?_
  refine lv_isub C.1 C.2.1 dX11_setsAside_69 ?_
  refine lv_iload_n C.1 C.2.1 dX11_setsAside_70 rfl (lv_at hl 2 rfl) ?_
  obtain ⟨o15, e16, h⟩ := Option.bind_eq_some_iff.mp h
  refine r_vi C S hl o_76 cf_11 (k_X11_flatAt e16) b_vb_RX11_117 [.int (v3 - 1), .int v2] rfl [.int v1, .ref (ad 82)] rfl rfl (Nat.le_of_ble_eq_true rfl) ⟨Nat.le_of_ble_eq_true rfl, Nat.le_of_ble_eq_true rfl⟩ dX11_setsAside_71 (fun H locs S => ?_)
  obtain ⟨g17, h⟩ := gd_some h
  refine r_iast C S a_82 g17 dX11_setsAside_74 (fun H locs S => ?_)
  obtain ⟨w18, h, S⟩ := lw_S (P := fun y => St D ad ca s y H locs) h S
  refine lv_aload_n C.1 C.2.1 dX11_setsAside_75 rfl (lv_at hl 0 rfl) ?_
  refine r_getr C S o_76 cf_11 8 rfl (by decide) b_fl_RX11_28 dX11_setsAside_76 ?_
  refine lv_iload_n C.1 C.2.1 dX11_setsAside_79 rfl (lv_at hl 1 rfl) ?_
  refine lv_aload_n C.1 C.2.1 dX11_setsAside_80 rfl (lv_at hl 0 rfl) ?_
  refine lv_iload_n C.1 C.2.1 dX11_setsAside_81 rfl (lv_at hl 3 rfl) ?_
  refine lv_iconst (v := 1) C.1 C.2.1 dX11_setsAside_82 (by decide) ?_
  refine lv_iadd C.1 C.2.1 dX11_setsAside_83 ?_
  refine lv_iload_n C.1 C.2.1 dX11_setsAside_84 rfl (lv_at hl 2 rfl) ?_
  obtain ⟨o19, e20, h⟩ := Option.bind_eq_some_iff.mp h
  refine r_vi C S hl o_76 cf_11 (k_X11_flatAt e20) b_vb_RX11_117 [.int (v3 + 1), .int v2] rfl [.int v1, .ref (ad 83)] rfl rfl (Nat.le_of_ble_eq_true rfl) ⟨Nat.le_of_ble_eq_true rfl, Nat.le_of_ble_eq_true rfl⟩ dX11_setsAside_85 (fun H locs S => ?_)
  obtain ⟨g21, h⟩ := gd_some h
  refine r_iast C S a_83 g21 dX11_setsAside_88 (fun H locs S => ?_)
  obtain ⟨w22, h, S⟩ := lw_S (P := fun y => St D ad ca s y H locs) h S
  refine lv_aload_n C.1 C.2.1 dX11_setsAside_89 rfl (lv_at hl 0 rfl) ?_
  refine r_getr C S o_76 cf_11 9 rfl (by decide) b_fl_RX11_31 dX11_setsAside_90 ?_
  refine lv_iload_n C.1 C.2.1 dX11_setsAside_93 rfl (lv_at hl 1 rfl) ?_
  refine lv_iconst (v := 0) C.1 C.2.1 dX11_setsAside_94 (by decide) ?_
  obtain ⟨g23, h⟩ := gd_some h
  refine r_iast C S a_84 g23 dX11_setsAside_95 (fun H locs S => ?_)
  obtain ⟨w24, h, S⟩ := lw_S (P := fun y => St D ad ca s y H locs) h S
  refine lv_iload_n C.1 C.2.1 dX11_setsAside_96 rfl (lv_at hl 1 rfl) ?_
  refine lv_iconst (v := 1) C.1 C.2.1 dX11_setsAside_97 (by decide) ?_
  refine lv_iadd C.1 C.2.1 dX11_setsAside_98 ?_
  refine lv_istore (lv' := [(4, .int (v1 + 1)), (0, .ref (ad 76)), (1, .int v1), (2, .int v2), (3, .int v3)]) C.1 C.2.1 dX11_setsAside_99 hl (by decide) rfl (fun ls hl => ?_)
  obtain ⟨o34, e35, h⟩ := Option.bind_eq_some_iff.mp h
  refine k_X11_setsAside_L101 C  FU _ _ e35 (fun ls H locs hl S => ?_) ls H locs (lv_sub hl [1, 2, 4, 0] rfl) S
  refine lv_aload_n C.1 C.2.1 dX11_setsAside_143 rfl (lv_at hl 0 rfl) ?_
  refine r_getr C S o_76 cf_11 10 rfl (by decide) b_fl_RX11_34 dX11_setsAside_144 ?_
  refine lv_iload_n C.1 C.2.1 dX11_setsAside_147 rfl (lv_at hl 1 rfl) ?_
  refine lv_aload_n C.1 C.2.1 dX11_setsAside_148 rfl (lv_at hl 0 rfl) ?_
  refine lv_iload_n C.1 C.2.1 dX11_setsAside_149 rfl (lv_at hl 1 rfl) ?_
  refine lv_iconst (v := 3) C.1 C.2.1 dX11_setsAside_150 (by decide) ?_
  obtain ⟨o36, e37, h⟩ := Option.bind_eq_some_iff.mp h
  refine r_vi C S hl o_76 cf_11 (k_X11_get e37) b_vb_RX11_101 [.int v1, .int 3] rfl [.int v1, .ref (ad 85)] rfl rfl (Nat.le_of_ble_eq_true rfl) ⟨Nat.le_of_ble_eq_true rfl, Nat.le_of_ble_eq_true rfl⟩ dX11_setsAside_151 (fun H locs S => ?_)
  obtain ⟨g38, h⟩ := gd_some h
  refine r_iast C S a_85 g38 dX11_setsAside_154 (fun H locs S => ?_)
  obtain ⟨w39, h, S⟩ := lw_S (P := fun y => St D ad ca s y H locs) h S
  refine lv_aload_n C.1 C.2.1 dX11_setsAside_155 rfl (lv_at hl 0 rfl) ?_
  refine r_getr C S o_76 cf_11 12 rfl (by decide) b_fl_RX11_40 dX11_setsAside_156 ?_
  refine lv_iload_n C.1 C.2.1 dX11_setsAside_159 rfl (lv_at hl 1 rfl) ?_
  refine lv_aload_n C.1 C.2.1 dX11_setsAside_160 rfl (lv_at hl 0 rfl) ?_
  refine lv_iload_n C.1 C.2.1 dX11_setsAside_161 rfl (lv_at hl 1 rfl) ?_
  refine lv_aload_n C.1 C.2.1 dX11_setsAside_162 rfl (lv_at hl 0 rfl) ?_
  refine lv_iload_n C.1 C.2.1 dX11_setsAside_163 rfl (lv_at hl 1 rfl) ?_
  refine lv_iconst (v := 2) C.1 C.2.1 dX11_setsAside_164 (by decide) ?_
  obtain ⟨o40, e41, h⟩ := Option.bind_eq_some_iff.mp h
  refine r_vi C S hl o_76 cf_11 (k_X11_get e41) b_vb_RX11_101 [.int v1, .int 2] rfl [.int v1, .ref (ad 76), .int v1, .ref (ad 87)] rfl rfl (Nat.le_of_ble_eq_true rfl) ⟨Nat.le_of_ble_eq_true rfl, Nat.le_of_ble_eq_true rfl⟩ dX11_setsAside_165 (fun H locs S => ?_)
  obtain ⟨o42, e43, h⟩ := Option.bind_eq_some_iff.mp h
  refine r_vi C S hl o_76 cf_11 (k_X11_leaksBy e43) b_vb_RX11_120 [.int v1, .int o40] rfl [.int v1, .ref (ad 87)] rfl rfl (Nat.le_of_ble_eq_true rfl) ⟨Nat.le_of_ble_eq_true rfl, Nat.le_of_ble_eq_true rfl⟩ dX11_setsAside_168 (fun H locs S => ?_)
  obtain ⟨g44, h⟩ := gd_some h
  refine r_iast C S a_87 g44 dX11_setsAside_171 (fun H locs S => ?_)
  obtain ⟨w45, h, S⟩ := lw_S (P := fun y => St D ad ca s y H locs) h S
  refine lv_iinc (v := v1 + 1) (lv' := [(1, .int (v1 + 1)), (0, .ref (ad 76))]) C.1 C.2.1 dX11_setsAside_172 hl (k := 1) rfl rfl (by decide) rfl (fun ls hl => ?_)
  refine lv_goto (tgt := 2) C.1 C.2.1 dX11_setsAside_175 (by decide) ?_
  exact hN _ (Option.some.inj h).symm _ _ _ (lv_sub hl [1, 0] rfl) S
set_option maxHeartbeats 4000000 in
set_option maxRecDepth 100000 in
theorem k_X11_setsAside_L2 {p : Program} {l : Launch} {e : Env} {s : State} {m : MethodId} {args : Array Value} {below : List Frame} {meth : Method} {c : Code} {D : va_G} {ad sx : Nat → Nat} {ca : Nat → ClassId} (C : Cx D ad sx ca p s m c args RX11 cX11_setsAside 5) {Q : State → Prop}   : ∀ (n9 : Nat) (z : Int32 × Wd) (o : Int32 × Wd), lp (f_X11_setsAside_L2) n9 z = some o → (∀ (ls : Array Slot) (H : Heap) (locs : List Loc), lv_has ls 5 [(0, .ref (ad 76))] → St D ad ca s o.2 H locs → W p l e (RM 4 90) s m args below meth c H locs 0 0 Q (F0 m 178 ls [])) → (∀ (ls : Array Slot) (H : Heap) (locs : List Loc), lv_has ls 5 [(0, .ref (ad 76)), (1, .int z.1)] → St D ad ca s z.2 H locs → W p l e (RM 4 90) s m args below meth c H locs 0 0 Q (F0 m 2 ls [])) := by
  refine lp_W (HW := fun (z : Int32 × Wd) => ∀ (ls : Array Slot) (H : Heap) (locs : List Loc), lv_has ls 5 [(0, .ref (ad 76)), (1, .int z.1)] → St D ad ca s z.2 H locs → W p l e (RM 4 90) s m args below meth c H locs 0 0 Q (F0 m 2 ls [])) (XW := fun (o : Int32 × Wd) => ∀ (ls : Array Slot) (H : Heap) (locs : List Loc), lv_has ls 5 [(0, .ref (ad 76))] → St D ad ca s o.2 H locs → W p l e (RM 4 90) s m args below meth c H locs 0 0 Q (F0 m 178 ls [])) ?_
  intro z x h hN hX ls H locs hl S
  unfold f_X11_setsAside_L2 at h
  refine lv_iload_n C.1 C.2.1 dX11_setsAside_2 rfl (lv_at hl 1 rfl) ?_
  refine lv_aload_n C.1 C.2.1 dX11_setsAside_3 rfl (lv_at hl 0 rfl) ?_
  refine r_getr C S o_76 cf_11 0 rfl (by decide) b_fl_RX11_9 dX11_setsAside_4 ?_
  refine lv_iconst (v := 4) C.1 C.2.1 dX11_setsAside_7 (by decide) ?_
  refine r_ialdn (j := 4) C S a_77 (by decide) (by decide) dX11_setsAside_8 ?_
  refine lv_icmp_ge (tgt := 178) C.1 C.2.1 dX11_setsAside_9 (by decide) (fun q1 => ?_) (fun q1 => ?_)
  · replace h := (if_pos q1).symm.trans h
    exact hX _ (Option.some.inj h).symm _ _ _ (lv_sub hl [0] rfl) S
  · replace h := (if_neg q1).symm.trans h
    refine lv_aload_n C.1 C.2.1 dX11_setsAside_12 rfl (lv_at hl 0 rfl) ?_
    refine lv_iload_n C.1 C.2.1 dX11_setsAside_13 rfl (lv_at hl 1 rfl) ?_
    obtain ⟨o2, e3, h⟩ := Option.bind_eq_some_iff.mp h
    refine r_vi C S hl o_76 cf_11 (k_X11_placeOf e3) b_vb_RX11_114 [.int z.1] rfl [] rfl rfl (Nat.le_of_ble_eq_true rfl) ⟨Nat.le_of_ble_eq_true rfl, Nat.le_of_ble_eq_true rfl⟩ dX11_setsAside_14 (fun H locs S => ?_)
    refine lv_istore_n (lv' := [(2, .int o2), (0, .ref (ad 76)), (1, .int z.1)]) C.1 C.2.1 dX11_setsAside_17 rfl hl (by decide) rfl (fun ls hl => ?_)
    refine lv_aload_n C.1 C.2.1 dX11_setsAside_18 rfl (lv_at hl 1 rfl) ?_
    refine lv_iload_n C.1 C.2.1 dX11_setsAside_19 rfl (lv_at hl 2 rfl) ?_
    refine lv_iconst (v := 1) C.1 C.2.1 dX11_setsAside_20 (by decide) ?_
    obtain ⟨o4, e5, h⟩ := Option.bind_eq_some_iff.mp h
    refine r_vi C S hl o_76 cf_11 (k_X11_get e5) b_vb_RX11_101 [.int z.1, .int 1] rfl [] rfl rfl (Nat.le_of_ble_eq_true rfl) ⟨Nat.le_of_ble_eq_true rfl, Nat.le_of_ble_eq_true rfl⟩ dX11_setsAside_21 (fun H locs S => ?_)
    refine lv_istore_n (lv' := [(3, .int o4), (2, .int o2), (0, .ref (ad 76)), (1, .int z.1)]) C.1 C.2.1 dX11_setsAside_24 rfl hl (by decide) rfl (fun ls hl => ?_)
    refine lv_aload_n C.1 C.2.1 dX11_setsAside_25 rfl (lv_at hl 2 rfl) ?_
    refine r_getr C S o_76 cf_11 5 rfl (by decide) b_fl_RX11_19 dX11_setsAside_26 ?_
    refine lv_iload_n C.1 C.2.1 dX11_setsAside_29 rfl (lv_at hl 3 rfl) ?_
    refine lv_aload_n C.1 C.2.1 dX11_setsAside_30 rfl (lv_at hl 2 rfl) ?_
    refine lv_iload_n C.1 C.2.1 dX11_setsAside_31 rfl (lv_at hl 0 rfl) ?_
    refine lv_iload_n C.1 C.2.1 dX11_setsAside_32 rfl (lv_at hl 1 rfl) ?_
    refine lv_iconst (v := 1) C.1 C.2.1 dX11_setsAside_33 (by decide) ?_
    refine lv_iadd C.1 C.2.1 dX11_setsAside_34 ?_
    obtain ⟨o6, e7, h⟩ := Option.bind_eq_some_iff.mp h
    refine r_vi C S hl o_76 cf_11 (k_X11_flatAt e7) b_vb_RX11_117 [.int o4, .int (o2 + 1)] rfl [.int z.1, .ref (ad 80)] rfl rfl (Nat.le_of_ble_eq_true rfl) ⟨Nat.le_of_ble_eq_true rfl, Nat.le_of_ble_eq_true rfl⟩ dX11_setsAside_35 (fun H locs S => ?_)
    obtain ⟨g8, h⟩ := gd_some h
    refine r_iast C S a_80 g8 dX11_setsAside_38 (fun H locs S => ?_)
    obtain ⟨w9, h, S⟩ := lw_S (P := fun y => St D ad ca s y H locs) h S
    refine lv_aload_n C.1 C.2.1 dX11_setsAside_39 rfl (lv_at hl 2 rfl) ?_
    refine r_getr C S o_76 cf_11 6 rfl (by decide) b_fl_RX11_22 dX11_setsAside_40 ?_
    refine lv_iload_n C.1 C.2.1 dX11_setsAside_43 rfl (lv_at hl 3 rfl) ?_
    refine lv_iload_n C.1 C.2.1 dX11_setsAside_44 rfl (lv_at hl 1 rfl) ?_
    refine lv_if_ne (tgt := 52) C.1 C.2.1 dX11_setsAside_45 (by decide) (fun q10 => ?_) (fun q10 => ?_)
    · replace h := (if_neg q10).symm.trans h
      refine lv_aload_n C.1 C.2.1 dX11_setsAside_52 rfl (lv_at hl 2 rfl) ?_
      refine lv_iload_n C.1 C.2.1 dX11_setsAside_53 rfl (lv_at hl 0 rfl) ?_
      refine lv_iload_n C.1 C.2.1 dX11_setsAside_54 rfl (lv_at hl 1 rfl) ?_
      refine lv_iconst (v := 1) C.1 C.2.1 dX11_setsAside_55 (by decide) ?_
      refine lv_isub C.1 C.2.1 dX11_setsAside_56 ?_
      obtain ⟨o11, e12, h⟩ := Option.bind_eq_some_iff.mp h
      refine r_vi C S hl o_76 cf_11 (k_X11_flatAt e12) b_vb_RX11_117 [.int o4, .int (o2 - 1)] rfl [.int z.1, .ref (ad 81)] rfl rfl (Nat.le_of_ble_eq_true rfl) ⟨Nat.le_of_ble_eq_true rfl, Nat.le_of_ble_eq_true rfl⟩ dX11_setsAside_57 (fun H locs S => ?_)
      exact k_X11_setsAside_J60 C  h hN hX (lv_sub hl [2, 3, 1, 0] rfl) S
    · replace h := (if_pos q10).symm.trans h
      refine lv_iconst (v := (-1)) C.1 C.2.1 dX11_setsAside_48 (by decide) ?_
      refine lv_goto (tgt := 60) C.1 C.2.1 dX11_setsAside_49 (by decide) ?_
      exact k_X11_setsAside_J60 C  h hN hX (lv_sub hl [2, 3, 1, 0] rfl) S
set_option maxHeartbeats 4000000 in
set_option maxRecDepth 100000 in
theorem k_X11_setsAside   {w : Wd} {rv : Wd} (h : f_X11_setsAside w = some rv) : CV yX11_setsAside cX11_setsAside 5 4 90 (fun ad => [.ref (ad 76)]) w rv := by
  refine CV.of (by decide) ?_
  intro l D ad sx ca p e s m below meth c C S hr hlocks
  have hl := lv_entry ([.ref (ad 76)]) (n := 5) (Nat.le_of_ble_eq_true rfl)
  rw [lg_entry_eq]
  generalize (lg_sl ([.ref (ad 76)]) ++ List.replicate (5 - (lg_sl ([.ref (ad 76)])).length) Slot.unset).toArray = ls at hl ⊢
  have hl : lv_has ls 5 [(0, .ref (ad 76))] := hl
  generalize ha9 : ([.ref (ad 76)] : List Value).toArray = args at C ⊢
  generalize s.heap = H at S ⊢
  generalize ([] : List Loc) = locs at S ⊢
  unfold f_X11_setsAside at h
  refine lv_iconst (v := 0) C.1 C.2.1 dX11_setsAside_0 (by decide) ?_
  refine lv_istore_n (lv' := [(1, .int 0), (0, .ref (ad 76))]) C.1 C.2.1 dX11_setsAside_1 rfl hl (by decide) rfl (fun ls hl => ?_)
  obtain ⟨o46, e47, h⟩ := Option.bind_eq_some_iff.mp h
  refine k_X11_setsAside_L2 C  FU _ _ e47 (fun ls H locs hl S => ?_) ls H locs (lv_sub hl [1, 0] rfl) S
  refine lv_aload_n C.1 C.2.1 dX11_setsAside_178 rfl (lv_at hl 0 rfl) ?_
  obtain ⟨o48, e49, h⟩ := Option.bind_eq_some_iff.mp h
  refine r_vv C S hl o_76 cf_11 (k_X11_startsWarm e49) b_vb_RX11_123 [] rfl [] rfl rfl (Nat.le_of_ble_eq_true rfl) ⟨Nat.le_of_ble_eq_true rfl, Nat.le_of_ble_eq_true rfl⟩ dX11_setsAside_179 (fun H locs S => ?_)
  refine lv_aload_n C.1 C.2.1 dX11_setsAside_182 rfl (lv_at hl 0 rfl) ?_
  obtain ⟨o50, e51, h⟩ := Option.bind_eq_some_iff.mp h
  refine r_vv C S hl o_76 cf_11 (k_X11_findFlows e51) b_vb_RX11_126 [] rfl [] rfl rfl (Nat.le_of_ble_eq_true rfl) ⟨Nat.le_of_ble_eq_true rfl, Nat.le_of_ble_eq_true rfl⟩ dX11_setsAside_183 (fun H locs S => ?_)
  have h9 := Option.some.inj h
  subst h9
  exact r_vret C S hr hlocks dX11_setsAside_186
set_option maxHeartbeats 4000000 in
set_option maxRecDepth 100000 in
theorem k_X11_from {v1 : Int32} {v2 : Int32}  {w : Wd} {rv : Int32} (h : f_X11_from v1 v2 w = some rv) : CI yX11_from cX11_from 3 .int 0 0 (fun ad => [.ref (ad 76), .int v1, .int v2]) w rv w := by
  refine CI.of (by decide) ?_
  intro l D ad sx ca p e s m below meth c C S hr hlocks
  have hl := lv_entry ([.ref (ad 76), .int v1, .int v2]) (n := 3) (Nat.le_of_ble_eq_true rfl)
  rw [lg_entry_eq]
  generalize (lg_sl ([.ref (ad 76), .int v1, .int v2]) ++ List.replicate (3 - (lg_sl ([.ref (ad 76), .int v1, .int v2])).length) Slot.unset).toArray = ls at hl ⊢
  have hl : lv_has ls 3 [(0, .ref (ad 76)), (1, .int v1), (2, .int v2)] := hl
  generalize ha9 : ([.ref (ad 76), .int v1, .int v2] : List Value).toArray = args at C ⊢
  generalize s.heap = H at S ⊢
  generalize ([] : List Loc) = locs at S ⊢
  unfold f_X11_from at h
  refine lv_iload_n C.1 C.2.1 dX11_from_0 rfl (lv_at hl 2 rfl) ?_
  refine lv_if_ge (tgt := 8) C.1 C.2.1 dX11_from_1 (by decide) (fun q1 => ?_) (fun q1 => ?_)
  · replace h := (if_pos q1).symm.trans h
    refine lv_aload_n C.1 C.2.1 dX11_from_8 rfl (lv_at hl 0 rfl) ?_
    refine r_getr C S o_76 cf_11 13 rfl (by decide) b_fl_RX11_43 dX11_from_9 ?_
    refine lv_iload_n C.1 C.2.1 dX11_from_12 rfl (lv_at hl 2 rfl) ?_
    obtain ⟨g2, h⟩ := gd_some h
    refine r_iald C S a_88 g2 dX11_from_13 ?_
    refine lv_aload_n C.1 C.2.1 dX11_from_14 rfl (lv_at hl 0 rfl) ?_
    refine r_getr C S o_76 cf_11 13 rfl (by decide) b_fl_RX11_43 dX11_from_15 ?_
    refine lv_iload_n C.1 C.2.1 dX11_from_18 rfl (lv_at hl 1 rfl) ?_
    obtain ⟨g3, h⟩ := gd_some h
    refine r_iald C S a_88 g3 dX11_from_19 ?_
    refine lv_isub C.1 C.2.1 dX11_from_20 ?_
    refine lv_bipush (v := 20) C.1 C.2.1 dX11_from_21 (by decide) ?_
    refine lv_idiv C.1 C.2.1 dX11_from_23 (by decide) ?_
    have h9 := Option.some.inj h
    subst h9
    exact r_iret C S hr hlocks dX11_from_24
  · replace h := (if_neg q1).symm.trans h
    refine lv_iconst (v := 0) C.1 C.2.1 dX11_from_4 (by decide) ?_
    refine lv_goto (tgt := 24) C.1 C.2.1 dX11_from_5 (by decide) ?_
    have h9 := Option.some.inj h
    subst h9
    exact r_iret C S hr hlocks dX11_from_24
set_option maxHeartbeats 4000000 in
set_option maxRecDepth 100000 in
theorem k_X11_goes_J51 {p : Program} {l : Launch} {e : Env} {s : State} {m : MethodId} {args : Array Value} {below : List Frame} {meth : Method} {c : Code} {D : va_G} {ad sx : Nat → Nat} {ca : Nat → ClassId} (C : Cx D ad sx ca p s m c args RX11 cX11_goes 5) {Q : State → Prop} {w : Wd} {v1 : Int32} {v2 : Int32} {v3 : Int32} {v101 : Int32} {v102 : Int32}  {x : (Int32 × Int32 × Wd) ⊕ (Int32 × Int32 × Wd)} (h : f_X11_goes_J51 v1 v2 v3 v101 v102 w = some x) (hN : ∀ z, x = .inl z → ∀ (ls : Array Slot) (H : Heap) (locs : List Loc), lv_has ls 5 [(0, .ref (ad 76)), (1, .int v1), (2, .int z.1), (3, .int z.2.1)] → St D ad ca s z.2.2 H locs → W p l e (RM 1 22) s m args below meth c H locs 0 0 Q (F0 m 4 ls [])) (hX : ∀ o, x = .inr o → ∀ (ls : Array Slot) (H : Heap) (locs : List Loc), lv_has ls 5 [(0, .ref (ad 76)), (2, .int o.1)] → St D ad ca s o.2.2 H locs → W p l e (RM 1 22) s m args below meth c H locs 0 0 Q (F0 m 171 ls [])) {ls : Array Slot} {H : Heap} {locs : List Loc} (hl : lv_has ls 5 [(0, .ref (ad 76)), (1, .int v1), (2, .int v2), (3, .int v3)]) (S : St D ad ca s w H locs) : W p l e (RM 1 22) s m args below meth c H locs 0 0 Q (F0 m 51 ls [.int v102, .int v101, .ref (ad 90)]) := by
  unfold f_X11_goes_J51 at h
  obtain ⟨g5, h⟩ := gd_some h
  refine r_iast C S a_90 g5 dX11_goes_51 (fun H locs S => ?_)
  obtain ⟨w6, h, S⟩ := lw_S (P := fun y => St D ad ca s y H locs) h S
  refine lv_aload_n C.1 C.2.1 dX11_goes_52 rfl (lv_at hl 0 rfl) ?_
  refine r_getr C S o_76 cf_11 16 rfl (by decide) b_fl_RX11_52 dX11_goes_53 ?_
  refine lv_iload_n C.1 C.2.1 dX11_goes_56 rfl (lv_at hl 3 rfl) ?_
  refine lv_aload_n C.1 C.2.1 dX11_goes_57 rfl (lv_at hl 0 rfl) ?_
  refine lv_iload_n C.1 C.2.1 dX11_goes_58 rfl (lv_at hl 3 rfl) ?_
  refine lv_aload_n C.1 C.2.1 dX11_goes_59 rfl (lv_at hl 0 rfl) ?_
  refine r_getr C S o_76 cf_11 5 rfl (by decide) b_fl_RX11_19 dX11_goes_60 ?_
  refine lv_iload_n C.1 C.2.1 dX11_goes_63 rfl (lv_at hl 3 rfl) ?_
  obtain ⟨g7, h⟩ := gd_some h
  refine r_iald C S a_80 g7 dX11_goes_64 ?_
  obtain ⟨o8, e9, h⟩ := Option.bind_eq_some_iff.mp h
  refine r_vi C S hl o_76 cf_11 (k_X11_from e9) b_vb_RX11_135 [.int v3, .int (w6.1 80 v3.toNatClampNeg)] rfl [.int v3, .ref (ad 91)] rfl rfl (Nat.le_of_ble_eq_true rfl) ⟨Nat.le_of_ble_eq_true rfl, Nat.le_of_ble_eq_true rfl⟩ dX11_goes_65 (fun H locs S => ?_)
  refine lv_aload_n C.1 C.2.1 dX11_goes_68 rfl (lv_at hl 0 rfl) ?_
  refine lv_iload_n C.1 C.2.1 dX11_goes_69 rfl (lv_at hl 3 rfl) ?_
  refine lv_aload_n C.1 C.2.1 dX11_goes_70 rfl (lv_at hl 0 rfl) ?_
  refine r_getr C S o_76 cf_11 6 rfl (by decide) b_fl_RX11_22 dX11_goes_71 ?_
  refine lv_iload_n C.1 C.2.1 dX11_goes_74 rfl (lv_at hl 3 rfl) ?_
  obtain ⟨g10, h⟩ := gd_some h
  refine r_iald C S a_81 g10 dX11_goes_75 ?_
  obtain ⟨o11, e12, h⟩ := Option.bind_eq_some_iff.mp h
  refine r_vi C S hl o_76 cf_11 (k_X11_from e12) b_vb_RX11_135 [.int v3, .int (w6.1 81 v3.toNatClampNeg)] rfl [.int o8, .int v3, .ref (ad 91)] rfl rfl (Nat.le_of_ble_eq_true rfl) ⟨Nat.le_of_ble_eq_true rfl, Nat.le_of_ble_eq_true rfl⟩ dX11_goes_76 (fun H locs S => ?_)
  refine lv_iadd C.1 C.2.1 dX11_goes_79 ?_
  refine lv_aload_n C.1 C.2.1 dX11_goes_80 rfl (lv_at hl 0 rfl) ?_
  refine lv_iload_n C.1 C.2.1 dX11_goes_81 rfl (lv_at hl 3 rfl) ?_
  refine lv_aload_n C.1 C.2.1 dX11_goes_82 rfl (lv_at hl 0 rfl) ?_
  refine r_getr C S o_76 cf_11 7 rfl (by decide) b_fl_RX11_25 dX11_goes_83 ?_
  refine lv_iload_n C.1 C.2.1 dX11_goes_86 rfl (lv_at hl 3 rfl) ?_
  obtain ⟨g13, h⟩ := gd_some h
  refine r_iald C S a_82 g13 dX11_goes_87 ?_
  obtain ⟨o14, e15, h⟩ := Option.bind_eq_some_iff.mp h
  refine r_vi C S hl o_76 cf_11 (k_X11_from e15) b_vb_RX11_135 [.int v3, .int (w6.1 82 v3.toNatClampNeg)] rfl [.int (o8 + o11), .int v3, .ref (ad 91)] rfl rfl (Nat.le_of_ble_eq_true rfl) ⟨Nat.le_of_ble_eq_true rfl, Nat.le_of_ble_eq_true rfl⟩ dX11_goes_88 (fun H locs S => ?_)
  refine lv_iadd C.1 C.2.1 dX11_goes_91 ?_
  refine lv_aload_n C.1 C.2.1 dX11_goes_92 rfl (lv_at hl 0 rfl) ?_
  refine lv_iload_n C.1 C.2.1 dX11_goes_93 rfl (lv_at hl 3 rfl) ?_
  refine lv_aload_n C.1 C.2.1 dX11_goes_94 rfl (lv_at hl 0 rfl) ?_
  refine r_getr C S o_76 cf_11 8 rfl (by decide) b_fl_RX11_28 dX11_goes_95 ?_
  refine lv_iload_n C.1 C.2.1 dX11_goes_98 rfl (lv_at hl 3 rfl) ?_
  obtain ⟨g16, h⟩ := gd_some h
  refine r_iald C S a_83 g16 dX11_goes_99 ?_
  obtain ⟨o17, e18, h⟩ := Option.bind_eq_some_iff.mp h
  refine r_vi C S hl o_76 cf_11 (k_X11_from e18) b_vb_RX11_135 [.int v3, .int (w6.1 83 v3.toNatClampNeg)] rfl [.int ((o8 + o11) + o14), .int v3, .ref (ad 91)] rfl rfl (Nat.le_of_ble_eq_true rfl) ⟨Nat.le_of_ble_eq_true rfl, Nat.le_of_ble_eq_true rfl⟩ dX11_goes_100 (fun H locs S => ?_)
  refine lv_iadd C.1 C.2.1 dX11_goes_103 ?_
  obtain ⟨g19, h⟩ := gd_some h
  refine r_iast C S a_91 g19 dX11_goes_104 (fun H locs S => ?_)
  obtain ⟨w20, h, S⟩ := lw_S (P := fun y => St D ad ca s y H locs) h S
  refine lv_aload_n C.1 C.2.1 dX11_goes_105 rfl (lv_at hl 0 rfl) ?_
  refine r_getr C S o_76 cf_11 14 rfl (by decide) b_fl_RX11_46 dX11_goes_106 ?_
  refine lv_iload_n C.1 C.2.1 dX11_goes_109 rfl (lv_at hl 3 rfl) ?_
  refine lv_aload_n C.1 C.2.1 dX11_goes_110 rfl (lv_at hl 0 rfl) ?_
  refine r_getr C S o_76 cf_11 13 rfl (by decide) b_fl_RX11_43 dX11_goes_111 ?_
  refine lv_iload_n C.1 C.2.1 dX11_goes_114 rfl (lv_at hl 3 rfl) ?_
  obtain ⟨g21, h⟩ := gd_some h
  refine r_iald C S a_88 g21 dX11_goes_115 ?_
  refine lv_aload_n C.1 C.2.1 dX11_goes_116 rfl (lv_at hl 0 rfl) ?_
  refine r_getr C S o_76 cf_11 15 rfl (by decide) b_fl_RX11_49 dX11_goes_117 ?_
  refine lv_iload_n C.1 C.2.1 dX11_goes_120 rfl (lv_at hl 3 rfl) ?_
  obtain ⟨g22, h⟩ := gd_some h
  refine r_iald C S a_90 g22 dX11_goes_121 ?_
  refine lv_iadd C.1 C.2.1 dX11_goes_122 ?_
  refine lv_aload_n C.1 C.2.1 dX11_goes_123 rfl (lv_at hl 0 rfl) ?_
  refine r_getr C S o_76 cf_11 12 rfl (by decide) b_fl_RX11_40 dX11_goes_124 ?_
  refine lv_iload_n C.1 C.2.1 dX11_goes_127 rfl (lv_at hl 3 rfl) ?_
  obtain ⟨g23, h⟩ := gd_some h
  refine r_iald C S a_87 g23 dX11_goes_128 ?_
  refine lv_aload_n C.1 C.2.1 dX11_goes_129 rfl (lv_at hl 0 rfl) ?_
  refine r_getr C S o_76 cf_11 13 rfl (by decide) b_fl_RX11_43 dX11_goes_130 ?_
  refine lv_iload_n C.1 C.2.1 dX11_goes_133 rfl (lv_at hl 3 rfl) ?_
  obtain ⟨g24, h⟩ := gd_some h
  refine r_iald C S a_88 g24 dX11_goes_134 ?_
  refine lv_aload_n C.1 C.2.1 dX11_goes_135 rfl (lv_at hl 0 rfl) ?_
  refine r_getr C S o_76 cf_11 0 rfl (by decide) b_fl_RX11_9 dX11_goes_136 ?_
  refine lv_iconst (v := 1) C.1 C.2.1 dX11_goes_139 (by decide) ?_
  refine r_ialdn (j := 1) C S a_77 (by decide) (by decide) dX11_goes_140 ?_
  refine lv_isub C.1 C.2.1 dX11_goes_141 ?_
  refine lv_imul C.1 C.2.1 dX11_goes_142 ?_
  refine lv_sipush (v := 1000) C.1 C.2.1 dX11_goes_143 (by decide) ?_
  refine lv_idiv C.1 C.2.1 dX11_goes_146 (by decide) ?_
  refine lv_isub C.1 C.2.1 dX11_goes_147 ?_
  refine lv_aload_n C.1 C.2.1 dX11_goes_148 rfl (lv_at hl 0 rfl) ?_
  refine r_getr C S o_76 cf_11 16 rfl (by decide) b_fl_RX11_52 dX11_goes_149 ?_
  refine lv_iload_n C.1 C.2.1 dX11_goes_152 rfl (lv_at hl 3 rfl) ?_
  obtain ⟨g25, h⟩ := gd_some h
  refine r_iald C S a_91 g25 dX11_goes_153 ?_
  refine lv_iadd C.1 C.2.1 dX11_goes_154 ?_
  obtain ⟨g26, h⟩ := gd_some h
  refine r_iast C S a_89 g26 dX11_goes_155 (fun H locs S => ?_)
  obtain ⟨w27, h, S⟩ := lw_S (P := fun y => St D ad ca s y H locs) h S
  refine lv_iload_n C.1 C.2.1 dX11_goes_156 rfl (lv_at hl 2 rfl) ?_
  refine lv_aload_n C.1 C.2.1 dX11_goes_157 rfl (lv_at hl 0 rfl) ?_
  refine r_getr C S o_76 cf_11 15 rfl (by decide) b_fl_RX11_49 dX11_goes_158 ?_
  refine lv_iload_n C.1 C.2.1 dX11_goes_161 rfl (lv_at hl 3 rfl) ?_
  obtain ⟨g28, h⟩ := gd_some h
  refine r_iald C S a_90 g28 dX11_goes_162 ?_
  refine lv_iadd C.1 C.2.1 dX11_goes_163 ?_
  refine lv_istore_n (lv' := [(2, .int (v2 + (w27.1 90 v3.toNatClampNeg))), (0, .ref (ad 76)), (1, .int v1), (3, .int v3)]) C.1 C.2.1 dX11_goes_164 rfl hl (by decide) rfl (fun ls hl => ?_)
  refine lv_iinc (v := v3 + 1) (lv' := [(3, .int (v3 + 1)), (2, .int (v2 + (w27.1 90 v3.toNatClampNeg))), (0, .ref (ad 76)), (1, .int v1)]) C.1 C.2.1 dX11_goes_165 hl (k := 3) rfl rfl (by decide) rfl (fun ls hl => ?_)
  refine lv_goto (tgt := 4) C.1 C.2.1 dX11_goes_168 (by decide) ?_
  exact hN _ (Option.some.inj h).symm _ _ _ (lv_sub hl [2, 3, 1, 0] rfl) S
set_option maxHeartbeats 4000000 in
set_option maxRecDepth 100000 in
theorem k_X11_goes_L4 {p : Program} {l : Launch} {e : Env} {s : State} {m : MethodId} {args : Array Value} {below : List Frame} {meth : Method} {c : Code} {D : va_G} {ad sx : Nat → Nat} {ca : Nat → ClassId} (C : Cx D ad sx ca p s m c args RX11 cX11_goes 5) {Q : State → Prop} {v1 : Int32}  : ∀ (n9 : Nat) (z : Int32 × Int32 × Wd) (o : Int32 × Int32 × Wd), lp (f_X11_goes_L4 v1) n9 z = some o → (∀ (ls : Array Slot) (H : Heap) (locs : List Loc), lv_has ls 5 [(0, .ref (ad 76)), (2, .int o.1)] → St D ad ca s o.2.2 H locs → W p l e (RM 1 22) s m args below meth c H locs 0 0 Q (F0 m 171 ls [])) → (∀ (ls : Array Slot) (H : Heap) (locs : List Loc), lv_has ls 5 [(0, .ref (ad 76)), (1, .int v1), (2, .int z.1), (3, .int z.2.1)] → St D ad ca s z.2.2 H locs → W p l e (RM 1 22) s m args below meth c H locs 0 0 Q (F0 m 4 ls [])) := by
  refine lp_W (HW := fun (z : Int32 × Int32 × Wd) => ∀ (ls : Array Slot) (H : Heap) (locs : List Loc), lv_has ls 5 [(0, .ref (ad 76)), (1, .int v1), (2, .int z.1), (3, .int z.2.1)] → St D ad ca s z.2.2 H locs → W p l e (RM 1 22) s m args below meth c H locs 0 0 Q (F0 m 4 ls [])) (XW := fun (o : Int32 × Int32 × Wd) => ∀ (ls : Array Slot) (H : Heap) (locs : List Loc), lv_has ls 5 [(0, .ref (ad 76)), (2, .int o.1)] → St D ad ca s o.2.2 H locs → W p l e (RM 1 22) s m args below meth c H locs 0 0 Q (F0 m 171 ls [])) ?_
  intro z x h hN hX ls H locs hl S
  unfold f_X11_goes_L4 at h
  refine lv_iload_n C.1 C.2.1 dX11_goes_4 rfl (lv_at hl 3 rfl) ?_
  refine lv_aload_n C.1 C.2.1 dX11_goes_5 rfl (lv_at hl 0 rfl) ?_
  refine r_getr C S o_76 cf_11 0 rfl (by decide) b_fl_RX11_9 dX11_goes_6 ?_
  refine lv_iconst (v := 4) C.1 C.2.1 dX11_goes_9 (by decide) ?_
  refine r_ialdn (j := 4) C S a_77 (by decide) (by decide) dX11_goes_10 ?_
  refine lv_icmp_ge (tgt := 171) C.1 C.2.1 dX11_goes_11 (by decide) (fun q1 => ?_) (fun q1 => ?_)
  · replace h := (if_pos q1).symm.trans h
    exact hX _ (Option.some.inj h).symm _ _ _ (lv_sub hl [0, 2] rfl) S
  · replace h := (if_neg q1).symm.trans h
    refine lv_iload_n C.1 C.2.1 dX11_goes_14 rfl (lv_at hl 1 rfl) ?_
    refine lv_aload_n C.1 C.2.1 dX11_goes_15 rfl (lv_at hl 0 rfl) ?_
    refine r_getr C S o_76 cf_11 13 rfl (by decide) b_fl_RX11_43 dX11_goes_16 ?_
    refine lv_iload_n C.1 C.2.1 dX11_goes_19 rfl (lv_at hl 3 rfl) ?_
    obtain ⟨g2, h⟩ := gd_some h
    refine r_iald C S a_88 g2 dX11_goes_20 ?_
    refine lv_isub C.1 C.2.1 dX11_goes_21 ?_
    refine lv_istore (lv' := [(4, .int (v1 - (z.2.2.1 88 z.2.1.toNatClampNeg))), (0, .ref (ad 76)), (1, .int v1), (2, .int z.1), (3, .int z.2.1)]) C.1 C.2.1 dX11_goes_22 hl (by decide) rfl (fun ls hl => ?_)
    refine lv_aload_n C.1 C.2.1 dX11_goes_24 rfl (lv_at hl 1 rfl) ?_
    refine r_getr C S o_76 cf_11 15 rfl (by decide) b_fl_RX11_49 dX11_goes_25 ?_
    refine lv_iload_n C.1 C.2.1 dX11_goes_28 rfl (lv_at hl 4 rfl) ?_
    refine lv_iload C.1 C.2.1 dX11_goes_29 (lv_at hl 0 rfl) ?_
    refine lv_if_gt (tgt := 38) C.1 C.2.1 dX11_goes_31 (by decide) (fun q3 => ?_) (fun q3 => ?_)
    · replace h := (if_pos q3).symm.trans h
      refine lv_aload_n C.1 C.2.1 dX11_goes_38 rfl (lv_at hl 1 rfl) ?_
      refine r_getr C S o_76 cf_11 11 rfl (by decide) b_fl_RX11_37 dX11_goes_39 ?_
      refine lv_iload_n C.1 C.2.1 dX11_goes_42 rfl (lv_at hl 4 rfl) ?_
      obtain ⟨g4, h⟩ := gd_some h
      refine r_iald C S a_86 g4 dX11_goes_43 ?_
      refine lv_iload C.1 C.2.1 dX11_goes_44 (lv_at hl 0 rfl) ?_
      refine lv_imul C.1 C.2.1 dX11_goes_46 ?_
      refine lv_sipush (v := 1000) C.1 C.2.1 dX11_goes_47 (by decide) ?_
      refine lv_idiv C.1 C.2.1 dX11_goes_50 (by decide) ?_
      exact k_X11_goes_J51 C  h hN hX (lv_sub hl [1, 2, 3, 4] rfl) S
    · replace h := (if_neg q3).symm.trans h
      refine lv_iconst (v := 0) C.1 C.2.1 dX11_goes_34 (by decide) ?_
      refine lv_goto (tgt := 51) C.1 C.2.1 dX11_goes_35 (by decide) ?_
      exact k_X11_goes_J51 C  h hN hX (lv_sub hl [1, 2, 3, 4] rfl) S
set_option maxHeartbeats 4000000 in
set_option maxRecDepth 100000 in
theorem k_X11_goes_L173 {p : Program} {l : Launch} {e : Env} {s : State} {m : MethodId} {args : Array Value} {below : List Frame} {meth : Method} {c : Code} {D : va_G} {ad sx : Nat → Nat} {ca : Nat → ClassId} (C : Cx D ad sx ca p s m c args RX11 cX11_goes 5) {Q : State → Prop} {v2 : Int32}  : ∀ (n9 : Nat) (z : Int32 × Wd) (o : Int32 × Wd), lp (f_X11_goes_L173 v2) n9 z = some o → (∀ (ls : Array Slot) (H : Heap) (locs : List Loc), lv_has ls 5 [(2, .int v2)] → St D ad ca s o.2 H locs → W p l e (RM 1 22) s m args below meth c H locs 0 0 Q (F0 m 201 ls [])) → (∀ (ls : Array Slot) (H : Heap) (locs : List Loc), lv_has ls 5 [(0, .ref (ad 76)), (2, .int v2), (3, .int z.1)] → St D ad ca s z.2 H locs → W p l e (RM 1 22) s m args below meth c H locs 0 0 Q (F0 m 173 ls [])) := by
  refine lp_W (HW := fun (z : Int32 × Wd) => ∀ (ls : Array Slot) (H : Heap) (locs : List Loc), lv_has ls 5 [(0, .ref (ad 76)), (2, .int v2), (3, .int z.1)] → St D ad ca s z.2 H locs → W p l e (RM 1 22) s m args below meth c H locs 0 0 Q (F0 m 173 ls [])) (XW := fun (o : Int32 × Wd) => ∀ (ls : Array Slot) (H : Heap) (locs : List Loc), lv_has ls 5 [(2, .int v2)] → St D ad ca s o.2 H locs → W p l e (RM 1 22) s m args below meth c H locs 0 0 Q (F0 m 201 ls [])) ?_
  intro z x h hN hX ls H locs hl S
  unfold f_X11_goes_L173 at h
  refine lv_iload_n C.1 C.2.1 dX11_goes_173 rfl (lv_at hl 2 rfl) ?_
  refine lv_aload_n C.1 C.2.1 dX11_goes_174 rfl (lv_at hl 0 rfl) ?_
  refine r_getr C S o_76 cf_11 0 rfl (by decide) b_fl_RX11_9 dX11_goes_175 ?_
  refine lv_iconst (v := 4) C.1 C.2.1 dX11_goes_178 (by decide) ?_
  refine r_ialdn (j := 4) C S a_77 (by decide) (by decide) dX11_goes_179 ?_
  refine lv_icmp_ge (tgt := 201) C.1 C.2.1 dX11_goes_180 (by decide) (fun q31 => ?_) (fun q31 => ?_)
  · replace h := (if_pos q31).symm.trans h
    exact hX _ (Option.some.inj h).symm _ _ _ (lv_sub hl [1] rfl) S
  · replace h := (if_neg q31).symm.trans h
    refine lv_aload_n C.1 C.2.1 dX11_goes_183 rfl (lv_at hl 0 rfl) ?_
    refine r_getr C S o_76 cf_11 13 rfl (by decide) b_fl_RX11_43 dX11_goes_184 ?_
    refine lv_iload_n C.1 C.2.1 dX11_goes_187 rfl (lv_at hl 2 rfl) ?_
    refine lv_aload_n C.1 C.2.1 dX11_goes_188 rfl (lv_at hl 0 rfl) ?_
    refine r_getr C S o_76 cf_11 14 rfl (by decide) b_fl_RX11_46 dX11_goes_189 ?_
    refine lv_iload_n C.1 C.2.1 dX11_goes_192 rfl (lv_at hl 2 rfl) ?_
    obtain ⟨g32, h⟩ := gd_some h
    refine r_iald C S a_89 g32 dX11_goes_193 ?_
    obtain ⟨g33, h⟩ := gd_some h
    refine r_iast C S a_88 g33 dX11_goes_194 (fun H locs S => ?_)
    obtain ⟨w34, h, S⟩ := lw_S (P := fun y => St D ad ca s y H locs) h S
    refine lv_iinc (v := z.1 + 1) (lv' := [(3, .int (z.1 + 1)), (0, .ref (ad 76)), (2, .int v2)]) C.1 C.2.1 dX11_goes_195 hl (k := 2) rfl rfl (by decide) rfl (fun ls hl => ?_)
    refine lv_goto (tgt := 173) C.1 C.2.1 dX11_goes_198 (by decide) ?_
    exact hN _ (Option.some.inj h).symm _ _ _ (lv_sub hl [1, 2, 0] rfl) S
set_option maxHeartbeats 4000000 in
set_option maxRecDepth 100000 in
theorem k_X11_goes {v1 : Int32}  {w : Wd} {rv : Int32 × Wd} (h : f_X11_goes v1 w = some rv) : CI yX11_goes cX11_goes 5 .int 1 22 (fun ad => [.ref (ad 76), .int v1]) w rv.1 rv.2 := by
  refine CI.of (by decide) ?_
  intro l D ad sx ca p e s m below meth c C S hr hlocks
  have hl := lv_entry ([.ref (ad 76), .int v1]) (n := 5) (Nat.le_of_ble_eq_true rfl)
  rw [lg_entry_eq]
  generalize (lg_sl ([.ref (ad 76), .int v1]) ++ List.replicate (5 - (lg_sl ([.ref (ad 76), .int v1])).length) Slot.unset).toArray = ls at hl ⊢
  have hl : lv_has ls 5 [(0, .ref (ad 76)), (1, .int v1)] := hl
  generalize ha9 : ([.ref (ad 76), .int v1] : List Value).toArray = args at C ⊢
  generalize s.heap = H at S ⊢
  generalize ([] : List Loc) = locs at S ⊢
  unfold f_X11_goes at h
  refine lv_iconst (v := 0) C.1 C.2.1 dX11_goes_0 (by decide) ?_
  refine lv_istore_n (lv' := [(2, .int 0), (0, .ref (ad 76)), (1, .int v1)]) C.1 C.2.1 dX11_goes_1 rfl hl (by decide) rfl (fun ls hl => ?_)
  refine lv_iconst (v := 0) C.1 C.2.1 dX11_goes_2 (by decide) ?_
  refine lv_istore_n (lv' := [(3, .int 0), (2, .int 0), (0, .ref (ad 76)), (1, .int v1)]) C.1 C.2.1 dX11_goes_3 rfl hl (by decide) rfl (fun ls hl => ?_)
  obtain ⟨o29, e30, h⟩ := Option.bind_eq_some_iff.mp h
  refine k_X11_goes_L4 C  FU _ _ e30 (fun ls H locs hl S => ?_) ls H locs (lv_sub hl [2, 3, 1, 0] rfl) S
  refine lv_iconst (v := 0) C.1 C.2.1 dX11_goes_171 (by decide) ?_
  refine lv_istore_n (lv' := [(3, .int 0), (0, .ref (ad 76)), (2, .int o29.1)]) C.1 C.2.1 dX11_goes_172 rfl hl (by decide) rfl (fun ls hl => ?_)
  obtain ⟨o35, e36, h⟩ := Option.bind_eq_some_iff.mp h
  refine k_X11_goes_L173 C  FU _ _ e36 (fun ls H locs hl S => ?_) ls H locs (lv_sub hl [1, 2, 0] rfl) S
  refine lv_iload_n C.1 C.2.1 dX11_goes_201 rfl (lv_at hl 0 rfl) ?_
  have h9 := Option.some.inj h
  subst h9
  exact r_iret C S hr hlocks dX11_goes_202
set_option maxHeartbeats 4000000 in
set_option maxRecDepth 100000 in
theorem k_X11_goesAll_L5 {p : Program} {l : Launch} {e : Env} {s : State} {m : MethodId} {args : Array Value} {below : List Frame} {meth : Method} {c : Code} {D : va_G} {ad sx : Nat → Nat} {ca : Nat → ClassId} (C : Cx D ad sx ca p s m c args RX11 cX11_goesAll 5) {Q : State → Prop} {v1 : Int32} {v2 : Int32}  : ∀ (n9 : Nat) (z : Int32 × Int32 × Wd) (o : Int32 × Int32 × Wd), lp (f_X11_goesAll_L5 v1 v2) n9 z = some o → (∀ (ls : Array Slot) (H : Heap) (locs : List Loc), lv_has ls 5 [(3, .int o.1)] → St D ad ca s o.2.2 H locs → W p l e (RM 2 46) s m args below meth c H locs 0 0 Q (F0 m 25 ls [])) → (∀ (ls : Array Slot) (H : Heap) (locs : List Loc), lv_has ls 5 [(0, .ref (ad 76)), (1, .int v1), (2, .int v2), (3, .int z.1), (4, .int z.2.1)] → St D ad ca s z.2.2 H locs → W p l e (RM 2 46) s m args below meth c H locs 0 0 Q (F0 m 5 ls [])) := by
  refine lp_W (HW := fun (z : Int32 × Int32 × Wd) => ∀ (ls : Array Slot) (H : Heap) (locs : List Loc), lv_has ls 5 [(0, .ref (ad 76)), (1, .int v1), (2, .int v2), (3, .int z.1), (4, .int z.2.1)] → St D ad ca s z.2.2 H locs → W p l e (RM 2 46) s m args below meth c H locs 0 0 Q (F0 m 5 ls [])) (XW := fun (o : Int32 × Int32 × Wd) => ∀ (ls : Array Slot) (H : Heap) (locs : List Loc), lv_has ls 5 [(3, .int o.1)] → St D ad ca s o.2.2 H locs → W p l e (RM 2 46) s m args below meth c H locs 0 0 Q (F0 m 25 ls [])) ?_
  intro z x h hN hX ls H locs hl S
  unfold f_X11_goesAll_L5 at h
  refine lv_iload C.1 C.2.1 dX11_goesAll_5 (lv_at hl 4 rfl) ?_
  refine lv_iload_n C.1 C.2.1 dX11_goesAll_7 rfl (lv_at hl 2 rfl) ?_
  refine lv_icmp_ge (tgt := 25) C.1 C.2.1 dX11_goesAll_8 (by decide) (fun q1 => ?_) (fun q1 => ?_)
  · replace h := (if_pos q1).symm.trans h
    exact hX _ (Option.some.inj h).symm _ _ _ (lv_sub hl [3] rfl) S
  · replace h := (if_neg q1).symm.trans h
    refine lv_iload_n C.1 C.2.1 dX11_goesAll_11 rfl (lv_at hl 3 rfl) ?_
    refine lv_aload_n C.1 C.2.1 dX11_goesAll_12 rfl (lv_at hl 0 rfl) ?_
    refine lv_iload_n C.1 C.2.1 dX11_goesAll_13 rfl (lv_at hl 1 rfl) ?_
    obtain ⟨o2, e3, h⟩ := Option.bind_eq_some_iff.mp h
    refine r_vi C S hl o_76 cf_11 (k_X11_goes e3) b_vb_RX11_138 [.int v1] rfl [.int z.1] rfl rfl (Nat.le_of_ble_eq_true rfl) ⟨Nat.le_of_ble_eq_true rfl, Nat.le_of_ble_eq_true rfl⟩ dX11_goesAll_14 (fun H locs S => ?_)
    refine lv_iadd C.1 C.2.1 dX11_goesAll_17 ?_
    refine lv_istore_n (lv' := [(3, .int (z.1 + o2.1)), (0, .ref (ad 76)), (1, .int v1), (2, .int v2), (4, .int z.2.1)]) C.1 C.2.1 dX11_goesAll_18 rfl hl (by decide) rfl (fun ls hl => ?_)
    refine lv_iinc (v := z.2.1 + 1) (lv' := [(4, .int (z.2.1 + 1)), (3, .int (z.1 + o2.1)), (0, .ref (ad 76)), (1, .int v1), (2, .int v2)]) C.1 C.2.1 dX11_goesAll_19 hl (k := 4) rfl rfl (by decide) rfl (fun ls hl => ?_)
    refine lv_goto (tgt := 5) C.1 C.2.1 dX11_goesAll_22 (by decide) ?_
    exact hN _ (Option.some.inj h).symm _ _ _ (lv_sub hl [2, 3, 4, 1, 0] rfl) S
set_option maxHeartbeats 4000000 in
set_option maxRecDepth 100000 in
theorem k_X11_goesAll {v1 : Int32} {v2 : Int32}  {w : Wd} {rv : Int32 × Wd} (h : f_X11_goesAll v1 v2 w = some rv) : CI yX11_goesAll cX11_goesAll 5 .int 2 46 (fun ad => [.ref (ad 76), .int v1, .int v2]) w rv.1 rv.2 := by
  refine CI.of (by decide) ?_
  intro l D ad sx ca p e s m below meth c C S hr hlocks
  have hl := lv_entry ([.ref (ad 76), .int v1, .int v2]) (n := 5) (Nat.le_of_ble_eq_true rfl)
  rw [lg_entry_eq]
  generalize (lg_sl ([.ref (ad 76), .int v1, .int v2]) ++ List.replicate (5 - (lg_sl ([.ref (ad 76), .int v1, .int v2])).length) Slot.unset).toArray = ls at hl ⊢
  have hl : lv_has ls 5 [(0, .ref (ad 76)), (1, .int v1), (2, .int v2)] := hl
  generalize ha9 : ([.ref (ad 76), .int v1, .int v2] : List Value).toArray = args at C ⊢
  generalize s.heap = H at S ⊢
  generalize ([] : List Loc) = locs at S ⊢
  unfold f_X11_goesAll at h
  refine lv_iconst (v := 0) C.1 C.2.1 dX11_goesAll_0 (by decide) ?_
  refine lv_istore_n (lv' := [(3, .int 0), (0, .ref (ad 76)), (1, .int v1), (2, .int v2)]) C.1 C.2.1 dX11_goesAll_1 rfl hl (by decide) rfl (fun ls hl => ?_)
  refine lv_iconst (v := 0) C.1 C.2.1 dX11_goesAll_2 (by decide) ?_
  refine lv_istore (lv' := [(4, .int 0), (3, .int 0), (0, .ref (ad 76)), (1, .int v1), (2, .int v2)]) C.1 C.2.1 dX11_goesAll_3 hl (by decide) rfl (fun ls hl => ?_)
  obtain ⟨o4, e5, h⟩ := Option.bind_eq_some_iff.mp h
  refine k_X11_goesAll_L5 C  FU _ _ e5 (fun ls H locs hl S => ?_) ls H locs (lv_sub hl [2, 3, 4, 1, 0] rfl) S
  refine lv_iload_n C.1 C.2.1 dX11_goesAll_25 rfl (lv_at hl 0 rfl) ?_
  have h9 := Option.some.inj h
  subst h9
  exact r_iret C S hr hlocks dX11_goesAll_26

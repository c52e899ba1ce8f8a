set_option maxHeartbeats 4000000 in
set_option maxRecDepth 100000 in
theorem k_X11_findPays_L4 {p : Program} {l : Launch} {e : Env} {s : State} {m : MethodId} {args : Array Value} {below : List Frame} {meth : Method} {c : Code} {D : va_G} {ad sx : Nat → Nat} {ca : Nat → ClassId} (C : Cx D ad sx ca p s m c args RX11 cX11_findPays 7) {Q : State → Prop} {w : Wd} {v1 : Int32}  : ∀ (n9 : Nat) (z : Int32 × Int32) (o : Int32 × Int32), lp (f_X11_findPays_L4 v1 w) n9 z = some o → (∀ (ls : Array Slot) (H : Heap) (locs : List Loc), lv_has ls 7 [(0, .ref (ad 76)), (1, .int v1), (2, .int o.1)] → St D ad ca s w H locs → W p l e (RM 0 0) s m args below meth c H locs 0 0 Q (F0 m 29 ls [])) → (∀ (ls : Array Slot) (H : Heap) (locs : List Loc), lv_has ls 7 [(0, .ref (ad 76)), (1, .int v1), (2, .int z.1), (3, .int z.2)] → St D ad ca s w H locs → W p l e (RM 0 0) s m args below meth c H locs 0 0 Q (F0 m 4 ls [])) := by
  refine lp_W (HW := fun (z : Int32 × Int32) => ∀ (ls : Array Slot) (H : Heap) (locs : List Loc), lv_has ls 7 [(0, .ref (ad 76)), (1, .int v1), (2, .int z.1), (3, .int z.2)] → St D ad ca s w H locs → W p l e (RM 0 0) s m args below meth c H locs 0 0 Q (F0 m 4 ls [])) (XW := fun (o : Int32 × Int32) => ∀ (ls : Array Slot) (H : Heap) (locs : List Loc), lv_has ls 7 [(0, .ref (ad 76)), (1, .int v1), (2, .int o.1)] → St D ad ca s w H locs → W p l e (RM 0 0) s m args below meth c H locs 0 0 Q (F0 m 29 ls [])) ?_
  intro z x h hN hX ls H locs hl S
  unfold f_X11_findPays_L4 at h
  refine lv_iload_n C.1 C.2.1 dX11_findPays_4 rfl (lv_at hl 3 rfl) ?_
  refine lv_aload_n C.1 C.2.1 dX11_findPays_5 rfl (lv_at hl 0 rfl) ?_
  refine r_getr C S o_76 cf_11 0 rfl (by decide) b_fl_RX11_9 dX11_findPays_6 ?_
  refine lv_iconst (v := 4) C.1 C.2.1 dX11_findPays_9 (by decide) ?_
  refine r_ialdn (j := 4) C S a_77 (by decide) (by decide) dX11_findPays_10 ?_
  refine lv_icmp_ge (tgt := 29) C.1 C.2.1 dX11_findPays_11 (by decide) (fun q1 => ?_) (fun q1 => ?_)
  · replace h := (if_pos q1).symm.trans h
    exact hX _ (Option.some.inj h).symm _ _ _ (lv_sub hl [0, 1, 2] rfl) S
  · replace h := (if_neg q1).symm.trans h
    refine lv_iload_n C.1 C.2.1 dX11_findPays_14 rfl (lv_at hl 2 rfl) ?_
    refine lv_aload_n C.1 C.2.1 dX11_findPays_15 rfl (lv_at hl 0 rfl) ?_
    refine r_getr C S o_76 cf_11 27 rfl (by decide) b_fl_RX11_67 dX11_findPays_16 ?_
    refine lv_iload_n C.1 C.2.1 dX11_findPays_19 rfl (lv_at hl 3 rfl) ?_
    obtain ⟨g2, h⟩ := gd_some h
    refine r_iald C S a_96 g2 dX11_findPays_20 ?_
    refine lv_iadd C.1 C.2.1 dX11_findPays_21 ?_
    refine lv_istore_n (lv' := [(2, .int (z.1 + (w.1 96 z.2.toNatClampNeg))), (0, .ref (ad 76)), (1, .int v1), (3, .int z.2)]) C.1 C.2.1 dX11_findPays_22 rfl hl (by decide) rfl (fun ls hl => ?_)
    refine lv_iinc (v := z.2 + 1) (lv' := [(3, .int (z.2 + 1)), (2, .int (z.1 + (w.1 96 z.2.toNatClampNeg))), (0, .ref (ad 76)), (1, .int v1)]) C.1 C.2.1 dX11_findPays_23 hl (k := 3) rfl rfl (by decide) rfl (fun ls hl => ?_)
    refine lv_goto (tgt := 4) C.1 C.2.1 dX11_findPays_26 (by decide) ?_
    exact hN _ (Option.some.inj h).symm _ _ _ (lv_sub hl [2, 3, 1, 0] rfl) S
set_option maxHeartbeats 4000000 in
set_option maxRecDepth 100000 in
theorem k_X11_findPays_L40 {p : Program} {l : Launch} {e : Env} {s : State} {m : MethodId} {args : Array Value} {below : List Frame} {meth : Method} {c : Code} {D : va_G} {ad sx : Nat → Nat} {ca : Nat → ClassId} (C : Cx D ad sx ca p s m c args RX11 cX11_findPays 7) {Q : State → Prop} {v1 : Int32} {v2 : Int32}  : ∀ (n9 : Nat) (z : Int32 × Int32 × Wd) (o : Int32 × Int32 × Wd), lp (f_X11_findPays_L40 v1 v2) n9 z = some o → (∀ (ls : Array Slot) (H : Heap) (locs : List Loc), lv_has ls 7 [(0, .ref (ad 76)), (3, .int o.1)] → St D ad ca s o.2.2 H locs → W p l e (RM 0 0) s m args below meth c H locs 0 0 Q (F0 m 106 ls [])) → (∀ (ls : Array Slot) (H : Heap) (locs : List Loc), lv_has ls 7 [(0, .ref (ad 76)), (1, .int v1), (2, .int v2), (3, .int z.1), (4, .int z.2.1)] → St D ad ca s z.2.2 H locs → W p l e (RM 0 0) s m args below meth c H locs 0 0 Q (F0 m 40 ls [])) := by
  refine lp_W (HW := fun (z : Int32 × Int32 × Wd) => ∀ (ls : Array Slot) (H : Heap) (locs : List Loc), lv_has ls 7 [(0, .ref (ad 76)), (1, .int v1), (2, .int v2), (3, .int z.1), (4, .int z.2.1)] → St D ad ca s z.2.2 H locs → W p l e (RM 0 0) s m args below meth c H locs 0 0 Q (F0 m 40 ls [])) (XW := fun (o : Int32 × Int32 × Wd) => ∀ (ls : Array Slot) (H : Heap) (locs : List Loc), lv_has ls 7 [(0, .ref (ad 76)), (3, .int o.1)] → St D ad ca s o.2.2 H locs → W p l e (RM 0 0) s m args below meth c H locs 0 0 Q (F0 m 106 ls [])) ?_
  intro z x h hN hX ls H locs hl S
  unfold f_X11_findPays_L40 at h
  refine lv_iload C.1 C.2.1 dX11_findPays_40 (lv_at hl 4 rfl) ?_
  refine lv_aload_n C.1 C.2.1 dX11_findPays_42 rfl (lv_at hl 0 rfl) ?_
  refine r_getr C S o_76 cf_11 0 rfl (by decide) b_fl_RX11_9 dX11_findPays_43 ?_
  refine lv_iconst (v := 4) C.1 C.2.1 dX11_findPays_46 (by decide) ?_
  refine r_ialdn (j := 4) C S a_77 (by decide) (by decide) dX11_findPays_47 ?_
  refine lv_icmp_ge (tgt := 106) C.1 C.2.1 dX11_findPays_48 (by decide) (fun q6 => ?_) (fun q6 => ?_)
  · replace h := (if_pos q6).symm.trans h
    exact hX _ (Option.some.inj h).symm _ _ _ (lv_sub hl [0, 3] rfl) S
  · replace h := (if_neg q6).symm.trans h
    refine lv_iload_n C.1 C.2.1 dX11_findPays_51 rfl (lv_at hl 1 rfl) ?_
    refine lv_i2l C.1 C.2.1 dX11_findPays_52 rfl ?_
    refine lv_aload_n C.1 C.2.1 dX11_findPays_53 rfl (lv_at hl 0 rfl) ?_
    refine r_getr C S o_76 cf_11 27 rfl (by decide) b_fl_RX11_67 dX11_findPays_54 ?_
    refine lv_iload C.1 C.2.1 dX11_findPays_57 (lv_at hl 4 rfl) ?_
    obtain ⟨g7, h⟩ := gd_some h
    refine r_iald C S a_96 g7 dX11_findPays_59 ?_
    refine lv_i2l C.1 C.2.1 dX11_findPays_60 rfl ?_
    refine lv_lmul C.1 C.2.1 dX11_findPays_61 ?_
    refine lv_lstore (lv' := [(5, .long (v1.toInt64 * ((z.2.2.1 96 z.2.1.toNatClampNeg).toInt64))), (0, .ref (ad 76)), (1, .int v1), (2, .int v2), (3, .int z.1), (4, .int z.2.1)]) C.1 C.2.1 dX11_findPays_62 hl (by decide) rfl (fun ls hl => ?_)
    refine lv_aload_n C.1 C.2.1 dX11_findPays_64 rfl (lv_at hl 1 rfl) ?_
    refine r_getr C S o_76 cf_11 28 rfl (by decide) b_fl_RX11_70 dX11_findPays_65 ?_
    refine lv_iload C.1 C.2.1 dX11_findPays_68 (lv_at hl 5 rfl) ?_
    refine lv_lload C.1 C.2.1 dX11_findPays_70 (lv_at hl 0 rfl) ?_
    refine lv_iload_n C.1 C.2.1 dX11_findPays_72 rfl (lv_at hl 3 rfl) ?_
    refine lv_i2l C.1 C.2.1 dX11_findPays_73 rfl ?_
    obtain ⟨g8, h⟩ := gd_some h
    refine lv_ldiv C.1 C.2.1 dX11_findPays_74 (nzl_ne g8) ?_
    refine lv_l2i C.1 C.2.1 dX11_findPays_75 rfl ?_
    obtain ⟨g9, h⟩ := gd_some h
    refine r_iast C S a_97 g9 dX11_findPays_76 (fun H locs S => ?_)
    obtain ⟨w10, h, S⟩ := lw_S (P := fun y => St D ad ca s y H locs) h S
    refine lv_aload_n C.1 C.2.1 dX11_findPays_77 rfl (lv_at hl 1 rfl) ?_
    refine r_getr C S o_76 cf_11 29 rfl (by decide) b_fl_RX11_73 dX11_findPays_78 ?_
    refine lv_iload C.1 C.2.1 dX11_findPays_81 (lv_at hl 5 rfl) ?_
    refine lv_lload C.1 C.2.1 dX11_findPays_83 (lv_at hl 0 rfl) ?_
    refine lv_iload_n C.1 C.2.1 dX11_findPays_85 rfl (lv_at hl 3 rfl) ?_
    refine lv_i2l C.1 C.2.1 dX11_findPays_86 rfl ?_
    obtain ⟨g11, h⟩ := gd_some h
    refine lv_lrem C.1 C.2.1 dX11_findPays_87 (nzl_ne g11) ?_
    refine lv_l2i C.1 C.2.1 dX11_findPays_88 rfl ?_
    obtain ⟨g12, h⟩ := gd_some h
    refine r_iast C S a_98 g12 dX11_findPays_89 (fun H locs S => ?_)
    obtain ⟨w13, h, S⟩ := lw_S (P := fun y => St D ad ca s y H locs) h S
    refine lv_iload_n C.1 C.2.1 dX11_findPays_90 rfl (lv_at hl 4 rfl) ?_
    refine lv_aload_n C.1 C.2.1 dX11_findPays_91 rfl (lv_at hl 1 rfl) ?_
    refine r_getr C S o_76 cf_11 28 rfl (by decide) b_fl_RX11_70 dX11_findPays_92 ?_
    refine lv_iload C.1 C.2.1 dX11_findPays_95 (lv_at hl 5 rfl) ?_
    obtain ⟨g14, h⟩ := gd_some h
    refine r_iald C S a_97 g14 dX11_findPays_97 ?_
    refine lv_isub C.1 C.2.1 dX11_findPays_98 ?_
    refine lv_istore_n (lv' := [(3, .int (z.1 - (w13.1 97 z.2.1.toNatClampNeg))), (5, .long (v1.toInt64 * ((z.2.2.1 96 z.2.1.toNatClampNeg).toInt64))), (0, .ref (ad 76)), (1, .int v1), (2, .int v2), (4, .int z.2.1)]) C.1 C.2.1 dX11_findPays_99 rfl hl (by decide) rfl (fun ls hl => ?_)
    refine lv_iinc (v := z.2.1 + 1) (lv' := [(4, .int (z.2.1 + 1)), (3, .int (z.1 - (w13.1 97 z.2.1.toNatClampNeg))), (5, .long (v1.toInt64 * ((z.2.2.1 96 z.2.1.toNatClampNeg).toInt64))), (0, .ref (ad 76)), (1, .int v1), (2, .int v2)]) C.1 C.2.1 dX11_findPays_100 hl (k := 5) rfl rfl (by decide) rfl (fun ls hl => ?_)
    refine lv_goto (tgt := 40) C.1 C.2.1 dX11_findPays_103 (by decide) ?_
    exact hN _ (Option.some.inj h).symm _ _ _ (lv_sub hl [3, 4, 5, 1, 0] rfl) S
set_option maxHeartbeats 4000000 in
set_option maxRecDepth 100000 in
theorem k_X11_findPays_L116 {p : Program} {l : Launch} {e : Env} {s : State} {m : MethodId} {args : Array Value} {below : List Frame} {meth : Method} {c : Code} {D : va_G} {ad sx : Nat → Nat} {ca : Nat → ClassId} (C : Cx D ad sx ca p s m c args RX11 cX11_findPays 7) {Q : State → Prop} {w : Wd} {v3 : Int32}  : ∀ (n9 : Nat) (z : Int32 × Int32) (o : Int32 × Int32), lp (f_X11_findPays_L116 v3 w) n9 z = some o → (∀ (ls : Array Slot) (H : Heap) (locs : List Loc), lv_has ls 7 [(0, .ref (ad 76)), (3, .int v3), (4, .int o.1)] → St D ad ca s w H locs → W p l e (RM 0 0) s m args below meth c H locs 0 0 Q (F0 m 159 ls [])) → (∀ (ls : Array Slot) (H : Heap) (locs : List Loc), lv_has ls 7 [(0, .ref (ad 76)), (3, .int v3), (4, .int z.1), (5, .int z.2)] → St D ad ca s w H locs → W p l e (RM 0 0) s m args below meth c H locs 0 0 Q (F0 m 116 ls [])) := by
  refine lp_W (HW := fun (z : Int32 × Int32) => ∀ (ls : Array Slot) (H : Heap) (locs : List Loc), lv_has ls 7 [(0, .ref (ad 76)), (3, .int v3), (4, .int z.1), (5, .int z.2)] → St D ad ca s w H locs → W p l e (RM 0 0) s m args below meth c H locs 0 0 Q (F0 m 116 ls [])) (XW := fun (o : Int32 × Int32) => ∀ (ls : Array Slot) (H : Heap) (locs : List Loc), lv_has ls 7 [(0, .ref (ad 76)), (3, .int v3), (4, .int o.1)] → St D ad ca s w H locs → W p l e (RM 0 0) s m args below meth c H locs 0 0 Q (F0 m 159 ls [])) ?_
  intro z x h hN hX ls H locs hl S
  unfold f_X11_findPays_L116 at h
  refine lv_iload C.1 C.2.1 dX11_findPays_116 (lv_at hl 3 rfl) ?_
  refine lv_aload_n C.1 C.2.1 dX11_findPays_118 rfl (lv_at hl 0 rfl) ?_
  refine r_getr C S o_76 cf_11 0 rfl (by decide) b_fl_RX11_9 dX11_findPays_119 ?_
  refine lv_iconst (v := 4) C.1 C.2.1 dX11_findPays_122 (by decide) ?_
  refine r_ialdn (j := 4) C S a_77 (by decide) (by decide) dX11_findPays_123 ?_
  refine lv_icmp_ge (tgt := 159) C.1 C.2.1 dX11_findPays_124 (by decide) (fun q18 => ?_) (fun q18 => ?_)
  · replace h := (if_pos q18).symm.trans h
    exact hX _ (Option.some.inj h).symm _ _ _ (lv_sub hl [0, 1, 2] rfl) S
  · replace h := (if_neg q18).symm.trans h
    refine lv_aload_n C.1 C.2.1 dX11_findPays_127 rfl (lv_at hl 0 rfl) ?_
    refine r_getr C S o_76 cf_11 29 rfl (by decide) b_fl_RX11_73 dX11_findPays_128 ?_
    refine lv_iload C.1 C.2.1 dX11_findPays_131 (lv_at hl 3 rfl) ?_
    obtain ⟨g19, h⟩ := gd_some h
    refine r_iald C S a_98 g19 dX11_findPays_133 ?_
    refine lv_aload_n C.1 C.2.1 dX11_findPays_134 rfl (lv_at hl 0 rfl) ?_
    refine r_getr C S o_76 cf_11 29 rfl (by decide) b_fl_RX11_73 dX11_findPays_135 ?_
    refine lv_iload C.1 C.2.1 dX11_findPays_138 (lv_at hl 2 rfl) ?_
    obtain ⟨g20, h⟩ := gd_some h
    refine r_iald C S a_98 g20 dX11_findPays_140 ?_
    refine lv_icmp_le (tgt := 149) C.1 C.2.1 dX11_findPays_141 (by decide) (fun q21 => ?_) (fun q21 => ?_)
    · replace h := (if_pos q21).symm.trans h
      refine lv_iload C.1 C.2.1 dX11_findPays_149 (lv_at hl 2 rfl) ?_
      refine lv_istore (lv' := [(4, .int z.1), (0, .ref (ad 76)), (3, .int v3), (5, .int z.2)]) C.1 C.2.1 dX11_findPays_151 hl (by decide) rfl (fun ls hl => ?_)
      refine lv_iinc (v := z.2 + 1) (lv' := [(5, .int (z.2 + 1)), (4, .int z.1), (0, .ref (ad 76)), (3, .int v3)]) C.1 C.2.1 dX11_findPays_153 hl (k := 3) rfl rfl (by decide) rfl (fun ls hl => ?_)
      refine lv_goto (tgt := 116) C.1 C.2.1 dX11_findPays_156 (by decide) ?_
      exact hN _ (Option.some.inj h).symm _ _ _ (lv_sub hl [2, 3, 1, 0] rfl) S
    · replace h := (if_neg q21).symm.trans h
      refine lv_iload C.1 C.2.1 dX11_findPays_144 (lv_at hl 3 rfl) ?_
      refine lv_goto (tgt := 151) C.1 C.2.1 dX11_findPays_146 (by decide) ?_
      refine lv_istore (lv' := [(4, .int z.2), (0, .ref (ad 76)), (3, .int v3), (5, .int z.2)]) C.1 C.2.1 dX11_findPays_151 hl (by decide) rfl (fun ls hl => ?_)
      refine lv_iinc (v := z.2 + 1) (lv' := [(5, .int (z.2 + 1)), (4, .int z.2), (0, .ref (ad 76)), (3, .int v3)]) C.1 C.2.1 dX11_findPays_153 hl (k := 3) rfl rfl (by decide) rfl (fun ls hl => ?_)
      refine lv_goto (tgt := 116) C.1 C.2.1 dX11_findPays_156 (by decide) ?_
      exact hN _ (Option.some.inj h).symm _ _ _ (lv_sub hl [2, 3, 1, 0] rfl) S
set_option maxHeartbeats 4000000 in
set_option maxRecDepth 100000 in
theorem k_X11_findPays_L106 {p : Program} {l : Launch} {e : Env} {s : State} {m : MethodId} {args : Array Value} {below : List Frame} {meth : Method} {c : Code} {D : va_G} {ad sx : Nat → Nat} {ca : Nat → ClassId} (C : Cx D ad sx ca p s m c args RX11 cX11_findPays 7) {Q : State → Prop}   : ∀ (n9 : Nat) (z : Int32 × Wd) (o : Int32 × Wd), lp (f_X11_findPays_L106) n9 z = some o → (∀ (ls : Array Slot) (H : Heap) (locs : List Loc), lv_has ls 7 [] → St D ad ca s o.2 H locs → W p l e (RM 0 0) s m args below meth c H locs 0 0 Q (F0 m 184 ls [])) → (∀ (ls : Array Slot) (H : Heap) (locs : List Loc), lv_has ls 7 [(0, .ref (ad 76)), (3, .int z.1)] → St D ad ca s z.2 H locs → W p l e (RM 0 0) s m args below meth c H locs 0 0 Q (F0 m 106 ls [])) := by
  refine lp_W (HW := fun (z : Int32 × Wd) => ∀ (ls : Array Slot) (H : Heap) (locs : List Loc), lv_has ls 7 [(0, .ref (ad 76)), (3, .int z.1)] → St D ad ca s z.2 H locs → W p l e (RM 0 0) s m args below meth c H locs 0 0 Q (F0 m 106 ls [])) (XW := fun (o : Int32 × Wd) => ∀ (ls : Array Slot) (H : Heap) (locs : List Loc), lv_has ls 7 [] → St D ad ca s o.2 H locs → W p l e (RM 0 0) s m args below meth c H locs 0 0 Q (F0 m 184 ls [])) ?_
  intro z x h hN hX ls H locs hl S
  unfold f_X11_findPays_L106 at h
  refine lv_iload_n C.1 C.2.1 dX11_findPays_106 rfl (lv_at hl 1 rfl) ?_
  refine lv_if_le (tgt := 184) C.1 C.2.1 dX11_findPays_107 (by decide) (fun q17 => ?_) (fun q17 => ?_)
  · replace h := (if_pos q17).symm.trans h
    exact hX _ (Option.some.inj h).symm _ _ _ (lv_sub hl [] rfl) S
  · replace h := (if_neg q17).symm.trans h
    refine lv_iconst (v := 0) C.1 C.2.1 dX11_findPays_110 (by decide) ?_
    refine lv_istore (lv' := [(4, .int 0), (0, .ref (ad 76)), (3, .int z.1)]) C.1 C.2.1 dX11_findPays_111 hl (by decide) rfl (fun ls hl => ?_)
    refine lv_iconst (v := 1) C.1 C.2.1 dX11_findPays_113 (by decide) ?_
    refine lv_istore (lv' := [(5, .int 1), (4, .int 0), (0, .ref (ad 76)), (3, .int z.1)]) C.1 C.2.1 dX11_findPays_114 hl (by decide) rfl (fun ls hl => ?_)
    obtain ⟨o22, e23, h⟩ := Option.bind_eq_some_iff.mp h
    refine k_X11_findPays_L116 C  FU _ _ e23 (fun ls H locs hl S => ?_) ls H locs (lv_sub hl [2, 3, 1, 0] rfl) S
    refine lv_aload_n C.1 C.2.1 dX11_findPays_159 rfl (lv_at hl 0 rfl) ?_
    refine r_getr C S o_76 cf_11 28 rfl (by decide) b_fl_RX11_70 dX11_findPays_160 ?_
    refine lv_iload C.1 C.2.1 dX11_findPays_163 (lv_at hl 2 rfl) ?_
    refine lv_dup2_11 C.1 C.2.1 dX11_findPays_165 rfl rfl ?_
    obtain ⟨g24, h⟩ := gd_some h
    refine r_iald C S a_97 g24 dX11_findPays_166 ?_
    refine lv_iconst (v := 1) C.1 C.2.1 dX11_findPays_167 (by decide) ?_
    refine lv_iadd C.1 C.2.1 dX11_findPays_168 ?_
    obtain ⟨g25, h⟩ := gd_some h
    refine r_iast C S a_97 g25 dX11_findPays_169 (fun H locs S => ?_)
    obtain ⟨w26, h, S⟩ := lw_S (P := fun y => St D ad ca s y H locs) h S
    refine lv_aload_n C.1 C.2.1 dX11_findPays_170 rfl (lv_at hl 0 rfl) ?_
    refine r_getr C S o_76 cf_11 29 rfl (by decide) b_fl_RX11_73 dX11_findPays_171 ?_
    refine lv_iload C.1 C.2.1 dX11_findPays_174 (lv_at hl 2 rfl) ?_
    refine lv_iconst (v := (-1)) C.1 C.2.1 dX11_findPays_176 (by decide) ?_
    obtain ⟨g27, h⟩ := gd_some h
    refine r_iast C S a_98 g27 dX11_findPays_177 (fun H locs S => ?_)
    obtain ⟨w28, h, S⟩ := lw_S (P := fun y => St D ad ca s y H locs) h S
    refine lv_iinc (v := z.1 + (-1)) (lv' := [(3, .int (z.1 + (-1))), (0, .ref (ad 76)), (4, .int o22.1)]) C.1 C.2.1 dX11_findPays_178 hl (k := 1) rfl rfl (by decide) rfl (fun ls hl => ?_)
    refine lv_goto (tgt := 106) C.1 C.2.1 dX11_findPays_181 (by decide) ?_
    exact hN _ (Option.some.inj h).symm _ _ _ (lv_sub hl [1, 0] rfl) S
set_option maxHeartbeats 4000000 in
set_option maxRecDepth 100000 in
theorem k_X11_findPays {v1 : Int32}  {w : Wd} {rv : Int32 × Wd} (h : f_X11_findPays v1 w = some rv) : CI yX11_findPays cX11_findPays 7 .boolean 0 0 (fun ad => [.ref (ad 76), .int v1]) w rv.1 rv.2 := by
  refine CI.of (by decide) ?_
  intro l D ad sx ca p e s m below meth c C S hr hlocks
  have hl := lv_entry ([.ref (ad 76), .int v1]) (n := 7) (Nat.le_of_ble_eq_true rfl)
  rw [lg_entry_eq]
  generalize (lg_sl ([.ref (ad 76), .int v1]) ++ List.replicate (7 - (lg_sl ([.ref (ad 76), .int v1])).length) Slot.unset).toArray = ls at hl ⊢
  have hl : lv_has ls 7 [(0, .ref (ad 76)), (1, .int v1)] := hl
  generalize ha9 : ([.ref (ad 76), .int v1] : List Value).toArray = args at C ⊢
  generalize s.heap = H at S ⊢
  generalize ([] : List Loc) = locs at S ⊢
  unfold f_X11_findPays at h
  refine lv_iconst (v := 0) C.1 C.2.1 dX11_findPays_0 (by decide) ?_
  refine lv_istore_n (lv' := [(2, .int 0), (0, .ref (ad 76)), (1, .int v1)]) C.1 C.2.1 dX11_findPays_1 rfl hl (by decide) rfl (fun ls hl => ?_)
  refine lv_iconst (v := 0) C.1 C.2.1 dX11_findPays_2 (by decide) ?_
  refine lv_istore_n (lv' := [(3, .int 0), (2, .int 0), (0, .ref (ad 76)), (1, .int v1)]) C.1 C.2.1 dX11_findPays_3 rfl hl (by decide) rfl (fun ls hl => ?_)
  obtain ⟨o3, e4, h⟩ := Option.bind_eq_some_iff.mp h
  refine k_X11_findPays_L4 C  FU _ _ e4 (fun ls H locs hl S => ?_) ls H locs (lv_sub hl [2, 3, 1, 0] rfl) S
  refine lv_iload_n C.1 C.2.1 dX11_findPays_29 rfl (lv_at hl 2 rfl) ?_
  refine lv_if_ne (tgt := 35) C.1 C.2.1 dX11_findPays_30 (by decide) (fun q5 => ?_) (fun q5 => ?_)
  · replace h := (if_neg q5).symm.trans h
    refine lv_iload_n C.1 C.2.1 dX11_findPays_35 rfl (lv_at hl 1 rfl) ?_
    refine lv_istore_n (lv' := [(3, .int v1), (0, .ref (ad 76)), (1, .int v1), (2, .int o3.1)]) C.1 C.2.1 dX11_findPays_36 rfl hl (by decide) rfl (fun ls hl => ?_)
    refine lv_iconst (v := 0) C.1 C.2.1 dX11_findPays_37 (by decide) ?_
    refine lv_istore (lv' := [(4, .int 0), (3, .int v1), (0, .ref (ad 76)), (1, .int v1), (2, .int o3.1)]) C.1 C.2.1 dX11_findPays_38 hl (by decide) rfl (fun ls hl => ?_)
    obtain ⟨o15, e16, h⟩ := Option.bind_eq_some_iff.mp h
    refine k_X11_findPays_L40 C  FU _ _ e16 (fun ls H locs hl S => ?_) ls H locs (lv_sub hl [2, 3, 4, 1, 0] rfl) S
    obtain ⟨o29, e30, h⟩ := Option.bind_eq_some_iff.mp h
    refine k_X11_findPays_L106 C  FU _ _ e30 (fun ls H locs hl S => ?_) ls H locs (lv_sub hl [0, 1] rfl) S
    refine lv_iconst (v := 1) C.1 C.2.1 dX11_findPays_184 (by decide) ?_
    have h9 := Option.some.inj h
    subst h9
    exact r_zret C S hr hlocks (Or.inr rfl) dX11_findPays_185
  · replace h := (if_pos q5).symm.trans h
    refine lv_iconst (v := 0) C.1 C.2.1 dX11_findPays_33 (by decide) ?_
    have h9 := Option.some.inj h
    subst h9
    exact r_zret C S hr hlocks (Or.inl rfl) dX11_findPays_34
set_option maxHeartbeats 4000000 in
set_option maxRecDepth 100000 in
theorem k_X11_share {v1 : Int32}  {w : Wd} {rv : Int32 × Wd} (h : f_X11_share v1 w = some rv) : CI yX11_share cX11_share 2 .int 5 113 (fun ad => [.ref (ad 76), .int v1]) w rv.1 rv.2 := by
  refine CI.of (by decide) ?_
  intro l D ad sx ca p e s m below meth c C S hr hlocks
  have hl := lv_entry ([.ref (ad 76), .int v1]) (n := 2) (Nat.le_of_ble_eq_true rfl)
  rw [lg_entry_eq]
  generalize (lg_sl ([.ref (ad 76), .int v1]) ++ List.replicate (2 - (lg_sl ([.ref (ad 76), .int v1])).length) Slot.unset).toArray = ls at hl ⊢
  have hl : lv_has ls 2 [(0, .ref (ad 76)), (1, .int v1)] := hl
  generalize ha9 : ([.ref (ad 76), .int v1] : List Value).toArray = args at C ⊢
  generalize s.heap = H at S ⊢
  generalize ([] : List Loc) = locs at S ⊢
  unfold f_X11_share at h
  refine lv_aload_n C.1 C.2.1 dX11_share_0 rfl (lv_at hl 0 rfl) ?_
  refine lv_iload_n C.1 C.2.1 dX11_share_1 rfl (lv_at hl 1 rfl) ?_
  obtain ⟨o1, e2, h⟩ := Option.bind_eq_some_iff.mp h
  refine r_vi C S hl o_76 cf_11 (k_X11_isFlat e2) b_vb_RX11_141 [.int v1] rfl [] rfl rfl (Nat.le_of_ble_eq_true rfl) ⟨Nat.le_of_ble_eq_true rfl, Nat.le_of_ble_eq_true rfl⟩ dX11_share_2 (fun H locs S => ?_)
  refine lv_if_ne (tgt := 15) C.1 C.2.1 dX11_share_5 (by decide) (fun q3 => ?_) (fun q3 => ?_)
  · replace h := (if_neg q3).symm.trans h
    refine lv_aload_n C.1 C.2.1 dX11_share_15 rfl (lv_at hl 0 rfl) ?_
    refine lv_iconst (v := 1) C.1 C.2.1 dX11_share_16 (by decide) ?_
    obtain ⟨o4, e5, h⟩ := Option.bind_eq_some_iff.mp h
    refine r_vv C S hl o_76 cf_11 (k_X11_findShares e5) b_vb_RX11_218 [.int 1] rfl [] rfl rfl (Nat.le_of_ble_eq_true rfl) ⟨Nat.le_of_ble_eq_true rfl, Nat.le_of_ble_eq_true rfl⟩ dX11_share_17 (fun H locs S => ?_)
    refine lv_aload_n C.1 C.2.1 dX11_share_20 rfl (lv_at hl 0 rfl) ?_
    refine r_getr C S o_76 cf_11 27 rfl (by decide) b_fl_RX11_67 dX11_share_21 ?_
    refine lv_iload_n C.1 C.2.1 dX11_share_24 rfl (lv_at hl 1 rfl) ?_
    obtain ⟨g6, h⟩ := gd_some h
    refine r_iald C S a_96 g6 dX11_share_25 ?_
    have h9 := Option.some.inj h
    subst h9
    exact r_iret C S hr hlocks dX11_share_26
  · replace h := (if_pos q3).symm.trans h
    refine lv_aload_n C.1 C.2.1 dX11_share_8 rfl (lv_at hl 0 rfl) ?_
    refine r_ldc C (-1000000001) b_cn_RX11_92 dX11_share_9 ?_
    obtain ⟨o7, e8, h⟩ := Option.bind_eq_some_iff.mp h
    refine r_vi C S hl o_76 cf_11 (k_X11_finds e8) b_vb_RX11_109 [.int (-1000000001)] rfl [] rfl rfl (Nat.le_of_ble_eq_true rfl) ⟨Nat.le_of_ble_eq_true rfl, Nat.le_of_ble_eq_true rfl⟩ dX11_share_11 (fun H locs S => ?_)
    have h9 := Option.some.inj h
    subst h9
    exact r_iret C S hr hlocks dX11_share_14
set_option maxHeartbeats 4000000 in
set_option maxRecDepth 100000 in
theorem k_X11_bill {v1 : Int32} {v2 : Int32}  {w : Wd} {rv : Int32 × Wd} (h : f_X11_bill v1 v2 w = some rv) : CI yX11_bill cX11_bill 3 .int 5 113 (fun ad => [.ref (ad 76), .int v1, .int v2]) w rv.1 rv.2 := by
  refine CI.of (by decide) ?_
  intro l D ad sx ca p e s m below meth c C S hr hlocks
  have hl := lv_entry ([.ref (ad 76), .int v1, .int v2]) (n := 3) (Nat.le_of_ble_eq_true rfl)
  rw [lg_entry_eq]
  generalize (lg_sl ([.ref (ad 76), .int v1, .int v2]) ++ List.replicate (3 - (lg_sl ([.ref (ad 76), .int v1, .int v2])).length) Slot.unset).toArray = ls at hl ⊢
  have hl : lv_has ls 3 [(0, .ref (ad 76)), (1, .int v1), (2, .int v2)] := hl
  generalize ha9 : ([.ref (ad 76), .int v1, .int v2] : List Value).toArray = args at C ⊢
  generalize s.heap = H at S ⊢
  generalize ([] : List Loc) = locs at S ⊢
  unfold f_X11_bill at h
  refine lv_iload_n C.1 C.2.1 dX11_bill_0 rfl (lv_at hl 1 rfl) ?_
  refine lv_iconst (v := 0) C.1 C.2.1 dX11_bill_1 (by decide) ?_
  refine lv_sipush (v := 9999) C.1 C.2.1 dX11_bill_2 (by decide) ?_
  obtain ⟨o1, e2, h⟩ := Option.bind_eq_some_iff.mp h
  refine r_si C S hl (k_X11_in e2) b_sb_RX11_97 [.int v1, .int 0, .int 9999] rfl [] rfl rfl (Nat.le_of_ble_eq_true rfl) ⟨Nat.le_of_ble_eq_true rfl, Nat.le_of_ble_eq_true rfl⟩ dX11_bill_5 (fun H locs S => ?_)
  refine lv_if_eq (tgt := 19) C.1 C.2.1 dX11_bill_8 (by decide) (fun q3 => ?_) (fun q3 => ?_)
  · replace h := (if_pos q3).symm.trans h
    refine lv_aload_n C.1 C.2.1 dX11_bill_19 rfl (lv_at hl 0 rfl) ?_
    refine r_ldc C (-1000000001) b_cn_RX11_92 dX11_bill_20 ?_
    obtain ⟨o4, e5, h⟩ := Option.bind_eq_some_iff.mp h
    refine r_vi C S hl o_76 cf_11 (k_X11_finds e5) b_vb_RX11_109 [.int (-1000000001)] rfl [] rfl rfl (Nat.le_of_ble_eq_true rfl) ⟨Nat.le_of_ble_eq_true rfl, Nat.le_of_ble_eq_true rfl⟩ dX11_bill_22 (fun H locs S => ?_)
    have h9 := Option.some.inj h
    subst h9
    exact r_iret C S hr hlocks dX11_bill_25
  · replace h := (if_neg q3).symm.trans h
    refine lv_aload_n C.1 C.2.1 dX11_bill_11 rfl (lv_at hl 0 rfl) ?_
    refine lv_iload_n C.1 C.2.1 dX11_bill_12 rfl (lv_at hl 2 rfl) ?_
    obtain ⟨o6, e7, h⟩ := Option.bind_eq_some_iff.mp h
    refine r_vi C S hl o_76 cf_11 (k_X11_isFlat e7) b_vb_RX11_141 [.int v2] rfl [] rfl rfl (Nat.le_of_ble_eq_true rfl) ⟨Nat.le_of_ble_eq_true rfl, Nat.le_of_ble_eq_true rfl⟩ dX11_bill_13 (fun H locs S => ?_)
    refine lv_if_ne (tgt := 26) C.1 C.2.1 dX11_bill_16 (by decide) (fun q8 => ?_) (fun q8 => ?_)
    · replace h := (if_neg q8).symm.trans h
      refine lv_aload_n C.1 C.2.1 dX11_bill_26 rfl (lv_at hl 0 rfl) ?_
      refine lv_iconst (v := 1) C.1 C.2.1 dX11_bill_27 (by decide) ?_
      obtain ⟨o9, e10, h⟩ := Option.bind_eq_some_iff.mp h
      refine r_vv C S hl o_76 cf_11 (k_X11_findShares e10) b_vb_RX11_218 [.int 1] rfl [] rfl rfl (Nat.le_of_ble_eq_true rfl) ⟨Nat.le_of_ble_eq_true rfl, Nat.le_of_ble_eq_true rfl⟩ dX11_bill_28 (fun H locs S => ?_)
      refine lv_aload_n C.1 C.2.1 dX11_bill_31 rfl (lv_at hl 0 rfl) ?_
      refine lv_iload_n C.1 C.2.1 dX11_bill_32 rfl (lv_at hl 1 rfl) ?_
      obtain ⟨o11, e12, h⟩ := Option.bind_eq_some_iff.mp h
      refine r_vi C S hl o_76 cf_11 (k_X11_findPays e12) b_vb_RX11_222 [.int v1] rfl [] rfl rfl (Nat.le_of_ble_eq_true rfl) ⟨Nat.le_of_ble_eq_true rfl, Nat.le_of_ble_eq_true rfl⟩ dX11_bill_33 (fun H locs S => ?_)
      refine lv_if_eq (tgt := 48) C.1 C.2.1 dX11_bill_36 (by decide) (fun q13 => ?_) (fun q13 => ?_)
      · replace h := (if_pos q13).symm.trans h
        refine lv_aload_n C.1 C.2.1 dX11_bill_48 rfl (lv_at hl 0 rfl) ?_
        refine r_ldc C (-1000000004) b_cn_RX11_225 dX11_bill_49 ?_
        obtain ⟨o14, e15, h⟩ := Option.bind_eq_some_iff.mp h
        refine r_vi C S hl o_76 cf_11 (k_X11_finds e15) b_vb_RX11_109 [.int (-1000000004)] rfl [] rfl rfl (Nat.le_of_ble_eq_true rfl) ⟨Nat.le_of_ble_eq_true rfl, Nat.le_of_ble_eq_true rfl⟩ dX11_bill_51 (fun H locs S => ?_)
        have h9 := Option.some.inj h
        subst h9
        exact r_iret C S hr hlocks dX11_bill_54
      · replace h := (if_neg q13).symm.trans h
        refine lv_aload_n C.1 C.2.1 dX11_bill_39 rfl (lv_at hl 0 rfl) ?_
        refine r_getr C S o_76 cf_11 28 rfl (by decide) b_fl_RX11_70 dX11_bill_40 ?_
        refine lv_iload_n C.1 C.2.1 dX11_bill_43 rfl (lv_at hl 2 rfl) ?_
        obtain ⟨g16, h⟩ := gd_some h
        refine r_iald C S a_97 g16 dX11_bill_44 ?_
        refine lv_goto (tgt := 54) C.1 C.2.1 dX11_bill_45 (by decide) ?_
        have h9 := Option.some.inj h
        subst h9
        exact r_iret C S hr hlocks dX11_bill_54
    · replace h := (if_pos q8).symm.trans h
      refine lv_aload_n C.1 C.2.1 dX11_bill_19 rfl (lv_at hl 0 rfl) ?_
      refine r_ldc C (-1000000001) b_cn_RX11_92 dX11_bill_20 ?_
      obtain ⟨o17, e18, h⟩ := Option.bind_eq_some_iff.mp h
      refine r_vi C S hl o_76 cf_11 (k_X11_finds e18) b_vb_RX11_109 [.int (-1000000001)] rfl [] rfl rfl (Nat.le_of_ble_eq_true rfl) ⟨Nat.le_of_ble_eq_true rfl, Nat.le_of_ble_eq_true rfl⟩ dX11_bill_22 (fun H locs S => ?_)
      have h9 := Option.some.inj h
      subst h9
      exact r_iret C S hr hlocks dX11_bill_25
set_option maxHeartbeats 4000000 in
set_option maxRecDepth 100000 in
theorem k_X11_other {v1 : Int32} {v2 : Int32}  {w : Wd} {rv : Int32 × Wd} (h : f_X11_other v1 v2 w = some rv) : CI yX11_other cX11_other 5 .int 5 113 (fun ad => [.ref (ad 76), .int v1, .int v2]) w rv.1 rv.2 := by
  refine CI.of (by decide) ?_
  intro l D ad sx ca p e s m below meth c C S hr hlocks
  have hl := lv_entry ([.ref (ad 76), .int v1, .int v2]) (n := 5) (Nat.le_of_ble_eq_true rfl)
  rw [lg_entry_eq]
  generalize (lg_sl ([.ref (ad 76), .int v1, .int v2]) ++ List.replicate (5 - (lg_sl ([.ref (ad 76), .int v1, .int v2])).length) Slot.unset).toArray = ls at hl ⊢
  have hl : lv_has ls 5 [(0, .ref (ad 76)), (1, .int v1), (2, .int v2)] := hl
  generalize ha9 : ([.ref (ad 76), .int v1, .int v2] : List Value).toArray = args at C ⊢
  generalize s.heap = H at S ⊢
  generalize ([] : List Loc) = locs at S ⊢
  unfold f_X11_other at h
  refine lv_iload_n C.1 C.2.1 dX11_other_0 rfl (lv_at hl 1 rfl) ?_
  refine lv_iconst (v := 0) C.1 C.2.1 dX11_other_1 (by decide) ?_
  refine lv_sipush (v := 9999) C.1 C.2.1 dX11_other_2 (by decide) ?_
  obtain ⟨o1, e2, h⟩ := Option.bind_eq_some_iff.mp h
  refine r_si C S hl (k_X11_in e2) b_sb_RX11_97 [.int v1, .int 0, .int 9999] rfl [] rfl rfl (Nat.le_of_ble_eq_true rfl) ⟨Nat.le_of_ble_eq_true rfl, Nat.le_of_ble_eq_true rfl⟩ dX11_other_5 (fun H locs S => ?_)
  refine lv_if_eq (tgt := 19) C.1 C.2.1 dX11_other_8 (by decide) (fun q3 => ?_) (fun q3 => ?_)
  · replace h := (if_pos q3).symm.trans h
    refine lv_aload_n C.1 C.2.1 dX11_other_19 rfl (lv_at hl 0 rfl) ?_
    refine r_ldc C (-1000000001) b_cn_RX11_92 dX11_other_20 ?_
    obtain ⟨o4, e5, h⟩ := Option.bind_eq_some_iff.mp h
    refine r_vi C S hl o_76 cf_11 (k_X11_finds e5) b_vb_RX11_109 [.int (-1000000001)] rfl [] rfl rfl (Nat.le_of_ble_eq_true rfl) ⟨Nat.le_of_ble_eq_true rfl, Nat.le_of_ble_eq_true rfl⟩ dX11_other_22 (fun H locs S => ?_)
    have h9 := Option.some.inj h
    subst h9
    exact r_iret C S hr hlocks dX11_other_25
  · replace h := (if_neg q3).symm.trans h
    refine lv_aload_n C.1 C.2.1 dX11_other_11 rfl (lv_at hl 0 rfl) ?_
    refine lv_iload_n C.1 C.2.1 dX11_other_12 rfl (lv_at hl 2 rfl) ?_
    obtain ⟨o6, e7, h⟩ := Option.bind_eq_some_iff.mp h
    refine r_vi C S hl o_76 cf_11 (k_X11_isFlat e7) b_vb_RX11_141 [.int v2] rfl [] rfl rfl (Nat.le_of_ble_eq_true rfl) ⟨Nat.le_of_ble_eq_true rfl, Nat.le_of_ble_eq_true rfl⟩ dX11_other_13 (fun H locs S => ?_)
    refine lv_if_ne (tgt := 26) C.1 C.2.1 dX11_other_16 (by decide) (fun q8 => ?_) (fun q8 => ?_)
    · replace h := (if_neg q8).symm.trans h
      refine lv_aload_n C.1 C.2.1 dX11_other_26 rfl (lv_at hl 0 rfl) ?_
      refine lv_iconst (v := 1) C.1 C.2.1 dX11_other_27 (by decide) ?_
      obtain ⟨o9, e10, h⟩ := Option.bind_eq_some_iff.mp h
      refine r_vv C S hl o_76 cf_11 (k_X11_findShares e10) b_vb_RX11_218 [.int 1] rfl [] rfl rfl (Nat.le_of_ble_eq_true rfl) ⟨Nat.le_of_ble_eq_true rfl, Nat.le_of_ble_eq_true rfl⟩ dX11_other_28 (fun H locs S => ?_)
      refine lv_aload_n C.1 C.2.1 dX11_other_31 rfl (lv_at hl 0 rfl) ?_
      refine lv_iload_n C.1 C.2.1 dX11_other_32 rfl (lv_at hl 1 rfl) ?_
      obtain ⟨o11, e12, h⟩ := Option.bind_eq_some_iff.mp h
      refine r_vi C S hl o_76 cf_11 (k_X11_findPays e12) b_vb_RX11_222 [.int v1] rfl [] rfl rfl (Nat.le_of_ble_eq_true rfl) ⟨Nat.le_of_ble_eq_true rfl, Nat.le_of_ble_eq_true rfl⟩ dX11_other_33 (fun H locs S => ?_)
      refine lv_istore_n (lv' := [(3, .int o11.1), (0, .ref (ad 76)), (1, .int v1), (2, .int v2)]) C.1 C.2.1 dX11_other_36 rfl hl (by decide) rfl (fun ls hl => ?_)
      refine lv_aload_n C.1 C.2.1 dX11_other_37 rfl (lv_at hl 1 rfl) ?_
      refine r_getr C S o_76 cf_11 28 rfl (by decide) b_fl_RX11_70 dX11_other_38 ?_
      refine lv_iload_n C.1 C.2.1 dX11_other_41 rfl (lv_at hl 3 rfl) ?_
      obtain ⟨g13, h⟩ := gd_some h
      refine r_iald C S a_97 g13 dX11_other_42 ?_
      refine lv_istore (lv' := [(4, .int (o11.2.1 97 v2.toNatClampNeg)), (3, .int o11.1), (0, .ref (ad 76)), (1, .int v1), (2, .int v2)]) C.1 C.2.1 dX11_other_43 hl (by decide) rfl (fun ls hl => ?_)
      refine lv_aload_n C.1 C.2.1 dX11_other_45 rfl (lv_at hl 2 rfl) ?_
      refine lv_iconst (v := 0) C.1 C.2.1 dX11_other_46 (by decide) ?_
      obtain ⟨o14, e15, h⟩ := Option.bind_eq_some_iff.mp h
      refine r_vv C S hl o_76 cf_11 (k_X11_findShares e15) b_vb_RX11_218 [.int 0] rfl [] rfl rfl (Nat.le_of_ble_eq_true rfl) ⟨Nat.le_of_ble_eq_true rfl, Nat.le_of_ble_eq_true rfl⟩ dX11_other_47 (fun H locs S => ?_)
      refine lv_aload_n C.1 C.2.1 dX11_other_50 rfl (lv_at hl 2 rfl) ?_
      refine lv_iload_n C.1 C.2.1 dX11_other_51 rfl (lv_at hl 3 rfl) ?_
      obtain ⟨o16, e17, h⟩ := Option.bind_eq_some_iff.mp h
      refine r_vi C S hl o_76 cf_11 (k_X11_findPays e17) b_vb_RX11_222 [.int v1] rfl [] rfl rfl (Nat.le_of_ble_eq_true rfl) ⟨Nat.le_of_ble_eq_true rfl, Nat.le_of_ble_eq_true rfl⟩ dX11_other_52 (fun H locs S => ?_)
      refine lv_if_eq (tgt := 74) C.1 C.2.1 dX11_other_55 (by decide) (fun q18 => ?_) (fun q18 => ?_)
      · replace h := (if_pos q18).symm.trans h
        refine lv_aload_n C.1 C.2.1 dX11_other_74 rfl (lv_at hl 2 rfl) ?_
        refine r_ldc C (-1000000004) b_cn_RX11_225 dX11_other_75 ?_
        obtain ⟨o19, e20, h⟩ := Option.bind_eq_some_iff.mp h
        refine r_vi C S hl o_76 cf_11 (k_X11_finds e20) b_vb_RX11_109 [.int (-1000000004)] rfl [] rfl rfl (Nat.le_of_ble_eq_true rfl) ⟨Nat.le_of_ble_eq_true rfl, Nat.le_of_ble_eq_true rfl⟩ dX11_other_77 (fun H locs S => ?_)
        have h9 := Option.some.inj h
        subst h9
        exact r_iret C S hr hlocks dX11_other_80
      · replace h := (if_neg q18).symm.trans h
        refine lv_iload_n C.1 C.2.1 dX11_other_58 rfl (lv_at hl 1 rfl) ?_
        refine lv_if_eq (tgt := 74) C.1 C.2.1 dX11_other_59 (by decide) (fun q21 => ?_) (fun q21 => ?_)
        · replace h := (if_pos q21).symm.trans h
          refine lv_aload_n C.1 C.2.1 dX11_other_74 rfl (lv_at hl 2 rfl) ?_
          refine r_ldc C (-1000000004) b_cn_RX11_225 dX11_other_75 ?_
          obtain ⟨o22, e23, h⟩ := Option.bind_eq_some_iff.mp h
          refine r_vi C S hl o_76 cf_11 (k_X11_finds e23) b_vb_RX11_109 [.int (-1000000004)] rfl [] rfl rfl (Nat.le_of_ble_eq_true rfl) ⟨Nat.le_of_ble_eq_true rfl, Nat.le_of_ble_eq_true rfl⟩ dX11_other_77 (fun H locs S => ?_)
          have h9 := Option.some.inj h
          subst h9
          exact r_iret C S hr hlocks dX11_other_80
        · replace h := (if_neg q21).symm.trans h
          refine lv_aload_n C.1 C.2.1 dX11_other_62 rfl (lv_at hl 2 rfl) ?_
          refine r_getr C S o_76 cf_11 28 rfl (by decide) b_fl_RX11_70 dX11_other_63 ?_
          refine lv_iload_n C.1 C.2.1 dX11_other_66 rfl (lv_at hl 4 rfl) ?_
          obtain ⟨g24, h⟩ := gd_some h
          refine r_iald C S a_97 g24 dX11_other_67 ?_
          refine lv_iload C.1 C.2.1 dX11_other_68 (lv_at hl 0 rfl) ?_
          refine lv_isub C.1 C.2.1 dX11_other_70 ?_
          refine lv_goto (tgt := 80) C.1 C.2.1 dX11_other_71 (by decide) ?_
          have h9 := Option.some.inj h
          subst h9
          exact r_iret C S hr hlocks dX11_other_80
    · replace h := (if_pos q8).symm.trans h
      refine lv_aload_n C.1 C.2.1 dX11_other_19 rfl (lv_at hl 0 rfl) ?_
      refine r_ldc C (-1000000001) b_cn_RX11_92 dX11_other_20 ?_
      obtain ⟨o25, e26, h⟩ := Option.bind_eq_some_iff.mp h
      refine r_vi C S hl o_76 cf_11 (k_X11_finds e26) b_vb_RX11_109 [.int (-1000000001)] rfl [] rfl rfl (Nat.le_of_ble_eq_true rfl) ⟨Nat.le_of_ble_eq_true rfl, Nat.le_of_ble_eq_true rfl⟩ dX11_other_22 (fun H locs S => ?_)
      have h9 := Option.some.inj h
      subst h9
      exact r_iret C S hr hlocks dX11_other_25
set_option maxHeartbeats 4000000 in
set_option maxRecDepth 100000 in
theorem k_X11_sumOf_L4 {p : Program} {l : Launch} {e : Env} {s : State} {m : MethodId} {args : Array Value} {below : List Frame} {meth : Method} {c : Code} {D : va_G} {ad sx : Nat → Nat} {ca : Nat → ClassId} (C : Cx D ad sx ca p s m c args RX11 cX11_sumOf 4) {Q : State → Prop} {w : Wd} {v1 : Int32}  : ∀ (n9 : Nat) (z : Int32 × Int32) (o : Int32 × Int32), lp (f_X11_sumOf_L4 v1 w) n9 z = some o → (∀ (ls : Array Slot) (H : Heap) (locs : List Loc), lv_has ls 4 [(2, .int o.1)] → St D ad ca s w H locs → W p l e (RM 1 22) s m args below meth c H locs 0 0 Q (F0 m 29 ls [])) → (∀ (ls : Array Slot) (H : Heap) (locs : List Loc), lv_has ls 4 [(0, .ref (ad 76)), (1, .int v1), (2, .int z.1), (3, .int z.2)] → St D ad ca s w H locs → W p l e (RM 1 22) s m args below meth c H locs 0 0 Q (F0 m 4 ls [])) := by
  refine lp_W (HW := fun (z : Int32 × Int32) => ∀ (ls : Array Slot) (H : Heap) (locs : List Loc), lv_has ls 4 [(0, .ref (ad 76)), (1, .int v1), (2, .int z.1), (3, .int z.2)] → St D ad ca s w H locs → W p l e (RM 1 22) s m args below meth c H locs 0 0 Q (F0 m 4 ls [])) (XW := fun (o : Int32 × Int32) => ∀ (ls : Array Slot) (H : Heap) (locs : List Loc), lv_has ls 4 [(2, .int o.1)] → St D ad ca s w H locs → W p l e (RM 1 22) s m args below meth c H locs 0 0 Q (F0 m 29 ls [])) ?_
  intro z x h hN hX ls H locs hl S
  unfold f_X11_sumOf_L4 at h
  refine lv_iload_n C.1 C.2.1 dX11_sumOf_4 rfl (lv_at hl 3 rfl) ?_
  refine lv_aload_n C.1 C.2.1 dX11_sumOf_5 rfl (lv_at hl 0 rfl) ?_
  refine r_getr C S o_76 cf_11 0 rfl (by decide) b_fl_RX11_9 dX11_sumOf_6 ?_
  refine lv_iconst (v := 4) C.1 C.2.1 dX11_sumOf_9 (by decide) ?_
  refine r_ialdn (j := 4) C S a_77 (by decide) (by decide) dX11_sumOf_10 ?_
  refine lv_icmp_ge (tgt := 29) C.1 C.2.1 dX11_sumOf_11 (by decide) (fun q1 => ?_) (fun q1 => ?_)
  · replace h := (if_pos q1).symm.trans h
    exact hX _ (Option.some.inj h).symm _ _ _ (lv_sub hl [2] rfl) S
  · replace h := (if_neg q1).symm.trans h
    refine lv_iload_n C.1 C.2.1 dX11_sumOf_14 rfl (lv_at hl 2 rfl) ?_
    refine lv_aload_n C.1 C.2.1 dX11_sumOf_15 rfl (lv_at hl 0 rfl) ?_
    refine lv_iload_n C.1 C.2.1 dX11_sumOf_16 rfl (lv_at hl 3 rfl) ?_
    refine lv_iload_n C.1 C.2.1 dX11_sumOf_17 rfl (lv_at hl 1 rfl) ?_
    obtain ⟨o2, e3, h⟩ := Option.bind_eq_some_iff.mp h
    refine r_vi C S hl o_76 cf_11 (k_X11_get e3) b_vb_RX11_101 [.int z.2, .int v1] rfl [.int z.1] rfl rfl (Nat.le_of_ble_eq_true rfl) ⟨Nat.le_of_ble_eq_true rfl, Nat.le_of_ble_eq_true rfl⟩ dX11_sumOf_18 (fun H locs S => ?_)
    refine lv_iadd C.1 C.2.1 dX11_sumOf_21 ?_
    refine lv_istore_n (lv' := [(2, .int (z.1 + o2)), (0, .ref (ad 76)), (1, .int v1), (3, .int z.2)]) C.1 C.2.1 dX11_sumOf_22 rfl hl (by decide) rfl (fun ls hl => ?_)
    refine lv_iinc (v := z.2 + 1) (lv' := [(3, .int (z.2 + 1)), (2, .int (z.1 + o2)), (0, .ref (ad 76)), (1, .int v1)]) C.1 C.2.1 dX11_sumOf_23 hl (k := 3) rfl rfl (by decide) rfl (fun ls hl => ?_)
    refine lv_goto (tgt := 4) C.1 C.2.1 dX11_sumOf_26 (by decide) ?_
    exact hN _ (Option.some.inj h).symm _ _ _ (lv_sub hl [2, 3, 1, 0] rfl) S
set_option maxHeartbeats 4000000 in
set_option maxRecDepth 100000 in
theorem k_X11_sumOf {v1 : Int32}  {w : Wd} {rv : Int32} (h : f_X11_sumOf v1 w = some rv) : CI yX11_sumOf cX11_sumOf 4 .int 1 22 (fun ad => [.ref (ad 76), .int v1]) w rv w := by
  refine CI.of (by decide) ?_
  intro l D ad sx ca p e s m below meth c C S hr hlocks
  have hl := lv_entry ([.ref (ad 76), .int v1]) (n := 4) (Nat.le_of_ble_eq_true rfl)
  rw [lg_entry_eq]
  generalize (lg_sl ([.ref (ad 76), .int v1]) ++ List.replicate (4 - (lg_sl ([.ref (ad 76), .int v1])).length) Slot.unset).toArray = ls at hl ⊢
  have hl : lv_has ls 4 [(0, .ref (ad 76)), (1, .int v1)] := hl
  generalize ha9 : ([.ref (ad 76), .int v1] : List Value).toArray = args at C ⊢
  generalize s.heap = H at S ⊢
  generalize ([] : List Loc) = locs at S ⊢
  unfold f_X11_sumOf at h
  refine lv_iconst (v := 0) C.1 C.2.1 dX11_sumOf_0 (by decide) ?_
  refine lv_istore_n (lv' := [(2, .int 0), (0, .ref (ad 76)), (1, .int v1)]) C.1 C.2.1 dX11_sumOf_1 rfl hl (by decide) rfl (fun ls hl => ?_)
  refine lv_iconst (v := 0) C.1 C.2.1 dX11_sumOf_2 (by decide) ?_
  refine lv_istore_n (lv' := [(3, .int 0), (2, .int 0), (0, .ref (ad 76)), (1, .int v1)]) C.1 C.2.1 dX11_sumOf_3 rfl hl (by decide) rfl (fun ls hl => ?_)
  obtain ⟨o4, e5, h⟩ := Option.bind_eq_some_iff.mp h
  refine k_X11_sumOf_L4 C  FU _ _ e5 (fun ls H locs hl S => ?_) ls H locs (lv_sub hl [2, 3, 1, 0] rfl) S
  refine lv_iload_n C.1 C.2.1 dX11_sumOf_29 rfl (lv_at hl 0 rfl) ?_
  have h9 := Option.some.inj h
  subst h9
  exact r_iret C S hr hlocks dX11_sumOf_30
set_option maxHeartbeats 4000000 in
set_option maxRecDepth 100000 in
theorem k_X11_offBy {v1 : Int32}  {w : Wd} {rv : Int32} (h : f_X11_offBy v1 w = some rv) : CI yX11_offBy cX11_offBy 3 .int 1 22 (fun ad => [.ref (ad 76), .int v1]) w rv w := by
  refine CI.of (by decide) ?_
  intro l D ad sx ca p e s m below meth c C S hr hlocks
  have hl := lv_entry ([.ref (ad 76), .int v1]) (n := 3) (Nat.le_of_ble_eq_true rfl)
  rw [lg_entry_eq]
  generalize (lg_sl ([.ref (ad 76), .int v1]) ++ List.replicate (3 - (lg_sl ([.ref (ad 76), .int v1])).length) Slot.unset).toArray = ls at hl ⊢
  have hl : lv_has ls 3 [(0, .ref (ad 76)), (1, .int v1)] := hl
  generalize ha9 : ([.ref (ad 76), .int v1] : List Value).toArray = args at C ⊢
  generalize s.heap = H at S ⊢
  generalize ([] : List Loc) = locs at S ⊢
  unfold f_X11_offBy at h
  refine lv_aload_n C.1 C.2.1 dX11_offBy_0 rfl (lv_at hl 0 rfl) ?_
  refine lv_iload_n C.1 C.2.1 dX11_offBy_1 rfl (lv_at hl 1 rfl) ?_
  refine lv_bipush (v := 7) C.1 C.2.1 dX11_offBy_2 (by decide) ?_
  obtain ⟨o1, e2, h⟩ := Option.bind_eq_some_iff.mp h
  refine r_vi C S hl o_76 cf_11 (k_X11_get e2) b_vb_RX11_101 [.int v1, .int 7] rfl [] rfl rfl (Nat.le_of_ble_eq_true rfl) ⟨Nat.le_of_ble_eq_true rfl, Nat.le_of_ble_eq_true rfl⟩ dX11_offBy_4 (fun H locs S => ?_)
  refine lv_aload_n C.1 C.2.1 dX11_offBy_7 rfl (lv_at hl 0 rfl) ?_
  refine lv_iload_n C.1 C.2.1 dX11_offBy_8 rfl (lv_at hl 1 rfl) ?_
  refine lv_bipush (v := 8) C.1 C.2.1 dX11_offBy_9 (by decide) ?_
  obtain ⟨o3, e4, h⟩ := Option.bind_eq_some_iff.mp h
  refine r_vi C S hl o_76 cf_11 (k_X11_get e4) b_vb_RX11_101 [.int v1, .int 8] rfl [.int o1] rfl rfl (Nat.le_of_ble_eq_true rfl) ⟨Nat.le_of_ble_eq_true rfl, Nat.le_of_ble_eq_true rfl⟩ dX11_offBy_11 (fun H locs S => ?_)
  refine lv_isub C.1 C.2.1 dX11_offBy_14 ?_
  refine lv_istore_n (lv' := [(2, .int (o1 - o3)), (0, .ref (ad 76)), (1, .int v1)]) C.1 C.2.1 dX11_offBy_15 rfl hl (by decide) rfl (fun ls hl => ?_)
  refine lv_iload_n C.1 C.2.1 dX11_offBy_16 rfl (lv_at hl 0 rfl) ?_
  refine lv_if_ge (tgt := 25) C.1 C.2.1 dX11_offBy_17 (by decide) (fun q5 => ?_) (fun q5 => ?_)
  · replace h := (if_pos q5).symm.trans h
    refine lv_iload_n C.1 C.2.1 dX11_offBy_25 rfl (lv_at hl 0 rfl) ?_
    have h9 := Option.some.inj h
    subst h9
    exact r_iret C S hr hlocks dX11_offBy_26
  · replace h := (if_neg q5).symm.trans h
    refine lv_iload_n C.1 C.2.1 dX11_offBy_20 rfl (lv_at hl 0 rfl) ?_
    refine lv_ineg C.1 C.2.1 dX11_offBy_21 ?_
    refine lv_goto (tgt := 26) C.1 C.2.1 dX11_offBy_22 (by decide) ?_
    have h9 := Option.some.inj h
    subst h9
    exact r_iret C S hr hlocks dX11_offBy_26
set_option maxHeartbeats 4000000 in
set_option maxRecDepth 100000 in
theorem k_X11_meters_L54 {p : Program} {l : Launch} {e : Env} {s : State} {m : MethodId} {args : Array Value} {below : List Frame} {meth : Method} {c : Code} {D : va_G} {ad sx : Nat → Nat} {ca : Nat → ClassId} (C : Cx D ad sx ca p s m c args RX11 cX11_meters 4) {Q : State → Prop} {w : Wd}   : ∀ (n9 : Nat) (z : Int32 × Int32) (o : Int32 × Int32), lp (f_X11_meters_L54 w) n9 z = some o → (∀ (ls : Array Slot) (H : Heap) (locs : List Loc), lv_has ls 4 [(2, .int o.1)] → St D ad ca s w H locs → W p l e (RM 2 45) s m args below meth c H locs 0 0 Q (F0 m 89 ls [])) → (∀ (ls : Array Slot) (H : Heap) (locs : List Loc), lv_has ls 4 [(0, .ref (ad 76)), (2, .int z.1), (3, .int z.2)] → St D ad ca s w H locs → W p l e (RM 2 45) s m args below meth c H locs 0 0 Q (F0 m 54 ls [])) := by
  refine lp_W (HW := fun (z : Int32 × Int32) => ∀ (ls : Array Slot) (H : Heap) (locs : List Loc), lv_has ls 4 [(0, .ref (ad 76)), (2, .int z.1), (3, .int z.2)] → St D ad ca s w H locs → W p l e (RM 2 45) s m args below meth c H locs 0 0 Q (F0 m 54 ls [])) (XW := fun (o : Int32 × Int32) => ∀ (ls : Array Slot) (H : Heap) (locs : List Loc), lv_has ls 4 [(2, .int o.1)] → St D ad ca s w H locs → W p l e (RM 2 45) s m args below meth c H locs 0 0 Q (F0 m 89 ls [])) ?_
  intro z x h hN hX ls H locs hl S
  unfold f_X11_meters_L54 at h
  refine lv_iload_n C.1 C.2.1 dX11_meters_54 rfl (lv_at hl 2 rfl) ?_
  refine lv_aload_n C.1 C.2.1 dX11_meters_55 rfl (lv_at hl 0 rfl) ?_
  refine r_getr C S o_76 cf_11 0 rfl (by decide) b_fl_RX11_9 dX11_meters_56 ?_
  refine lv_iconst (v := 4) C.1 C.2.1 dX11_meters_59 (by decide) ?_
  refine r_ialdn (j := 4) C S a_77 (by decide) (by decide) dX11_meters_60 ?_
  refine lv_icmp_ge (tgt := 89) C.1 C.2.1 dX11_meters_61 (by decide) (fun q6 => ?_) (fun q6 => ?_)
  · replace h := (if_pos q6).symm.trans h
    exact hX _ (Option.some.inj h).symm _ _ _ (lv_sub hl [1] rfl) S
  · replace h := (if_neg q6).symm.trans h
    refine lv_aload_n C.1 C.2.1 dX11_meters_64 rfl (lv_at hl 0 rfl) ?_
    refine lv_iload_n C.1 C.2.1 dX11_meters_65 rfl (lv_at hl 2 rfl) ?_
    obtain ⟨o7, e8, h⟩ := Option.bind_eq_some_iff.mp h
    refine r_vi C S hl o_76 cf_11 (k_X11_offBy e8) b_vb_RX11_229 [.int z.2] rfl [] rfl rfl (Nat.le_of_ble_eq_true rfl) ⟨Nat.le_of_ble_eq_true rfl, Nat.le_of_ble_eq_true rfl⟩ dX11_meters_66 (fun H locs S => ?_)
    refine lv_aload_n C.1 C.2.1 dX11_meters_69 rfl (lv_at hl 0 rfl) ?_
    refine lv_iload_n C.1 C.2.1 dX11_meters_70 rfl (lv_at hl 1 rfl) ?_
    obtain ⟨o9, e10, h⟩ := Option.bind_eq_some_iff.mp h
    refine r_vi C S hl o_76 cf_11 (k_X11_offBy e10) b_vb_RX11_229 [.int z.1] rfl [.int o7] rfl rfl (Nat.le_of_ble_eq_true rfl) ⟨Nat.le_of_ble_eq_true rfl, Nat.le_of_ble_eq_true rfl⟩ dX11_meters_71 (fun H locs S => ?_)
    refine lv_icmp_le (tgt := 81) C.1 C.2.1 dX11_meters_74 (by decide) (fun q11 => ?_) (fun q11 => ?_)
    · replace h := (if_pos q11).symm.trans h
      refine lv_iload_n C.1 C.2.1 dX11_meters_81 rfl (lv_at hl 1 rfl) ?_
      refine lv_istore_n (lv' := [(2, .int z.1), (0, .ref (ad 76)), (3, .int z.2)]) C.1 C.2.1 dX11_meters_82 rfl hl (by decide) rfl (fun ls hl => ?_)
      refine lv_iinc (v := z.2 + 1) (lv' := [(3, .int (z.2 + 1)), (2, .int z.1), (0, .ref (ad 76))]) C.1 C.2.1 dX11_meters_83 hl (k := 2) rfl rfl (by decide) rfl (fun ls hl => ?_)
      refine lv_goto (tgt := 54) C.1 C.2.1 dX11_meters_86 (by decide) ?_
      exact hN _ (Option.some.inj h).symm _ _ _ (lv_sub hl [2, 1, 0] rfl) S
    · replace h := (if_neg q11).symm.trans h
      refine lv_iload_n C.1 C.2.1 dX11_meters_77 rfl (lv_at hl 2 rfl) ?_
      refine lv_goto (tgt := 82) C.1 C.2.1 dX11_meters_78 (by decide) ?_
      refine lv_istore_n (lv' := [(2, .int z.2), (0, .ref (ad 76)), (3, .int z.2)]) C.1 C.2.1 dX11_meters_82 rfl hl (by decide) rfl (fun ls hl => ?_)
      refine lv_iinc (v := z.2 + 1) (lv' := [(3, .int (z.2 + 1)), (2, .int z.2), (0, .ref (ad 76))]) C.1 C.2.1 dX11_meters_83 hl (k := 2) rfl rfl (by decide) rfl (fun ls hl => ?_)
      refine lv_goto (tgt := 54) C.1 C.2.1 dX11_meters_86 (by decide) ?_
      exact hN _ (Option.some.inj h).symm _ _ _ (lv_sub hl [2, 1, 0] rfl) S
set_option maxHeartbeats 4000000 in
set_option maxRecDepth 100000 in
theorem k_X11_meters {v1 : Int32}  {w : Wd} {rv : Int32 × Wd} (h : f_X11_meters v1 w = some rv) : CI yX11_meters cX11_meters 4 .int 2 45 (fun ad => [.ref (ad 76), .int v1]) w rv.1 rv.2 := by
  refine CI.of (by decide) ?_
  intro l D ad sx ca p e s m below meth c C S hr hlocks
  have hl := lv_entry ([.ref (ad 76), .int v1]) (n := 4) (Nat.le_of_ble_eq_true rfl)
  rw [lg_entry_eq]
  generalize (lg_sl ([.ref (ad 76), .int v1]) ++ List.replicate (4 - (lg_sl ([.ref (ad 76), .int v1])).length) Slot.unset).toArray = ls at hl ⊢
  have hl : lv_has ls 4 [(0, .ref (ad 76)), (1, .int v1)] := hl
  generalize ha9 : ([.ref (ad 76), .int v1] : List Value).toArray = args at C ⊢
  generalize s.heap = H at S ⊢
  generalize ([] : List Loc) = locs at S ⊢
  unfold f_X11_meters at h
  refine lv_iload_n C.1 C.2.1 dX11_meters_0 rfl (lv_at hl 1 rfl) ?_
  refine lv_iconst (v := 0) C.1 C.2.1 dX11_meters_1 (by decide) ?_
  refine lv_iconst (v := 1) C.1 C.2.1 dX11_meters_2 (by decide) ?_
  obtain ⟨o1, e2, h⟩ := Option.bind_eq_some_iff.mp h
  refine r_si C S hl (k_X11_in e2) b_sb_RX11_97 [.int v1, .int 0, .int 1] rfl [] rfl rfl (Nat.le_of_ble_eq_true rfl) ⟨Nat.le_of_ble_eq_true rfl, Nat.le_of_ble_eq_true rfl⟩ dX11_meters_3 (fun H locs S => ?_)
  refine lv_if_ne (tgt := 16) C.1 C.2.1 dX11_meters_6 (by decide) (fun q3 => ?_) (fun q3 => ?_)
  · replace h := (if_neg q3).symm.trans h
    refine lv_iload_n C.1 C.2.1 dX11_meters_16 rfl (lv_at hl 1 rfl) ?_
    refine lv_if_ne (tgt := 34) C.1 C.2.1 dX11_meters_17 (by decide) (fun q4 => ?_) (fun q4 => ?_)
    · replace h := (if_neg q4).symm.trans h
      refine lv_aload_n C.1 C.2.1 dX11_meters_34 rfl (lv_at hl 0 rfl) ?_
      refine r_getr C S o_76 cf_11 0 rfl (by decide) b_fl_RX11_9 dX11_meters_35 ?_
      refine lv_iconst (v := 4) C.1 C.2.1 dX11_meters_38 (by decide) ?_
      refine r_ialdn (j := 4) C S a_77 (by decide) (by decide) dX11_meters_39 ?_
      refine lv_if_ne (tgt := 50) C.1 C.2.1 dX11_meters_40 (by decide) (fun q5 => ?_) (fun q5 => ?_)
      · replace h := (if_neg q5).symm.trans h
        refine lv_iconst (v := 0) C.1 C.2.1 dX11_meters_50 (by decide) ?_
        refine lv_istore_n (lv' := [(2, .int 0), (0, .ref (ad 76)), (1, .int v1)]) C.1 C.2.1 dX11_meters_51 rfl hl (by decide) rfl (fun ls hl => ?_)
        refine lv_iconst (v := 1) C.1 C.2.1 dX11_meters_52 (by decide) ?_
        refine lv_istore_n (lv' := [(3, .int 1), (2, .int 0), (0, .ref (ad 76)), (1, .int v1)]) C.1 C.2.1 dX11_meters_53 rfl hl (by decide) rfl (fun ls hl => ?_)
        obtain ⟨o12, e13, h⟩ := Option.bind_eq_some_iff.mp h
        refine k_X11_meters_L54 C  FU _ _ e13 (fun ls H locs hl S => ?_) ls H locs (lv_sub hl [2, 1, 0] rfl) S
        refine lv_iload_n C.1 C.2.1 dX11_meters_89 rfl (lv_at hl 0 rfl) ?_
        have h9 := Option.some.inj h
        subst h9
        exact r_iret C S hr hlocks dX11_meters_90
      · replace h := (if_pos q5).symm.trans h
        refine lv_aload_n C.1 C.2.1 dX11_meters_43 rfl (lv_at hl 0 rfl) ?_
        refine r_ldc C (-1000000004) b_cn_RX11_225 dX11_meters_44 ?_
        obtain ⟨o14, e15, h⟩ := Option.bind_eq_some_iff.mp h
        refine r_vi C S hl o_76 cf_11 (k_X11_finds e15) b_vb_RX11_109 [.int (-1000000004)] rfl [] rfl rfl (Nat.le_of_ble_eq_true rfl) ⟨Nat.le_of_ble_eq_true rfl, Nat.le_of_ble_eq_true rfl⟩ dX11_meters_46 (fun H locs S => ?_)
        have h9 := Option.some.inj h
        subst h9
        exact r_iret C S hr hlocks dX11_meters_49
    · replace h := (if_pos q4).symm.trans h
      refine lv_aload_n C.1 C.2.1 dX11_meters_20 rfl (lv_at hl 0 rfl) ?_
      refine lv_bipush (v := 7) C.1 C.2.1 dX11_meters_21 (by decide) ?_
      obtain ⟨o16, e17, h⟩ := Option.bind_eq_some_iff.mp h
      refine r_vi C S hl o_76 cf_11 (k_X11_sumOf e17) b_vb_RX11_226 [.int 7] rfl [] rfl rfl (Nat.le_of_ble_eq_true rfl) ⟨Nat.le_of_ble_eq_true rfl, Nat.le_of_ble_eq_true rfl⟩ dX11_meters_23 (fun H locs S => ?_)
      refine lv_aload_n C.1 C.2.1 dX11_meters_26 rfl (lv_at hl 0 rfl) ?_
      refine lv_bipush (v := 8) C.1 C.2.1 dX11_meters_27 (by decide) ?_
      obtain ⟨o18, e19, h⟩ := Option.bind_eq_some_iff.mp h
      refine r_vi C S hl o_76 cf_11 (k_X11_sumOf e19) b_vb_RX11_226 [.int 8] rfl [.int o16] rfl rfl (Nat.le_of_ble_eq_true rfl) ⟨Nat.le_of_ble_eq_true rfl, Nat.le_of_ble_eq_true rfl⟩ dX11_meters_29 (fun H locs S => ?_)
      refine lv_isub C.1 C.2.1 dX11_meters_32 ?_
      have h9 := Option.some.inj h
      subst h9
      exact r_iret C S hr hlocks dX11_meters_33
  · replace h := (if_pos q3).symm.trans h
    refine lv_aload_n C.1 C.2.1 dX11_meters_9 rfl (lv_at hl 0 rfl) ?_
    refine r_ldc C (-1000000001) b_cn_RX11_92 dX11_meters_10 ?_
    obtain ⟨o20, e21, h⟩ := Option.bind_eq_some_iff.mp h
    refine r_vi C S hl o_76 cf_11 (k_X11_finds e21) b_vb_RX11_109 [.int (-1000000001)] rfl [] rfl rfl (Nat.le_of_ble_eq_true rfl) ⟨Nat.le_of_ble_eq_true rfl, Nat.le_of_ble_eq_true rfl⟩ dX11_meters_12 (fun H locs S => ?_)
    have h9 := Option.some.inj h
    subst h9
    exact r_iret C S hr hlocks dX11_meters_15
set_option maxHeartbeats 4000000 in
set_option maxRecDepth 100000 in
theorem k_X11_areBounds {v0 : Int32}  {w : Wd} {rv : Int32} (h : f_X11_areBounds v0 = some rv) : CI yX11_areBounds cX11_areBounds 1 .boolean 1 22 (fun ad => [.int v0]) w rv w := by
  refine CI.of (by decide) ?_
  intro l D ad sx ca p e s m below meth c C S hr hlocks
  have hl := lv_entry ([.int v0]) (n := 1) (Nat.le_of_ble_eq_true rfl)
  rw [lg_entry_eq]
  generalize (lg_sl ([.int v0]) ++ List.replicate (1 - (lg_sl ([.int v0])).length) Slot.unset).toArray = ls at hl ⊢
  have hl : lv_has ls 1 [(0, .int v0)] := hl
  generalize ha9 : ([.int v0] : List Value).toArray = args at C ⊢
  generalize s.heap = H at S ⊢
  generalize ([] : List Loc) = locs at S ⊢
  unfold f_X11_areBounds at h
  refine lv_iload_n C.1 C.2.1 dX11_areBounds_0 rfl (lv_at hl 0 rfl) ?_
  refine lv_iconst (v := 0) C.1 C.2.1 dX11_areBounds_1 (by decide) ?_
  refine r_ldc C 999999 b_cn_RX11_232 dX11_areBounds_2 ?_
  obtain ⟨o1, e2, h⟩ := Option.bind_eq_some_iff.mp h
  refine r_si C S hl (k_X11_in e2) b_sb_RX11_97 [.int v0, .int 0, .int 999999] rfl [] rfl rfl (Nat.le_of_ble_eq_true rfl) ⟨Nat.le_of_ble_eq_true rfl, Nat.le_of_ble_eq_true rfl⟩ dX11_areBounds_4 (fun H locs S => ?_)
  obtain ⟨g3, h⟩ := gd_some h
  have h9 := Option.some.inj h
  subst h9
  exact r_zret C S hr hlocks (zo_or g3) dX11_areBounds_7
set_option maxHeartbeats 4000000 in
set_option maxRecDepth 100000 in
theorem k_X11_felt {v1 : Int32} {v2 : Int32}  {w : Wd} {rv : Int32 × Wd} (h : f_X11_felt v1 v2 w = some rv) : CI yX11_felt cX11_felt 4 .int 2 43 (fun ad => [.ref (ad 76), .int v1, .int v2]) w rv.1 rv.2 := by
  refine CI.of (by decide) ?_
  intro l D ad sx ca p e s m below meth c C S hr hlocks
  have hl := lv_entry ([.ref (ad 76), .int v1, .int v2]) (n := 4) (Nat.le_of_ble_eq_true rfl)
  rw [lg_entry_eq]
  generalize (lg_sl ([.ref (ad 76), .int v1, .int v2]) ++ List.replicate (4 - (lg_sl ([.ref (ad 76), .int v1, .int v2])).length) Slot.unset).toArray = ls at hl ⊢
  have hl : lv_has ls 4 [(0, .ref (ad 76)), (1, .int v1), (2, .int v2)] := hl
  generalize ha9 : ([.ref (ad 76), .int v1, .int v2] : List Value).toArray = args at C ⊢
  generalize s.heap = H at S ⊢
  generalize ([] : List Loc) = locs at S ⊢
  unfold f_X11_felt at h
  refine lv_aload_n C.1 C.2.1 dX11_felt_0 rfl (lv_at hl 0 rfl) ?_
  refine lv_iload_n C.1 C.2.1 dX11_felt_1 rfl (lv_at hl 1 rfl) ?_
  obtain ⟨o1, e2, h⟩ := Option.bind_eq_some_iff.mp h
  refine r_vi C S hl o_76 cf_11 (k_X11_isFlat e2) b_vb_RX11_141 [.int v1] rfl [] rfl rfl (Nat.le_of_ble_eq_true rfl) ⟨Nat.le_of_ble_eq_true rfl, Nat.le_of_ble_eq_true rfl⟩ dX11_felt_2 (fun H locs S => ?_)
  refine lv_if_eq (tgt := 15) C.1 C.2.1 dX11_felt_5 (by decide) (fun q3 => ?_) (fun q3 => ?_)
  · replace h := (if_pos q3).symm.trans h
    refine lv_aload_n C.1 C.2.1 dX11_felt_15 rfl (lv_at hl 0 rfl) ?_
    refine r_ldc C (-1000000001) b_cn_RX11_92 dX11_felt_16 ?_
    obtain ⟨o4, e5, h⟩ := Option.bind_eq_some_iff.mp h
    refine r_vi C S hl o_76 cf_11 (k_X11_finds e5) b_vb_RX11_109 [.int (-1000000001)] rfl [] rfl rfl (Nat.le_of_ble_eq_true rfl) ⟨Nat.le_of_ble_eq_true rfl, Nat.le_of_ble_eq_true rfl⟩ dX11_felt_18 (fun H locs S => ?_)
    have h9 := Option.some.inj h
    subst h9
    exact r_iret C S hr hlocks dX11_felt_21
  · replace h := (if_neg q3).symm.trans h
    refine lv_iload_n C.1 C.2.1 dX11_felt_8 rfl (lv_at hl 2 rfl) ?_
    obtain ⟨o6, e7, h⟩ := Option.bind_eq_some_iff.mp h
    refine r_si C S hl (k_X11_areBounds e7) b_sb_RX11_233 [.int v2] rfl [] rfl rfl (Nat.le_of_ble_eq_true rfl) ⟨Nat.le_of_ble_eq_true rfl, Nat.le_of_ble_eq_true rfl⟩ dX11_felt_9 (fun H locs S => ?_)
    refine lv_if_ne (tgt := 22) C.1 C.2.1 dX11_felt_12 (by decide) (fun q8 => ?_) (fun q8 => ?_)
    · replace h := (if_neg q8).symm.trans h
      refine lv_aload_n C.1 C.2.1 dX11_felt_22 rfl (lv_at hl 0 rfl) ?_
      refine lv_iload_n C.1 C.2.1 dX11_felt_23 rfl (lv_at hl 1 rfl) ?_
      refine lv_bipush (v := 6) C.1 C.2.1 dX11_felt_24 (by decide) ?_
      obtain ⟨o9, e10, h⟩ := Option.bind_eq_some_iff.mp h
      refine r_vi C S hl o_76 cf_11 (k_X11_get e10) b_vb_RX11_101 [.int v1, .int 6] rfl [] rfl rfl (Nat.le_of_ble_eq_true rfl) ⟨Nat.le_of_ble_eq_true rfl, Nat.le_of_ble_eq_true rfl⟩ dX11_felt_26 (fun H locs S => ?_)
      refine lv_istore_n (lv' := [(3, .int o9), (0, .ref (ad 76)), (1, .int v1), (2, .int v2)]) C.1 C.2.1 dX11_felt_29 rfl hl (by decide) rfl (fun ls hl => ?_)
      refine lv_iload_n C.1 C.2.1 dX11_felt_30 rfl (lv_at hl 0 rfl) ?_
      refine lv_iload_n C.1 C.2.1 dX11_felt_31 rfl (lv_at hl 3 rfl) ?_
      refine lv_sipush (v := 1000) C.1 C.2.1 dX11_felt_32 (by decide) ?_
      refine lv_idiv C.1 C.2.1 dX11_felt_35 (by decide) ?_
      refine lv_icmp_ge (tgt := 43) C.1 C.2.1 dX11_felt_36 (by decide) (fun q11 => ?_) (fun q11 => ?_)
      · replace h := (if_pos q11).symm.trans h
        refine lv_iload_n C.1 C.2.1 dX11_felt_43 rfl (lv_at hl 0 rfl) ?_
        refine lv_iload_n C.1 C.2.1 dX11_felt_44 rfl (lv_at hl 3 rfl) ?_
        refine lv_sipush (v := 1000) C.1 C.2.1 dX11_felt_45 (by decide) ?_
        refine lv_irem C.1 C.2.1 dX11_felt_48 (by decide) ?_
        refine lv_icmp_le (tgt := 56) C.1 C.2.1 dX11_felt_49 (by decide) (fun q12 => ?_) (fun q12 => ?_)
        · replace h := (if_pos q12).symm.trans h
          refine lv_iconst (v := 0) C.1 C.2.1 dX11_felt_56 (by decide) ?_
          have h9 := Option.some.inj h
          subst h9
          exact r_iret C S hr hlocks dX11_felt_57
        · replace h := (if_neg q12).symm.trans h
          refine lv_iconst (v := 2) C.1 C.2.1 dX11_felt_52 (by decide) ?_
          refine lv_goto (tgt := 57) C.1 C.2.1 dX11_felt_53 (by decide) ?_
          have h9 := Option.some.inj h
          subst h9
          exact r_iret C S hr hlocks dX11_felt_57
      · replace h := (if_neg q11).symm.trans h
        refine lv_iconst (v := 1) C.1 C.2.1 dX11_felt_39 (by decide) ?_
        refine lv_goto (tgt := 57) C.1 C.2.1 dX11_felt_40 (by decide) ?_
        have h9 := Option.some.inj h
        subst h9
        exact r_iret C S hr hlocks dX11_felt_57
    · replace h := (if_pos q8).symm.trans h
      refine lv_aload_n C.1 C.2.1 dX11_felt_15 rfl (lv_at hl 0 rfl) ?_
      refine r_ldc C (-1000000001) b_cn_RX11_92 dX11_felt_16 ?_
      obtain ⟨o13, e14, h⟩ := Option.bind_eq_some_iff.mp h
      refine r_vi C S hl o_76 cf_11 (k_X11_finds e14) b_vb_RX11_109 [.int (-1000000001)] rfl [] rfl rfl (Nat.le_of_ble_eq_true rfl) ⟨Nat.le_of_ble_eq_true rfl, Nat.le_of_ble_eq_true rfl⟩ dX11_felt_18 (fun H locs S => ?_)
      have h9 := Option.some.inj h
      subst h9
      exact r_iret C S hr hlocks dX11_felt_21

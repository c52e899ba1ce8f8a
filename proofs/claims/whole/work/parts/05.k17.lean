set_option maxHeartbeats 4000000 in
set_option maxRecDepth 100000 in
theorem k_X11_rule_J49 {p : Program} {l : Launch} {e : Env} {s : State} {m : MethodId} {args : Array Value} {below : List Frame} {meth : Method} {c : Code} {D : va_G} {ad sx : Nat → Nat} {ca : Nat → ClassId} (C : Cx D ad sx ca p s m c args RX11 cX11_rule 3) {Q : State → Prop} {w : Wd} {v1 : Int32}  {x : (Int32 × Wd) ⊕ (Int32 × Wd)} (h : f_X11_rule_J49 v1 w = some x) (hN : ∀ z, x = .inl z → ∀ (ls : Array Slot) (H : Heap) (locs : List Loc), lv_has ls 3 [(0, .ref (ad 76)), (1, .int z.1)] → St D ad ca s z.2 H locs → W p l e (RM 3 63) s m args below meth c H locs 0 0 Q (F0 m 27 ls [])) (hX : ∀ o, x = .inr o → ∀ (ls : Array Slot) (H : Heap) (locs : List Loc), lv_has ls 3 [(0, .ref (ad 76))] → St D ad ca s o.2 H locs → W p l e (RM 3 63) s m args below meth c H locs 0 0 Q (F0 m 68 ls [])) {ls : Array Slot} {H : Heap} {locs : List Loc} (hl : lv_has ls 3 [(0, .ref (ad 76)), (1, .int v1)]) (S : St D ad ca s w H locs) : W p l e (RM 3 63) s m args below meth c H locs 0 0 Q (F0 m 49 ls []) := by
  unfold f_X11_rule_J49 at h
  refine lv_iload_n C.1 C.2.1 dX11_rule_49 rfl (lv_at hl 1 rfl) ?_
  refine lv_if_eq (tgt := 60) C.1 C.2.1 dX11_rule_50 (by decide) (fun q8 => ?_) (fun q8 => ?_)
  · replace h := (if_pos q8).symm.trans h
    refine lv_aload_n C.1 C.2.1 dX11_rule_60 rfl (lv_at hl 0 rfl) ?_
    obtain ⟨o9, e10, h⟩ := Option.bind_eq_some_iff.mp h
    refine r_vi C S hl o_76 cf_11 (k_X11_operator e10) b_vb_RX11_202 [] rfl [] rfl rfl (Nat.le_of_ble_eq_true rfl) ⟨Nat.le_of_ble_eq_true rfl, Nat.le_of_ble_eq_true rfl⟩ dX11_rule_61 (fun H locs S => ?_)
    refine lv_istore_n (lv' := [(1, .int o9.1), (0, .ref (ad 76))]) C.1 C.2.1 dX11_rule_64 rfl hl (by decide) rfl (fun ls hl => ?_)
    refine lv_goto (tgt := 27) C.1 C.2.1 dX11_rule_65 (by decide) ?_
    exact hN _ (Option.some.inj h).symm _ _ _ (lv_sub hl [1, 0] rfl) S
  · replace h := (if_neg q8).symm.trans h
    refine lv_aload_n C.1 C.2.1 dX11_rule_53 rfl (lv_at hl 0 rfl) ?_
    obtain ⟨o11, e12, h⟩ := Option.bind_eq_some_iff.mp h
    refine r_vi C S hl o_76 cf_11 (k_X11_operand e12) b_vb_RX11_198 [] rfl [] rfl rfl (Nat.le_of_ble_eq_true rfl) ⟨Nat.le_of_ble_eq_true rfl, Nat.le_of_ble_eq_true rfl⟩ dX11_rule_54 (fun H locs S => ?_)
    refine lv_goto (tgt := 64) C.1 C.2.1 dX11_rule_57 (by decide) ?_
    refine lv_istore_n (lv' := [(1, .int o11.1), (0, .ref (ad 76))]) C.1 C.2.1 dX11_rule_64 rfl hl (by decide) rfl (fun ls hl => ?_)
    refine lv_goto (tgt := 27) C.1 C.2.1 dX11_rule_65 (by decide) ?_
    exact hN _ (Option.some.inj h).symm _ _ _ (lv_sub hl [1, 0] rfl) S
set_option maxHeartbeats 4000000 in
set_option maxRecDepth 100000 in
theorem k_X11_rule_L27 {p : Program} {l : Launch} {e : Env} {s : State} {m : MethodId} {args : Array Value} {below : List Frame} {meth : Method} {c : Code} {D : va_G} {ad sx : Nat → Nat} {ca : Nat → ClassId} (C : Cx D ad sx ca p s m c args RX11 cX11_rule 3) {Q : State → Prop}   : ∀ (n9 : Nat) (z : Int32 × Wd) (o : Int32 × Wd), lp (f_X11_rule_L27) n9 z = some o → (∀ (ls : Array Slot) (H : Heap) (locs : List Loc), lv_has ls 3 [(0, .ref (ad 76))] → St D ad ca s o.2 H locs → W p l e (RM 3 63) s m args below meth c H locs 0 0 Q (F0 m 68 ls [])) → (∀ (ls : Array Slot) (H : Heap) (locs : List Loc), lv_has ls 3 [(0, .ref (ad 76)), (1, .int z.1)] → St D ad ca s z.2 H locs → W p l e (RM 3 63) s m args below meth c H locs 0 0 Q (F0 m 27 ls [])) := by
  refine lp_W (HW := fun (z : Int32 × Wd) => ∀ (ls : Array Slot) (H : Heap) (locs : List Loc), lv_has ls 3 [(0, .ref (ad 76)), (1, .int z.1)] → St D ad ca s z.2 H locs → W p l e (RM 3 63) s m args below meth c H locs 0 0 Q (F0 m 27 ls [])) (XW := fun (o : Int32 × Wd) => ∀ (ls : Array Slot) (H : Heap) (locs : List Loc), lv_has ls 3 [(0, .ref (ad 76))] → St D ad ca s o.2 H locs → W p l e (RM 3 63) s m args below meth c H locs 0 0 Q (F0 m 68 ls [])) ?_
  intro z x h hN hX ls H locs hl S
  unfold f_X11_rule_L27 at h
  refine lv_aload_n C.1 C.2.1 dX11_rule_27 rfl (lv_at hl 0 rfl) ?_
  refine r_geti C S o_76 cf_11 25 rfl (by decide) b_fl_RX11_188 dX11_rule_28 ?_
  refine lv_if_ne (tgt := 68) C.1 C.2.1 dX11_rule_31 (by decide) (fun q6 => ?_) (fun q6 => ?_)
  · replace h := (if_neg q6).symm.trans h
    exact hX _ (Option.some.inj h).symm _ _ _ (lv_sub hl [0] rfl) S
  · replace h := (if_pos q6).symm.trans h
    refine lv_iload_n C.1 C.2.1 dX11_rule_34 rfl (lv_at hl 1 rfl) ?_
    refine lv_if_ne (tgt := 49) C.1 C.2.1 dX11_rule_35 (by decide) (fun q7 => ?_) (fun q7 => ?_)
    · replace h := (if_neg q7).symm.trans h
      exact k_X11_rule_J49 C  h hN hX (lv_sub hl [0, 1] rfl) S
    · replace h := (if_pos q7).symm.trans h
      refine lv_aload_n C.1 C.2.1 dX11_rule_38 rfl (lv_at hl 0 rfl) ?_
      refine r_geti C S o_76 cf_11 24 rfl (by decide) b_fl_RX11_174 dX11_rule_39 ?_
      refine lv_aload_n C.1 C.2.1 dX11_rule_42 rfl (lv_at hl 0 rfl) ?_
      refine r_geti C S o_76 cf_11 18 rfl (by decide) b_fl_RX11_161 dX11_rule_43 ?_
      refine lv_icmp_ge (tgt := 68) C.1 C.2.1 dX11_rule_46 (by decide) (fun q13 => ?_) (fun q13 => ?_)
      · replace h := (if_pos q13).symm.trans h
        exact hX _ (Option.some.inj h).symm _ _ _ (lv_sub hl [0] rfl) S
      · replace h := (if_neg q13).symm.trans h
        exact k_X11_rule_J49 C  h hN hX (lv_sub hl [0, 1] rfl) S
set_option maxHeartbeats 4000000 in
set_option maxRecDepth 100000 in
theorem k_X11_rule_L123 {p : Program} {l : Launch} {e : Env} {s : State} {m : MethodId} {args : Array Value} {below : List Frame} {meth : Method} {c : Code} {D : va_G} {ad sx : Nat → Nat} {ca : Nat → ClassId} (C : Cx D ad sx ca p s m c args RX11 cX11_rule 3) {Q : State → Prop}   : ∀ (n9 : Nat) (z : Int32 × Wd) (o : Int32 × Wd), lp (f_X11_rule_L123) n9 z = some o → (∀ (ls : Array Slot) (H : Heap) (locs : List Loc), lv_has ls 3 [(0, .ref (ad 76))] → St D ad ca s o.2 H locs → W p l e (RM 3 63) s m args below meth c H locs 0 0 Q (F0 m 153 ls [])) → (∀ (ls : Array Slot) (H : Heap) (locs : List Loc), lv_has ls 3 [(0, .ref (ad 76)), (2, .int z.1)] → St D ad ca s z.2 H locs → W p l e (RM 3 63) s m args below meth c H locs 0 0 Q (F0 m 123 ls [])) := by
  refine lp_W (HW := fun (z : Int32 × Wd) => ∀ (ls : Array Slot) (H : Heap) (locs : List Loc), lv_has ls 3 [(0, .ref (ad 76)), (2, .int z.1)] → St D ad ca s z.2 H locs → W p l e (RM 3 63) s m args below meth c H locs 0 0 Q (F0 m 123 ls [])) (XW := fun (o : Int32 × Wd) => ∀ (ls : Array Slot) (H : Heap) (locs : List Loc), lv_has ls 3 [(0, .ref (ad 76))] → St D ad ca s o.2 H locs → W p l e (RM 3 63) s m args below meth c H locs 0 0 Q (F0 m 153 ls [])) ?_
  intro z x h hN hX ls H locs hl S
  unfold f_X11_rule_L123 at h
  refine lv_iload_n C.1 C.2.1 dX11_rule_123 rfl (lv_at hl 1 rfl) ?_
  refine lv_aload_n C.1 C.2.1 dX11_rule_124 rfl (lv_at hl 0 rfl) ?_
  refine r_geti C S o_76 cf_11 20 rfl (by decide) b_fl_RX11_164 dX11_rule_125 ?_
  refine lv_icmp_ge (tgt := 153) C.1 C.2.1 dX11_rule_128 (by decide) (fun q19 => ?_) (fun q19 => ?_)
  · replace h := (if_pos q19).symm.trans h
    exact hX _ (Option.some.inj h).symm _ _ _ (lv_sub hl [0] rfl) S
  · replace h := (if_neg q19).symm.trans h
    refine lv_aload_n C.1 C.2.1 dX11_rule_131 rfl (lv_at hl 0 rfl) ?_
    refine r_getr C S o_76 cf_11 0 rfl (by decide) b_fl_RX11_9 dX11_rule_132 ?_
    refine lv_sipush (v := 211) C.1 C.2.1 dX11_rule_135 (by decide) ?_
    refine lv_iload_n C.1 C.2.1 dX11_rule_138 rfl (lv_at hl 1 rfl) ?_
    refine lv_iadd C.1 C.2.1 dX11_rule_139 ?_
    refine lv_aload_n C.1 C.2.1 dX11_rule_140 rfl (lv_at hl 0 rfl) ?_
    refine r_getr C S o_76 cf_11 19 rfl (by decide) b_fl_RX11_58 dX11_rule_141 ?_
    refine lv_iload_n C.1 C.2.1 dX11_rule_144 rfl (lv_at hl 1 rfl) ?_
    obtain ⟨g20, h⟩ := gd_some h
    refine r_iald C S a_93 g20 dX11_rule_145 ?_
    obtain ⟨g21, h⟩ := gd_some h
    refine r_iast C S a_77 g21 dX11_rule_146 (fun H locs S => ?_)
    obtain ⟨w22, h, S⟩ := lw_S (P := fun y => St D ad ca s y H locs) h S
    refine lv_iinc (v := z.1 + 1) (lv' := [(2, .int (z.1 + 1)), (0, .ref (ad 76))]) C.1 C.2.1 dX11_rule_147 hl (k := 1) rfl rfl (by decide) rfl (fun ls hl => ?_)
    refine lv_goto (tgt := 123) C.1 C.2.1 dX11_rule_150 (by decide) ?_
    exact hN _ (Option.some.inj h).symm _ _ _ (lv_sub hl [1, 0] rfl) S
set_option maxHeartbeats 4000000 in
set_option maxRecDepth 100000 in
theorem k_X11_rule_J96 {p : Program} {l : Launch} {e : Env} {s : State} {m : MethodId} {args : Array Value} {below : List Frame} {meth : Method} {c : Code} {D : va_G} {ad sx : Nat → Nat} {ca : Nat → ClassId} (C : Cx D ad sx ca p s m c args RX11 cX11_rule 3) (hr : meth.sig.returnType = (some .int)) (hlocks : meth.locks = false) {w : Wd}   {rv : Int32 × Wd} (h : f_X11_rule_J96 w = some rv) {ls : Array Slot} {H : Heap} {locs : List Loc} (hl : lv_has ls 3 [(0, .ref (ad 76))]) (S : St D ad ca s w H locs) : W p l e (RM 3 63) s m args below meth c H locs 0 0 (MQ below (Qi D ad ca rv.1 rv.2) args s 0 0 (Aad ad)) (F0 m 96 ls []) := by
  unfold f_X11_rule_J96 at h
  refine lv_aload_n C.1 C.2.1 dX11_rule_96 rfl (lv_at hl 0 rfl) ?_
  refine r_geti C S o_76 cf_11 25 rfl (by decide) b_fl_RX11_188 dX11_rule_97 ?_
  refine lv_if_eq (tgt := 110) C.1 C.2.1 dX11_rule_100 (by decide) (fun q17 => ?_) (fun q17 => ?_)
  · replace h := (if_pos q17).symm.trans h
    refine lv_aload_n C.1 C.2.1 dX11_rule_110 rfl (lv_at hl 0 rfl) ?_
    refine r_getr C S o_76 cf_11 0 rfl (by decide) b_fl_RX11_9 dX11_rule_111 ?_
    refine lv_bipush (v := 6) C.1 C.2.1 dX11_rule_114 (by decide) ?_
    refine lv_aload_n C.1 C.2.1 dX11_rule_116 rfl (lv_at hl 0 rfl) ?_
    refine r_geti C S o_76 cf_11 20 rfl (by decide) b_fl_RX11_164 dX11_rule_117 ?_
    refine r_iastn (j := 6) C S a_77 (by decide) (by decide) dX11_rule_120 (fun H locs S => ?_)
    obtain ⟨w18, h, S⟩ := lw_S (P := fun y => St D ad ca s y H locs) h S
    refine lv_iconst (v := 0) C.1 C.2.1 dX11_rule_121 (by decide) ?_
    refine lv_istore_n (lv' := [(2, .int 0), (0, .ref (ad 76))]) C.1 C.2.1 dX11_rule_122 rfl hl (by decide) rfl (fun ls hl => ?_)
    obtain ⟨o23, e24, h⟩ := Option.bind_eq_some_iff.mp h
    refine k_X11_rule_L123 C  FU _ _ e24 (fun ls H locs hl S => ?_) ls H locs (lv_sub hl [1, 0] rfl) S
    refine lv_aload_n C.1 C.2.1 dX11_rule_153 rfl (lv_at hl 0 rfl) ?_
    refine lv_iconst (v := 0) C.1 C.2.1 dX11_rule_154 (by decide) ?_
    refine r_put C S o_76 cf_11 18 rfl (by decide) rfl (ni _) b_fl_RX11_161 dX11_rule_155 (fun H locs S => ?_)
    obtain ⟨w25, h, S⟩ := lw_S (P := fun y => St D ad ca s y H locs) h S
    refine lv_iconst (v := 0) C.1 C.2.1 dX11_rule_158 (by decide) ?_
    have h9 := Option.some.inj h
    subst h9
    exact r_iret C S hr hlocks dX11_rule_159
  · replace h := (if_neg q17).symm.trans h
    refine lv_iconst (v := (-1)) C.1 C.2.1 dX11_rule_103 (by decide) ?_
    refine lv_aload_n C.1 C.2.1 dX11_rule_104 rfl (lv_at hl 0 rfl) ?_
    refine r_geti C S o_76 cf_11 24 rfl (by decide) b_fl_RX11_174 dX11_rule_105 ?_
    refine lv_isub C.1 C.2.1 dX11_rule_108 ?_
    have h9 := Option.some.inj h
    subst h9
    exact r_iret C S hr hlocks dX11_rule_109
set_option maxHeartbeats 4000000 in
set_option maxRecDepth 100000 in
theorem k_X11_rule_J93 {p : Program} {l : Launch} {e : Env} {s : State} {m : MethodId} {args : Array Value} {below : List Frame} {meth : Method} {c : Code} {D : va_G} {ad sx : Nat → Nat} {ca : Nat → ClassId} (C : Cx D ad sx ca p s m c args RX11 cX11_rule 3) (hr : meth.sig.returnType = (some .int)) (hlocks : meth.locks = false) {w : Wd} {v101 : Int32}  {rv : Int32 × Wd} (h : f_X11_rule_J93 v101 w = some rv) {ls : Array Slot} {H : Heap} {locs : List Loc} (hl : lv_has ls 3 [(0, .ref (ad 76))]) (S : St D ad ca s w H locs) : W p l e (RM 3 63) s m args below meth c H locs 0 0 (MQ below (Qi D ad ca rv.1 rv.2) args s 0 0 (Aad ad)) (F0 m 93 ls [.int v101, .ref (ad 76)]) := by
  unfold f_X11_rule_J93 at h
  obtain ⟨g29, h⟩ := gd_some h
  refine r_put C S o_76 cf_11 25 rfl (by decide) rfl (zo_nar (zo_or g29)) b_fl_RX11_188 dX11_rule_93 (fun H locs S => ?_)
  obtain ⟨w30, h, S⟩ := lw_S (P := fun y => St D ad ca s y H locs) h S
  exact k_X11_rule_J96 C hr hlocks  h (lv_sub hl [0] rfl) S
set_option maxHeartbeats 4000000 in
set_option maxRecDepth 100000 in
theorem k_X11_rule_J68 {p : Program} {l : Launch} {e : Env} {s : State} {m : MethodId} {args : Array Value} {below : List Frame} {meth : Method} {c : Code} {D : va_G} {ad sx : Nat → Nat} {ca : Nat → ClassId} (C : Cx D ad sx ca p s m c args RX11 cX11_rule 3) (hr : meth.sig.returnType = (some .int)) (hlocks : meth.locks = false) {w : Wd}   {rv : Int32 × Wd} (h : f_X11_rule_J68 w = some rv) {ls : Array Slot} {H : Heap} {locs : List Loc} (hl : lv_has ls 3 [(0, .ref (ad 76))]) (S : St D ad ca s w H locs) : W p l e (RM 3 63) s m args below meth c H locs 0 0 (MQ below (Qi D ad ca rv.1 rv.2) args s 0 0 (Aad ad)) (F0 m 68 ls []) := by
  unfold f_X11_rule_J68 at h
  refine lv_aload_n C.1 C.2.1 dX11_rule_68 rfl (lv_at hl 0 rfl) ?_
  refine r_geti C S o_76 cf_11 25 rfl (by decide) b_fl_RX11_188 dX11_rule_69 ?_
  refine lv_if_ne (tgt := 96) C.1 C.2.1 dX11_rule_72 (by decide) (fun q16 => ?_) (fun q16 => ?_)
  · replace h := (if_neg q16).symm.trans h
    exact k_X11_rule_J96 C hr hlocks  h (lv_sub hl [0] rfl) S
  · replace h := (if_pos q16).symm.trans h
    refine lv_aload_n C.1 C.2.1 dX11_rule_75 rfl (lv_at hl 0 rfl) ?_
    refine lv_iconst (v := 1) C.1 C.2.1 dX11_rule_76 (by decide) ?_
    obtain ⟨o26, e27, h⟩ := Option.bind_eq_some_iff.mp h
    refine r_vv C S hl o_76 cf_11 (k_X11_settles e27) b_vb_RX11_191 [.int 1] rfl [] rfl rfl (Nat.le_of_ble_eq_true rfl) ⟨Nat.le_of_ble_eq_true rfl, Nat.le_of_ble_eq_true rfl⟩ dX11_rule_77 (fun H locs S => ?_)
    refine lv_aload_n C.1 C.2.1 dX11_rule_80 rfl (lv_at hl 0 rfl) ?_
    refine lv_aload_n C.1 C.2.1 dX11_rule_81 rfl (lv_at hl 0 rfl) ?_
    refine r_geti C S o_76 cf_11 22 rfl (by decide) b_fl_RX11_167 dX11_rule_82 ?_
    refine lv_if_le (tgt := 92) C.1 C.2.1 dX11_rule_85 (by decide) (fun q28 => ?_) (fun q28 => ?_)
    · replace h := (if_pos q28).symm.trans h
      refine lv_iconst (v := 0) C.1 C.2.1 dX11_rule_92 (by decide) ?_
      exact k_X11_rule_J93 C hr hlocks  h (lv_sub hl [0] rfl) S
    · replace h := (if_neg q28).symm.trans h
      refine lv_iconst (v := 1) C.1 C.2.1 dX11_rule_88 (by decide) ?_
      refine lv_goto (tgt := 93) C.1 C.2.1 dX11_rule_89 (by decide) ?_
      exact k_X11_rule_J93 C hr hlocks  h (lv_sub hl [0] rfl) S
set_option maxHeartbeats 4000000 in
set_option maxRecDepth 100000 in
theorem k_X11_rule   {w : Wd} {rv : Int32 × Wd} (h : f_X11_rule w = some rv) : CI yX11_rule cX11_rule 3 .int 3 63 (fun ad => [.ref (ad 76)]) w rv.1 rv.2 := by
  refine CI.of (by decide) ?_
  intro l D ad sx ca p e s m below meth c C S hr hlocks
  have hl := lv_entry ([.ref (ad 76)]) (n := 3) (Nat.le_of_ble_eq_true rfl)
  rw [lg_entry_eq]
  generalize (lg_sl ([.ref (ad 76)]) ++ List.replicate (3 - (lg_sl ([.ref (ad 76)])).length) Slot.unset).toArray = ls at hl ⊢
  have hl : lv_has ls 3 [(0, .ref (ad 76))] := hl
  generalize ha9 : ([.ref (ad 76)] : List Value).toArray = args at C ⊢
  generalize s.heap = H at S ⊢
  generalize ([] : List Loc) = locs at S ⊢
  unfold f_X11_rule at h
  refine lv_aload_n C.1 C.2.1 dX11_rule_0 rfl (lv_at hl 0 rfl) ?_
  refine lv_iconst (v := 0) C.1 C.2.1 dX11_rule_1 (by decide) ?_
  refine r_put C S o_76 cf_11 24 rfl (by decide) rfl (ni _) b_fl_RX11_174 dX11_rule_2 (fun H locs S => ?_)
  obtain ⟨w1, h, S⟩ := lw_S (P := fun y => St D ad ca s y H locs) h S
  refine lv_aload_n C.1 C.2.1 dX11_rule_5 rfl (lv_at hl 0 rfl) ?_
  refine lv_iconst (v := 0) C.1 C.2.1 dX11_rule_6 (by decide) ?_
  refine r_put C S o_76 cf_11 22 rfl (by decide) rfl (ni _) b_fl_RX11_167 dX11_rule_7 (fun H locs S => ?_)
  obtain ⟨w2, h, S⟩ := lw_S (P := fun y => St D ad ca s y H locs) h S
  refine lv_aload_n C.1 C.2.1 dX11_rule_10 rfl (lv_at hl 0 rfl) ?_
  refine lv_iconst (v := 0) C.1 C.2.1 dX11_rule_11 (by decide) ?_
  refine r_put C S o_76 cf_11 23 rfl (by decide) rfl (ni _) b_fl_RX11_183 dX11_rule_12 (fun H locs S => ?_)
  obtain ⟨w3, h, S⟩ := lw_S (P := fun y => St D ad ca s y H locs) h S
  refine lv_aload_n C.1 C.2.1 dX11_rule_15 rfl (lv_at hl 0 rfl) ?_
  refine lv_iconst (v := 0) C.1 C.2.1 dX11_rule_16 (by decide) ?_
  refine r_put C S o_76 cf_11 20 rfl (by decide) rfl (ni _) b_fl_RX11_164 dX11_rule_17 (fun H locs S => ?_)
  obtain ⟨w4, h, S⟩ := lw_S (P := fun y => St D ad ca s y H locs) h S
  refine lv_aload_n C.1 C.2.1 dX11_rule_20 rfl (lv_at hl 0 rfl) ?_
  refine lv_iconst (v := 0) C.1 C.2.1 dX11_rule_21 (by decide) ?_
  refine r_put C S o_76 cf_11 25 rfl (by decide) rfl (zo_nar (by decide)) b_fl_RX11_188 dX11_rule_22 (fun H locs S => ?_)
  obtain ⟨w5, h, S⟩ := lw_S (P := fun y => St D ad ca s y H locs) h S
  refine lv_iconst (v := 1) C.1 C.2.1 dX11_rule_25 (by decide) ?_
  refine lv_istore_n (lv' := [(1, .int 1), (0, .ref (ad 76))]) C.1 C.2.1 dX11_rule_26 rfl hl (by decide) rfl (fun ls hl => ?_)
  obtain ⟨o14, e15, h⟩ := Option.bind_eq_some_iff.mp h
  refine k_X11_rule_L27 C  FU _ _ e15 (fun ls H locs hl S => ?_) ls H locs (lv_sub hl [1, 0] rfl) S
  exact k_X11_rule_J68 C hr hlocks  h (lv_sub hl [0] rfl) S
set_option maxHeartbeats 4000000 in
set_option maxRecDepth 100000 in
theorem k_X11_plain_J15 {p : Program} {l : Launch} {e : Env} {s : State} {m : MethodId} {args : Array Value} {below : List Frame} {meth : Method} {c : Code} {D : va_G} {ad sx : Nat → Nat} {ca : Nat → ClassId} (C : Cx D ad sx ca p s m c args RX11 cX11_plain 2) (hr : meth.sig.returnType = (some .int)) (hlocks : meth.locks = false) {w : Wd} {v100 : Int32}  {rv : Int32 × Wd} (h : f_X11_plain_J15 v100 w = some rv) {ls : Array Slot} {H : Heap} {locs : List Loc} (hl : lv_has ls 2 [(0, .ref (ad 76))]) (S : St D ad ca s w H locs) : W p l e (RM 0 0) s m args below meth c H locs 0 0 (MQ below (Qi D ad ca rv.1 rv.2) args s 0 0 (Aad ad)) (F0 m 15 ls [.int v100]) := by
  unfold f_X11_plain_J15 at h
  refine lv_istore_n (lv' := [(1, .int v100), (0, .ref (ad 76))]) C.1 C.2.1 dX11_plain_15 rfl hl (by decide) rfl (fun ls hl => ?_)
  refine lv_aload_n C.1 C.2.1 dX11_plain_16 rfl (lv_at hl 1 rfl) ?_
  refine r_getr C S o_76 cf_11 0 rfl (by decide) b_fl_RX11_9 dX11_plain_17 ?_
  refine lv_bipush (v := 6) C.1 C.2.1 dX11_plain_20 (by decide) ?_
  refine lv_iconst (v := 0) C.1 C.2.1 dX11_plain_22 (by decide) ?_
  refine r_iastn (j := 6) C S a_77 (by decide) (by decide) dX11_plain_23 (fun H locs S => ?_)
  obtain ⟨w2, h, S⟩ := lw_S (P := fun y => St D ad ca s y H locs) h S
  refine lv_iload_n C.1 C.2.1 dX11_plain_24 rfl (lv_at hl 0 rfl) ?_
  have h9 := Option.some.inj h
  subst h9
  exact r_iret C S hr hlocks dX11_plain_25
set_option maxHeartbeats 4000000 in
set_option maxRecDepth 100000 in
theorem k_X11_plain   {w : Wd} {rv : Int32 × Wd} (h : f_X11_plain w = some rv) : CI yX11_plain cX11_plain 2 .int 0 0 (fun ad => [.ref (ad 76)]) w rv.1 rv.2 := by
  refine CI.of (by decide) ?_
  intro l D ad sx ca p e s m below meth c C S hr hlocks
  have hl := lv_entry ([.ref (ad 76)]) (n := 2) (Nat.le_of_ble_eq_true rfl)
  rw [lg_entry_eq]
  generalize (lg_sl ([.ref (ad 76)]) ++ List.replicate (2 - (lg_sl ([.ref (ad 76)])).length) Slot.unset).toArray = ls at hl ⊢
  have hl : lv_has ls 2 [(0, .ref (ad 76))] := hl
  generalize ha9 : ([.ref (ad 76)] : List Value).toArray = args at C ⊢
  generalize s.heap = H at S ⊢
  generalize ([] : List Loc) = locs at S ⊢
  unfold f_X11_plain at h
  refine lv_aload_n C.1 C.2.1 dX11_plain_0 rfl (lv_at hl 0 rfl) ?_
  refine r_getr C S o_76 cf_11 0 rfl (by decide) b_fl_RX11_9 dX11_plain_1 ?_
  refine lv_bipush (v := 6) C.1 C.2.1 dX11_plain_4 (by decide) ?_
  refine r_ialdn (j := 6) C S a_77 (by decide) (by decide) dX11_plain_6 ?_
  refine lv_if_le (tgt := 14) C.1 C.2.1 dX11_plain_7 (by decide) (fun q1 => ?_) (fun q1 => ?_)
  · replace h := (if_pos q1).symm.trans h
    refine lv_iconst (v := 0) C.1 C.2.1 dX11_plain_14 (by decide) ?_
    exact k_X11_plain_J15 C hr hlocks  h (lv_sub hl [0] rfl) S
  · replace h := (if_neg q1).symm.trans h
    refine lv_iconst (v := 1) C.1 C.2.1 dX11_plain_10 (by decide) ?_
    refine lv_goto (tgt := 15) C.1 C.2.1 dX11_plain_11 (by decide) ?_
    exact k_X11_plain_J15 C hr hlocks  h (lv_sub hl [0] rfl) S
set_option maxHeartbeats 4000000 in
set_option maxRecDepth 100000 in
theorem k_X11_factOf {v1 : Int32} {v2 : Int32}  {w : Wd} {rv : Int32} (h : f_X11_factOf v1 v2 w = some rv) : CI yX11_factOf cX11_factOf 3 .int 2 45 (fun ad => [.ref (ad 76), .int v1, .int v2]) w rv w := by
  refine CI.of (by decide) ?_
  intro l D ad sx ca p e s m below meth c C S hr hlocks
  have hl := lv_entry ([.ref (ad 76), .int v1, .int v2]) (n := 3) (Nat.le_of_ble_eq_true rfl)
  rw [lg_entry_eq]
  generalize (lg_sl ([.ref (ad 76), .int v1, .int v2]) ++ List.replicate (3 - (lg_sl ([.ref (ad 76), .int v1, .int v2])).length) Slot.unset).toArray = ls at hl ⊢
  have hl : lv_has ls 3 [(0, .ref (ad 76)), (1, .int v1), (2, .int v2)] := hl
  generalize ha9 : ([.ref (ad 76), .int v1, .int v2] : List Value).toArray = args at C ⊢
  generalize s.heap = H at S ⊢
  generalize ([] : List Loc) = locs at S ⊢
  unfold f_X11_factOf at h
  refine lv_iload_n C.1 C.2.1 dX11_factOf_0 rfl (lv_at hl 2 rfl) ?_
  by_cases q1 : v2 = 0
  · replace h := (if_pos q1).symm.trans h
    refine lv_tableIn (off := 43) (tgt := 44) C.1 C.2.1 dX11_factOf_1 (by rw [q1]; decide) (by rw [q1]; decide) (by rw [q1]; rfl) (by decide) ?_
    refine lv_aload_n C.1 C.2.1 dX11_factOf_44 rfl (lv_at hl 0 rfl) ?_
    refine lv_iload_n C.1 C.2.1 dX11_factOf_45 rfl (lv_at hl 1 rfl) ?_
    refine lv_bipush (v := 7) C.1 C.2.1 dX11_factOf_46 (by decide) ?_
    obtain ⟨o2, e3, h⟩ := Option.bind_eq_some_iff.mp h
    refine r_vi C S hl o_76 cf_11 (k_X11_get e3) b_vb_RX11_101 [.int v1, .int 7] rfl [] rfl rfl (Nat.le_of_ble_eq_true rfl) ⟨Nat.le_of_ble_eq_true rfl, Nat.le_of_ble_eq_true rfl⟩ dX11_factOf_48 (fun H locs S => ?_)
    have h9 := Option.some.inj h
    subst h9
    exact r_iret C S hr hlocks dX11_factOf_51
  · replace h := (if_neg q1).symm.trans h
    by_cases q4 : v2 = 1
    · replace h := (if_pos q4).symm.trans h
      refine lv_tableIn (off := 51) (tgt := 52) C.1 C.2.1 dX11_factOf_1 (by rw [q4]; decide) (by rw [q4]; decide) (by rw [q4]; rfl) (by decide) ?_
      refine lv_aload_n C.1 C.2.1 dX11_factOf_52 rfl (lv_at hl 0 rfl) ?_
      refine lv_iload_n C.1 C.2.1 dX11_factOf_53 rfl (lv_at hl 1 rfl) ?_
      refine lv_bipush (v := 8) C.1 C.2.1 dX11_factOf_54 (by decide) ?_
      obtain ⟨o5, e6, h⟩ := Option.bind_eq_some_iff.mp h
      refine r_vi C S hl o_76 cf_11 (k_X11_get e6) b_vb_RX11_101 [.int v1, .int 8] rfl [] rfl rfl (Nat.le_of_ble_eq_true rfl) ⟨Nat.le_of_ble_eq_true rfl, Nat.le_of_ble_eq_true rfl⟩ dX11_factOf_56 (fun H locs S => ?_)
      have h9 := Option.some.inj h
      subst h9
      exact r_iret C S hr hlocks dX11_factOf_59
    · replace h := (if_neg q4).symm.trans h
      by_cases q7 : v2 = 2
      · replace h := (if_pos q7).symm.trans h
        refine lv_tableIn (off := 59) (tgt := 60) C.1 C.2.1 dX11_factOf_1 (by rw [q7]; decide) (by rw [q7]; decide) (by rw [q7]; rfl) (by decide) ?_
        refine lv_aload_n C.1 C.2.1 dX11_factOf_60 rfl (lv_at hl 0 rfl) ?_
        refine lv_iload_n C.1 C.2.1 dX11_factOf_61 rfl (lv_at hl 1 rfl) ?_
        refine lv_bipush (v := 9) C.1 C.2.1 dX11_factOf_62 (by decide) ?_
        obtain ⟨o8, e9, h⟩ := Option.bind_eq_some_iff.mp h
        refine r_vi C S hl o_76 cf_11 (k_X11_get e9) b_vb_RX11_101 [.int v1, .int 9] rfl [] rfl rfl (Nat.le_of_ble_eq_true rfl) ⟨Nat.le_of_ble_eq_true rfl, Nat.le_of_ble_eq_true rfl⟩ dX11_factOf_64 (fun H locs S => ?_)
        have h9 := Option.some.inj h
        subst h9
        exact r_iret C S hr hlocks dX11_factOf_67
      · replace h := (if_neg q7).symm.trans h
        by_cases q10 : v2 = 3
        · replace h := (if_pos q10).symm.trans h
          refine lv_tableIn (off := 67) (tgt := 68) C.1 C.2.1 dX11_factOf_1 (by rw [q10]; decide) (by rw [q10]; decide) (by rw [q10]; rfl) (by decide) ?_
          refine lv_aload_n C.1 C.2.1 dX11_factOf_68 rfl (lv_at hl 0 rfl) ?_
          refine lv_iload_n C.1 C.2.1 dX11_factOf_69 rfl (lv_at hl 1 rfl) ?_
          refine lv_iconst (v := 2) C.1 C.2.1 dX11_factOf_70 (by decide) ?_
          obtain ⟨o11, e12, h⟩ := Option.bind_eq_some_iff.mp h
          refine r_vi C S hl o_76 cf_11 (k_X11_get e12) b_vb_RX11_101 [.int v1, .int 2] rfl [] rfl rfl (Nat.le_of_ble_eq_true rfl) ⟨Nat.le_of_ble_eq_true rfl, Nat.le_of_ble_eq_true rfl⟩ dX11_factOf_71 (fun H locs S => ?_)
          have h9 := Option.some.inj h
          subst h9
          exact r_iret C S hr hlocks dX11_factOf_74
        · replace h := (if_neg q10).symm.trans h
          by_cases q13 : v2 = 4
          · replace h := (if_pos q13).symm.trans h
            refine lv_tableIn (off := 74) (tgt := 75) C.1 C.2.1 dX11_factOf_1 (by rw [q13]; decide) (by rw [q13]; decide) (by rw [q13]; rfl) (by decide) ?_
            refine lv_aload_n C.1 C.2.1 dX11_factOf_75 rfl (lv_at hl 0 rfl) ?_
            refine lv_iload_n C.1 C.2.1 dX11_factOf_76 rfl (lv_at hl 1 rfl) ?_
            refine lv_iconst (v := 0) C.1 C.2.1 dX11_factOf_77 (by decide) ?_
            obtain ⟨o14, e15, h⟩ := Option.bind_eq_some_iff.mp h
            refine r_vi C S hl o_76 cf_11 (k_X11_get e15) b_vb_RX11_101 [.int v1, .int 0] rfl [] rfl rfl (Nat.le_of_ble_eq_true rfl) ⟨Nat.le_of_ble_eq_true rfl, Nat.le_of_ble_eq_true rfl⟩ dX11_factOf_78 (fun H locs S => ?_)
            have h9 := Option.some.inj h
            subst h9
            exact r_iret C S hr hlocks dX11_factOf_81
          · replace h := (if_neg q13).symm.trans h
            by_cases q16 : v2 = 5
            · replace h := (if_pos q16).symm.trans h
              refine lv_tableIn (off := 81) (tgt := 82) C.1 C.2.1 dX11_factOf_1 (by rw [q16]; decide) (by rw [q16]; decide) (by rw [q16]; rfl) (by decide) ?_
              refine lv_iload_n C.1 C.2.1 dX11_factOf_82 rfl (lv_at hl 1 rfl) ?_
              have h9 := Option.some.inj h
              subst h9
              exact r_iret C S hr hlocks dX11_factOf_83
            · replace h := (if_neg q16).symm.trans h
              by_cases q17 : v2 = 6
              · replace h := (if_pos q17).symm.trans h
                refine lv_tableIn (off := 83) (tgt := 84) C.1 C.2.1 dX11_factOf_1 (by rw [q17]; decide) (by rw [q17]; decide) (by rw [q17]; rfl) (by decide) ?_
                refine lv_aload_n C.1 C.2.1 dX11_factOf_84 rfl (lv_at hl 0 rfl) ?_
                refine lv_iload_n C.1 C.2.1 dX11_factOf_85 rfl (lv_at hl 1 rfl) ?_
                refine lv_iconst (v := 1) C.1 C.2.1 dX11_factOf_86 (by decide) ?_
                obtain ⟨o18, e19, h⟩ := Option.bind_eq_some_iff.mp h
                refine r_vi C S hl o_76 cf_11 (k_X11_get e19) b_vb_RX11_101 [.int v1, .int 1] rfl [] rfl rfl (Nat.le_of_ble_eq_true rfl) ⟨Nat.le_of_ble_eq_true rfl, Nat.le_of_ble_eq_true rfl⟩ dX11_factOf_87 (fun H locs S => ?_)
                have h9 := Option.some.inj h
                subst h9
                exact r_iret C S hr hlocks dX11_factOf_90
              · replace h := (if_neg q17).symm.trans h
                have hb9 : (v2).toInt < 0 ∨ 6 < (v2).toInt := by
                  have zq1 := tb_ne q1
                  have zq4 := tb_ne q4
                  have zq7 := tb_ne q7
                  have zq10 := tb_ne q10
                  have zq13 := tb_ne q13
                  have zq16 := tb_ne q16
                  have zq17 := tb_ne q17
                  rw [show ((0 : Int32)).toInt = 0 from by decide] at zq1
                  rw [show ((1 : Int32)).toInt = 1 from by decide] at zq4
                  rw [show ((2 : Int32)).toInt = 2 from by decide] at zq7
                  rw [show ((3 : Int32)).toInt = 3 from by decide] at zq10
                  rw [show ((4 : Int32)).toInt = 4 from by decide] at zq13
                  rw [show ((5 : Int32)).toInt = 5 from by decide] at zq16
                  rw [show ((6 : Int32)).toInt = 6 from by decide] at zq17
                  omega
                refine lv_tableOut (tgt := 91) C.1 C.2.1 dX11_factOf_1 hb9 (by decide) ?_
                refine lv_aload_n C.1 C.2.1 dX11_factOf_91 rfl (lv_at hl 0 rfl) ?_
                refine lv_iload_n C.1 C.2.1 dX11_factOf_92 rfl (lv_at hl 1 rfl) ?_
                obtain ⟨o20, e21, h⟩ := Option.bind_eq_some_iff.mp h
                refine r_vi C S hl o_76 cf_11 (k_X11_placeOf e21) b_vb_RX11_114 [.int v1] rfl [] rfl rfl (Nat.le_of_ble_eq_true rfl) ⟨Nat.le_of_ble_eq_true rfl, Nat.le_of_ble_eq_true rfl⟩ dX11_factOf_93 (fun H locs S => ?_)
                have h9 := Option.some.inj h
                subst h9
                exact r_iret C S hr hlocks dX11_factOf_96
set_option maxHeartbeats 4000000 in
set_option maxRecDepth 100000 in
theorem k_X11_done {v0 : Int32} {v1 : Int32} {v2 : Int32}  {w : Wd} {rv : Int32} (h : f_X11_done v0 v1 v2 = some rv) : CI yX11_done cX11_done 3 .int 0 0 (fun ad => [.int v0, .int v1, .int v2]) w rv w := by
  refine CI.of (by decide) ?_
  intro l D ad sx ca p e s m below meth c C S hr hlocks
  have hl := lv_entry ([.int v0, .int v1, .int v2]) (n := 3) (Nat.le_of_ble_eq_true rfl)
  rw [lg_entry_eq]
  generalize (lg_sl ([.int v0, .int v1, .int v2]) ++ List.replicate (3 - (lg_sl ([.int v0, .int v1, .int v2])).length) Slot.unset).toArray = ls at hl ⊢
  have hl : lv_has ls 3 [(0, .int v0), (1, .int v1), (2, .int v2)] := hl
  generalize ha9 : ([.int v0, .int v1, .int v2] : List Value).toArray = args at C ⊢
  generalize s.heap = H at S ⊢
  generalize ([] : List Loc) = locs at S ⊢
  unfold f_X11_done at h
  refine lv_iload_n C.1 C.2.1 dX11_done_0 rfl (lv_at hl 0 rfl) ?_
  by_cases q1 : v0 = 10100
  · replace h := (if_pos q1).symm.trans h
    refine lv_tableIn (off := 27) (tgt := 28) C.1 C.2.1 dX11_done_1 (by rw [q1]; decide) (by rw [q1]; decide) (by rw [q1]; rfl) (by decide) ?_
    refine lv_iload_n C.1 C.2.1 dX11_done_28 rfl (lv_at hl 1 rfl) ?_
    refine lv_iload_n C.1 C.2.1 dX11_done_29 rfl (lv_at hl 2 rfl) ?_
    refine lv_iadd C.1 C.2.1 dX11_done_30 ?_
    have h9 := Option.some.inj h
    subst h9
    exact r_iret C S hr hlocks dX11_done_31
  · replace h := (if_neg q1).symm.trans h
    by_cases q2 : v0 = 10101
    · replace h := (if_pos q2).symm.trans h
      refine lv_tableIn (off := 31) (tgt := 32) C.1 C.2.1 dX11_done_1 (by rw [q2]; decide) (by rw [q2]; decide) (by rw [q2]; rfl) (by decide) ?_
      refine lv_iload_n C.1 C.2.1 dX11_done_32 rfl (lv_at hl 1 rfl) ?_
      refine lv_iload_n C.1 C.2.1 dX11_done_33 rfl (lv_at hl 2 rfl) ?_
      refine lv_isub C.1 C.2.1 dX11_done_34 ?_
      have h9 := Option.some.inj h
      subst h9
      exact r_iret C S hr hlocks dX11_done_35
    · replace h := (if_neg q2).symm.trans h
      by_cases q3 : v0 = 10102
      · replace h := (if_pos q3).symm.trans h
        refine lv_tableIn (off := 35) (tgt := 36) C.1 C.2.1 dX11_done_1 (by rw [q3]; decide) (by rw [q3]; decide) (by rw [q3]; rfl) (by decide) ?_
        refine lv_iload_n C.1 C.2.1 dX11_done_36 rfl (lv_at hl 1 rfl) ?_
        refine lv_iload_n C.1 C.2.1 dX11_done_37 rfl (lv_at hl 2 rfl) ?_
        refine lv_imul C.1 C.2.1 dX11_done_38 ?_
        have h9 := Option.some.inj h
        subst h9
        exact r_iret C S hr hlocks dX11_done_39
      · replace h := (if_neg q3).symm.trans h
        have hb9 : (v0).toInt < 10100 ∨ 10102 < (v0).toInt := by
          have zq1 := tb_ne q1
          have zq2 := tb_ne q2
          have zq3 := tb_ne q3
          rw [show ((10100 : Int32)).toInt = 10100 from by decide] at zq1
          rw [show ((10101 : Int32)).toInt = 10101 from by decide] at zq2
          rw [show ((10102 : Int32)).toInt = 10102 from by decide] at zq3
          omega
        refine lv_tableOut (tgt := 40) C.1 C.2.1 dX11_done_1 hb9 (by decide) ?_
        refine lv_iload_n C.1 C.2.1 dX11_done_40 rfl (lv_at hl 2 rfl) ?_
        refine lv_if_ne (tgt := 48) C.1 C.2.1 dX11_done_41 (by decide) (fun q4 => ?_) (fun q4 => ?_)
        · replace h := (if_neg q4).symm.trans h
          refine lv_iload_n C.1 C.2.1 dX11_done_48 rfl (lv_at hl 2 rfl) ?_
          refine lv_iconst (v := (-1)) C.1 C.2.1 dX11_done_49 (by decide) ?_
          refine lv_icmp_ne (tgt := 58) C.1 C.2.1 dX11_done_50 (by decide) (fun q5 => ?_) (fun q5 => ?_)
          · replace h := (if_neg q5).symm.trans h
            refine lv_iload_n C.1 C.2.1 dX11_done_58 rfl (lv_at hl 1 rfl) ?_
            refine lv_iload_n C.1 C.2.1 dX11_done_59 rfl (lv_at hl 2 rfl) ?_
            obtain ⟨g6, h⟩ := gd_some h
            refine lv_idiv C.1 C.2.1 dX11_done_60 (nz_ne g6) ?_
            have h9 := Option.some.inj h
            subst h9
            exact r_iret C S hr hlocks dX11_done_61
          · replace h := (if_pos q5).symm.trans h
            refine lv_iload_n C.1 C.2.1 dX11_done_53 rfl (lv_at hl 1 rfl) ?_
            refine lv_ineg C.1 C.2.1 dX11_done_54 ?_
            refine lv_goto (tgt := 61) C.1 C.2.1 dX11_done_55 (by decide) ?_
            have h9 := Option.some.inj h
            subst h9
            exact r_iret C S hr hlocks dX11_done_61
        · replace h := (if_pos q4).symm.trans h
          refine lv_iconst (v := 0) C.1 C.2.1 dX11_done_44 (by decide) ?_
          refine lv_goto (tgt := 61) C.1 C.2.1 dX11_done_45 (by decide) ?_
          have h9 := Option.some.inj h
          subst h9
          exact r_iret C S hr hlocks dX11_done_61
set_option maxHeartbeats 4000000 in
set_option maxRecDepth 100000 in
theorem k_X11_says_L4 {p : Program} {l : Launch} {e : Env} {s : State} {m : MethodId} {args : Array Value} {below : List Frame} {meth : Method} {c : Code} {D : va_G} {ad sx : Nat → Nat} {ca : Nat → ClassId} (C : Cx D ad sx ca p s m c args RX11 cX11_says 5) {Q : State → Prop} {v1 : Int32}  : ∀ (n9 : Nat) (z : Int32 × Int32 × Wd) (o : Int32 × Int32 × Wd), lp (f_X11_says_L4 v1) n9 z = some o → (∀ (ls : Array Slot) (H : Heap) (locs : List Loc), lv_has ls 5 [(0, .ref (ad 76))] → St D ad ca s o.2.2 H locs → W p l e (RM 3 67) s m args below meth c H locs 0 0 Q (F0 m 166 ls [])) → (∀ (ls : Array Slot) (H : Heap) (locs : List Loc), lv_has ls 5 [(0, .ref (ad 76)), (1, .int v1), (2, .int z.1), (3, .int z.2.1)] → St D ad ca s z.2.2 H locs → W p l e (RM 3 67) s m args below meth c H locs 0 0 Q (F0 m 4 ls [])) := by
  refine lp_W (HW := fun (z : Int32 × Int32 × Wd) => ∀ (ls : Array Slot) (H : Heap) (locs : List Loc), lv_has ls 5 [(0, .ref (ad 76)), (1, .int v1), (2, .int z.1), (3, .int z.2.1)] → St D ad ca s z.2.2 H locs → W p l e (RM 3 67) s m args below meth c H locs 0 0 Q (F0 m 4 ls [])) (XW := fun (o : Int32 × Int32 × Wd) => ∀ (ls : Array Slot) (H : Heap) (locs : List Loc), lv_has ls 5 [(0, .ref (ad 76))] → St D ad ca s o.2.2 H locs → W p l e (RM 3 67) s m args below meth c H locs 0 0 Q (F0 m 166 ls [])) ?_
  intro z x h hN hX ls H locs hl S
  unfold f_X11_says_L4 at h
  refine lv_iload_n C.1 C.2.1 dX11_says_4 rfl (lv_at hl 3 rfl) ?_
  refine lv_aload_n C.1 C.2.1 dX11_says_5 rfl (lv_at hl 0 rfl) ?_
  refine r_getr C S o_76 cf_11 0 rfl (by decide) b_fl_RX11_9 dX11_says_6 ?_
  refine lv_bipush (v := 6) C.1 C.2.1 dX11_says_9 (by decide) ?_
  refine r_ialdn (j := 6) C S a_77 (by decide) (by decide) dX11_says_11 ?_
  refine lv_icmp_ge (tgt := 166) C.1 C.2.1 dX11_says_12 (by decide) (fun q1 => ?_) (fun q1 => ?_)
  · replace h := (if_pos q1).symm.trans h
    exact hX _ (Option.some.inj h).symm _ _ _ (lv_sub hl [0] rfl) S
  · replace h := (if_neg q1).symm.trans h
    refine lv_aload_n C.1 C.2.1 dX11_says_15 rfl (lv_at hl 0 rfl) ?_
    refine r_getr C S o_76 cf_11 0 rfl (by decide) b_fl_RX11_9 dX11_says_16 ?_
    refine lv_sipush (v := 211) C.1 C.2.1 dX11_says_19 (by decide) ?_
    refine lv_iload_n C.1 C.2.1 dX11_says_22 rfl (lv_at hl 3 rfl) ?_
    refine lv_iadd C.1 C.2.1 dX11_says_23 ?_
    obtain ⟨g2, h⟩ := gd_some h
    refine r_iald C S a_77 g2 dX11_says_24 ?_
    refine lv_istore (lv' := [(4, .int (z.2.2.1 77 ((211 + z.2.1).toNatClampNeg))), (0, .ref (ad 76)), (1, .int v1), (2, .int z.1), (3, .int z.2.1)]) C.1 C.2.1 dX11_says_25 hl (by decide) rfl (fun ls hl => ?_)
    refine lv_iload C.1 C.2.1 dX11_says_27 (lv_at hl 0 rfl) ?_
    refine lv_sipush (v := 10000) C.1 C.2.1 dX11_says_29 (by decide) ?_
    refine lv_icmp_ge (tgt := 49) C.1 C.2.1 dX11_says_32 (by decide) (fun q3 => ?_) (fun q3 => ?_)
    · replace h := (if_pos q3).symm.trans h
      refine lv_iload C.1 C.2.1 dX11_says_49 (lv_at hl 0 rfl) ?_
      refine lv_sipush (v := 10100) C.1 C.2.1 dX11_says_51 (by decide) ?_
      refine lv_icmp_ge (tgt := 80) C.1 C.2.1 dX11_says_54 (by decide) (fun q4 => ?_) (fun q4 => ?_)
      · replace h := (if_pos q4).symm.trans h
        refine lv_iload C.1 C.2.1 dX11_says_80 (lv_at hl 0 rfl) ?_
        refine lv_sipush (v := 10104) C.1 C.2.1 dX11_says_82 (by decide) ?_
        refine lv_icmp_ne (tgt := 130) C.1 C.2.1 dX11_says_85 (by decide) (fun q5 => ?_) (fun q5 => ?_)
        · replace h := (if_neg q5).symm.trans h
          refine lv_iinc (v := z.1 + (-1)) (lv' := [(2, .int (z.1 + (-1))), (4, .int (z.2.2.1 77 ((211 + z.2.1).toNatClampNeg))), (0, .ref (ad 76)), (1, .int v1), (3, .int z.2.1)]) C.1 C.2.1 dX11_says_130 hl (k := 3) rfl rfl (by decide) rfl (fun ls hl => ?_)
          refine lv_aload_n C.1 C.2.1 dX11_says_133 rfl (lv_at hl 2 rfl) ?_
          refine r_getr C S o_76 cf_11 26 rfl (by decide) b_fl_RX11_64 dX11_says_134 ?_
          refine lv_iload_n C.1 C.2.1 dX11_says_137 rfl (lv_at hl 0 rfl) ?_
          refine lv_iconst (v := 1) C.1 C.2.1 dX11_says_138 (by decide) ?_
          refine lv_isub C.1 C.2.1 dX11_says_139 ?_
          refine lv_iload C.1 C.2.1 dX11_says_140 (lv_at hl 1 rfl) ?_
          refine lv_aload_n C.1 C.2.1 dX11_says_142 rfl (lv_at hl 2 rfl) ?_
          refine r_getr C S o_76 cf_11 26 rfl (by decide) b_fl_RX11_64 dX11_says_143 ?_
          refine lv_iload_n C.1 C.2.1 dX11_says_146 rfl (lv_at hl 0 rfl) ?_
          refine lv_iconst (v := 1) C.1 C.2.1 dX11_says_147 (by decide) ?_
          refine lv_isub C.1 C.2.1 dX11_says_148 ?_
          obtain ⟨g6, h⟩ := gd_some h
          refine r_iald C S a_95 g6 dX11_says_149 ?_
          refine lv_aload_n C.1 C.2.1 dX11_says_150 rfl (lv_at hl 2 rfl) ?_
          refine r_getr C S o_76 cf_11 26 rfl (by decide) b_fl_RX11_64 dX11_says_151 ?_
          refine lv_iload_n C.1 C.2.1 dX11_says_154 rfl (lv_at hl 0 rfl) ?_
          obtain ⟨g7, h⟩ := gd_some h
          refine r_iald C S a_95 g7 dX11_says_155 ?_
          obtain ⟨o8, e9, h⟩ := Option.bind_eq_some_iff.mp h
          refine r_si C S hl (k_X11_done e9) b_sb_RX11_208 [.int (z.2.2.1 77 ((211 + z.2.1).toNatClampNeg)), .int (z.2.2.1 95 (((z.1 + (-1)) - 1).toNatClampNeg)), .int (z.2.2.1 95 ((z.1 + (-1)).toNatClampNeg))] rfl [.int ((z.1 + (-1)) - 1), .ref (ad 95)] rfl rfl (Nat.le_of_ble_eq_true rfl) ⟨Nat.le_of_ble_eq_true rfl, Nat.le_of_ble_eq_true rfl⟩ dX11_says_156 (fun H locs S => ?_)
          obtain ⟨g10, h⟩ := gd_some h
          refine r_iast C S a_95 g10 dX11_says_159 (fun H locs S => ?_)
          obtain ⟨w11, h, S⟩ := lw_S (P := fun y => St D ad ca s y H locs) h S
          refine lv_iinc (v := z.2.1 + 1) (lv' := [(3, .int (z.2.1 + 1)), (2, .int (z.1 + (-1))), (4, .int (z.2.2.1 77 ((211 + z.2.1).toNatClampNeg))), (0, .ref (ad 76)), (1, .int v1)]) C.1 C.2.1 dX11_says_160 hl (k := 4) rfl rfl (by decide) rfl (fun ls hl => ?_)
          refine lv_goto (tgt := 4) C.1 C.2.1 dX11_says_163 (by decide) ?_
          exact hN _ (Option.some.inj h).symm _ _ _ (lv_sub hl [3, 4, 1, 0] rfl) S
        · replace h := (if_pos q5).symm.trans h
          refine lv_iinc (v := z.1 + (-2)) (lv' := [(2, .int (z.1 + (-2))), (4, .int (z.2.2.1 77 ((211 + z.2.1).toNatClampNeg))), (0, .ref (ad 76)), (1, .int v1), (3, .int z.2.1)]) C.1 C.2.1 dX11_says_88 hl (k := 3) rfl rfl (by decide) rfl (fun ls hl => ?_)
          refine lv_aload_n C.1 C.2.1 dX11_says_91 rfl (lv_at hl 2 rfl) ?_
          refine r_getr C S o_76 cf_11 26 rfl (by decide) b_fl_RX11_64 dX11_says_92 ?_
          refine lv_iload_n C.1 C.2.1 dX11_says_95 rfl (lv_at hl 0 rfl) ?_
          refine lv_iconst (v := 1) C.1 C.2.1 dX11_says_96 (by decide) ?_
          refine lv_isub C.1 C.2.1 dX11_says_97 ?_
          refine lv_aload_n C.1 C.2.1 dX11_says_98 rfl (lv_at hl 2 rfl) ?_
          refine r_getr C S o_76 cf_11 26 rfl (by decide) b_fl_RX11_64 dX11_says_99 ?_
          refine lv_iload_n C.1 C.2.1 dX11_says_102 rfl (lv_at hl 0 rfl) ?_
          refine lv_iconst (v := 1) C.1 C.2.1 dX11_says_103 (by decide) ?_
          refine lv_isub C.1 C.2.1 dX11_says_104 ?_
          obtain ⟨g12, h⟩ := gd_some h
          refine r_iald C S a_95 g12 dX11_says_105 ?_
          refine lv_if_eq (tgt := 118) C.1 C.2.1 dX11_says_106 (by decide) (fun q13 => ?_) (fun q13 => ?_)
          · replace h := (if_pos q13).symm.trans h
            refine lv_aload_n C.1 C.2.1 dX11_says_118 rfl (lv_at hl 2 rfl) ?_
            refine r_getr C S o_76 cf_11 26 rfl (by decide) b_fl_RX11_64 dX11_says_119 ?_
            refine lv_iload_n C.1 C.2.1 dX11_says_122 rfl (lv_at hl 0 rfl) ?_
            refine lv_iconst (v := 1) C.1 C.2.1 dX11_says_123 (by decide) ?_
            refine lv_iadd C.1 C.2.1 dX11_says_124 ?_
            obtain ⟨g14, h⟩ := gd_some h
            refine r_iald C S a_95 g14 dX11_says_125 ?_
            obtain ⟨g15, h⟩ := gd_some h
            refine r_iast C S a_95 g15 dX11_says_126 (fun H locs S => ?_)
            obtain ⟨w16, h, S⟩ := lw_S (P := fun y => St D ad ca s y H locs) h S
            refine lv_goto (tgt := 160) C.1 C.2.1 dX11_says_127 (by decide) ?_
            refine lv_iinc (v := z.2.1 + 1) (lv' := [(3, .int (z.2.1 + 1)), (2, .int (z.1 + (-2))), (4, .int (z.2.2.1 77 ((211 + z.2.1).toNatClampNeg))), (0, .ref (ad 76)), (1, .int v1)]) C.1 C.2.1 dX11_says_160 hl (k := 4) rfl rfl (by decide) rfl (fun ls hl => ?_)
            refine lv_goto (tgt := 4) C.1 C.2.1 dX11_says_163 (by decide) ?_
            exact hN _ (Option.some.inj h).symm _ _ _ (lv_sub hl [3, 4, 1, 0] rfl) S
          · replace h := (if_neg q13).symm.trans h
            refine lv_aload_n C.1 C.2.1 dX11_says_109 rfl (lv_at hl 2 rfl) ?_
            refine r_getr C S o_76 cf_11 26 rfl (by decide) b_fl_RX11_64 dX11_says_110 ?_
            refine lv_iload_n C.1 C.2.1 dX11_says_113 rfl (lv_at hl 0 rfl) ?_
            obtain ⟨g17, h⟩ := gd_some h
            refine r_iald C S a_95 g17 dX11_says_114 ?_
            refine lv_goto (tgt := 126) C.1 C.2.1 dX11_says_115 (by decide) ?_
            obtain ⟨g18, h⟩ := gd_some h
            refine r_iast C S a_95 g18 dX11_says_126 (fun H locs S => ?_)
            obtain ⟨w19, h, S⟩ := lw_S (P := fun y => St D ad ca s y H locs) h S
            refine lv_goto (tgt := 160) C.1 C.2.1 dX11_says_127 (by decide) ?_
            refine lv_iinc (v := z.2.1 + 1) (lv' := [(3, .int (z.2.1 + 1)), (2, .int (z.1 + (-2))), (4, .int (z.2.2.1 77 ((211 + z.2.1).toNatClampNeg))), (0, .ref (ad 76)), (1, .int v1)]) C.1 C.2.1 dX11_says_160 hl (k := 4) rfl rfl (by decide) rfl (fun ls hl => ?_)
            refine lv_goto (tgt := 4) C.1 C.2.1 dX11_says_163 (by decide) ?_
            exact hN _ (Option.some.inj h).symm _ _ _ (lv_sub hl [3, 4, 1, 0] rfl) S
      · replace h := (if_neg q4).symm.trans h
        refine lv_aload_n C.1 C.2.1 dX11_says_57 rfl (lv_at hl 1 rfl) ?_
        refine r_getr C S o_76 cf_11 26 rfl (by decide) b_fl_RX11_64 dX11_says_58 ?_
        refine lv_iload_n C.1 C.2.1 dX11_says_61 rfl (lv_at hl 3 rfl) ?_
        refine lv_aload_n C.1 C.2.1 dX11_says_62 rfl (lv_at hl 1 rfl) ?_
        refine lv_iload_n C.1 C.2.1 dX11_says_63 rfl (lv_at hl 2 rfl) ?_
        refine lv_iload C.1 C.2.1 dX11_says_64 (lv_at hl 0 rfl) ?_
        refine lv_sipush (v := 10000) C.1 C.2.1 dX11_says_66 (by decide) ?_
        refine lv_isub C.1 C.2.1 dX11_says_69 ?_
        obtain ⟨o20, e21, h⟩ := Option.bind_eq_some_iff.mp h
        refine r_vi C S hl o_76 cf_11 (k_X11_factOf e21) b_vb_RX11_205 [.int v1, .int ((z.2.2.1 77 ((211 + z.2.1).toNatClampNeg)) - 10000)] rfl [.int z.1, .ref (ad 95)] rfl rfl (Nat.le_of_ble_eq_true rfl) ⟨Nat.le_of_ble_eq_true rfl, Nat.le_of_ble_eq_true rfl⟩ dX11_says_70 (fun H locs S => ?_)
        obtain ⟨g22, h⟩ := gd_some h
        refine r_iast C S a_95 g22 dX11_says_73 (fun H locs S => ?_)
        obtain ⟨w23, h, S⟩ := lw_S (P := fun y => St D ad ca s y H locs) h S
        refine lv_iinc (v := z.1 + 1) (lv' := [(2, .int (z.1 + 1)), (4, .int (z.2.2.1 77 ((211 + z.2.1).toNatClampNeg))), (0, .ref (ad 76)), (1, .int v1), (3, .int z.2.1)]) C.1 C.2.1 dX11_says_74 hl (k := 3) rfl rfl (by decide) rfl (fun ls hl => ?_)
        refine lv_goto (tgt := 160) C.1 C.2.1 dX11_says_77 (by decide) ?_
        refine lv_iinc (v := z.2.1 + 1) (lv' := [(3, .int (z.2.1 + 1)), (2, .int (z.1 + 1)), (4, .int (z.2.2.1 77 ((211 + z.2.1).toNatClampNeg))), (0, .ref (ad 76)), (1, .int v1)]) C.1 C.2.1 dX11_says_160 hl (k := 4) rfl rfl (by decide) rfl (fun ls hl => ?_)
        refine lv_goto (tgt := 4) C.1 C.2.1 dX11_says_163 (by decide) ?_
        exact hN _ (Option.some.inj h).symm _ _ _ (lv_sub hl [3, 4, 1, 0] rfl) S
    · replace h := (if_neg q3).symm.trans h
      refine lv_aload_n C.1 C.2.1 dX11_says_35 rfl (lv_at hl 1 rfl) ?_
      refine r_getr C S o_76 cf_11 26 rfl (by decide) b_fl_RX11_64 dX11_says_36 ?_
      refine lv_iload_n C.1 C.2.1 dX11_says_39 rfl (lv_at hl 3 rfl) ?_
      refine lv_iload C.1 C.2.1 dX11_says_40 (lv_at hl 0 rfl) ?_
      obtain ⟨g24, h⟩ := gd_some h
      refine r_iast C S a_95 g24 dX11_says_42 (fun H locs S => ?_)
      obtain ⟨w25, h, S⟩ := lw_S (P := fun y => St D ad ca s y H locs) h S
      refine lv_iinc (v := z.1 + 1) (lv' := [(2, .int (z.1 + 1)), (4, .int (z.2.2.1 77 ((211 + z.2.1).toNatClampNeg))), (0, .ref (ad 76)), (1, .int v1), (3, .int z.2.1)]) C.1 C.2.1 dX11_says_43 hl (k := 3) rfl rfl (by decide) rfl (fun ls hl => ?_)
      refine lv_goto (tgt := 160) C.1 C.2.1 dX11_says_46 (by decide) ?_
      refine lv_iinc (v := z.2.1 + 1) (lv' := [(3, .int (z.2.1 + 1)), (2, .int (z.1 + 1)), (4, .int (z.2.2.1 77 ((211 + z.2.1).toNatClampNeg))), (0, .ref (ad 76)), (1, .int v1)]) C.1 C.2.1 dX11_says_160 hl (k := 4) rfl rfl (by decide) rfl (fun ls hl => ?_)
      refine lv_goto (tgt := 4) C.1 C.2.1 dX11_says_163 (by decide) ?_
      exact hN _ (Option.some.inj h).symm _ _ _ (lv_sub hl [3, 4, 1, 0] rfl) S
set_option maxHeartbeats 4000000 in
set_option maxRecDepth 100000 in
theorem k_X11_says {v1 : Int32}  {w : Wd} {rv : Int32 × Wd} (h : f_X11_says v1 w = some rv) : CI yX11_says cX11_says 5 .int 3 67 (fun ad => [.ref (ad 76), .int v1]) w rv.1 rv.2 := by
  refine CI.of (by decide) ?_
  intro l D ad sx ca p e s m below meth c C S hr hlocks
  have hl := lv_entry ([.ref (ad 76), .int v1]) (n := 5) (Nat.le_of_ble_eq_true rfl)
  rw [lg_entry_eq]
  generalize (lg_sl ([.ref (ad 76), .int v1]) ++ List.replicate (5 - (lg_sl ([.ref (ad 76), .int v1])).length) Slot.unset).toArray = ls at hl ⊢
  have hl : lv_has ls 5 [(0, .ref (ad 76)), (1, .int v1)] := hl
  generalize ha9 : ([.ref (ad 76), .int v1] : List Value).toArray = args at C ⊢
  generalize s.heap = H at S ⊢
  generalize ([] : List Loc) = locs at S ⊢
  unfold f_X11_says at h
  refine lv_iconst (v := 0) C.1 C.2.1 dX11_says_0 (by decide) ?_
  refine lv_istore_n (lv' := [(2, .int 0), (0, .ref (ad 76)), (1, .int v1)]) C.1 C.2.1 dX11_says_1 rfl hl (by decide) rfl (fun ls hl => ?_)
  refine lv_iconst (v := 0) C.1 C.2.1 dX11_says_2 (by decide) ?_
  refine lv_istore_n (lv' := [(3, .int 0), (2, .int 0), (0, .ref (ad 76)), (1, .int v1)]) C.1 C.2.1 dX11_says_3 rfl hl (by decide) rfl (fun ls hl => ?_)
  obtain ⟨o26, e27, h⟩ := Option.bind_eq_some_iff.mp h
  refine k_X11_says_L4 C  FU _ _ e27 (fun ls H locs hl S => ?_) ls H locs (lv_sub hl [2, 3, 1, 0] rfl) S
  refine lv_aload_n C.1 C.2.1 dX11_says_166 rfl (lv_at hl 0 rfl) ?_
  refine r_getr C S o_76 cf_11 26 rfl (by decide) b_fl_RX11_64 dX11_says_167 ?_
  refine lv_iconst (v := 0) C.1 C.2.1 dX11_says_170 (by decide) ?_
  refine r_ialdn (j := 0) C S a_95 (by decide) (by decide) dX11_says_171 ?_
  have h9 := Option.some.inj h
  subst h9
  exact r_iret C S hr hlocks dX11_says_172
set_option maxHeartbeats 4000000 in
set_option maxRecDepth 100000 in
theorem k_X11_findShares_J46 {p : Program} {l : Launch} {e : Env} {s : State} {m : MethodId} {args : Array Value} {below : List Frame} {meth : Method} {c : Code} {D : va_G} {ad sx : Nat → Nat} {ca : Nat → ClassId} (C : Cx D ad sx ca p s m c args RX11 cX11_findShares 3) {Q : State → Prop} {w : Wd} {v1 : Int32} {v2 : Int32} {v101 : Int32} {v102 : Int32}  {x : (Int32 × Wd) ⊕ (Int32 × Wd)} (h : f_X11_findShares_J46 v1 v2 v101 v102 w = some x) (hN : ∀ z, x = .inl z → ∀ (ls : Array Slot) (H : Heap) (locs : List Loc), lv_has ls 3 [(0, .ref (ad 76)), (1, .int v1), (2, .int z.1)] → St D ad ca s z.2 H locs → W p l e (RM 4 91) s m args below meth c H locs 0 0 Q (F0 m 2 ls [])) (hX : ∀ o, x = .inr o → ∀ (ls : Array Slot) (H : Heap) (locs : List Loc), lv_has ls 3 [] → St D ad ca s o.2 H locs → W p l e (RM 4 91) s m args below meth c H locs 0 0 Q (F0 m 59 ls [])) {ls : Array Slot} {H : Heap} {locs : List Loc} (hl : lv_has ls 3 [(0, .ref (ad 76)), (1, .int v1), (2, .int v2)]) (S : St D ad ca s w H locs) : W p l e (RM 4 91) s m args below meth c H locs 0 0 Q (F0 m 46 ls [.int v102, .int v101, .ref (ad 96)]) := by
  unfold f_X11_findShares_J46 at h
  refine lv_iconst (v := 0) C.1 C.2.1 dX11_findShares_46 (by decide) ?_
  refine r_ldc C 99999 b_cn_RX11_214 dX11_findShares_47 ?_
  obtain ⟨o5, e6, h⟩ := Option.bind_eq_some_iff.mp h
  refine r_si C S hl (k_X11_within e6) b_sb_RX11_215 [.int v102, .int 0, .int 99999] rfl [.int v101, .ref (ad 96)] rfl rfl (Nat.le_of_ble_eq_true rfl) ⟨Nat.le_of_ble_eq_true rfl, Nat.le_of_ble_eq_true rfl⟩ dX11_findShares_49 (fun H locs S => ?_)
  obtain ⟨g7, h⟩ := gd_some h
  refine r_iast C S a_96 g7 dX11_findShares_52 (fun H locs S => ?_)
  obtain ⟨w8, h, S⟩ := lw_S (P := fun y => St D ad ca s y H locs) h S
  refine lv_iinc (v := v2 + 1) (lv' := [(2, .int (v2 + 1)), (0, .ref (ad 76)), (1, .int v1)]) C.1 C.2.1 dX11_findShares_53 hl (k := 2) rfl rfl (by decide) rfl (fun ls hl => ?_)
  refine lv_goto (tgt := 2) C.1 C.2.1 dX11_findShares_56 (by decide) ?_
  exact hN _ (Option.some.inj h).symm _ _ _ (lv_sub hl [1, 2, 0] rfl) S
set_option maxHeartbeats 4000000 in
set_option maxRecDepth 100000 in
theorem k_X11_findShares_J39 {p : Program} {l : Launch} {e : Env} {s : State} {m : MethodId} {args : Array Value} {below : List Frame} {meth : Method} {c : Code} {D : va_G} {ad sx : Nat → Nat} {ca : Nat → ClassId} (C : Cx D ad sx ca p s m c args RX11 cX11_findShares 3) {Q : State → Prop} {w : Wd} {v1 : Int32} {v2 : Int32} {v101 : Int32}  {x : (Int32 × Wd) ⊕ (Int32 × Wd)} (h : f_X11_findShares_J39 v1 v2 v101 w = some x) (hN : ∀ z, x = .inl z → ∀ (ls : Array Slot) (H : Heap) (locs : List Loc), lv_has ls 3 [(0, .ref (ad 76)), (1, .int v1), (2, .int z.1)] → St D ad ca s z.2 H locs → W p l e (RM 4 91) s m args below meth c H locs 0 0 Q (F0 m 2 ls [])) (hX : ∀ o, x = .inr o → ∀ (ls : Array Slot) (H : Heap) (locs : List Loc), lv_has ls 3 [] → St D ad ca s o.2 H locs → W p l e (RM 4 91) s m args below meth c H locs 0 0 Q (F0 m 59 ls [])) {ls : Array Slot} {H : Heap} {locs : List Loc} (hl : lv_has ls 3 [(0, .ref (ad 76)), (1, .int v1), (2, .int v2)]) (S : St D ad ca s w H locs) : W p l e (RM 4 91) s m args below meth c H locs 0 0 Q (F0 m 39 ls [.int v101, .ref (ad 96)]) := by
  unfold f_X11_findShares_J39 at h
  refine lv_aload_n C.1 C.2.1 dX11_findShares_39 rfl (lv_at hl 0 rfl) ?_
  refine lv_iload_n C.1 C.2.1 dX11_findShares_40 rfl (lv_at hl 2 rfl) ?_
  refine lv_bipush (v := 7) C.1 C.2.1 dX11_findShares_41 (by decide) ?_
  obtain ⟨o3, e4, h⟩ := Option.bind_eq_some_iff.mp h
  refine r_vi C S hl o_76 cf_11 (k_X11_get e4) b_vb_RX11_101 [.int v2, .int 7] rfl [.int v101, .ref (ad 96)] rfl rfl (Nat.le_of_ble_eq_true rfl) ⟨Nat.le_of_ble_eq_true rfl, Nat.le_of_ble_eq_true rfl⟩ dX11_findShares_43 (fun H locs S => ?_)
  exact k_X11_findShares_J46 C  h hN hX (lv_sub hl [0, 1, 2] rfl) S
set_option maxHeartbeats 4000000 in
set_option maxRecDepth 100000 in
theorem k_X11_findShares_L2 {p : Program} {l : Launch} {e : Env} {s : State} {m : MethodId} {args : Array Value} {below : List Frame} {meth : Method} {c : Code} {D : va_G} {ad sx : Nat → Nat} {ca : Nat → ClassId} (C : Cx D ad sx ca p s m c args RX11 cX11_findShares 3) {Q : State → Prop} {v1 : Int32}  : ∀ (n9 : Nat) (z : Int32 × Wd) (o : Int32 × Wd), lp (f_X11_findShares_L2 v1) n9 z = some o → (∀ (ls : Array Slot) (H : Heap) (locs : List Loc), lv_has ls 3 [] → St D ad ca s o.2 H locs → W p l e (RM 4 91) s m args below meth c H locs 0 0 Q (F0 m 59 ls [])) → (∀ (ls : Array Slot) (H : Heap) (locs : List Loc), lv_has ls 3 [(0, .ref (ad 76)), (1, .int v1), (2, .int z.1)] → St D ad ca s z.2 H locs → W p l e (RM 4 91) s m args below meth c H locs 0 0 Q (F0 m 2 ls [])) := by
  refine lp_W (HW := fun (z : Int32 × Wd) => ∀ (ls : Array Slot) (H : Heap) (locs : List Loc), lv_has ls 3 [(0, .ref (ad 76)), (1, .int v1), (2, .int z.1)] → St D ad ca s z.2 H locs → W p l e (RM 4 91) s m args below meth c H locs 0 0 Q (F0 m 2 ls [])) (XW := fun (o : Int32 × Wd) => ∀ (ls : Array Slot) (H : Heap) (locs : List Loc), lv_has ls 3 [] → St D ad ca s o.2 H locs → W p l e (RM 4 91) s m args below meth c H locs 0 0 Q (F0 m 59 ls [])) ?_
  intro z x h hN hX ls H locs hl S
  unfold f_X11_findShares_L2 at h
  refine lv_iload_n C.1 C.2.1 dX11_findShares_2 rfl (lv_at hl 2 rfl) ?_
  refine lv_aload_n C.1 C.2.1 dX11_findShares_3 rfl (lv_at hl 0 rfl) ?_
  refine r_getr C S o_76 cf_11 0 rfl (by decide) b_fl_RX11_9 dX11_findShares_4 ?_
  refine lv_iconst (v := 4) C.1 C.2.1 dX11_findShares_7 (by decide) ?_
  refine r_ialdn (j := 4) C S a_77 (by decide) (by decide) dX11_findShares_8 ?_
  refine lv_icmp_ge (tgt := 59) C.1 C.2.1 dX11_findShares_9 (by decide) (fun q1 => ?_) (fun q1 => ?_)
  · replace h := (if_pos q1).symm.trans h
    exact hX _ (Option.some.inj h).symm _ _ _ (lv_sub hl [] rfl) S
  · replace h := (if_neg q1).symm.trans h
    refine lv_aload_n C.1 C.2.1 dX11_findShares_12 rfl (lv_at hl 0 rfl) ?_
    refine r_getr C S o_76 cf_11 27 rfl (by decide) b_fl_RX11_67 dX11_findShares_13 ?_
    refine lv_iload_n C.1 C.2.1 dX11_findShares_16 rfl (lv_at hl 2 rfl) ?_
    refine lv_iload_n C.1 C.2.1 dX11_findShares_17 rfl (lv_at hl 1 rfl) ?_
    refine lv_if_eq (tgt := 39) C.1 C.2.1 dX11_findShares_18 (by decide) (fun q2 => ?_) (fun q2 => ?_)
    · replace h := (if_pos q2).symm.trans h
      exact k_X11_findShares_J39 C  h hN hX (lv_sub hl [0, 1, 2] rfl) S
    · replace h := (if_neg q2).symm.trans h
      refine lv_aload_n C.1 C.2.1 dX11_findShares_21 rfl (lv_at hl 0 rfl) ?_
      refine r_getr C S o_76 cf_11 0 rfl (by decide) b_fl_RX11_9 dX11_findShares_22 ?_
      refine lv_bipush (v := 6) C.1 C.2.1 dX11_findShares_25 (by decide) ?_
      refine r_ialdn (j := 6) C S a_77 (by decide) (by decide) dX11_findShares_27 ?_
      refine lv_if_le (tgt := 39) C.1 C.2.1 dX11_findShares_28 (by decide) (fun q9 => ?_) (fun q9 => ?_)
      · replace h := (if_pos q9).symm.trans h
        exact k_X11_findShares_J39 C  h hN hX (lv_sub hl [0, 1, 2] rfl) S
      · replace h := (if_neg q9).symm.trans h
        refine lv_aload_n C.1 C.2.1 dX11_findShares_31 rfl (lv_at hl 0 rfl) ?_
        refine lv_iload_n C.1 C.2.1 dX11_findShares_32 rfl (lv_at hl 2 rfl) ?_
        obtain ⟨o10, e11, h⟩ := Option.bind_eq_some_iff.mp h
        refine r_vi C S hl o_76 cf_11 (k_X11_says e11) b_vb_RX11_211 [.int z.1] rfl [.int z.1, .ref (ad 96)] rfl rfl (Nat.le_of_ble_eq_true rfl) ⟨Nat.le_of_ble_eq_true rfl, Nat.le_of_ble_eq_true rfl⟩ dX11_findShares_33 (fun H locs S => ?_)
        refine lv_goto (tgt := 46) C.1 C.2.1 dX11_findShares_36 (by decide) ?_
        exact k_X11_findShares_J46 C  h hN hX (lv_sub hl [0, 1, 2] rfl) S
set_option maxHeartbeats 4000000 in
set_option maxRecDepth 100000 in
theorem k_X11_findShares {v1 : Int32}  {w : Wd} {rv : Wd} (h : f_X11_findShares v1 w = some rv) : CV yX11_findShares cX11_findShares 3 4 91 (fun ad => [.ref (ad 76), .int v1]) w rv := by
  refine CV.of (by decide) ?_
  intro l D ad sx ca p e s m below meth c C S hr hlocks
  have hl := lv_entry ([.ref (ad 76), .int v1]) (n := 3) (Nat.le_of_ble_eq_true rfl)
  rw [lg_entry_eq]
  generalize (lg_sl ([.ref (ad 76), .int v1]) ++ List.replicate (3 - (lg_sl ([.ref (ad 76), .int v1])).length) Slot.unset).toArray = ls at hl ⊢
  have hl : lv_has ls 3 [(0, .ref (ad 76)), (1, .int v1)] := hl
  generalize ha9 : ([.ref (ad 76), .int v1] : List Value).toArray = args at C ⊢
  generalize s.heap = H at S ⊢
  generalize ([] : List Loc) = locs at S ⊢
  unfold f_X11_findShares at h
  refine lv_iconst (v := 0) C.1 C.2.1 dX11_findShares_0 (by decide) ?_
  refine lv_istore_n (lv' := [(2, .int 0), (0, .ref (ad 76)), (1, .int v1)]) C.1 C.2.1 dX11_findShares_1 rfl hl (by decide) rfl (fun ls hl => ?_)
  obtain ⟨o12, e13, h⟩ := Option.bind_eq_some_iff.mp h
  refine k_X11_findShares_L2 C  FU _ _ e13 (fun ls H locs hl S => ?_) ls H locs (lv_sub hl [1, 2, 0] rfl) S
  have h9 := Option.some.inj h
  subst h9
  exact r_vret C S hr hlocks dX11_findShares_59

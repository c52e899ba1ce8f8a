set_option maxHeartbeats 4000000 in
set_option maxRecDepth 100000 in
theorem k_X11_isDigit {v0 : Int32}  {w : Wd} {rv : Int32} (h : f_X11_isDigit v0 = some rv) : CI yX11_isDigit cX11_isDigit 1 .boolean 0 0 (fun ad => [.int v0]) w rv w := by
  refine CI.of (by decide) ?_
  intro l D ad sx ca p e s m below meth c C S hr hlocks
  have hl := lv_entry ([.int v0]) (n := 1) (Nat.le_of_ble_eq_true rfl)
  rw [lg_entry_eq]
  generalize (lg_sl ([.int v0]) ++ List.replicate (1 - (lg_sl ([.int v0])).length) Slot.unset).toArray = ls at hl ⊢
  have hl : lv_has ls 1 [(0, .int v0)] := hl
  generalize ha9 : ([.int v0] : List Value).toArray = args at C ⊢
  generalize s.heap = H at S ⊢
  generalize ([] : List Loc) = locs at S ⊢
  unfold f_X11_isDigit at h
  refine lv_iload_n C.1 C.2.1 dX11_isDigit_0 rfl (lv_at hl 0 rfl) ?_
  refine lv_bipush (v := 48) C.1 C.2.1 dX11_isDigit_1 (by decide) ?_
  refine lv_icmp_lt (tgt := 16) C.1 C.2.1 dX11_isDigit_3 (by decide) (fun q1 => ?_) (fun q1 => ?_)
  · replace h := (if_pos q1).symm.trans h
    refine lv_iconst (v := 0) C.1 C.2.1 dX11_isDigit_16 (by decide) ?_
    have h9 := Option.some.inj h
    subst h9
    exact r_zret C S hr hlocks (Or.inl rfl) dX11_isDigit_17
  · replace h := (if_neg q1).symm.trans h
    refine lv_iload_n C.1 C.2.1 dX11_isDigit_6 rfl (lv_at hl 0 rfl) ?_
    refine lv_bipush (v := 57) C.1 C.2.1 dX11_isDigit_7 (by decide) ?_
    refine lv_icmp_gt (tgt := 16) C.1 C.2.1 dX11_isDigit_9 (by decide) (fun q2 => ?_) (fun q2 => ?_)
    · replace h := (if_pos q2).symm.trans h
      refine lv_iconst (v := 0) C.1 C.2.1 dX11_isDigit_16 (by decide) ?_
      have h9 := Option.some.inj h
      subst h9
      exact r_zret C S hr hlocks (Or.inl rfl) dX11_isDigit_17
    · replace h := (if_neg q2).symm.trans h
      refine lv_iconst (v := 1) C.1 C.2.1 dX11_isDigit_12 (by decide) ?_
      refine lv_goto (tgt := 17) C.1 C.2.1 dX11_isDigit_13 (by decide) ?_
      have h9 := Option.some.inj h
      subst h9
      exact r_zret C S hr hlocks (Or.inr rfl) dX11_isDigit_17
set_option maxHeartbeats 4000000 in
set_option maxRecDepth 100000 in
theorem k_X11_operand_J151 {p : Program} {l : Launch} {e : Env} {s : State} {m : MethodId} {args : Array Value} {below : List Frame} {meth : Method} {c : Code} {D : va_G} {ad sx : Nat → Nat} {ca : Nat → ClassId} (C : Cx D ad sx ca p s m c args RX11 cX11_operand 4) (hr : meth.sig.returnType = (some .boolean)) (hlocks : meth.locks = false) {w : Wd} {v1 : Int32}  {rv : Int32 × Wd} (h : f_X11_operand_J151 v1 w = some rv) {ls : Array Slot} {H : Heap} {locs : List Loc} (hl : lv_has ls 4 [(0, .ref (ad 76)), (1, .int v1)]) (S : St D ad ca s w H locs) : W p l e (RM 1 21) s m args below meth c H locs 0 0 (MQ below (Qi D ad ca rv.1 rv.2) args s 0 0 (Aad ad)) (F0 m 151 ls []) := by
  unfold f_X11_operand_J151 at h
  refine lv_aload_n C.1 C.2.1 dX11_operand_151 rfl (lv_at hl 0 rfl) ?_
  refine r_geti C S o_76 cf_11 23 rfl (by decide) b_fl_RX11_183 dX11_operand_152 ?_
  refine lv_iconst (v := 4) C.1 C.2.1 dX11_operand_155 (by decide) ?_
  refine lv_icmp_ge (tgt := 176) C.1 C.2.1 dX11_operand_156 (by decide) (fun q9 => ?_) (fun q9 => ?_)
  · replace h := (if_pos q9).symm.trans h
    refine lv_aload_n C.1 C.2.1 dX11_operand_176 rfl (lv_at hl 0 rfl) ?_
    refine lv_iconst (v := 1) C.1 C.2.1 dX11_operand_177 (by decide) ?_
    refine r_put C S o_76 cf_11 25 rfl (by decide) rfl (zo_nar (by decide)) b_fl_RX11_188 dX11_operand_178 (fun H locs S => ?_)
    obtain ⟨w10, h, S⟩ := lw_S (P := fun y => St D ad ca s y H locs) h S
    refine lv_iconst (v := 1) C.1 C.2.1 dX11_operand_181 (by decide) ?_
    have h9 := Option.some.inj h
    subst h9
    exact r_zret C S hr hlocks (Or.inr rfl) dX11_operand_182
  · replace h := (if_neg q9).symm.trans h
    refine lv_aload_n C.1 C.2.1 dX11_operand_159 rfl (lv_at hl 0 rfl) ?_
    refine lv_dup C.1 C.2.1 dX11_operand_160 rfl ?_
    refine r_geti C S o_76 cf_11 23 rfl (by decide) b_fl_RX11_183 dX11_operand_161 ?_
    refine lv_iconst (v := 1) C.1 C.2.1 dX11_operand_164 (by decide) ?_
    refine lv_iadd C.1 C.2.1 dX11_operand_165 ?_
    refine r_put C S o_76 cf_11 23 rfl (by decide) rfl (ni _) b_fl_RX11_183 dX11_operand_166 (fun H locs S => ?_)
    obtain ⟨w11, h, S⟩ := lw_S (P := fun y => St D ad ca s y H locs) h S
    refine lv_aload_n C.1 C.2.1 dX11_operand_169 rfl (lv_at hl 0 rfl) ?_
    refine lv_iload_n C.1 C.2.1 dX11_operand_170 rfl (lv_at hl 1 rfl) ?_
    obtain ⟨o12, e13, h⟩ := Option.bind_eq_some_iff.mp h
    refine r_vv C S hl o_76 cf_11 (k_X11_waits e13) b_vb_RX11_186 [.int v1] rfl [] rfl rfl (Nat.le_of_ble_eq_true rfl) ⟨Nat.le_of_ble_eq_true rfl, Nat.le_of_ble_eq_true rfl⟩ dX11_operand_171 (fun H locs S => ?_)
    refine lv_iconst (v := 1) C.1 C.2.1 dX11_operand_174 (by decide) ?_
    have h9 := Option.some.inj h
    subst h9
    exact r_zret C S hr hlocks (Or.inr rfl) dX11_operand_175
set_option maxHeartbeats 4000000 in
set_option maxRecDepth 100000 in
theorem k_X11_operand_L36 {p : Program} {l : Launch} {e : Env} {s : State} {m : MethodId} {args : Array Value} {below : List Frame} {meth : Method} {c : Code} {D : va_G} {ad sx : Nat → Nat} {ca : Nat → ClassId} (C : Cx D ad sx ca p s m c args RX11 cX11_operand 4) {Q : State → Prop}   : ∀ (n9 : Nat) (z : Int32 × Int32 × Wd) (o : Int32 × Int32 × Wd), lp (f_X11_operand_L36) n9 z = some o → (∀ (ls : Array Slot) (H : Heap) (locs : List Loc), lv_has ls 4 [(0, .ref (ad 76)), (2, .int o.1)] → St D ad ca s o.2.2 H locs → W p l e (RM 1 21) s m args below meth c H locs 0 0 Q (F0 m 101 ls [])) → (∀ (ls : Array Slot) (H : Heap) (locs : List Loc), lv_has ls 4 [(0, .ref (ad 76)), (2, .int z.1), (3, .int z.2.1)] → St D ad ca s z.2.2 H locs → W p l e (RM 1 21) s m args below meth c H locs 0 0 Q (F0 m 36 ls [])) := by
  refine lp_W (HW := fun (z : Int32 × Int32 × Wd) => ∀ (ls : Array Slot) (H : Heap) (locs : List Loc), lv_has ls 4 [(0, .ref (ad 76)), (2, .int z.1), (3, .int z.2.1)] → St D ad ca s z.2.2 H locs → W p l e (RM 1 21) s m args below meth c H locs 0 0 Q (F0 m 36 ls [])) (XW := fun (o : Int32 × Int32 × Wd) => ∀ (ls : Array Slot) (H : Heap) (locs : List Loc), lv_has ls 4 [(0, .ref (ad 76)), (2, .int o.1)] → St D ad ca s o.2.2 H locs → W p l e (RM 1 21) s m args below meth c H locs 0 0 Q (F0 m 101 ls [])) ?_
  intro z x h hN hX ls H locs hl S
  unfold f_X11_operand_L36 at h
  refine lv_iload_n C.1 C.2.1 dX11_operand_36 rfl (lv_at hl 2 rfl) ?_
  refine lv_iconst (v := 4) C.1 C.2.1 dX11_operand_37 (by decide) ?_
  refine lv_icmp_ge (tgt := 101) C.1 C.2.1 dX11_operand_38 (by decide) (fun q21 => ?_) (fun q21 => ?_)
  · replace h := (if_pos q21).symm.trans h
    exact hX _ (Option.some.inj h).symm _ _ _ (lv_sub hl [0, 1] rfl) S
  · replace h := (if_neg q21).symm.trans h
    refine lv_aload_n C.1 C.2.1 dX11_operand_41 rfl (lv_at hl 0 rfl) ?_
    refine r_geti C S o_76 cf_11 24 rfl (by decide) b_fl_RX11_174 dX11_operand_42 ?_
    refine lv_aload_n C.1 C.2.1 dX11_operand_45 rfl (lv_at hl 0 rfl) ?_
    refine r_geti C S o_76 cf_11 18 rfl (by decide) b_fl_RX11_161 dX11_operand_46 ?_
    refine lv_icmp_ge (tgt := 101) C.1 C.2.1 dX11_operand_49 (by decide) (fun q22 => ?_) (fun q22 => ?_)
    · replace h := (if_pos q22).symm.trans h
      exact hX _ (Option.some.inj h).symm _ _ _ (lv_sub hl [0, 1] rfl) S
    · replace h := (if_neg q22).symm.trans h
      refine lv_aload_n C.1 C.2.1 dX11_operand_52 rfl (lv_at hl 0 rfl) ?_
      refine r_getr C S o_76 cf_11 17 rfl (by decide) b_fl_RX11_55 dX11_operand_53 ?_
      refine lv_aload_n C.1 C.2.1 dX11_operand_56 rfl (lv_at hl 0 rfl) ?_
      refine r_geti C S o_76 cf_11 24 rfl (by decide) b_fl_RX11_174 dX11_operand_57 ?_
      obtain ⟨g23, h⟩ := gd_some h
      refine r_iald C S a_92 g23 dX11_operand_60 ?_
      obtain ⟨o24, e25, h⟩ := Option.bind_eq_some_iff.mp h
      refine r_si C S hl (k_X11_isDigit e25) b_sb_RX11_177 [.int (z.2.2.1 92 ((z.2.2.1 76 24).toNatClampNeg))] rfl [] rfl rfl (Nat.le_of_ble_eq_true rfl) ⟨Nat.le_of_ble_eq_true rfl, Nat.le_of_ble_eq_true rfl⟩ dX11_operand_61 (fun H locs S => ?_)
      refine lv_if_eq (tgt := 101) C.1 C.2.1 dX11_operand_64 (by decide) (fun q26 => ?_) (fun q26 => ?_)
      · replace h := (if_pos q26).symm.trans h
        exact hX _ (Option.some.inj h).symm _ _ _ (lv_sub hl [0, 1] rfl) S
      · replace h := (if_neg q26).symm.trans h
        refine lv_bipush (v := 10) C.1 C.2.1 dX11_operand_67 (by decide) ?_
        refine lv_iload_n C.1 C.2.1 dX11_operand_69 rfl (lv_at hl 1 rfl) ?_
        refine lv_imul C.1 C.2.1 dX11_operand_70 ?_
        refine lv_aload_n C.1 C.2.1 dX11_operand_71 rfl (lv_at hl 0 rfl) ?_
        refine r_getr C S o_76 cf_11 17 rfl (by decide) b_fl_RX11_55 dX11_operand_72 ?_
        refine lv_aload_n C.1 C.2.1 dX11_operand_75 rfl (lv_at hl 0 rfl) ?_
        refine r_geti C S o_76 cf_11 24 rfl (by decide) b_fl_RX11_174 dX11_operand_76 ?_
        obtain ⟨g27, h⟩ := gd_some h
        refine r_iald C S a_92 g27 dX11_operand_79 ?_
        refine lv_iadd C.1 C.2.1 dX11_operand_80 ?_
        refine lv_bipush (v := 48) C.1 C.2.1 dX11_operand_81 (by decide) ?_
        refine lv_isub C.1 C.2.1 dX11_operand_83 ?_
        refine lv_istore_n (lv' := [(2, .int (((10 * z.1) + (z.2.2.1 92 ((z.2.2.1 76 24).toNatClampNeg))) - 48)), (0, .ref (ad 76)), (3, .int z.2.1)]) C.1 C.2.1 dX11_operand_84 rfl hl (by decide) rfl (fun ls hl => ?_)
        refine lv_aload_n C.1 C.2.1 dX11_operand_85 rfl (lv_at hl 1 rfl) ?_
        refine lv_dup C.1 C.2.1 dX11_operand_86 rfl ?_
        refine r_geti C S o_76 cf_11 24 rfl (by decide) b_fl_RX11_174 dX11_operand_87 ?_
        refine lv_iconst (v := 1) C.1 C.2.1 dX11_operand_90 (by decide) ?_
        refine lv_iadd C.1 C.2.1 dX11_operand_91 ?_
        refine r_put C S o_76 cf_11 24 rfl (by decide) rfl (ni _) b_fl_RX11_174 dX11_operand_92 (fun H locs S => ?_)
        obtain ⟨w28, h, S⟩ := lw_S (P := fun y => St D ad ca s y H locs) h S
        refine lv_iinc (v := z.2.1 + 1) (lv' := [(3, .int (z.2.1 + 1)), (2, .int (((10 * z.1) + (z.2.2.1 92 ((z.2.2.1 76 24).toNatClampNeg))) - 48)), (0, .ref (ad 76))]) C.1 C.2.1 dX11_operand_95 hl (k := 2) rfl rfl (by decide) rfl (fun ls hl => ?_)
        refine lv_goto (tgt := 36) C.1 C.2.1 dX11_operand_98 (by decide) ?_
        exact hN _ (Option.some.inj h).symm _ _ _ (lv_sub hl [2, 1, 0] rfl) S
set_option maxHeartbeats 4000000 in
set_option maxRecDepth 100000 in
theorem k_X11_operand_J24 {p : Program} {l : Launch} {e : Env} {s : State} {m : MethodId} {args : Array Value} {below : List Frame} {meth : Method} {c : Code} {D : va_G} {ad sx : Nat → Nat} {ca : Nat → ClassId} (C : Cx D ad sx ca p s m c args RX11 cX11_operand 4) (hr : meth.sig.returnType = (some .boolean)) (hlocks : meth.locks = false) {w : Wd} {v100 : Int32}  {rv : Int32 × Wd} (h : f_X11_operand_J24 v100 w = some rv) {ls : Array Slot} {H : Heap} {locs : List Loc} (hl : lv_has ls 4 [(0, .ref (ad 76))]) (S : St D ad ca s w H locs) : W p l e (RM 1 21) s m args below meth c H locs 0 0 (MQ below (Qi D ad ca rv.1 rv.2) args s 0 0 (Aad ad)) (F0 m 24 ls [.int v100]) := by
  unfold f_X11_operand_J24 at h
  refine lv_istore_n (lv' := [(1, .int v100), (0, .ref (ad 76))]) C.1 C.2.1 dX11_operand_24 rfl hl (by decide) rfl (fun ls hl => ?_)
  refine lv_iload_n C.1 C.2.1 dX11_operand_25 rfl (lv_at hl 0 rfl) ?_
  obtain ⟨o2, e3, h⟩ := Option.bind_eq_some_iff.mp h
  refine r_si C S hl (k_X11_isDigit e3) b_sb_RX11_177 [.int v100] rfl [] rfl rfl (Nat.le_of_ble_eq_true rfl) ⟨Nat.le_of_ble_eq_true rfl, Nat.le_of_ble_eq_true rfl⟩ dX11_operand_26 (fun H locs S => ?_)
  refine lv_if_eq (tgt := 108) C.1 C.2.1 dX11_operand_29 (by decide) (fun q4 => ?_) (fun q4 => ?_)
  · replace h := (if_pos q4).symm.trans h
    refine lv_iload_n C.1 C.2.1 dX11_operand_108 rfl (lv_at hl 0 rfl) ?_
    obtain ⟨o5, e6, h⟩ := Option.bind_eq_some_iff.mp h
    refine r_si C S hl (k_X11_nameOf e6) b_sb_RX11_180 [.int v100] rfl [] rfl rfl (Nat.le_of_ble_eq_true rfl) ⟨Nat.le_of_ble_eq_true rfl, Nat.le_of_ble_eq_true rfl⟩ dX11_operand_109 (fun H locs S => ?_)
    refine lv_if_lt (tgt := 139) C.1 C.2.1 dX11_operand_112 (by decide) (fun q7 => ?_) (fun q7 => ?_)
    · replace h := (if_pos q7).symm.trans h
      refine lv_iload_n C.1 C.2.1 dX11_operand_139 rfl (lv_at hl 0 rfl) ?_
      refine lv_bipush (v := 40) C.1 C.2.1 dX11_operand_140 (by decide) ?_
      refine lv_icmp_eq (tgt := 151) C.1 C.2.1 dX11_operand_142 (by decide) (fun q8 => ?_) (fun q8 => ?_)
      · replace h := (if_pos q8).symm.trans h
        exact k_X11_operand_J151 C hr hlocks  h (lv_sub hl [1, 0] rfl) S
      · replace h := (if_neg q8).symm.trans h
        refine lv_iload_n C.1 C.2.1 dX11_operand_145 rfl (lv_at hl 0 rfl) ?_
        refine lv_bipush (v := 91) C.1 C.2.1 dX11_operand_146 (by decide) ?_
        refine lv_icmp_ne (tgt := 176) C.1 C.2.1 dX11_operand_148 (by decide) (fun q14 => ?_) (fun q14 => ?_)
        · replace h := (if_neg q14).symm.trans h
          refine lv_aload_n C.1 C.2.1 dX11_operand_176 rfl (lv_at hl 1 rfl) ?_
          refine lv_iconst (v := 1) C.1 C.2.1 dX11_operand_177 (by decide) ?_
          refine r_put C S o_76 cf_11 25 rfl (by decide) rfl (zo_nar (by decide)) b_fl_RX11_188 dX11_operand_178 (fun H locs S => ?_)
          obtain ⟨w15, h, S⟩ := lw_S (P := fun y => St D ad ca s y H locs) h S
          refine lv_iconst (v := 1) C.1 C.2.1 dX11_operand_181 (by decide) ?_
          have h9 := Option.some.inj h
          subst h9
          exact r_zret C S hr hlocks (Or.inr rfl) dX11_operand_182
        · replace h := (if_pos q14).symm.trans h
          exact k_X11_operand_J151 C hr hlocks  h (lv_sub hl [1, 0] rfl) S
    · replace h := (if_neg q7).symm.trans h
      refine lv_aload_n C.1 C.2.1 dX11_operand_115 rfl (lv_at hl 1 rfl) ?_
      refine lv_sipush (v := 10000) C.1 C.2.1 dX11_operand_116 (by decide) ?_
      refine lv_iload_n C.1 C.2.1 dX11_operand_119 rfl (lv_at hl 0 rfl) ?_
      obtain ⟨o16, e17, h⟩ := Option.bind_eq_some_iff.mp h
      refine r_si C S hl (k_X11_nameOf e17) b_sb_RX11_180 [.int v100] rfl [.int 10000, .ref (ad 76)] rfl rfl (Nat.le_of_ble_eq_true rfl) ⟨Nat.le_of_ble_eq_true rfl, Nat.le_of_ble_eq_true rfl⟩ dX11_operand_120 (fun H locs S => ?_)
      refine lv_iadd C.1 C.2.1 dX11_operand_123 ?_
      obtain ⟨o18, e19, h⟩ := Option.bind_eq_some_iff.mp h
      refine r_vv C S hl o_76 cf_11 (k_X11_emit e19) b_vb_RX11_170 [.int (10000 + o16)] rfl [] rfl rfl (Nat.le_of_ble_eq_true rfl) ⟨Nat.le_of_ble_eq_true rfl, Nat.le_of_ble_eq_true rfl⟩ dX11_operand_124 (fun H locs S => ?_)
      refine lv_aload_n C.1 C.2.1 dX11_operand_127 rfl (lv_at hl 1 rfl) ?_
      refine lv_dup C.1 C.2.1 dX11_operand_128 rfl ?_
      refine r_geti C S o_76 cf_11 24 rfl (by decide) b_fl_RX11_174 dX11_operand_129 ?_
      refine lv_iconst (v := 1) C.1 C.2.1 dX11_operand_132 (by decide) ?_
      refine lv_iadd C.1 C.2.1 dX11_operand_133 ?_
      refine r_put C S o_76 cf_11 24 rfl (by decide) rfl (ni _) b_fl_RX11_174 dX11_operand_134 (fun H locs S => ?_)
      obtain ⟨w20, h, S⟩ := lw_S (P := fun y => St D ad ca s y H locs) h S
      refine lv_iconst (v := 0) C.1 C.2.1 dX11_operand_137 (by decide) ?_
      have h9 := Option.some.inj h
      subst h9
      exact r_zret C S hr hlocks (Or.inl rfl) dX11_operand_138
  · replace h := (if_neg q4).symm.trans h
    refine lv_iconst (v := 0) C.1 C.2.1 dX11_operand_32 (by decide) ?_
    refine lv_istore_n (lv' := [(2, .int 0), (1, .int v100), (0, .ref (ad 76))]) C.1 C.2.1 dX11_operand_33 rfl hl (by decide) rfl (fun ls hl => ?_)
    refine lv_iconst (v := 0) C.1 C.2.1 dX11_operand_34 (by decide) ?_
    refine lv_istore_n (lv' := [(3, .int 0), (2, .int 0), (1, .int v100), (0, .ref (ad 76))]) C.1 C.2.1 dX11_operand_35 rfl hl (by decide) rfl (fun ls hl => ?_)
    obtain ⟨o29, e30, h⟩ := Option.bind_eq_some_iff.mp h
    refine k_X11_operand_L36 C  FU _ _ e30 (fun ls H locs hl S => ?_) ls H locs (lv_sub hl [3, 1, 0] rfl) S
    refine lv_aload_n C.1 C.2.1 dX11_operand_101 rfl (lv_at hl 0 rfl) ?_
    refine lv_iload_n C.1 C.2.1 dX11_operand_102 rfl (lv_at hl 1 rfl) ?_
    obtain ⟨o31, e32, h⟩ := Option.bind_eq_some_iff.mp h
    refine r_vv C S hl o_76 cf_11 (k_X11_emit e32) b_vb_RX11_170 [.int o29.1] rfl [] rfl rfl (Nat.le_of_ble_eq_true rfl) ⟨Nat.le_of_ble_eq_true rfl, Nat.le_of_ble_eq_true rfl⟩ dX11_operand_103 (fun H locs S => ?_)
    refine lv_iconst (v := 0) C.1 C.2.1 dX11_operand_106 (by decide) ?_
    have h9 := Option.some.inj h
    subst h9
    exact r_zret C S hr hlocks (Or.inl rfl) dX11_operand_107
set_option maxHeartbeats 4000000 in
set_option maxRecDepth 100000 in
theorem k_X11_operand   {w : Wd} {rv : Int32 × Wd} (h : f_X11_operand w = some rv) : CI yX11_operand cX11_operand 4 .boolean 1 21 (fun ad => [.ref (ad 76)]) w rv.1 rv.2 := by
  refine CI.of (by decide) ?_
  intro l D ad sx ca p e s m below meth c C S hr hlocks
  have hl := lv_entry ([.ref (ad 76)]) (n := 4) (Nat.le_of_ble_eq_true rfl)
  rw [lg_entry_eq]
  generalize (lg_sl ([.ref (ad 76)]) ++ List.replicate (4 - (lg_sl ([.ref (ad 76)])).length) Slot.unset).toArray = ls at hl ⊢
  have hl : lv_has ls 4 [(0, .ref (ad 76))] := hl
  generalize ha9 : ([.ref (ad 76)] : List Value).toArray = args at C ⊢
  generalize s.heap = H at S ⊢
  generalize ([] : List Loc) = locs at S ⊢
  unfold f_X11_operand at h
  refine lv_aload_n C.1 C.2.1 dX11_operand_0 rfl (lv_at hl 0 rfl) ?_
  refine r_geti C S o_76 cf_11 24 rfl (by decide) b_fl_RX11_174 dX11_operand_1 ?_
  refine lv_aload_n C.1 C.2.1 dX11_operand_4 rfl (lv_at hl 0 rfl) ?_
  refine r_geti C S o_76 cf_11 18 rfl (by decide) b_fl_RX11_161 dX11_operand_5 ?_
  refine lv_icmp_ge (tgt := 23) C.1 C.2.1 dX11_operand_8 (by decide) (fun q1 => ?_) (fun q1 => ?_)
  · replace h := (if_pos q1).symm.trans h
    refine lv_iconst (v := (-1)) C.1 C.2.1 dX11_operand_23 (by decide) ?_
    exact k_X11_operand_J24 C hr hlocks  h (lv_sub hl [0] rfl) S
  · replace h := (if_neg q1).symm.trans h
    refine lv_aload_n C.1 C.2.1 dX11_operand_11 rfl (lv_at hl 0 rfl) ?_
    refine r_getr C S o_76 cf_11 17 rfl (by decide) b_fl_RX11_55 dX11_operand_12 ?_
    refine lv_aload_n C.1 C.2.1 dX11_operand_15 rfl (lv_at hl 0 rfl) ?_
    refine r_geti C S o_76 cf_11 24 rfl (by decide) b_fl_RX11_174 dX11_operand_16 ?_
    obtain ⟨g33, h⟩ := gd_some h
    refine r_iald C S a_92 g33 dX11_operand_19 ?_
    refine lv_goto (tgt := 24) C.1 C.2.1 dX11_operand_20 (by decide) ?_
    exact k_X11_operand_J24 C hr hlocks  h (lv_sub hl [0] rfl) S
set_option maxHeartbeats 4000000 in
set_option maxRecDepth 100000 in
theorem k_X11_top   {w : Wd} {rv : Int32} (h : f_X11_top w = some rv) : CI yX11_top cX11_top 1 .int 0 0 (fun ad => [.ref (ad 76)]) w rv w := by
  refine CI.of (by decide) ?_
  intro l D ad sx ca p e s m below meth c C S hr hlocks
  have hl := lv_entry ([.ref (ad 76)]) (n := 1) (Nat.le_of_ble_eq_true rfl)
  rw [lg_entry_eq]
  generalize (lg_sl ([.ref (ad 76)]) ++ List.replicate (1 - (lg_sl ([.ref (ad 76)])).length) Slot.unset).toArray = ls at hl ⊢
  have hl : lv_has ls 1 [(0, .ref (ad 76))] := hl
  generalize ha9 : ([.ref (ad 76)] : List Value).toArray = args at C ⊢
  generalize s.heap = H at S ⊢
  generalize ([] : List Loc) = locs at S ⊢
  unfold f_X11_top at h
  refine lv_aload_n C.1 C.2.1 dX11_top_0 rfl (lv_at hl 0 rfl) ?_
  refine r_geti C S o_76 cf_11 22 rfl (by decide) b_fl_RX11_167 dX11_top_1 ?_
  refine lv_if_ne (tgt := 11) C.1 C.2.1 dX11_top_4 (by decide) (fun q1 => ?_) (fun q1 => ?_)
  · replace h := (if_neg q1).symm.trans h
    refine lv_aload_n C.1 C.2.1 dX11_top_11 rfl (lv_at hl 0 rfl) ?_
    refine r_getr C S o_76 cf_11 21 rfl (by decide) b_fl_RX11_61 dX11_top_12 ?_
    refine lv_aload_n C.1 C.2.1 dX11_top_15 rfl (lv_at hl 0 rfl) ?_
    refine r_geti C S o_76 cf_11 22 rfl (by decide) b_fl_RX11_167 dX11_top_16 ?_
    refine lv_iconst (v := 1) C.1 C.2.1 dX11_top_19 (by decide) ?_
    refine lv_isub C.1 C.2.1 dX11_top_20 ?_
    obtain ⟨g2, h⟩ := gd_some h
    refine r_iald C S a_94 g2 dX11_top_21 ?_
    have h9 := Option.some.inj h
    subst h9
    exact r_iret C S hr hlocks dX11_top_22
  · replace h := (if_pos q1).symm.trans h
    refine lv_iconst (v := (-1)) C.1 C.2.1 dX11_top_7 (by decide) ?_
    refine lv_goto (tgt := 22) C.1 C.2.1 dX11_top_8 (by decide) ?_
    have h9 := Option.some.inj h
    subst h9
    exact r_iret C S hr hlocks dX11_top_22
set_option maxHeartbeats 4000000 in
set_option maxRecDepth 100000 in
theorem k_X11_operator_J52 {p : Program} {l : Launch} {e : Env} {s : State} {m : MethodId} {args : Array Value} {below : List Frame} {meth : Method} {c : Code} {D : va_G} {ad sx : Nat → Nat} {ca : Nat → ClassId} (C : Cx D ad sx ca p s m c args RX11 cX11_operator 2) (hr : meth.sig.returnType = (some .boolean)) (hlocks : meth.locks = false) {w : Wd} {v1 : Int32} {v101 : Int32}  {rv : Int32 × Wd} (h : f_X11_operator_J52 v1 v101 w = some rv) {ls : Array Slot} {H : Heap} {locs : List Loc} (hl : lv_has ls 2 [(0, .ref (ad 76)), (1, .int v1)]) (S : St D ad ca s w H locs) : W p l e (RM 2 42) s m args below meth c H locs 0 0 (MQ below (Qi D ad ca rv.1 rv.2) args s 0 0 (Aad ad)) (F0 m 52 ls [.int v101, .ref (ad 76)]) := by
  unfold f_X11_operator_J52 at h
  obtain ⟨o4, e5, h⟩ := Option.bind_eq_some_iff.mp h
  refine r_vv C S hl o_76 cf_11 (k_X11_settles e5) b_vb_RX11_191 [.int v101] rfl [] rfl rfl (Nat.le_of_ble_eq_true rfl) ⟨Nat.le_of_ble_eq_true rfl, Nat.le_of_ble_eq_true rfl⟩ dX11_operator_52 (fun H locs S => ?_)
  refine lv_aload_n C.1 C.2.1 dX11_operator_55 rfl (lv_at hl 0 rfl) ?_
  refine lv_iload_n C.1 C.2.1 dX11_operator_56 rfl (lv_at hl 1 rfl) ?_
  refine lv_bipush (v := 43) C.1 C.2.1 dX11_operator_57 (by decide) ?_
  refine lv_icmp_ne (tgt := 68) C.1 C.2.1 dX11_operator_59 (by decide) (fun q6 => ?_) (fun q6 => ?_)
  · replace h := (if_neg q6).symm.trans h
    refine lv_iload_n C.1 C.2.1 dX11_operator_68 rfl (lv_at hl 1 rfl) ?_
    refine lv_bipush (v := 45) C.1 C.2.1 dX11_operator_69 (by decide) ?_
    refine lv_icmp_ne (tgt := 80) C.1 C.2.1 dX11_operator_71 (by decide) (fun q7 => ?_) (fun q7 => ?_)
    · replace h := (if_neg q7).symm.trans h
      refine lv_iload_n C.1 C.2.1 dX11_operator_80 rfl (lv_at hl 1 rfl) ?_
      refine lv_bipush (v := 42) C.1 C.2.1 dX11_operator_81 (by decide) ?_
      refine lv_icmp_ne (tgt := 92) C.1 C.2.1 dX11_operator_83 (by decide) (fun q8 => ?_) (fun q8 => ?_)
      · replace h := (if_neg q8).symm.trans h
        refine lv_sipush (v := 10103) C.1 C.2.1 dX11_operator_92 (by decide) ?_
        obtain ⟨o9, e10, h⟩ := Option.bind_eq_some_iff.mp h
        refine r_vv C S hl o_76 cf_11 (k_X11_waits e10) b_vb_RX11_186 [.int 10103] rfl [] rfl rfl (Nat.le_of_ble_eq_true rfl) ⟨Nat.le_of_ble_eq_true rfl, Nat.le_of_ble_eq_true rfl⟩ dX11_operator_95 (fun H locs S => ?_)
        refine lv_iconst (v := 1) C.1 C.2.1 dX11_operator_98 (by decide) ?_
        have h9 := Option.some.inj h
        subst h9
        exact r_zret C S hr hlocks (Or.inr rfl) dX11_operator_99
      · replace h := (if_pos q8).symm.trans h
        refine lv_sipush (v := 10102) C.1 C.2.1 dX11_operator_86 (by decide) ?_
        refine lv_goto (tgt := 95) C.1 C.2.1 dX11_operator_89 (by decide) ?_
        obtain ⟨o11, e12, h⟩ := Option.bind_eq_some_iff.mp h
        refine r_vv C S hl o_76 cf_11 (k_X11_waits e12) b_vb_RX11_186 [.int 10102] rfl [] rfl rfl (Nat.le_of_ble_eq_true rfl) ⟨Nat.le_of_ble_eq_true rfl, Nat.le_of_ble_eq_true rfl⟩ dX11_operator_95 (fun H locs S => ?_)
        refine lv_iconst (v := 1) C.1 C.2.1 dX11_operator_98 (by decide) ?_
        have h9 := Option.some.inj h
        subst h9
        exact r_zret C S hr hlocks (Or.inr rfl) dX11_operator_99
    · replace h := (if_pos q7).symm.trans h
      refine lv_sipush (v := 10101) C.1 C.2.1 dX11_operator_74 (by decide) ?_
      refine lv_goto (tgt := 95) C.1 C.2.1 dX11_operator_77 (by decide) ?_
      obtain ⟨o13, e14, h⟩ := Option.bind_eq_some_iff.mp h
      refine r_vv C S hl o_76 cf_11 (k_X11_waits e14) b_vb_RX11_186 [.int 10101] rfl [] rfl rfl (Nat.le_of_ble_eq_true rfl) ⟨Nat.le_of_ble_eq_true rfl, Nat.le_of_ble_eq_true rfl⟩ dX11_operator_95 (fun H locs S => ?_)
      refine lv_iconst (v := 1) C.1 C.2.1 dX11_operator_98 (by decide) ?_
      have h9 := Option.some.inj h
      subst h9
      exact r_zret C S hr hlocks (Or.inr rfl) dX11_operator_99
  · replace h := (if_pos q6).symm.trans h
    refine lv_sipush (v := 10100) C.1 C.2.1 dX11_operator_62 (by decide) ?_
    refine lv_goto (tgt := 95) C.1 C.2.1 dX11_operator_65 (by decide) ?_
    obtain ⟨o15, e16, h⟩ := Option.bind_eq_some_iff.mp h
    refine r_vv C S hl o_76 cf_11 (k_X11_waits e16) b_vb_RX11_186 [.int 10100] rfl [] rfl rfl (Nat.le_of_ble_eq_true rfl) ⟨Nat.le_of_ble_eq_true rfl, Nat.le_of_ble_eq_true rfl⟩ dX11_operator_95 (fun H locs S => ?_)
    refine lv_iconst (v := 1) C.1 C.2.1 dX11_operator_98 (by decide) ?_
    have h9 := Option.some.inj h
    subst h9
    exact r_zret C S hr hlocks (Or.inr rfl) dX11_operator_99
set_option maxHeartbeats 4000000 in
set_option maxRecDepth 100000 in
theorem k_X11_operator_J47 {p : Program} {l : Launch} {e : Env} {s : State} {m : MethodId} {args : Array Value} {below : List Frame} {meth : Method} {c : Code} {D : va_G} {ad sx : Nat → Nat} {ca : Nat → ClassId} (C : Cx D ad sx ca p s m c args RX11 cX11_operator 2) (hr : meth.sig.returnType = (some .boolean)) (hlocks : meth.locks = false) {w : Wd} {v1 : Int32}  {rv : Int32 × Wd} (h : f_X11_operator_J47 v1 w = some rv) {ls : Array Slot} {H : Heap} {locs : List Loc} (hl : lv_has ls 2 [(0, .ref (ad 76)), (1, .int v1)]) (S : St D ad ca s w H locs) : W p l e (RM 2 42) s m args below meth c H locs 0 0 (MQ below (Qi D ad ca rv.1 rv.2) args s 0 0 (Aad ad)) (F0 m 47 ls [.ref (ad 76)]) := by
  unfold f_X11_operator_J47 at h
  refine lv_iconst (v := 1) C.1 C.2.1 dX11_operator_47 (by decide) ?_
  refine lv_goto (tgt := 52) C.1 C.2.1 dX11_operator_48 (by decide) ?_
  exact k_X11_operator_J52 C hr hlocks  h (lv_sub hl [0, 1] rfl) S
set_option maxHeartbeats 4000000 in
set_option maxRecDepth 100000 in
theorem k_X11_operator_J34 {p : Program} {l : Launch} {e : Env} {s : State} {m : MethodId} {args : Array Value} {below : List Frame} {meth : Method} {c : Code} {D : va_G} {ad sx : Nat → Nat} {ca : Nat → ClassId} (C : Cx D ad sx ca p s m c args RX11 cX11_operator 2) (hr : meth.sig.returnType = (some .boolean)) (hlocks : meth.locks = false) {w : Wd} {v1 : Int32}  {rv : Int32 × Wd} (h : f_X11_operator_J34 v1 w = some rv) {ls : Array Slot} {H : Heap} {locs : List Loc} (hl : lv_has ls 2 [(0, .ref (ad 76)), (1, .int v1)]) (S : St D ad ca s w H locs) : W p l e (RM 2 42) s m args below meth c H locs 0 0 (MQ below (Qi D ad ca rv.1 rv.2) args s 0 0 (Aad ad)) (F0 m 34 ls []) := by
  unfold f_X11_operator_J34 at h
  refine lv_aload_n C.1 C.2.1 dX11_operator_34 rfl (lv_at hl 0 rfl) ?_
  refine lv_iload_n C.1 C.2.1 dX11_operator_35 rfl (lv_at hl 1 rfl) ?_
  refine lv_bipush (v := 43) C.1 C.2.1 dX11_operator_36 (by decide) ?_
  refine lv_icmp_eq (tgt := 47) C.1 C.2.1 dX11_operator_38 (by decide) (fun q3 => ?_) (fun q3 => ?_)
  · replace h := (if_pos q3).symm.trans h
    exact k_X11_operator_J47 C hr hlocks  h (lv_sub hl [0, 1] rfl) S
  · replace h := (if_neg q3).symm.trans h
    refine lv_iload_n C.1 C.2.1 dX11_operator_41 rfl (lv_at hl 1 rfl) ?_
    refine lv_bipush (v := 45) C.1 C.2.1 dX11_operator_42 (by decide) ?_
    refine lv_icmp_ne (tgt := 51) C.1 C.2.1 dX11_operator_44 (by decide) (fun q17 => ?_) (fun q17 => ?_)
    · replace h := (if_neg q17).symm.trans h
      refine lv_iconst (v := 2) C.1 C.2.1 dX11_operator_51 (by decide) ?_
      exact k_X11_operator_J52 C hr hlocks  h (lv_sub hl [0, 1] rfl) S
    · replace h := (if_pos q17).symm.trans h
      exact k_X11_operator_J47 C hr hlocks  h (lv_sub hl [0, 1] rfl) S
set_option maxHeartbeats 4000000 in
set_option maxRecDepth 100000 in
theorem k_X11_operator_J210 {p : Program} {l : Launch} {e : Env} {s : State} {m : MethodId} {args : Array Value} {below : List Frame} {meth : Method} {c : Code} {D : va_G} {ad sx : Nat → Nat} {ca : Nat → ClassId} (C : Cx D ad sx ca p s m c args RX11 cX11_operator 2) (hr : meth.sig.returnType = (some .boolean)) (hlocks : meth.locks = false) {w : Wd} {v1 : Int32}  {rv : Int32 × Wd} (h : f_X11_operator_J210 v1 w = some rv) {ls : Array Slot} {H : Heap} {locs : List Loc} (hl : lv_has ls 2 [(0, .ref (ad 76)), (1, .int v1)]) (S : St D ad ca s w H locs) : W p l e (RM 2 42) s m args below meth c H locs 0 0 (MQ below (Qi D ad ca rv.1 rv.2) args s 0 0 (Aad ad)) (F0 m 210 ls []) := by
  unfold f_X11_operator_J210 at h
  refine lv_aload_n C.1 C.2.1 dX11_operator_210 rfl (lv_at hl 0 rfl) ?_
  refine r_getr C S o_76 cf_11 21 rfl (by decide) b_fl_RX11_61 dX11_operator_211 ?_
  refine lv_aload_n C.1 C.2.1 dX11_operator_214 rfl (lv_at hl 0 rfl) ?_
  refine r_geti C S o_76 cf_11 22 rfl (by decide) b_fl_RX11_167 dX11_operator_215 ?_
  refine lv_iconst (v := 1) C.1 C.2.1 dX11_operator_218 (by decide) ?_
  refine lv_isub C.1 C.2.1 dX11_operator_219 ?_
  refine lv_iload_n C.1 C.2.1 dX11_operator_220 rfl (lv_at hl 1 rfl) ?_
  obtain ⟨g32, h⟩ := gd_some h
  refine r_iast C S a_94 g32 dX11_operator_221 (fun H locs S => ?_)
  obtain ⟨w33, h, S⟩ := lw_S (P := fun y => St D ad ca s y H locs) h S
  refine lv_aload_n C.1 C.2.1 dX11_operator_222 rfl (lv_at hl 0 rfl) ?_
  refine lv_dup C.1 C.2.1 dX11_operator_223 rfl ?_
  refine r_geti C S o_76 cf_11 24 rfl (by decide) b_fl_RX11_174 dX11_operator_224 ?_
  refine lv_iconst (v := 1) C.1 C.2.1 dX11_operator_227 (by decide) ?_
  refine lv_iadd C.1 C.2.1 dX11_operator_228 ?_
  refine r_put C S o_76 cf_11 24 rfl (by decide) rfl (ni _) b_fl_RX11_174 dX11_operator_229 (fun H locs S => ?_)
  obtain ⟨w34, h, S⟩ := lw_S (P := fun y => St D ad ca s y H locs) h S
  refine lv_iconst (v := 1) C.1 C.2.1 dX11_operator_232 (by decide) ?_
  have h9 := Option.some.inj h
  subst h9
  exact r_zret C S hr hlocks (Or.inr rfl) dX11_operator_233
set_option maxHeartbeats 4000000 in
set_option maxRecDepth 100000 in
theorem k_X11_operator_J195 {p : Program} {l : Launch} {e : Env} {s : State} {m : MethodId} {args : Array Value} {below : List Frame} {meth : Method} {c : Code} {D : va_G} {ad sx : Nat → Nat} {ca : Nat → ClassId} (C : Cx D ad sx ca p s m c args RX11 cX11_operator 2) (hr : meth.sig.returnType = (some .boolean)) (hlocks : meth.locks = false) {w : Wd} {v1 : Int32}  {rv : Int32 × Wd} (h : f_X11_operator_J195 v1 w = some rv) {ls : Array Slot} {H : Heap} {locs : List Loc} (hl : lv_has ls 2 [(0, .ref (ad 76)), (1, .int v1)]) (S : St D ad ca s w H locs) : W p l e (RM 2 42) s m args below meth c H locs 0 0 (MQ below (Qi D ad ca rv.1 rv.2) args s 0 0 (Aad ad)) (F0 m 195 ls []) := by
  unfold f_X11_operator_J195 at h
  refine lv_iload_n C.1 C.2.1 dX11_operator_195 rfl (lv_at hl 1 rfl) ?_
  refine lv_bipush (v := 58) C.1 C.2.1 dX11_operator_196 (by decide) ?_
  refine lv_icmp_ne (tgt := 234) C.1 C.2.1 dX11_operator_198 (by decide) (fun q26 => ?_) (fun q26 => ?_)
  · replace h := (if_neg q26).symm.trans h
    refine lv_aload_n C.1 C.2.1 dX11_operator_234 rfl (lv_at hl 0 rfl) ?_
    refine lv_iconst (v := 1) C.1 C.2.1 dX11_operator_235 (by decide) ?_
    refine r_put C S o_76 cf_11 25 rfl (by decide) rfl (zo_nar (by decide)) b_fl_RX11_188 dX11_operator_236 (fun H locs S => ?_)
    obtain ⟨w27, h, S⟩ := lw_S (P := fun y => St D ad ca s y H locs) h S
    refine lv_iconst (v := 0) C.1 C.2.1 dX11_operator_239 (by decide) ?_
    have h9 := Option.some.inj h
    subst h9
    exact r_zret C S hr hlocks (Or.inl rfl) dX11_operator_240
  · replace h := (if_pos q26).symm.trans h
    refine lv_aload_n C.1 C.2.1 dX11_operator_201 rfl (lv_at hl 0 rfl) ?_
    obtain ⟨o28, e29, h⟩ := Option.bind_eq_some_iff.mp h
    refine r_vi C S hl o_76 cf_11 (k_X11_top e29) b_vb_RX11_194 [] rfl [] rfl rfl (Nat.le_of_ble_eq_true rfl) ⟨Nat.le_of_ble_eq_true rfl, Nat.le_of_ble_eq_true rfl⟩ dX11_operator_202 (fun H locs S => ?_)
    refine lv_bipush (v := 63) C.1 C.2.1 dX11_operator_205 (by decide) ?_
    refine lv_icmp_ne (tgt := 234) C.1 C.2.1 dX11_operator_207 (by decide) (fun q30 => ?_) (fun q30 => ?_)
    · replace h := (if_neg q30).symm.trans h
      refine lv_aload_n C.1 C.2.1 dX11_operator_234 rfl (lv_at hl 0 rfl) ?_
      refine lv_iconst (v := 1) C.1 C.2.1 dX11_operator_235 (by decide) ?_
      refine r_put C S o_76 cf_11 25 rfl (by decide) rfl (zo_nar (by decide)) b_fl_RX11_188 dX11_operator_236 (fun H locs S => ?_)
      obtain ⟨w31, h, S⟩ := lw_S (P := fun y => St D ad ca s y H locs) h S
      refine lv_iconst (v := 0) C.1 C.2.1 dX11_operator_239 (by decide) ?_
      have h9 := Option.some.inj h
      subst h9
      exact r_zret C S hr hlocks (Or.inl rfl) dX11_operator_240
    · replace h := (if_pos q30).symm.trans h
      exact k_X11_operator_J210 C hr hlocks  h (lv_sub hl [0, 1] rfl) S
set_option maxHeartbeats 4000000 in
set_option maxRecDepth 100000 in
theorem k_X11_operator_J180 {p : Program} {l : Launch} {e : Env} {s : State} {m : MethodId} {args : Array Value} {below : List Frame} {meth : Method} {c : Code} {D : va_G} {ad sx : Nat → Nat} {ca : Nat → ClassId} (C : Cx D ad sx ca p s m c args RX11 cX11_operator 2) (hr : meth.sig.returnType = (some .boolean)) (hlocks : meth.locks = false) {w : Wd} {v1 : Int32}  {rv : Int32 × Wd} (h : f_X11_operator_J180 v1 w = some rv) {ls : Array Slot} {H : Heap} {locs : List Loc} (hl : lv_has ls 2 [(0, .ref (ad 76)), (1, .int v1)]) (S : St D ad ca s w H locs) : W p l e (RM 2 42) s m args below meth c H locs 0 0 (MQ below (Qi D ad ca rv.1 rv.2) args s 0 0 (Aad ad)) (F0 m 180 ls []) := by
  unfold f_X11_operator_J180 at h
  refine lv_iload_n C.1 C.2.1 dX11_operator_180 rfl (lv_at hl 1 rfl) ?_
  refine lv_bipush (v := 63) C.1 C.2.1 dX11_operator_181 (by decide) ?_
  refine lv_icmp_ne (tgt := 195) C.1 C.2.1 dX11_operator_183 (by decide) (fun q25 => ?_) (fun q25 => ?_)
  · replace h := (if_neg q25).symm.trans h
    exact k_X11_operator_J195 C hr hlocks  h (lv_sub hl [0, 1] rfl) S
  · replace h := (if_pos q25).symm.trans h
    refine lv_aload_n C.1 C.2.1 dX11_operator_186 rfl (lv_at hl 0 rfl) ?_
    obtain ⟨o35, e36, h⟩ := Option.bind_eq_some_iff.mp h
    refine r_vi C S hl o_76 cf_11 (k_X11_top e36) b_vb_RX11_194 [] rfl [] rfl rfl (Nat.le_of_ble_eq_true rfl) ⟨Nat.le_of_ble_eq_true rfl, Nat.le_of_ble_eq_true rfl⟩ dX11_operator_187 (fun H locs S => ?_)
    refine lv_bipush (v := 91) C.1 C.2.1 dX11_operator_190 (by decide) ?_
    refine lv_icmp_eq (tgt := 210) C.1 C.2.1 dX11_operator_192 (by decide) (fun q37 => ?_) (fun q37 => ?_)
    · replace h := (if_pos q37).symm.trans h
      exact k_X11_operator_J210 C hr hlocks  h (lv_sub hl [0, 1] rfl) S
    · replace h := (if_neg q37).symm.trans h
      exact k_X11_operator_J195 C hr hlocks  h (lv_sub hl [0, 1] rfl) S
set_option maxHeartbeats 4000000 in
set_option maxRecDepth 100000 in
theorem k_X11_operator_J148 {p : Program} {l : Launch} {e : Env} {s : State} {m : MethodId} {args : Array Value} {below : List Frame} {meth : Method} {c : Code} {D : va_G} {ad sx : Nat → Nat} {ca : Nat → ClassId} (C : Cx D ad sx ca p s m c args RX11 cX11_operator 2) (hr : meth.sig.returnType = (some .boolean)) (hlocks : meth.locks = false) {w : Wd}   {rv : Int32 × Wd} (h : f_X11_operator_J148 w = some rv) {ls : Array Slot} {H : Heap} {locs : List Loc} (hl : lv_has ls 2 [(0, .ref (ad 76))]) (S : St D ad ca s w H locs) : W p l e (RM 2 42) s m args below meth c H locs 0 0 (MQ below (Qi D ad ca rv.1 rv.2) args s 0 0 (Aad ad)) (F0 m 148 ls []) := by
  unfold f_X11_operator_J148 at h
  refine lv_aload_n C.1 C.2.1 dX11_operator_148 rfl (lv_at hl 0 rfl) ?_
  refine lv_dup C.1 C.2.1 dX11_operator_149 rfl ?_
  refine r_geti C S o_76 cf_11 22 rfl (by decide) b_fl_RX11_167 dX11_operator_150 ?_
  refine lv_iconst (v := 1) C.1 C.2.1 dX11_operator_153 (by decide) ?_
  refine lv_isub C.1 C.2.1 dX11_operator_154 ?_
  refine r_put C S o_76 cf_11 22 rfl (by decide) rfl (ni _) b_fl_RX11_167 dX11_operator_155 (fun H locs S => ?_)
  obtain ⟨w42, h, S⟩ := lw_S (P := fun y => St D ad ca s y H locs) h S
  refine lv_aload_n C.1 C.2.1 dX11_operator_158 rfl (lv_at hl 0 rfl) ?_
  refine lv_dup C.1 C.2.1 dX11_operator_159 rfl ?_
  refine r_geti C S o_76 cf_11 23 rfl (by decide) b_fl_RX11_183 dX11_operator_160 ?_
  refine lv_iconst (v := 1) C.1 C.2.1 dX11_operator_163 (by decide) ?_
  refine lv_isub C.1 C.2.1 dX11_operator_164 ?_
  refine r_put C S o_76 cf_11 23 rfl (by decide) rfl (ni _) b_fl_RX11_183 dX11_operator_165 (fun H locs S => ?_)
  obtain ⟨w43, h, S⟩ := lw_S (P := fun y => St D ad ca s y H locs) h S
  refine lv_aload_n C.1 C.2.1 dX11_operator_168 rfl (lv_at hl 0 rfl) ?_
  refine lv_dup C.1 C.2.1 dX11_operator_169 rfl ?_
  refine r_geti C S o_76 cf_11 24 rfl (by decide) b_fl_RX11_174 dX11_operator_170 ?_
  refine lv_iconst (v := 1) C.1 C.2.1 dX11_operator_173 (by decide) ?_
  refine lv_iadd C.1 C.2.1 dX11_operator_174 ?_
  refine r_put C S o_76 cf_11 24 rfl (by decide) rfl (ni _) b_fl_RX11_174 dX11_operator_175 (fun H locs S => ?_)
  obtain ⟨w44, h, S⟩ := lw_S (P := fun y => St D ad ca s y H locs) h S
  refine lv_iconst (v := 0) C.1 C.2.1 dX11_operator_178 (by decide) ?_
  have h9 := Option.some.inj h
  subst h9
  exact r_zret C S hr hlocks (Or.inl rfl) dX11_operator_179
set_option maxHeartbeats 4000000 in
set_option maxRecDepth 100000 in
theorem k_X11_operator_J135 {p : Program} {l : Launch} {e : Env} {s : State} {m : MethodId} {args : Array Value} {below : List Frame} {meth : Method} {c : Code} {D : va_G} {ad sx : Nat → Nat} {ca : Nat → ClassId} (C : Cx D ad sx ca p s m c args RX11 cX11_operator 2) (hr : meth.sig.returnType = (some .boolean)) (hlocks : meth.locks = false) {w : Wd} {v1 : Int32}  {rv : Int32 × Wd} (h : f_X11_operator_J135 v1 w = some rv) {ls : Array Slot} {H : Heap} {locs : List Loc} (hl : lv_has ls 2 [(0, .ref (ad 76)), (1, .int v1)]) (S : St D ad ca s w H locs) : W p l e (RM 2 42) s m args below meth c H locs 0 0 (MQ below (Qi D ad ca rv.1 rv.2) args s 0 0 (Aad ad)) (F0 m 135 ls []) := by
  unfold f_X11_operator_J135 at h
  refine lv_iload_n C.1 C.2.1 dX11_operator_135 rfl (lv_at hl 1 rfl) ?_
  refine lv_bipush (v := 93) C.1 C.2.1 dX11_operator_136 (by decide) ?_
  refine lv_icmp_ne (tgt := 148) C.1 C.2.1 dX11_operator_138 (by decide) (fun q41 => ?_) (fun q41 => ?_)
  · replace h := (if_neg q41).symm.trans h
    exact k_X11_operator_J148 C hr hlocks  h (lv_sub hl [0] rfl) S
  · replace h := (if_pos q41).symm.trans h
    refine lv_aload_n C.1 C.2.1 dX11_operator_141 rfl (lv_at hl 0 rfl) ?_
    refine lv_sipush (v := 10104) C.1 C.2.1 dX11_operator_142 (by decide) ?_
    obtain ⟨o45, e46, h⟩ := Option.bind_eq_some_iff.mp h
    refine r_vv C S hl o_76 cf_11 (k_X11_emit e46) b_vb_RX11_170 [.int 10104] rfl [] rfl rfl (Nat.le_of_ble_eq_true rfl) ⟨Nat.le_of_ble_eq_true rfl, Nat.le_of_ble_eq_true rfl⟩ dX11_operator_145 (fun H locs S => ?_)
    exact k_X11_operator_J148 C hr hlocks  h (lv_sub hl [0] rfl) S
set_option maxHeartbeats 4000000 in
set_option maxRecDepth 100000 in
theorem k_X11_operator_J120 {p : Program} {l : Launch} {e : Env} {s : State} {m : MethodId} {args : Array Value} {below : List Frame} {meth : Method} {c : Code} {D : va_G} {ad sx : Nat → Nat} {ca : Nat → ClassId} (C : Cx D ad sx ca p s m c args RX11 cX11_operator 2) (hr : meth.sig.returnType = (some .boolean)) (hlocks : meth.locks = false) {w : Wd} {v1 : Int32}  {rv : Int32 × Wd} (h : f_X11_operator_J120 v1 w = some rv) {ls : Array Slot} {H : Heap} {locs : List Loc} (hl : lv_has ls 2 [(0, .ref (ad 76)), (1, .int v1)]) (S : St D ad ca s w H locs) : W p l e (RM 2 42) s m args below meth c H locs 0 0 (MQ below (Qi D ad ca rv.1 rv.2) args s 0 0 (Aad ad)) (F0 m 120 ls []) := by
  unfold f_X11_operator_J120 at h
  refine lv_iload_n C.1 C.2.1 dX11_operator_120 rfl (lv_at hl 1 rfl) ?_
  refine lv_bipush (v := 93) C.1 C.2.1 dX11_operator_121 (by decide) ?_
  refine lv_icmp_ne (tgt := 180) C.1 C.2.1 dX11_operator_123 (by decide) (fun q24 => ?_) (fun q24 => ?_)
  · replace h := (if_neg q24).symm.trans h
    exact k_X11_operator_J180 C hr hlocks  h (lv_sub hl [0, 1] rfl) S
  · replace h := (if_pos q24).symm.trans h
    refine lv_aload_n C.1 C.2.1 dX11_operator_126 rfl (lv_at hl 0 rfl) ?_
    obtain ⟨o38, e39, h⟩ := Option.bind_eq_some_iff.mp h
    refine r_vi C S hl o_76 cf_11 (k_X11_top e39) b_vb_RX11_194 [] rfl [] rfl rfl (Nat.le_of_ble_eq_true rfl) ⟨Nat.le_of_ble_eq_true rfl, Nat.le_of_ble_eq_true rfl⟩ dX11_operator_127 (fun H locs S => ?_)
    refine lv_bipush (v := 58) C.1 C.2.1 dX11_operator_130 (by decide) ?_
    refine lv_icmp_ne (tgt := 180) C.1 C.2.1 dX11_operator_132 (by decide) (fun q40 => ?_) (fun q40 => ?_)
    · replace h := (if_neg q40).symm.trans h
      exact k_X11_operator_J180 C hr hlocks  h (lv_sub hl [0, 1] rfl) S
    · replace h := (if_pos q40).symm.trans h
      exact k_X11_operator_J135 C hr hlocks  h (lv_sub hl [0, 1] rfl) S
set_option maxHeartbeats 4000000 in
set_option maxRecDepth 100000 in
theorem k_X11_operator   {w : Wd} {rv : Int32 × Wd} (h : f_X11_operator w = some rv) : CI yX11_operator cX11_operator 2 .boolean 2 42 (fun ad => [.ref (ad 76)]) w rv.1 rv.2 := by
  refine CI.of (by decide) ?_
  intro l D ad sx ca p e s m below meth c C S hr hlocks
  have hl := lv_entry ([.ref (ad 76)]) (n := 2) (Nat.le_of_ble_eq_true rfl)
  rw [lg_entry_eq]
  generalize (lg_sl ([.ref (ad 76)]) ++ List.replicate (2 - (lg_sl ([.ref (ad 76)])).length) Slot.unset).toArray = ls at hl ⊢
  have hl : lv_has ls 2 [(0, .ref (ad 76))] := hl
  generalize ha9 : ([.ref (ad 76)] : List Value).toArray = args at C ⊢
  generalize s.heap = H at S ⊢
  generalize ([] : List Loc) = locs at S ⊢
  unfold f_X11_operator at h
  refine lv_aload_n C.1 C.2.1 dX11_operator_0 rfl (lv_at hl 0 rfl) ?_
  refine r_getr C S o_76 cf_11 17 rfl (by decide) b_fl_RX11_55 dX11_operator_1 ?_
  refine lv_aload_n C.1 C.2.1 dX11_operator_4 rfl (lv_at hl 0 rfl) ?_
  refine r_geti C S o_76 cf_11 24 rfl (by decide) b_fl_RX11_174 dX11_operator_5 ?_
  obtain ⟨g1, h⟩ := gd_some h
  refine r_iald C S a_92 g1 dX11_operator_8 ?_
  refine lv_istore_n (lv' := [(1, .int (w.1 92 ((w.1 76 24).toNatClampNeg))), (0, .ref (ad 76))]) C.1 C.2.1 dX11_operator_9 rfl hl (by decide) rfl (fun ls hl => ?_)
  refine lv_iload_n C.1 C.2.1 dX11_operator_10 rfl (lv_at hl 0 rfl) ?_
  refine lv_bipush (v := 43) C.1 C.2.1 dX11_operator_11 (by decide) ?_
  refine lv_icmp_eq (tgt := 34) C.1 C.2.1 dX11_operator_13 (by decide) (fun q2 => ?_) (fun q2 => ?_)
  · replace h := (if_pos q2).symm.trans h
    exact k_X11_operator_J34 C hr hlocks  h (lv_sub hl [1, 0] rfl) S
  · replace h := (if_neg q2).symm.trans h
    refine lv_iload_n C.1 C.2.1 dX11_operator_16 rfl (lv_at hl 0 rfl) ?_
    refine lv_bipush (v := 45) C.1 C.2.1 dX11_operator_17 (by decide) ?_
    refine lv_icmp_eq (tgt := 34) C.1 C.2.1 dX11_operator_19 (by decide) (fun q18 => ?_) (fun q18 => ?_)
    · replace h := (if_pos q18).symm.trans h
      exact k_X11_operator_J34 C hr hlocks  h (lv_sub hl [1, 0] rfl) S
    · replace h := (if_neg q18).symm.trans h
      refine lv_iload_n C.1 C.2.1 dX11_operator_22 rfl (lv_at hl 0 rfl) ?_
      refine lv_bipush (v := 42) C.1 C.2.1 dX11_operator_23 (by decide) ?_
      refine lv_icmp_eq (tgt := 34) C.1 C.2.1 dX11_operator_25 (by decide) (fun q19 => ?_) (fun q19 => ?_)
      · replace h := (if_pos q19).symm.trans h
        exact k_X11_operator_J34 C hr hlocks  h (lv_sub hl [1, 0] rfl) S
      · replace h := (if_neg q19).symm.trans h
        refine lv_iload_n C.1 C.2.1 dX11_operator_28 rfl (lv_at hl 0 rfl) ?_
        refine lv_bipush (v := 47) C.1 C.2.1 dX11_operator_29 (by decide) ?_
        refine lv_icmp_ne (tgt := 100) C.1 C.2.1 dX11_operator_31 (by decide) (fun q20 => ?_) (fun q20 => ?_)
        · replace h := (if_neg q20).symm.trans h
          refine lv_aload_n C.1 C.2.1 dX11_operator_100 rfl (lv_at hl 1 rfl) ?_
          refine lv_iconst (v := 1) C.1 C.2.1 dX11_operator_101 (by decide) ?_
          obtain ⟨o21, e22, h⟩ := Option.bind_eq_some_iff.mp h
          refine r_vv C S hl o_76 cf_11 (k_X11_settles e22) b_vb_RX11_191 [.int 1] rfl [] rfl rfl (Nat.le_of_ble_eq_true rfl) ⟨Nat.le_of_ble_eq_true rfl, Nat.le_of_ble_eq_true rfl⟩ dX11_operator_102 (fun H locs S => ?_)
          refine lv_iload_n C.1 C.2.1 dX11_operator_105 rfl (lv_at hl 0 rfl) ?_
          refine lv_bipush (v := 41) C.1 C.2.1 dX11_operator_106 (by decide) ?_
          refine lv_icmp_ne (tgt := 120) C.1 C.2.1 dX11_operator_108 (by decide) (fun q23 => ?_) (fun q23 => ?_)
          · replace h := (if_neg q23).symm.trans h
            exact k_X11_operator_J120 C hr hlocks  h (lv_sub hl [1, 0] rfl) S
          · replace h := (if_pos q23).symm.trans h
            refine lv_aload_n C.1 C.2.1 dX11_operator_111 rfl (lv_at hl 1 rfl) ?_
            obtain ⟨o47, e48, h⟩ := Option.bind_eq_some_iff.mp h
            refine r_vi C S hl o_76 cf_11 (k_X11_top e48) b_vb_RX11_194 [] rfl [] rfl rfl (Nat.le_of_ble_eq_true rfl) ⟨Nat.le_of_ble_eq_true rfl, Nat.le_of_ble_eq_true rfl⟩ dX11_operator_112 (fun H locs S => ?_)
            refine lv_bipush (v := 40) C.1 C.2.1 dX11_operator_115 (by decide) ?_
            refine lv_icmp_eq (tgt := 135) C.1 C.2.1 dX11_operator_117 (by decide) (fun q49 => ?_) (fun q49 => ?_)
            · replace h := (if_pos q49).symm.trans h
              exact k_X11_operator_J135 C hr hlocks  h (lv_sub hl [1, 0] rfl) S
            · replace h := (if_neg q49).symm.trans h
              exact k_X11_operator_J120 C hr hlocks  h (lv_sub hl [1, 0] rfl) S
        · replace h := (if_pos q20).symm.trans h
          exact k_X11_operator_J34 C hr hlocks  h (lv_sub hl [1, 0] rfl) S

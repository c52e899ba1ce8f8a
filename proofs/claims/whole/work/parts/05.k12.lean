set_option maxHeartbeats 4000000 in
set_option maxRecDepth 100000 in
theorem k_X11_flat_L64 {p : Program} {l : Launch} {e : Env} {s : State} {m : MethodId} {args : Array Value} {below : List Frame} {meth : Method} {c : Code} {D : va_G} {ad sx : Nat → Nat} {ca : Nat → ClassId} (C : Cx D ad sx ca p s m c args RX11 cX11_flat 6) {Q : State → Prop} {v1 : Int32} {v2 : Int32} {v3 : Int32} {v4 : Int32}  : ∀ (n9 : Nat) (z : Int32 × Wd) (o : Int32 × Wd), lp (f_X11_flat_L64 v1 v2 v3 v4) n9 z = some o → (∀ (ls : Array Slot) (H : Heap) (locs : List Loc), lv_has ls 6 [(0, .ref (ad 76)), (1, .int v1), (2, .int v2), (3, .int v3), (4, .int v4)] → St D ad ca s o.2 H locs → W p l e (RM 1 22) s m args below meth c H locs 0 0 Q (F0 m 94 ls [])) → (∀ (ls : Array Slot) (H : Heap) (locs : List Loc), lv_has ls 6 [(0, .ref (ad 76)), (1, .int v1), (2, .int v2), (3, .int v3), (4, .int v4), (5, .int z.1)] → St D ad ca s z.2 H locs → W p l e (RM 1 22) s m args below meth c H locs 0 0 Q (F0 m 64 ls [])) := by
  refine lp_W (HW := fun (z : Int32 × Wd) => ∀ (ls : Array Slot) (H : Heap) (locs : List Loc), lv_has ls 6 [(0, .ref (ad 76)), (1, .int v1), (2, .int v2), (3, .int v3), (4, .int v4), (5, .int z.1)] → St D ad ca s z.2 H locs → W p l e (RM 1 22) s m args below meth c H locs 0 0 Q (F0 m 64 ls [])) (XW := fun (o : Int32 × Wd) => ∀ (ls : Array Slot) (H : Heap) (locs : List Loc), lv_has ls 6 [(0, .ref (ad 76)), (1, .int v1), (2, .int v2), (3, .int v3), (4, .int v4)] → St D ad ca s o.2 H locs → W p l e (RM 1 22) s m args below meth c H locs 0 0 Q (F0 m 94 ls [])) ?_
  intro z x h hN hX ls H locs hl S
  unfold f_X11_flat_L64 at h
  refine lv_iload C.1 C.2.1 dX11_flat_64 (lv_at hl 5 rfl) ?_
  refine lv_bipush (v := 11) C.1 C.2.1 dX11_flat_66 (by decide) ?_
  refine lv_icmp_ge (tgt := 94) C.1 C.2.1 dX11_flat_68 (by decide) (fun q15 => ?_) (fun q15 => ?_)
  · replace h := (if_pos q15).symm.trans h
    exact hX _ (Option.some.inj h).symm _ _ _ (lv_sub hl [0, 1, 2, 3, 4] rfl) S
  · replace h := (if_neg q15).symm.trans h
    refine lv_aload_n C.1 C.2.1 dX11_flat_71 rfl (lv_at hl 0 rfl) ?_
    refine r_getr C S o_76 cf_11 0 rfl (by decide) b_fl_RX11_9 dX11_flat_72 ?_
    refine lv_bipush (v := 7) C.1 C.2.1 dX11_flat_75 (by decide) ?_
    refine lv_bipush (v := 11) C.1 C.2.1 dX11_flat_77 (by decide) ?_
    refine lv_iload C.1 C.2.1 dX11_flat_79 (lv_at hl 4 rfl) ?_
    refine lv_imul C.1 C.2.1 dX11_flat_81 ?_
    refine lv_iadd C.1 C.2.1 dX11_flat_82 ?_
    refine lv_iload C.1 C.2.1 dX11_flat_83 (lv_at hl 5 rfl) ?_
    refine lv_iadd C.1 C.2.1 dX11_flat_85 ?_
    refine lv_iconst (v := 0) C.1 C.2.1 dX11_flat_86 (by decide) ?_
    obtain ⟨g16, h⟩ := gd_some h
    refine r_iast C S a_77 g16 dX11_flat_87 (fun H locs S => ?_)
    obtain ⟨w17, h, S⟩ := lw_S (P := fun y => St D ad ca s y H locs) h S
    refine lv_iinc (v := z.1 + 1) (lv' := [(5, .int (z.1 + 1)), (0, .ref (ad 76)), (1, .int v1), (2, .int v2), (3, .int v3), (4, .int v4)]) C.1 C.2.1 dX11_flat_88 hl (k := 5) rfl rfl (by decide) rfl (fun ls hl => ?_)
    refine lv_goto (tgt := 64) C.1 C.2.1 dX11_flat_91 (by decide) ?_
    exact hN _ (Option.some.inj h).symm _ _ _ (lv_sub hl [1, 2, 3, 4, 5, 0] rfl) S
set_option maxHeartbeats 4000000 in
set_option maxRecDepth 100000 in
theorem k_X11_flat {v1 : Int32} {v2 : Int32} {v3 : Int32}  {w : Wd} {rv : Int32 × Wd} (h : f_X11_flat v1 v2 v3 w = some rv) : CI yX11_flat cX11_flat 6 .int 1 22 (fun ad => [.ref (ad 76), .int v1, .int v2, .int v3]) w rv.1 rv.2 := by
  refine CI.of (by decide) ?_
  intro l D ad sx ca p e s m below meth c C S hr hlocks
  have hl := lv_entry ([.ref (ad 76), .int v1, .int v2, .int v3]) (n := 6) (Nat.le_of_ble_eq_true rfl)
  rw [lg_entry_eq]
  generalize (lg_sl ([.ref (ad 76), .int v1, .int v2, .int v3]) ++ List.replicate (6 - (lg_sl ([.ref (ad 76), .int v1, .int v2, .int v3])).length) Slot.unset).toArray = ls at hl ⊢
  have hl : lv_has ls 6 [(0, .ref (ad 76)), (1, .int v1), (2, .int v2), (3, .int v3)] := hl
  generalize ha9 : ([.ref (ad 76), .int v1, .int v2, .int v3] : List Value).toArray = args at C ⊢
  generalize s.heap = H at S ⊢
  generalize ([] : List Loc) = locs at S ⊢
  unfold f_X11_flat at h
  refine lv_iload_n C.1 C.2.1 dX11_flat_0 rfl (lv_at hl 1 rfl) ?_
  refine lv_iconst (v := 0) C.1 C.2.1 dX11_flat_1 (by decide) ?_
  refine lv_iconst (v := 5) C.1 C.2.1 dX11_flat_2 (by decide) ?_
  obtain ⟨o1, e2, h⟩ := Option.bind_eq_some_iff.mp h
  refine r_si C S hl (k_X11_in e2) b_sb_RX11_97 [.int v1, .int 0, .int 5] rfl [] rfl rfl (Nat.le_of_ble_eq_true rfl) ⟨Nat.le_of_ble_eq_true rfl, Nat.le_of_ble_eq_true rfl⟩ dX11_flat_3 (fun H locs S => ?_)
  refine lv_if_eq (tgt := 28) C.1 C.2.1 dX11_flat_6 (by decide) (fun q3 => ?_) (fun q3 => ?_)
  · replace h := (if_pos q3).symm.trans h
    refine lv_aload_n C.1 C.2.1 dX11_flat_28 rfl (lv_at hl 0 rfl) ?_
    refine r_ldc C (-1000000001) b_cn_RX11_92 dX11_flat_29 ?_
    obtain ⟨o4, e5, h⟩ := Option.bind_eq_some_iff.mp h
    refine r_vi C S hl o_76 cf_11 (k_X11_finds e5) b_vb_RX11_109 [.int (-1000000001)] rfl [] rfl rfl (Nat.le_of_ble_eq_true rfl) ⟨Nat.le_of_ble_eq_true rfl, Nat.le_of_ble_eq_true rfl⟩ dX11_flat_31 (fun H locs S => ?_)
    have h9 := Option.some.inj h
    subst h9
    exact r_iret C S hr hlocks dX11_flat_34
  · replace h := (if_neg q3).symm.trans h
    refine lv_iload_n C.1 C.2.1 dX11_flat_9 rfl (lv_at hl 2 rfl) ?_
    refine lv_iconst (v := 0) C.1 C.2.1 dX11_flat_10 (by decide) ?_
    refine lv_iconst (v := 3) C.1 C.2.1 dX11_flat_11 (by decide) ?_
    obtain ⟨o6, e7, h⟩ := Option.bind_eq_some_iff.mp h
    refine r_si C S hl (k_X11_in e7) b_sb_RX11_97 [.int v2, .int 0, .int 3] rfl [] rfl rfl (Nat.le_of_ble_eq_true rfl) ⟨Nat.le_of_ble_eq_true rfl, Nat.le_of_ble_eq_true rfl⟩ dX11_flat_12 (fun H locs S => ?_)
    refine lv_if_eq (tgt := 28) C.1 C.2.1 dX11_flat_15 (by decide) (fun q8 => ?_) (fun q8 => ?_)
    · replace h := (if_pos q8).symm.trans h
      refine lv_aload_n C.1 C.2.1 dX11_flat_28 rfl (lv_at hl 0 rfl) ?_
      refine r_ldc C (-1000000001) b_cn_RX11_92 dX11_flat_29 ?_
      obtain ⟨o9, e10, h⟩ := Option.bind_eq_some_iff.mp h
      refine r_vi C S hl o_76 cf_11 (k_X11_finds e10) b_vb_RX11_109 [.int (-1000000001)] rfl [] rfl rfl (Nat.le_of_ble_eq_true rfl) ⟨Nat.le_of_ble_eq_true rfl, Nat.le_of_ble_eq_true rfl⟩ dX11_flat_31 (fun H locs S => ?_)
      have h9 := Option.some.inj h
      subst h9
      exact r_iret C S hr hlocks dX11_flat_34
    · replace h := (if_neg q8).symm.trans h
      refine lv_iload_n C.1 C.2.1 dX11_flat_18 rfl (lv_at hl 3 rfl) ?_
      refine lv_iconst (v := 1) C.1 C.2.1 dX11_flat_19 (by decide) ?_
      refine lv_bipush (v := 99) C.1 C.2.1 dX11_flat_20 (by decide) ?_
      obtain ⟨o11, e12, h⟩ := Option.bind_eq_some_iff.mp h
      refine r_si C S hl (k_X11_in e12) b_sb_RX11_97 [.int v3, .int 1, .int 99] rfl [] rfl rfl (Nat.le_of_ble_eq_true rfl) ⟨Nat.le_of_ble_eq_true rfl, Nat.le_of_ble_eq_true rfl⟩ dX11_flat_22 (fun H locs S => ?_)
      refine lv_if_ne (tgt := 35) C.1 C.2.1 dX11_flat_25 (by decide) (fun q13 => ?_) (fun q13 => ?_)
      · replace h := (if_neg q13).symm.trans h
        refine lv_aload_n C.1 C.2.1 dX11_flat_35 rfl (lv_at hl 0 rfl) ?_
        refine r_getr C S o_76 cf_11 0 rfl (by decide) b_fl_RX11_9 dX11_flat_36 ?_
        refine lv_iconst (v := 4) C.1 C.2.1 dX11_flat_39 (by decide) ?_
        refine r_ialdn (j := 4) C S a_77 (by decide) (by decide) dX11_flat_40 ?_
        refine lv_bipush (v := 12) C.1 C.2.1 dX11_flat_41 (by decide) ?_
        refine lv_icmp_ne (tgt := 53) C.1 C.2.1 dX11_flat_43 (by decide) (fun q14 => ?_) (fun q14 => ?_)
        · replace h := (if_neg q14).symm.trans h
          refine lv_aload_n C.1 C.2.1 dX11_flat_53 rfl (lv_at hl 0 rfl) ?_
          refine r_getr C S o_76 cf_11 0 rfl (by decide) b_fl_RX11_9 dX11_flat_54 ?_
          refine lv_iconst (v := 4) C.1 C.2.1 dX11_flat_57 (by decide) ?_
          refine r_ialdn (j := 4) C S a_77 (by decide) (by decide) dX11_flat_58 ?_
          refine lv_istore (lv' := [(4, .int (w.1 77 4)), (0, .ref (ad 76)), (1, .int v1), (2, .int v2), (3, .int v3)]) C.1 C.2.1 dX11_flat_59 hl (by decide) rfl (fun ls hl => ?_)
          refine lv_iconst (v := 0) C.1 C.2.1 dX11_flat_61 (by decide) ?_
          refine lv_istore (lv' := [(5, .int 0), (4, .int (w.1 77 4)), (0, .ref (ad 76)), (1, .int v1), (2, .int v2), (3, .int v3)]) C.1 C.2.1 dX11_flat_62 hl (by decide) rfl (fun ls hl => ?_)
          obtain ⟨o18, e19, h⟩ := Option.bind_eq_some_iff.mp h
          refine k_X11_flat_L64 C  FU _ _ e19 (fun ls H locs hl S => ?_) ls H locs (lv_sub hl [2, 3, 4, 5, 1, 0] rfl) S
          refine lv_aload_n C.1 C.2.1 dX11_flat_94 rfl (lv_at hl 0 rfl) ?_
          refine r_getr C S o_76 cf_11 0 rfl (by decide) b_fl_RX11_9 dX11_flat_95 ?_
          refine lv_bipush (v := 7) C.1 C.2.1 dX11_flat_98 (by decide) ?_
          refine lv_bipush (v := 11) C.1 C.2.1 dX11_flat_100 (by decide) ?_
          refine lv_iload C.1 C.2.1 dX11_flat_102 (lv_at hl 4 rfl) ?_
          refine lv_imul C.1 C.2.1 dX11_flat_104 ?_
          refine lv_iadd C.1 C.2.1 dX11_flat_105 ?_
          refine lv_iload_n C.1 C.2.1 dX11_flat_106 rfl (lv_at hl 1 rfl) ?_
          obtain ⟨g20, h⟩ := gd_some h
          refine r_iast C S a_77 g20 dX11_flat_107 (fun H locs S => ?_)
          obtain ⟨w21, h, S⟩ := lw_S (P := fun y => St D ad ca s y H locs) h S
          refine lv_aload_n C.1 C.2.1 dX11_flat_108 rfl (lv_at hl 0 rfl) ?_
          refine r_getr C S o_76 cf_11 0 rfl (by decide) b_fl_RX11_9 dX11_flat_109 ?_
          refine lv_bipush (v := 7) C.1 C.2.1 dX11_flat_112 (by decide) ?_
          refine lv_bipush (v := 11) C.1 C.2.1 dX11_flat_114 (by decide) ?_
          refine lv_iload C.1 C.2.1 dX11_flat_116 (lv_at hl 4 rfl) ?_
          refine lv_imul C.1 C.2.1 dX11_flat_118 ?_
          refine lv_iadd C.1 C.2.1 dX11_flat_119 ?_
          refine lv_iconst (v := 1) C.1 C.2.1 dX11_flat_120 (by decide) ?_
          refine lv_iadd C.1 C.2.1 dX11_flat_121 ?_
          refine lv_iload_n C.1 C.2.1 dX11_flat_122 rfl (lv_at hl 2 rfl) ?_
          obtain ⟨g22, h⟩ := gd_some h
          refine r_iast C S a_77 g22 dX11_flat_123 (fun H locs S => ?_)
          obtain ⟨w23, h, S⟩ := lw_S (P := fun y => St D ad ca s y H locs) h S
          refine lv_aload_n C.1 C.2.1 dX11_flat_124 rfl (lv_at hl 0 rfl) ?_
          refine r_getr C S o_76 cf_11 0 rfl (by decide) b_fl_RX11_9 dX11_flat_125 ?_
          refine lv_bipush (v := 7) C.1 C.2.1 dX11_flat_128 (by decide) ?_
          refine lv_bipush (v := 11) C.1 C.2.1 dX11_flat_130 (by decide) ?_
          refine lv_iload C.1 C.2.1 dX11_flat_132 (lv_at hl 4 rfl) ?_
          refine lv_imul C.1 C.2.1 dX11_flat_134 ?_
          refine lv_iadd C.1 C.2.1 dX11_flat_135 ?_
          refine lv_iconst (v := 2) C.1 C.2.1 dX11_flat_136 (by decide) ?_
          refine lv_iadd C.1 C.2.1 dX11_flat_137 ?_
          refine lv_iload_n C.1 C.2.1 dX11_flat_138 rfl (lv_at hl 3 rfl) ?_
          obtain ⟨g24, h⟩ := gd_some h
          refine r_iast C S a_77 g24 dX11_flat_139 (fun H locs S => ?_)
          obtain ⟨w25, h, S⟩ := lw_S (P := fun y => St D ad ca s y H locs) h S
          refine lv_aload_n C.1 C.2.1 dX11_flat_140 rfl (lv_at hl 0 rfl) ?_
          refine r_getr C S o_76 cf_11 0 rfl (by decide) b_fl_RX11_9 dX11_flat_141 ?_
          refine lv_bipush (v := 7) C.1 C.2.1 dX11_flat_144 (by decide) ?_
          refine lv_bipush (v := 11) C.1 C.2.1 dX11_flat_146 (by decide) ?_
          refine lv_iload C.1 C.2.1 dX11_flat_148 (lv_at hl 4 rfl) ?_
          refine lv_imul C.1 C.2.1 dX11_flat_150 ?_
          refine lv_iadd C.1 C.2.1 dX11_flat_151 ?_
          refine lv_iconst (v := 3) C.1 C.2.1 dX11_flat_152 (by decide) ?_
          refine lv_iadd C.1 C.2.1 dX11_flat_153 ?_
          refine lv_iconst (v := 4) C.1 C.2.1 dX11_flat_154 (by decide) ?_
          obtain ⟨g26, h⟩ := gd_some h
          refine r_iast C S a_77 g26 dX11_flat_155 (fun H locs S => ?_)
          obtain ⟨w27, h, S⟩ := lw_S (P := fun y => St D ad ca s y H locs) h S
          refine lv_aload_n C.1 C.2.1 dX11_flat_156 rfl (lv_at hl 0 rfl) ?_
          refine r_getr C S o_76 cf_11 0 rfl (by decide) b_fl_RX11_9 dX11_flat_157 ?_
          refine lv_bipush (v := 7) C.1 C.2.1 dX11_flat_160 (by decide) ?_
          refine lv_bipush (v := 11) C.1 C.2.1 dX11_flat_162 (by decide) ?_
          refine lv_iload C.1 C.2.1 dX11_flat_164 (lv_at hl 4 rfl) ?_
          refine lv_imul C.1 C.2.1 dX11_flat_166 ?_
          refine lv_iadd C.1 C.2.1 dX11_flat_167 ?_
          refine lv_bipush (v := 6) C.1 C.2.1 dX11_flat_168 (by decide) ?_
          refine lv_iadd C.1 C.2.1 dX11_flat_170 ?_
          refine lv_sipush (v := 200) C.1 C.2.1 dX11_flat_171 (by decide) ?_
          obtain ⟨g28, h⟩ := gd_some h
          refine r_iast C S a_77 g28 dX11_flat_174 (fun H locs S => ?_)
          obtain ⟨w29, h, S⟩ := lw_S (P := fun y => St D ad ca s y H locs) h S
          refine lv_aload_n C.1 C.2.1 dX11_flat_175 rfl (lv_at hl 0 rfl) ?_
          refine r_getr C S o_76 cf_11 0 rfl (by decide) b_fl_RX11_9 dX11_flat_176 ?_
          refine lv_bipush (v := 7) C.1 C.2.1 dX11_flat_179 (by decide) ?_
          refine lv_bipush (v := 11) C.1 C.2.1 dX11_flat_181 (by decide) ?_
          refine lv_iload C.1 C.2.1 dX11_flat_183 (lv_at hl 4 rfl) ?_
          refine lv_imul C.1 C.2.1 dX11_flat_185 ?_
          refine lv_iadd C.1 C.2.1 dX11_flat_186 ?_
          refine lv_bipush (v := 10) C.1 C.2.1 dX11_flat_187 (by decide) ?_
          refine lv_iadd C.1 C.2.1 dX11_flat_189 ?_
          refine lv_bipush (v := 100) C.1 C.2.1 dX11_flat_190 (by decide) ?_
          obtain ⟨g30, h⟩ := gd_some h
          refine r_iast C S a_77 g30 dX11_flat_192 (fun H locs S => ?_)
          obtain ⟨w31, h, S⟩ := lw_S (P := fun y => St D ad ca s y H locs) h S
          refine lv_aload_n C.1 C.2.1 dX11_flat_193 rfl (lv_at hl 0 rfl) ?_
          refine r_getr C S o_76 cf_11 0 rfl (by decide) b_fl_RX11_9 dX11_flat_194 ?_
          refine lv_iconst (v := 4) C.1 C.2.1 dX11_flat_197 (by decide) ?_
          refine lv_dup2_11 C.1 C.2.1 dX11_flat_198 rfl rfl ?_
          refine r_ialdn (j := 4) C S a_77 (by decide) (by decide) dX11_flat_199 ?_
          refine lv_iconst (v := 1) C.1 C.2.1 dX11_flat_200 (by decide) ?_
          refine lv_iadd C.1 C.2.1 dX11_flat_201 ?_
          refine r_iastn (j := 4) C S a_77 (by decide) (by decide) dX11_flat_202 (fun H locs S => ?_)
          obtain ⟨w32, h, S⟩ := lw_S (P := fun y => St D ad ca s y H locs) h S
          refine lv_aload_n C.1 C.2.1 dX11_flat_203 rfl (lv_at hl 0 rfl) ?_
          refine lv_iconst (v := 0) C.1 C.2.1 dX11_flat_204 (by decide) ?_
          refine r_put C S o_76 cf_11 30 rfl (by decide) rfl (zo_nar (by decide)) b_fl_RX11_105 dX11_flat_205 (fun H locs S => ?_)
          obtain ⟨w33, h, S⟩ := lw_S (P := fun y => St D ad ca s y H locs) h S
          refine lv_iload C.1 C.2.1 dX11_flat_208 (lv_at hl 4 rfl) ?_
          have h9 := Option.some.inj h
          subst h9
          exact r_iret C S hr hlocks dX11_flat_210
        · replace h := (if_pos q14).symm.trans h
          refine lv_aload_n C.1 C.2.1 dX11_flat_46 rfl (lv_at hl 0 rfl) ?_
          refine r_ldc C (-1000000002) b_cn_RX11_113 dX11_flat_47 ?_
          obtain ⟨o34, e35, h⟩ := Option.bind_eq_some_iff.mp h
          refine r_vi C S hl o_76 cf_11 (k_X11_finds e35) b_vb_RX11_109 [.int (-1000000002)] rfl [] rfl rfl (Nat.le_of_ble_eq_true rfl) ⟨Nat.le_of_ble_eq_true rfl, Nat.le_of_ble_eq_true rfl⟩ dX11_flat_49 (fun H locs S => ?_)
          have h9 := Option.some.inj h
          subst h9
          exact r_iret C S hr hlocks dX11_flat_52
      · replace h := (if_pos q13).symm.trans h
        refine lv_aload_n C.1 C.2.1 dX11_flat_28 rfl (lv_at hl 0 rfl) ?_
        refine r_ldc C (-1000000001) b_cn_RX11_92 dX11_flat_29 ?_
        obtain ⟨o36, e37, h⟩ := Option.bind_eq_some_iff.mp h
        refine r_vi C S hl o_76 cf_11 (k_X11_finds e37) b_vb_RX11_109 [.int (-1000000001)] rfl [] rfl rfl (Nat.le_of_ble_eq_true rfl) ⟨Nat.le_of_ble_eq_true rfl, Nat.le_of_ble_eq_true rfl⟩ dX11_flat_31 (fun H locs S => ?_)
        have h9 := Option.some.inj h
        subst h9
        exact r_iret C S hr hlocks dX11_flat_34
set_option maxHeartbeats 4000000 in
set_option maxRecDepth 100000 in
theorem k_X11_placeOf_L4 {p : Program} {l : Launch} {e : Env} {s : State} {m : MethodId} {args : Array Value} {below : List Frame} {meth : Method} {c : Code} {D : va_G} {ad sx : Nat → Nat} {ca : Nat → ClassId} (C : Cx D ad sx ca p s m c args RX11 cX11_placeOf 4) {Q : State → Prop} {w : Wd} {v1 : Int32}  : ∀ (n9 : Nat) (z : Int32 × Int32) (o : Int32 × Int32), lp (f_X11_placeOf_L4 v1 w) n9 z = some o → (∀ (ls : Array Slot) (H : Heap) (locs : List Loc), lv_has ls 4 [(2, .int o.1)] → St D ad ca s w H locs → W p l e (RM 1 22) s m args below meth c H locs 0 0 Q (F0 m 38 ls [])) → (∀ (ls : Array Slot) (H : Heap) (locs : List Loc), lv_has ls 4 [(0, .ref (ad 76)), (1, .int v1), (2, .int z.1), (3, .int z.2)] → St D ad ca s w H locs → W p l e (RM 1 22) s m args below meth c H locs 0 0 Q (F0 m 4 ls [])) := by
  refine lp_W (HW := fun (z : Int32 × Int32) => ∀ (ls : Array Slot) (H : Heap) (locs : List Loc), lv_has ls 4 [(0, .ref (ad 76)), (1, .int v1), (2, .int z.1), (3, .int z.2)] → St D ad ca s w H locs → W p l e (RM 1 22) s m args below meth c H locs 0 0 Q (F0 m 4 ls [])) (XW := fun (o : Int32 × Int32) => ∀ (ls : Array Slot) (H : Heap) (locs : List Loc), lv_has ls 4 [(2, .int o.1)] → St D ad ca s w H locs → W p l e (RM 1 22) s m args below meth c H locs 0 0 Q (F0 m 38 ls [])) ?_
  intro z x h hN hX ls H locs hl S
  unfold f_X11_placeOf_L4 at h
  refine lv_iload_n C.1 C.2.1 dX11_placeOf_4 rfl (lv_at hl 3 rfl) ?_
  refine lv_iload_n C.1 C.2.1 dX11_placeOf_5 rfl (lv_at hl 1 rfl) ?_
  refine lv_icmp_ge (tgt := 38) C.1 C.2.1 dX11_placeOf_6 (by decide) (fun q1 => ?_) (fun q1 => ?_)
  · replace h := (if_pos q1).symm.trans h
    exact hX _ (Option.some.inj h).symm _ _ _ (lv_sub hl [2] rfl) S
  · replace h := (if_neg q1).symm.trans h
    refine lv_iload_n C.1 C.2.1 dX11_placeOf_9 rfl (lv_at hl 2 rfl) ?_
    refine lv_aload_n C.1 C.2.1 dX11_placeOf_10 rfl (lv_at hl 0 rfl) ?_
    refine lv_iload_n C.1 C.2.1 dX11_placeOf_11 rfl (lv_at hl 3 rfl) ?_
    refine lv_iconst (v := 1) C.1 C.2.1 dX11_placeOf_12 (by decide) ?_
    obtain ⟨o2, e3, h⟩ := Option.bind_eq_some_iff.mp h
    refine r_vi C S hl o_76 cf_11 (k_X11_get e3) b_vb_RX11_101 [.int z.2, .int 1] rfl [.int z.1] rfl rfl (Nat.le_of_ble_eq_true rfl) ⟨Nat.le_of_ble_eq_true rfl, Nat.le_of_ble_eq_true rfl⟩ dX11_placeOf_13 (fun H locs S => ?_)
    refine lv_aload_n C.1 C.2.1 dX11_placeOf_16 rfl (lv_at hl 0 rfl) ?_
    refine lv_iload_n C.1 C.2.1 dX11_placeOf_17 rfl (lv_at hl 1 rfl) ?_
    refine lv_iconst (v := 1) C.1 C.2.1 dX11_placeOf_18 (by decide) ?_
    obtain ⟨o4, e5, h⟩ := Option.bind_eq_some_iff.mp h
    refine r_vi C S hl o_76 cf_11 (k_X11_get e5) b_vb_RX11_101 [.int v1, .int 1] rfl [.int o2, .int z.1] rfl rfl (Nat.le_of_ble_eq_true rfl) ⟨Nat.le_of_ble_eq_true rfl, Nat.le_of_ble_eq_true rfl⟩ dX11_placeOf_19 (fun H locs S => ?_)
    refine lv_icmp_ne (tgt := 29) C.1 C.2.1 dX11_placeOf_22 (by decide) (fun q6 => ?_) (fun q6 => ?_)
    · replace h := (if_neg q6).symm.trans h
      refine lv_iconst (v := 0) C.1 C.2.1 dX11_placeOf_29 (by decide) ?_
      refine lv_iadd C.1 C.2.1 dX11_placeOf_30 ?_
      refine lv_istore_n (lv' := [(2, .int (z.1 + 0)), (0, .ref (ad 76)), (1, .int v1), (3, .int z.2)]) C.1 C.2.1 dX11_placeOf_31 rfl hl (by decide) rfl (fun ls hl => ?_)
      refine lv_iinc (v := z.2 + 1) (lv' := [(3, .int (z.2 + 1)), (2, .int (z.1 + 0)), (0, .ref (ad 76)), (1, .int v1)]) C.1 C.2.1 dX11_placeOf_32 hl (k := 3) rfl rfl (by decide) rfl (fun ls hl => ?_)
      refine lv_goto (tgt := 4) C.1 C.2.1 dX11_placeOf_35 (by decide) ?_
      exact hN _ (Option.some.inj h).symm _ _ _ (lv_sub hl [2, 3, 1, 0] rfl) S
    · replace h := (if_pos q6).symm.trans h
      refine lv_iconst (v := 1) C.1 C.2.1 dX11_placeOf_25 (by decide) ?_
      refine lv_goto (tgt := 30) C.1 C.2.1 dX11_placeOf_26 (by decide) ?_
      refine lv_iadd C.1 C.2.1 dX11_placeOf_30 ?_
      refine lv_istore_n (lv' := [(2, .int (z.1 + 1)), (0, .ref (ad 76)), (1, .int v1), (3, .int z.2)]) C.1 C.2.1 dX11_placeOf_31 rfl hl (by decide) rfl (fun ls hl => ?_)
      refine lv_iinc (v := z.2 + 1) (lv' := [(3, .int (z.2 + 1)), (2, .int (z.1 + 1)), (0, .ref (ad 76)), (1, .int v1)]) C.1 C.2.1 dX11_placeOf_32 hl (k := 3) rfl rfl (by decide) rfl (fun ls hl => ?_)
      refine lv_goto (tgt := 4) C.1 C.2.1 dX11_placeOf_35 (by decide) ?_
      exact hN _ (Option.some.inj h).symm _ _ _ (lv_sub hl [2, 3, 1, 0] rfl) S
set_option maxHeartbeats 4000000 in
set_option maxRecDepth 100000 in
theorem k_X11_placeOf {v1 : Int32}  {w : Wd} {rv : Int32} (h : f_X11_placeOf v1 w = some rv) : CI yX11_placeOf cX11_placeOf 4 .int 1 22 (fun ad => [.ref (ad 76), .int v1]) w rv w := by
  refine CI.of (by decide) ?_
  intro l D ad sx ca p e s m below meth c C S hr hlocks
  have hl := lv_entry ([.ref (ad 76), .int v1]) (n := 4) (Nat.le_of_ble_eq_true rfl)
  rw [lg_entry_eq]
  generalize (lg_sl ([.ref (ad 76), .int v1]) ++ List.replicate (4 - (lg_sl ([.ref (ad 76), .int v1])).length) Slot.unset).toArray = ls at hl ⊢
  have hl : lv_has ls 4 [(0, .ref (ad 76)), (1, .int v1)] := hl
  generalize ha9 : ([.ref (ad 76), .int v1] : List Value).toArray = args at C ⊢
  generalize s.heap = H at S ⊢
  generalize ([] : List Loc) = locs at S ⊢
  unfold f_X11_placeOf at h
  refine lv_iconst (v := 0) C.1 C.2.1 dX11_placeOf_0 (by decide) ?_
  refine lv_istore_n (lv' := [(2, .int 0), (0, .ref (ad 76)), (1, .int v1)]) C.1 C.2.1 dX11_placeOf_1 rfl hl (by decide) rfl (fun ls hl => ?_)
  refine lv_iconst (v := 0) C.1 C.2.1 dX11_placeOf_2 (by decide) ?_
  refine lv_istore_n (lv' := [(3, .int 0), (2, .int 0), (0, .ref (ad 76)), (1, .int v1)]) C.1 C.2.1 dX11_placeOf_3 rfl hl (by decide) rfl (fun ls hl => ?_)
  obtain ⟨o7, e8, h⟩ := Option.bind_eq_some_iff.mp h
  refine k_X11_placeOf_L4 C  FU _ _ e8 (fun ls H locs hl S => ?_) ls H locs (lv_sub hl [2, 3, 1, 0] rfl) S
  refine lv_iload_n C.1 C.2.1 dX11_placeOf_38 rfl (lv_at hl 0 rfl) ?_
  have h9 := Option.some.inj h
  subst h9
  exact r_iret C S hr hlocks dX11_placeOf_39
set_option maxHeartbeats 4000000 in
set_option maxRecDepth 100000 in
theorem k_X11_flatAt_L5 {p : Program} {l : Launch} {e : Env} {s : State} {m : MethodId} {args : Array Value} {below : List Frame} {meth : Method} {c : Code} {D : va_G} {ad sx : Nat → Nat} {ca : Nat → ClassId} (C : Cx D ad sx ca p s m c args RX11 cX11_flatAt 5) (hr : meth.sig.returnType = (some .int)) (hlocks : meth.locks = false) {rv : Int32} {w : Wd} {v1 : Int32} {v2 : Int32}  : ∀ (n9 : Nat) (z : Int32 × Int32) (o : (Int32 × Int32) ⊕ (Int32)), lp (f_X11_flatAt_L5 v1 v2 w) n9 z = some o → ((∀ x, o = .inl x → ∀ (ls : Array Slot) (H : Heap) (locs : List Loc), lv_has ls 5 [] → St D ad ca s w H locs → W p l e (RM 1 22) s m args below meth c H locs 0 0 (MQ below (Qi D ad ca rv w) args s 0 0 (Aad ad)) (F0 m 44 ls [])) ∧ ∀ y, o = .inr y → y = rv) → (∀ (ls : Array Slot) (H : Heap) (locs : List Loc), lv_has ls 5 [(0, .ref (ad 76)), (1, .int v1), (2, .int v2), (3, .int z.1), (4, .int z.2)] → St D ad ca s w H locs → W p l e (RM 1 22) s m args below meth c H locs 0 0 (MQ below (Qi D ad ca rv w) args s 0 0 (Aad ad)) (F0 m 5 ls [])) := by
  refine lp_W (HW := fun (z : Int32 × Int32) => ∀ (ls : Array Slot) (H : Heap) (locs : List Loc), lv_has ls 5 [(0, .ref (ad 76)), (1, .int v1), (2, .int v2), (3, .int z.1), (4, .int z.2)] → St D ad ca s w H locs → W p l e (RM 1 22) s m args below meth c H locs 0 0 (MQ below (Qi D ad ca rv w) args s 0 0 (Aad ad)) (F0 m 5 ls [])) (XW := fun (o : (Int32 × Int32) ⊕ (Int32)) => (∀ x, o = .inl x → ∀ (ls : Array Slot) (H : Heap) (locs : List Loc), lv_has ls 5 [] → St D ad ca s w H locs → W p l e (RM 1 22) s m args below meth c H locs 0 0 (MQ below (Qi D ad ca rv w) args s 0 0 (Aad ad)) (F0 m 44 ls [])) ∧ ∀ y, o = .inr y → y = rv) ?_
  intro z x h hN hX ls H locs hl S
  unfold f_X11_flatAt_L5 at h
  refine lv_iload C.1 C.2.1 dX11_flatAt_5 (lv_at hl 4 rfl) ?_
  refine lv_aload_n C.1 C.2.1 dX11_flatAt_7 rfl (lv_at hl 0 rfl) ?_
  refine r_getr C S o_76 cf_11 0 rfl (by decide) b_fl_RX11_9 dX11_flatAt_8 ?_
  refine lv_iconst (v := 4) C.1 C.2.1 dX11_flatAt_11 (by decide) ?_
  refine r_ialdn (j := 4) C S a_77 (by decide) (by decide) dX11_flatAt_12 ?_
  refine lv_icmp_ge (tgt := 44) C.1 C.2.1 dX11_flatAt_13 (by decide) (fun q1 => ?_) (fun q1 => ?_)
  · replace h := (if_pos q1).symm.trans h
    exact (hX _ (Option.some.inj h).symm).1 _ rfl _ _ _ (lv_sub hl [] rfl) S
  · replace h := (if_neg q1).symm.trans h
    refine lv_aload_n C.1 C.2.1 dX11_flatAt_16 rfl (lv_at hl 0 rfl) ?_
    refine lv_iload C.1 C.2.1 dX11_flatAt_17 (lv_at hl 4 rfl) ?_
    refine lv_iconst (v := 1) C.1 C.2.1 dX11_flatAt_19 (by decide) ?_
    obtain ⟨o2, e3, h⟩ := Option.bind_eq_some_iff.mp h
    refine r_vi C S hl o_76 cf_11 (k_X11_get e3) b_vb_RX11_101 [.int z.2, .int 1] rfl [] rfl rfl (Nat.le_of_ble_eq_true rfl) ⟨Nat.le_of_ble_eq_true rfl, Nat.le_of_ble_eq_true rfl⟩ dX11_flatAt_20 (fun H locs S => ?_)
    refine lv_iload_n C.1 C.2.1 dX11_flatAt_23 rfl (lv_at hl 1 rfl) ?_
    refine lv_icmp_ne (tgt := 38) C.1 C.2.1 dX11_flatAt_24 (by decide) (fun q4 => ?_) (fun q4 => ?_)
    · replace h := (if_neg q4).symm.trans h
      refine lv_iinc (v := z.2 + 1) (lv' := [(4, .int (z.2 + 1)), (0, .ref (ad 76)), (1, .int v1), (2, .int v2), (3, .int z.1)]) C.1 C.2.1 dX11_flatAt_38 hl (k := 4) rfl rfl (by decide) rfl (fun ls hl => ?_)
      refine lv_goto (tgt := 5) C.1 C.2.1 dX11_flatAt_41 (by decide) ?_
      exact hN _ (Option.some.inj h).symm _ _ _ (lv_sub hl [1, 2, 3, 4, 0] rfl) S
    · replace h := (if_pos q4).symm.trans h
      refine lv_iload_n C.1 C.2.1 dX11_flatAt_27 rfl (lv_at hl 3 rfl) ?_
      refine lv_iload_n C.1 C.2.1 dX11_flatAt_28 rfl (lv_at hl 2 rfl) ?_
      refine lv_icmp_ne (tgt := 35) C.1 C.2.1 dX11_flatAt_29 (by decide) (fun q5 => ?_) (fun q5 => ?_)
      · replace h := (if_neg q5).symm.trans h
        refine lv_iinc (v := z.1 + 1) (lv' := [(3, .int (z.1 + 1)), (0, .ref (ad 76)), (1, .int v1), (2, .int v2), (4, .int z.2)]) C.1 C.2.1 dX11_flatAt_35 hl (k := 3) rfl rfl (by decide) rfl (fun ls hl => ?_)
        refine lv_iinc (v := z.2 + 1) (lv' := [(4, .int (z.2 + 1)), (3, .int (z.1 + 1)), (0, .ref (ad 76)), (1, .int v1), (2, .int v2)]) C.1 C.2.1 dX11_flatAt_38 hl (k := 4) rfl rfl (by decide) rfl (fun ls hl => ?_)
        refine lv_goto (tgt := 5) C.1 C.2.1 dX11_flatAt_41 (by decide) ?_
        exact hN _ (Option.some.inj h).symm _ _ _ (lv_sub hl [2, 3, 4, 1, 0] rfl) S
      · replace h := (if_pos q5).symm.trans h
        refine lv_iload C.1 C.2.1 dX11_flatAt_32 (lv_at hl 4 rfl) ?_
        have h9 := (hX _ (Option.some.inj h).symm).2 _ rfl
        subst h9
        exact r_iret C S hr hlocks dX11_flatAt_34
set_option maxHeartbeats 4000000 in
set_option maxRecDepth 100000 in
theorem k_X11_flatAt {v1 : Int32} {v2 : Int32}  {w : Wd} {rv : Int32} (h : f_X11_flatAt v1 v2 w = some rv) : CI yX11_flatAt cX11_flatAt 5 .int 1 22 (fun ad => [.ref (ad 76), .int v1, .int v2]) w rv w := by
  refine CI.of (by decide) ?_
  intro l D ad sx ca p e s m below meth c C S hr hlocks
  have hl := lv_entry ([.ref (ad 76), .int v1, .int v2]) (n := 5) (Nat.le_of_ble_eq_true rfl)
  rw [lg_entry_eq]
  generalize (lg_sl ([.ref (ad 76), .int v1, .int v2]) ++ List.replicate (5 - (lg_sl ([.ref (ad 76), .int v1, .int v2])).length) Slot.unset).toArray = ls at hl ⊢
  have hl : lv_has ls 5 [(0, .ref (ad 76)), (1, .int v1), (2, .int v2)] := hl
  generalize ha9 : ([.ref (ad 76), .int v1, .int v2] : List Value).toArray = args at C ⊢
  generalize s.heap = H at S ⊢
  generalize ([] : List Loc) = locs at S ⊢
  unfold f_X11_flatAt at h
  refine lv_iconst (v := 0) C.1 C.2.1 dX11_flatAt_0 (by decide) ?_
  refine lv_istore_n (lv' := [(3, .int 0), (0, .ref (ad 76)), (1, .int v1), (2, .int v2)]) C.1 C.2.1 dX11_flatAt_1 rfl hl (by decide) rfl (fun ls hl => ?_)
  refine lv_iconst (v := 0) C.1 C.2.1 dX11_flatAt_2 (by decide) ?_
  refine lv_istore (lv' := [(4, .int 0), (3, .int 0), (0, .ref (ad 76)), (1, .int v1), (2, .int v2)]) C.1 C.2.1 dX11_flatAt_3 hl (by decide) rfl (fun ls hl => ?_)
  obtain ⟨o6, e7, h⟩ := Option.bind_eq_some_iff.mp h
  refine k_X11_flatAt_L5 C hr hlocks  FU _ _ e7 ⟨fun x8 hx ls H locs hl S => ?_, fun y9 hy => ?_⟩ ls H locs (lv_sub hl [2, 3, 4, 1, 0] rfl) S
  · subst hx
    rw [sm_inl] at h
    refine lv_iconst (v := (-1)) C.1 C.2.1 dX11_flatAt_44 (by decide) ?_
    have h9 := Option.some.inj h
    subst h9
    exact r_iret C S hr hlocks dX11_flatAt_45
  · subst hy
    rw [sm_inr] at h
    exact Option.some.inj h
set_option maxHeartbeats 4000000 in
set_option maxRecDepth 100000 in
theorem k_X11_leaksBy_J72 {p : Program} {l : Launch} {e : Env} {s : State} {m : MethodId} {args : Array Value} {below : List Frame} {meth : Method} {c : Code} {D : va_G} {ad sx : Nat → Nat} {ca : Nat → ClassId} (C : Cx D ad sx ca p s m c args RX11 cX11_leaksBy 4) (hr : meth.sig.returnType = (some .int)) (hlocks : meth.locks = false) {w : Wd} {v1 : Int32} {v3 : Int32}  {rv : Int32} (h : f_X11_leaksBy_J72 v1 v3 w = some rv) {ls : Array Slot} {H : Heap} {locs : List Loc} (hl : lv_has ls 4 [(0, .ref (ad 76)), (1, .int v1), (3, .int v3)]) (S : St D ad ca s w H locs) : W p l e (RM 1 22) s m args below meth c H locs 0 0 (MQ below (Qi D ad ca rv w) args s 0 0 (Aad ad)) (F0 m 72 ls []) := by
  unfold f_X11_leaksBy_J72 at h
  refine lv_iload_n C.1 C.2.1 dX11_leaksBy_72 rfl (lv_at hl 2 rfl) ?_
  refine lv_bipush (v := 100) C.1 C.2.1 dX11_leaksBy_73 (by decide) ?_
  refine lv_aload_n C.1 C.2.1 dX11_leaksBy_75 rfl (lv_at hl 0 rfl) ?_
  refine lv_iload_n C.1 C.2.1 dX11_leaksBy_76 rfl (lv_at hl 1 rfl) ?_
  refine lv_iconst (v := 5) C.1 C.2.1 dX11_leaksBy_77 (by decide) ?_
  obtain ⟨o4, e5, h⟩ := Option.bind_eq_some_iff.mp h
  refine r_vi C S hl o_76 cf_11 (k_X11_get e5) b_vb_RX11_101 [.int v1, .int 5] rfl [.int 100, .int v3] rfl rfl (Nat.le_of_ble_eq_true rfl) ⟨Nat.le_of_ble_eq_true rfl, Nat.le_of_ble_eq_true rfl⟩ dX11_leaksBy_78 (fun H locs S => ?_)
  refine lv_imul C.1 C.2.1 dX11_leaksBy_81 ?_
  refine lv_iadd C.1 C.2.1 dX11_leaksBy_82 ?_
  have h9 := Option.some.inj h
  subst h9
  exact r_iret C S hr hlocks dX11_leaksBy_83
set_option maxHeartbeats 4000000 in
set_option maxRecDepth 100000 in
theorem k_X11_leaksBy {v1 : Int32} {v2 : Int32}  {w : Wd} {rv : Int32} (h : f_X11_leaksBy v1 v2 w = some rv) : CI yX11_leaksBy cX11_leaksBy 4 .int 1 22 (fun ad => [.ref (ad 76), .int v1, .int v2]) w rv w := by
  refine CI.of (by decide) ?_
  intro l D ad sx ca p e s m below meth c C S hr hlocks
  have hl := lv_entry ([.ref (ad 76), .int v1, .int v2]) (n := 4) (Nat.le_of_ble_eq_true rfl)
  rw [lg_entry_eq]
  generalize (lg_sl ([.ref (ad 76), .int v1, .int v2]) ++ List.replicate (4 - (lg_sl ([.ref (ad 76), .int v1, .int v2])).length) Slot.unset).toArray = ls at hl ⊢
  have hl : lv_has ls 4 [(0, .ref (ad 76)), (1, .int v1), (2, .int v2)] := hl
  generalize ha9 : ([.ref (ad 76), .int v1, .int v2] : List Value).toArray = args at C ⊢
  generalize s.heap = H at S ⊢
  generalize ([] : List Loc) = locs at S ⊢
  unfold f_X11_leaksBy at h
  refine lv_iload_n C.1 C.2.1 dX11_leaksBy_0 rfl (lv_at hl 2 rfl) ?_
  refine lv_istore_n (lv' := [(3, .int v2), (0, .ref (ad 76)), (1, .int v1), (2, .int v2)]) C.1 C.2.1 dX11_leaksBy_1 rfl hl (by decide) rfl (fun ls hl => ?_)
  refine lv_aload_n C.1 C.2.1 dX11_leaksBy_2 rfl (lv_at hl 1 rfl) ?_
  refine lv_iload_n C.1 C.2.1 dX11_leaksBy_3 rfl (lv_at hl 2 rfl) ?_
  refine lv_iconst (v := 0) C.1 C.2.1 dX11_leaksBy_4 (by decide) ?_
  obtain ⟨o1, e2, h⟩ := Option.bind_eq_some_iff.mp h
  refine r_vi C S hl o_76 cf_11 (k_X11_get e2) b_vb_RX11_101 [.int v1, .int 0] rfl [] rfl rfl (Nat.le_of_ble_eq_true rfl) ⟨Nat.le_of_ble_eq_true rfl, Nat.le_of_ble_eq_true rfl⟩ dX11_leaksBy_5 (fun H locs S => ?_)
  by_cases q3 : o1 = 1
  · replace h := (if_pos q3).symm.trans h
    refine lv_tableIn (off := 32) (tgt := 40) C.1 C.2.1 dX11_leaksBy_8 (by rw [q3]; decide) (by rw [q3]; decide) (by rw [q3]; rfl) (by decide) ?_
    refine lv_iload_n C.1 C.2.1 dX11_leaksBy_40 rfl (lv_at hl 3 rfl) ?_
    refine lv_iload_n C.1 C.2.1 dX11_leaksBy_41 rfl (lv_at hl 3 rfl) ?_
    refine lv_iconst (v := 2) C.1 C.2.1 dX11_leaksBy_42 (by decide) ?_
    refine lv_idiv C.1 C.2.1 dX11_leaksBy_43 (by decide) ?_
    refine lv_iadd C.1 C.2.1 dX11_leaksBy_44 ?_
    refine lv_istore_n (lv' := [(3, .int (v2 + (v2 / 2))), (0, .ref (ad 76)), (1, .int v1), (2, .int v2)]) C.1 C.2.1 dX11_leaksBy_45 rfl hl (by decide) rfl (fun ls hl => ?_)
    refine lv_goto (tgt := 72) C.1 C.2.1 dX11_leaksBy_46 (by decide) ?_
    exact k_X11_leaksBy_J72 C hr hlocks  h (lv_sub hl [1, 2, 0] rfl) S
  · replace h := (if_neg q3).symm.trans h
    by_cases q6 : o1 = 2
    · replace h := (if_pos q6).symm.trans h
      refine lv_tableIn (off := 41) (tgt := 49) C.1 C.2.1 dX11_leaksBy_8 (by rw [q6]; decide) (by rw [q6]; decide) (by rw [q6]; rfl) (by decide) ?_
      refine lv_iload_n C.1 C.2.1 dX11_leaksBy_49 rfl (lv_at hl 3 rfl) ?_
      refine lv_iload_n C.1 C.2.1 dX11_leaksBy_50 rfl (lv_at hl 3 rfl) ?_
      refine lv_iconst (v := 3) C.1 C.2.1 dX11_leaksBy_51 (by decide) ?_
      refine lv_idiv C.1 C.2.1 dX11_leaksBy_52 (by decide) ?_
      refine lv_isub C.1 C.2.1 dX11_leaksBy_53 ?_
      refine lv_iconst (v := 1) C.1 C.2.1 dX11_leaksBy_54 (by decide) ?_
      refine lv_iadd C.1 C.2.1 dX11_leaksBy_55 ?_
      refine lv_istore_n (lv' := [(3, .int ((v2 - (v2 / 3)) + 1)), (0, .ref (ad 76)), (1, .int v1), (2, .int v2)]) C.1 C.2.1 dX11_leaksBy_56 rfl hl (by decide) rfl (fun ls hl => ?_)
      refine lv_goto (tgt := 72) C.1 C.2.1 dX11_leaksBy_57 (by decide) ?_
      exact k_X11_leaksBy_J72 C hr hlocks  h (lv_sub hl [1, 2, 0] rfl) S
    · replace h := (if_neg q6).symm.trans h
      by_cases q7 : o1 = 3
      · replace h := (if_pos q7).symm.trans h
        refine lv_tableIn (off := 64) (tgt := 72) C.1 C.2.1 dX11_leaksBy_8 (by rw [q7]; decide) (by rw [q7]; decide) (by rw [q7]; rfl) (by decide) ?_
        exact k_X11_leaksBy_J72 C hr hlocks  h (lv_sub hl [1, 2, 0] rfl) S
      · replace h := (if_neg q7).symm.trans h
        by_cases q8 : o1 = 4
        · replace h := (if_pos q8).symm.trans h
          refine lv_tableIn (off := 52) (tgt := 60) C.1 C.2.1 dX11_leaksBy_8 (by rw [q8]; decide) (by rw [q8]; decide) (by rw [q8]; rfl) (by decide) ?_
          refine lv_iload_n C.1 C.2.1 dX11_leaksBy_60 rfl (lv_at hl 3 rfl) ?_
          refine lv_iload_n C.1 C.2.1 dX11_leaksBy_61 rfl (lv_at hl 3 rfl) ?_
          refine lv_iconst (v := 2) C.1 C.2.1 dX11_leaksBy_62 (by decide) ?_
          refine lv_idiv C.1 C.2.1 dX11_leaksBy_63 (by decide) ?_
          refine lv_iadd C.1 C.2.1 dX11_leaksBy_64 ?_
          refine lv_bipush (v := 20) C.1 C.2.1 dX11_leaksBy_65 (by decide) ?_
          refine lv_iadd C.1 C.2.1 dX11_leaksBy_67 ?_
          refine lv_istore_n (lv' := [(3, .int ((v2 + (v2 / 2)) + 20)), (0, .ref (ad 76)), (1, .int v1), (2, .int v2)]) C.1 C.2.1 dX11_leaksBy_68 rfl hl (by decide) rfl (fun ls hl => ?_)
          refine lv_goto (tgt := 72) C.1 C.2.1 dX11_leaksBy_69 (by decide) ?_
          exact k_X11_leaksBy_J72 C hr hlocks  h (lv_sub hl [1, 2, 0] rfl) S
        · replace h := (if_neg q8).symm.trans h
          have hb9 : (o1).toInt < 1 ∨ 4 < (o1).toInt := by
            have zq3 := tb_ne q3
            have zq6 := tb_ne q6
            have zq7 := tb_ne q7
            have zq8 := tb_ne q8
            rw [show ((1 : Int32)).toInt = 1 from by decide] at zq3
            rw [show ((2 : Int32)).toInt = 2 from by decide] at zq6
            rw [show ((3 : Int32)).toInt = 3 from by decide] at zq7
            rw [show ((4 : Int32)).toInt = 4 from by decide] at zq8
            omega
          refine lv_tableOut (tgt := 72) C.1 C.2.1 dX11_leaksBy_8 hb9 (by decide) ?_
          exact k_X11_leaksBy_J72 C hr hlocks  h (lv_sub hl [1, 2, 0] rfl) S
set_option maxHeartbeats 4000000 in
set_option maxRecDepth 100000 in
theorem k_X11_takesBy_J29 {p : Program} {l : Launch} {e : Env} {s : State} {m : MethodId} {args : Array Value} {below : List Frame} {meth : Method} {c : Code} {D : va_G} {ad sx : Nat → Nat} {ca : Nat → ClassId} (C : Cx D ad sx ca p s m c args RX11 cX11_takesBy 5) (hr : meth.sig.returnType = (some .int)) (hlocks : meth.locks = false) {w : Wd} {v3 : Int32} {v100 : Int32}  {rv : Int32} (h : f_X11_takesBy_J29 v3 v100 w = some rv) {ls : Array Slot} {H : Heap} {locs : List Loc} (hl : lv_has ls 5 [(3, .int v3)]) (S : St D ad ca s w H locs) : W p l e (RM 1 22) s m args below meth c H locs 0 0 (MQ below (Qi D ad ca rv w) args s 0 0 (Aad ad)) (F0 m 29 ls [.int v100]) := by
  unfold f_X11_takesBy_J29 at h
  refine lv_istore (lv' := [(4, .int v100), (3, .int v3)]) C.1 C.2.1 dX11_takesBy_29 hl (by decide) rfl (fun ls hl => ?_)
  refine lv_iload_n C.1 C.2.1 dX11_takesBy_31 rfl (lv_at hl 1 rfl) ?_
  refine lv_iconst (v := 5) C.1 C.2.1 dX11_takesBy_32 (by decide) ?_
  refine lv_icmp_ne (tgt := 43) C.1 C.2.1 dX11_takesBy_33 (by decide) (fun q5 => ?_) (fun q5 => ?_)
  · replace h := (if_neg q5).symm.trans h
    refine lv_iload C.1 C.2.1 dX11_takesBy_43 (lv_at hl 0 rfl) ?_
    have h9 := Option.some.inj h
    subst h9
    exact r_iret C S hr hlocks dX11_takesBy_45
  · replace h := (if_pos q5).symm.trans h
    refine lv_iload C.1 C.2.1 dX11_takesBy_36 (lv_at hl 0 rfl) ?_
    refine lv_iconst (v := 1) C.1 C.2.1 dX11_takesBy_38 (by decide) ?_
    refine lv_iadd C.1 C.2.1 dX11_takesBy_39 ?_
    refine lv_goto (tgt := 45) C.1 C.2.1 dX11_takesBy_40 (by decide) ?_
    have h9 := Option.some.inj h
    subst h9
    exact r_iret C S hr hlocks dX11_takesBy_45
set_option maxHeartbeats 4000000 in
set_option maxRecDepth 100000 in
theorem k_X11_takesBy_J19 {p : Program} {l : Launch} {e : Env} {s : State} {m : MethodId} {args : Array Value} {below : List Frame} {meth : Method} {c : Code} {D : va_G} {ad sx : Nat → Nat} {ca : Nat → ClassId} (C : Cx D ad sx ca p s m c args RX11 cX11_takesBy 5) (hr : meth.sig.returnType = (some .int)) (hlocks : meth.locks = false) {w : Wd} {v2 : Int32} {v3 : Int32}  {rv : Int32} (h : f_X11_takesBy_J19 v2 v3 w = some rv) {ls : Array Slot} {H : Heap} {locs : List Loc} (hl : lv_has ls 5 [(2, .int v2), (3, .int v3)]) (S : St D ad ca s w H locs) : W p l e (RM 1 22) s m args below meth c H locs 0 0 (MQ below (Qi D ad ca rv w) args s 0 0 (Aad ad)) (F0 m 19 ls []) := by
  unfold f_X11_takesBy_J19 at h
  refine lv_iload_n C.1 C.2.1 dX11_takesBy_19 rfl (lv_at hl 0 rfl) ?_
  refine lv_iconst (v := 2) C.1 C.2.1 dX11_takesBy_20 (by decide) ?_
  refine lv_icmp_ge (tgt := 28) C.1 C.2.1 dX11_takesBy_21 (by decide) (fun q4 => ?_) (fun q4 => ?_)
  · replace h := (if_pos q4).symm.trans h
    refine lv_iconst (v := 2) C.1 C.2.1 dX11_takesBy_28 (by decide) ?_
    exact k_X11_takesBy_J29 C hr hlocks  h (lv_sub hl [1] rfl) S
  · replace h := (if_neg q4).symm.trans h
    refine lv_iload_n C.1 C.2.1 dX11_takesBy_24 rfl (lv_at hl 0 rfl) ?_
    refine lv_goto (tgt := 29) C.1 C.2.1 dX11_takesBy_25 (by decide) ?_
    exact k_X11_takesBy_J29 C hr hlocks  h (lv_sub hl [1] rfl) S
set_option maxHeartbeats 4000000 in
set_option maxRecDepth 100000 in
theorem k_X11_takesBy {v1 : Int32} {v2 : Int32}  {w : Wd} {rv : Int32} (h : f_X11_takesBy v1 v2 w = some rv) : CI yX11_takesBy cX11_takesBy 5 .int 1 22 (fun ad => [.ref (ad 76), .int v1, .int v2]) w rv w := by
  refine CI.of (by decide) ?_
  intro l D ad sx ca p e s m below meth c C S hr hlocks
  have hl := lv_entry ([.ref (ad 76), .int v1, .int v2]) (n := 5) (Nat.le_of_ble_eq_true rfl)
  rw [lg_entry_eq]
  generalize (lg_sl ([.ref (ad 76), .int v1, .int v2]) ++ List.replicate (5 - (lg_sl ([.ref (ad 76), .int v1, .int v2])).length) Slot.unset).toArray = ls at hl ⊢
  have hl : lv_has ls 5 [(0, .ref (ad 76)), (1, .int v1), (2, .int v2)] := hl
  generalize ha9 : ([.ref (ad 76), .int v1, .int v2] : List Value).toArray = args at C ⊢
  generalize s.heap = H at S ⊢
  generalize ([] : List Loc) = locs at S ⊢
  unfold f_X11_takesBy at h
  refine lv_aload_n C.1 C.2.1 dX11_takesBy_0 rfl (lv_at hl 0 rfl) ?_
  refine lv_iload_n C.1 C.2.1 dX11_takesBy_1 rfl (lv_at hl 1 rfl) ?_
  refine lv_iconst (v := 0) C.1 C.2.1 dX11_takesBy_2 (by decide) ?_
  obtain ⟨o1, e2, h⟩ := Option.bind_eq_some_iff.mp h
  refine r_vi C S hl o_76 cf_11 (k_X11_get e2) b_vb_RX11_101 [.int v1, .int 0] rfl [] rfl rfl (Nat.le_of_ble_eq_true rfl) ⟨Nat.le_of_ble_eq_true rfl, Nat.le_of_ble_eq_true rfl⟩ dX11_takesBy_3 (fun H locs S => ?_)
  refine lv_istore_n (lv' := [(3, .int o1), (0, .ref (ad 76)), (1, .int v1), (2, .int v2)]) C.1 C.2.1 dX11_takesBy_6 rfl hl (by decide) rfl (fun ls hl => ?_)
  refine lv_iload_n C.1 C.2.1 dX11_takesBy_7 rfl (lv_at hl 0 rfl) ?_
  refine lv_iconst (v := 3) C.1 C.2.1 dX11_takesBy_8 (by decide) ?_
  refine lv_icmp_eq (tgt := 19) C.1 C.2.1 dX11_takesBy_9 (by decide) (fun q3 => ?_) (fun q3 => ?_)
  · replace h := (if_pos q3).symm.trans h
    exact k_X11_takesBy_J19 C hr hlocks  h (lv_sub hl [3, 0] rfl) S
  · replace h := (if_neg q3).symm.trans h
    refine lv_iload_n C.1 C.2.1 dX11_takesBy_12 rfl (lv_at hl 0 rfl) ?_
    refine lv_iconst (v := 5) C.1 C.2.1 dX11_takesBy_13 (by decide) ?_
    refine lv_icmp_eq (tgt := 19) C.1 C.2.1 dX11_takesBy_14 (by decide) (fun q6 => ?_) (fun q6 => ?_)
    · replace h := (if_pos q6).symm.trans h
      exact k_X11_takesBy_J19 C hr hlocks  h (lv_sub hl [3, 0] rfl) S
    · replace h := (if_neg q6).symm.trans h
      refine lv_iload_n C.1 C.2.1 dX11_takesBy_17 rfl (lv_at hl 3 rfl) ?_
      have h9 := Option.some.inj h
      subst h9
      exact r_iret C S hr hlocks dX11_takesBy_18
set_option maxHeartbeats 4000000 in
set_option maxRecDepth 100000 in
theorem k_X11_startsWarm_L2 {p : Program} {l : Launch} {e : Env} {s : State} {m : MethodId} {args : Array Value} {below : List Frame} {meth : Method} {c : Code} {D : va_G} {ad sx : Nat → Nat} {ca : Nat → ClassId} (C : Cx D ad sx ca p s m c args RX11 cX11_startsWarm 2) {Q : State → Prop}   : ∀ (n9 : Nat) (z : Int32 × Wd) (o : Int32 × Wd), lp (f_X11_startsWarm_L2) n9 z = some o → (∀ (ls : Array Slot) (H : Heap) (locs : List Loc), lv_has ls 2 [] → St D ad ca s o.2 H locs → W p l e (RM 1 22) s m args below meth c H locs 0 0 Q (F0 m 31 ls [])) → (∀ (ls : Array Slot) (H : Heap) (locs : List Loc), lv_has ls 2 [(0, .ref (ad 76)), (1, .int z.1)] → St D ad ca s z.2 H locs → W p l e (RM 1 22) s m args below meth c H locs 0 0 Q (F0 m 2 ls [])) := by
  refine lp_W (HW := fun (z : Int32 × Wd) => ∀ (ls : Array Slot) (H : Heap) (locs : List Loc), lv_has ls 2 [(0, .ref (ad 76)), (1, .int z.1)] → St D ad ca s z.2 H locs → W p l e (RM 1 22) s m args below meth c H locs 0 0 Q (F0 m 2 ls [])) (XW := fun (o : Int32 × Wd) => ∀ (ls : Array Slot) (H : Heap) (locs : List Loc), lv_has ls 2 [] → St D ad ca s o.2 H locs → W p l e (RM 1 22) s m args below meth c H locs 0 0 Q (F0 m 31 ls [])) ?_
  intro z x h hN hX ls H locs hl S
  unfold f_X11_startsWarm_L2 at h
  refine lv_iload_n C.1 C.2.1 dX11_startsWarm_2 rfl (lv_at hl 1 rfl) ?_
  refine lv_aload_n C.1 C.2.1 dX11_startsWarm_3 rfl (lv_at hl 0 rfl) ?_
  refine r_getr C S o_76 cf_11 0 rfl (by decide) b_fl_RX11_9 dX11_startsWarm_4 ?_
  refine lv_iconst (v := 4) C.1 C.2.1 dX11_startsWarm_7 (by decide) ?_
  refine r_ialdn (j := 4) C S a_77 (by decide) (by decide) dX11_startsWarm_8 ?_
  refine lv_icmp_ge (tgt := 31) C.1 C.2.1 dX11_startsWarm_9 (by decide) (fun q1 => ?_) (fun q1 => ?_)
  · replace h := (if_pos q1).symm.trans h
    exact hX _ (Option.some.inj h).symm _ _ _ (lv_sub hl [] rfl) S
  · replace h := (if_neg q1).symm.trans h
    refine lv_aload_n C.1 C.2.1 dX11_startsWarm_12 rfl (lv_at hl 0 rfl) ?_
    refine r_getr C S o_76 cf_11 13 rfl (by decide) b_fl_RX11_43 dX11_startsWarm_13 ?_
    refine lv_iload_n C.1 C.2.1 dX11_startsWarm_16 rfl (lv_at hl 1 rfl) ?_
    refine lv_aload_n C.1 C.2.1 dX11_startsWarm_17 rfl (lv_at hl 0 rfl) ?_
    refine lv_iload_n C.1 C.2.1 dX11_startsWarm_18 rfl (lv_at hl 1 rfl) ?_
    refine lv_bipush (v := 6) C.1 C.2.1 dX11_startsWarm_19 (by decide) ?_
    obtain ⟨o2, e3, h⟩ := Option.bind_eq_some_iff.mp h
    refine r_vi C S hl o_76 cf_11 (k_X11_get e3) b_vb_RX11_101 [.int z.1, .int 6] rfl [.int z.1, .ref (ad 88)] rfl rfl (Nat.le_of_ble_eq_true rfl) ⟨Nat.le_of_ble_eq_true rfl, Nat.le_of_ble_eq_true rfl⟩ dX11_startsWarm_21 (fun H locs S => ?_)
    obtain ⟨g4, h⟩ := gd_some h
    refine r_iast C S a_88 g4 dX11_startsWarm_24 (fun H locs S => ?_)
    obtain ⟨w5, h, S⟩ := lw_S (P := fun y => St D ad ca s y H locs) h S
    refine lv_iinc (v := z.1 + 1) (lv' := [(1, .int (z.1 + 1)), (0, .ref (ad 76))]) C.1 C.2.1 dX11_startsWarm_25 hl (k := 1) rfl rfl (by decide) rfl (fun ls hl => ?_)
    refine lv_goto (tgt := 2) C.1 C.2.1 dX11_startsWarm_28 (by decide) ?_
    exact hN _ (Option.some.inj h).symm _ _ _ (lv_sub hl [1, 0] rfl) S
set_option maxHeartbeats 4000000 in
set_option maxRecDepth 100000 in
theorem k_X11_startsWarm   {w : Wd} {rv : Wd} (h : f_X11_startsWarm w = some rv) : CV yX11_startsWarm cX11_startsWarm 2 1 22 (fun ad => [.ref (ad 76)]) w rv := by
  refine CV.of (by decide) ?_
  intro l D ad sx ca p e s m below meth c C S hr hlocks
  have hl := lv_entry ([.ref (ad 76)]) (n := 2) (Nat.le_of_ble_eq_true rfl)
  rw [lg_entry_eq]
  generalize (lg_sl ([.ref (ad 76)]) ++ List.replicate (2 - (lg_sl ([.ref (ad 76)])).length) Slot.unset).toArray = ls at hl ⊢
  have hl : lv_has ls 2 [(0, .ref (ad 76))] := hl
  generalize ha9 : ([.ref (ad 76)] : List Value).toArray = args at C ⊢
  generalize s.heap = H at S ⊢
  generalize ([] : List Loc) = locs at S ⊢
  unfold f_X11_startsWarm at h
  refine lv_iconst (v := 0) C.1 C.2.1 dX11_startsWarm_0 (by decide) ?_
  refine lv_istore_n (lv' := [(1, .int 0), (0, .ref (ad 76))]) C.1 C.2.1 dX11_startsWarm_1 rfl hl (by decide) rfl (fun ls hl => ?_)
  obtain ⟨o6, e7, h⟩ := Option.bind_eq_some_iff.mp h
  refine k_X11_startsWarm_L2 C  FU _ _ e7 (fun ls H locs hl S => ?_) ls H locs (lv_sub hl [1, 0] rfl) S
  have h9 := Option.some.inj h
  subst h9
  exact r_vret C S hr hlocks dX11_startsWarm_31
set_option maxHeartbeats 4000000 in
set_option maxRecDepth 100000 in
theorem k_X11_weight {v1 : Int32}  {w : Wd} {rv : Int32} (h : f_X11_weight v1 w = some rv) : CI yX11_weight cX11_weight 3 .int 2 46 (fun ad => [.ref (ad 76), .int v1]) w rv w := by
  refine CI.of (by decide) ?_
  intro l D ad sx ca p e s m below meth c C S hr hlocks
  have hl := lv_entry ([.ref (ad 76), .int v1]) (n := 3) (Nat.le_of_ble_eq_true rfl)
  rw [lg_entry_eq]
  generalize (lg_sl ([.ref (ad 76), .int v1]) ++ List.replicate (3 - (lg_sl ([.ref (ad 76), .int v1])).length) Slot.unset).toArray = ls at hl ⊢
  have hl : lv_has ls 3 [(0, .ref (ad 76)), (1, .int v1)] := hl
  generalize ha9 : ([.ref (ad 76), .int v1] : List Value).toArray = args at C ⊢
  generalize s.heap = H at S ⊢
  generalize ([] : List Loc) = locs at S ⊢
  unfold f_X11_weight at h
  refine lv_bipush (v := 10) C.1 C.2.1 dX11_weight_0 (by decide) ?_
  refine lv_aload_n C.1 C.2.1 dX11_weight_2 rfl (lv_at hl 0 rfl) ?_
  refine lv_iload_n C.1 C.2.1 dX11_weight_3 rfl (lv_at hl 1 rfl) ?_
  refine lv_aload_n C.1 C.2.1 dX11_weight_4 rfl (lv_at hl 0 rfl) ?_
  refine r_getr C S o_76 cf_11 10 rfl (by decide) b_fl_RX11_34 dX11_weight_5 ?_
  refine lv_iload_n C.1 C.2.1 dX11_weight_8 rfl (lv_at hl 1 rfl) ?_
  obtain ⟨g1, h⟩ := gd_some h
  refine r_iald C S a_85 g1 dX11_weight_9 ?_
  obtain ⟨o2, e3, h⟩ := Option.bind_eq_some_iff.mp h
  refine r_vi C S hl o_76 cf_11 (k_X11_takesBy e3) b_vb_RX11_129 [.int v1, .int (w.1 85 v1.toNatClampNeg)] rfl [.int 10] rfl rfl (Nat.le_of_ble_eq_true rfl) ⟨Nat.le_of_ble_eq_true rfl, Nat.le_of_ble_eq_true rfl⟩ dX11_weight_10 (fun H locs S => ?_)
  refine lv_imul C.1 C.2.1 dX11_weight_13 ?_
  refine lv_iconst (v := 2) C.1 C.2.1 dX11_weight_14 (by decide) ?_
  refine lv_aload_n C.1 C.2.1 dX11_weight_15 rfl (lv_at hl 0 rfl) ?_
  refine r_getr C S o_76 cf_11 9 rfl (by decide) b_fl_RX11_31 dX11_weight_16 ?_
  refine lv_iload_n C.1 C.2.1 dX11_weight_19 rfl (lv_at hl 1 rfl) ?_
  obtain ⟨g4, h⟩ := gd_some h
  refine r_iald C S a_84 g4 dX11_weight_20 ?_
  refine lv_imul C.1 C.2.1 dX11_weight_21 ?_
  refine lv_isub C.1 C.2.1 dX11_weight_22 ?_
  refine lv_istore_n (lv' := [(2, .int ((10 * o2) - (2 * (w.1 84 v1.toNatClampNeg)))), (0, .ref (ad 76)), (1, .int v1)]) C.1 C.2.1 dX11_weight_23 rfl hl (by decide) rfl (fun ls hl => ?_)
  refine lv_iload_n C.1 C.2.1 dX11_weight_24 rfl (lv_at hl 0 rfl) ?_
  refine lv_if_ge (tgt := 32) C.1 C.2.1 dX11_weight_25 (by decide) (fun q5 => ?_) (fun q5 => ?_)
  · replace h := (if_pos q5).symm.trans h
    refine lv_iload_n C.1 C.2.1 dX11_weight_32 rfl (lv_at hl 0 rfl) ?_
    have h9 := Option.some.inj h
    subst h9
    exact r_iret C S hr hlocks dX11_weight_33
  · replace h := (if_neg q5).symm.trans h
    refine lv_iconst (v := 0) C.1 C.2.1 dX11_weight_28 (by decide) ?_
    refine lv_goto (tgt := 33) C.1 C.2.1 dX11_weight_29 (by decide) ?_
    have h9 := Option.some.inj h
    subst h9
    exact r_iret C S hr hlocks dX11_weight_33
set_option maxHeartbeats 4000000 in
set_option maxRecDepth 100000 in
theorem k_X11_findFlows_L4 {p : Program} {l : Launch} {e : Env} {s : State} {m : MethodId} {args : Array Value} {below : List Frame} {meth : Method} {c : Code} {D : va_G} {ad sx : Nat → Nat} {ca : Nat → ClassId} (C : Cx D ad sx ca p s m c args RX11 cX11_findFlows 3) {Q : State → Prop}   : ∀ (n9 : Nat) (z : Int32 × Int32 × Wd) (o : Int32 × Int32 × Wd), lp (f_X11_findFlows_L4) n9 z = some o → (∀ (ls : Array Slot) (H : Heap) (locs : List Loc), lv_has ls 3 [(0, .ref (ad 76)), (1, .int o.1)] → St D ad ca s o.2.2 H locs → W p l e (RM 3 68) s m args below meth c H locs 0 0 Q (F0 m 40 ls [])) → (∀ (ls : Array Slot) (H : Heap) (locs : List Loc), lv_has ls 3 [(0, .ref (ad 76)), (1, .int z.1), (2, .int z.2.1)] → St D ad ca s z.2.2 H locs → W p l e (RM 3 68) s m args below meth c H locs 0 0 Q (F0 m 4 ls [])) := by
  refine lp_W (HW := fun (z : Int32 × Int32 × Wd) => ∀ (ls : Array Slot) (H : Heap) (locs : List Loc), lv_has ls 3 [(0, .ref (ad 76)), (1, .int z.1), (2, .int z.2.1)] → St D ad ca s z.2.2 H locs → W p l e (RM 3 68) s m args below meth c H locs 0 0 Q (F0 m 4 ls [])) (XW := fun (o : Int32 × Int32 × Wd) => ∀ (ls : Array Slot) (H : Heap) (locs : List Loc), lv_has ls 3 [(0, .ref (ad 76)), (1, .int o.1)] → St D ad ca s o.2.2 H locs → W p l e (RM 3 68) s m args below meth c H locs 0 0 Q (F0 m 40 ls [])) ?_
  intro z x h hN hX ls H locs hl S
  unfold f_X11_findFlows_L4 at h
  refine lv_iload_n C.1 C.2.1 dX11_findFlows_4 rfl (lv_at hl 2 rfl) ?_
  refine lv_aload_n C.1 C.2.1 dX11_findFlows_5 rfl (lv_at hl 0 rfl) ?_
  refine r_getr C S o_76 cf_11 0 rfl (by decide) b_fl_RX11_9 dX11_findFlows_6 ?_
  refine lv_iconst (v := 4) C.1 C.2.1 dX11_findFlows_9 (by decide) ?_
  refine r_ialdn (j := 4) C S a_77 (by decide) (by decide) dX11_findFlows_10 ?_
  refine lv_icmp_ge (tgt := 40) C.1 C.2.1 dX11_findFlows_11 (by decide) (fun q1 => ?_) (fun q1 => ?_)
  · replace h := (if_pos q1).symm.trans h
    exact hX _ (Option.some.inj h).symm _ _ _ (lv_sub hl [0, 1] rfl) S
  · replace h := (if_neg q1).symm.trans h
    refine lv_aload_n C.1 C.2.1 dX11_findFlows_14 rfl (lv_at hl 0 rfl) ?_
    refine r_getr C S o_76 cf_11 11 rfl (by decide) b_fl_RX11_37 dX11_findFlows_15 ?_
    refine lv_iload_n C.1 C.2.1 dX11_findFlows_18 rfl (lv_at hl 2 rfl) ?_
    refine lv_aload_n C.1 C.2.1 dX11_findFlows_19 rfl (lv_at hl 0 rfl) ?_
    refine lv_iload_n C.1 C.2.1 dX11_findFlows_20 rfl (lv_at hl 2 rfl) ?_
    obtain ⟨o2, e3, h⟩ := Option.bind_eq_some_iff.mp h
    refine r_vi C S hl o_76 cf_11 (k_X11_weight e3) b_vb_RX11_132 [.int z.2.1] rfl [.int z.2.1, .ref (ad 86)] rfl rfl (Nat.le_of_ble_eq_true rfl) ⟨Nat.le_of_ble_eq_true rfl, Nat.le_of_ble_eq_true rfl⟩ dX11_findFlows_21 (fun H locs S => ?_)
    obtain ⟨g4, h⟩ := gd_some h
    refine r_iast C S a_86 g4 dX11_findFlows_24 (fun H locs S => ?_)
    obtain ⟨w5, h, S⟩ := lw_S (P := fun y => St D ad ca s y H locs) h S
    refine lv_iload_n C.1 C.2.1 dX11_findFlows_25 rfl (lv_at hl 1 rfl) ?_
    refine lv_aload_n C.1 C.2.1 dX11_findFlows_26 rfl (lv_at hl 0 rfl) ?_
    refine r_getr C S o_76 cf_11 11 rfl (by decide) b_fl_RX11_37 dX11_findFlows_27 ?_
    refine lv_iload_n C.1 C.2.1 dX11_findFlows_30 rfl (lv_at hl 2 rfl) ?_
    obtain ⟨g6, h⟩ := gd_some h
    refine r_iald C S a_86 g6 dX11_findFlows_31 ?_
    refine lv_iadd C.1 C.2.1 dX11_findFlows_32 ?_
    refine lv_istore_n (lv' := [(1, .int (z.1 + (w5.1 86 z.2.1.toNatClampNeg))), (0, .ref (ad 76)), (2, .int z.2.1)]) C.1 C.2.1 dX11_findFlows_33 rfl hl (by decide) rfl (fun ls hl => ?_)
    refine lv_iinc (v := z.2.1 + 1) (lv' := [(2, .int (z.2.1 + 1)), (1, .int (z.1 + (w5.1 86 z.2.1.toNatClampNeg))), (0, .ref (ad 76))]) C.1 C.2.1 dX11_findFlows_34 hl (k := 2) rfl rfl (by decide) rfl (fun ls hl => ?_)
    refine lv_goto (tgt := 4) C.1 C.2.1 dX11_findFlows_37 (by decide) ?_
    exact hN _ (Option.some.inj h).symm _ _ _ (lv_sub hl [2, 1, 0] rfl) S
set_option maxHeartbeats 4000000 in
set_option maxRecDepth 100000 in
theorem k_X11_findFlows_L42 {p : Program} {l : Launch} {e : Env} {s : State} {m : MethodId} {args : Array Value} {below : List Frame} {meth : Method} {c : Code} {D : va_G} {ad sx : Nat → Nat} {ca : Nat → ClassId} (C : Cx D ad sx ca p s m c args RX11 cX11_findFlows 3) {Q : State → Prop} {v1 : Int32}  : ∀ (n9 : Nat) (z : Int32 × Wd) (o : Int32 × Wd), lp (f_X11_findFlows_L42 v1) n9 z = some o → (∀ (ls : Array Slot) (H : Heap) (locs : List Loc), lv_has ls 3 [] → St D ad ca s o.2 H locs → W p l e (RM 3 68) s m args below meth c H locs 0 0 Q (F0 m 87 ls [])) → (∀ (ls : Array Slot) (H : Heap) (locs : List Loc), lv_has ls 3 [(0, .ref (ad 76)), (1, .int v1), (2, .int z.1)] → St D ad ca s z.2 H locs → W p l e (RM 3 68) s m args below meth c H locs 0 0 Q (F0 m 42 ls [])) := by
  refine lp_W (HW := fun (z : Int32 × Wd) => ∀ (ls : Array Slot) (H : Heap) (locs : List Loc), lv_has ls 3 [(0, .ref (ad 76)), (1, .int v1), (2, .int z.1)] → St D ad ca s z.2 H locs → W p l e (RM 3 68) s m args below meth c H locs 0 0 Q (F0 m 42 ls [])) (XW := fun (o : Int32 × Wd) => ∀ (ls : Array Slot) (H : Heap) (locs : List Loc), lv_has ls 3 [] → St D ad ca s o.2 H locs → W p l e (RM 3 68) s m args below meth c H locs 0 0 Q (F0 m 87 ls [])) ?_
  intro z x h hN hX ls H locs hl S
  unfold f_X11_findFlows_L42 at h
  refine lv_iload_n C.1 C.2.1 dX11_findFlows_42 rfl (lv_at hl 2 rfl) ?_
  refine lv_aload_n C.1 C.2.1 dX11_findFlows_43 rfl (lv_at hl 0 rfl) ?_
  refine r_getr C S o_76 cf_11 0 rfl (by decide) b_fl_RX11_9 dX11_findFlows_44 ?_
  refine lv_iconst (v := 4) C.1 C.2.1 dX11_findFlows_47 (by decide) ?_
  refine r_ialdn (j := 4) C S a_77 (by decide) (by decide) dX11_findFlows_48 ?_
  refine lv_icmp_ge (tgt := 87) C.1 C.2.1 dX11_findFlows_49 (by decide) (fun q9 => ?_) (fun q9 => ?_)
  · replace h := (if_pos q9).symm.trans h
    exact hX _ (Option.some.inj h).symm _ _ _ (lv_sub hl [] rfl) S
  · replace h := (if_neg q9).symm.trans h
    refine lv_aload_n C.1 C.2.1 dX11_findFlows_52 rfl (lv_at hl 0 rfl) ?_
    refine r_getr C S o_76 cf_11 11 rfl (by decide) b_fl_RX11_37 dX11_findFlows_53 ?_
    refine lv_iload_n C.1 C.2.1 dX11_findFlows_56 rfl (lv_at hl 2 rfl) ?_
    refine lv_iload_n C.1 C.2.1 dX11_findFlows_57 rfl (lv_at hl 1 rfl) ?_
    refine lv_if_ne (tgt := 65) C.1 C.2.1 dX11_findFlows_58 (by decide) (fun q10 => ?_) (fun q10 => ?_)
    · replace h := (if_neg q10).symm.trans h
      refine lv_aload_n C.1 C.2.1 dX11_findFlows_65 rfl (lv_at hl 0 rfl) ?_
      refine r_getr C S o_76 cf_11 0 rfl (by decide) b_fl_RX11_9 dX11_findFlows_66 ?_
      refine lv_iconst (v := 2) C.1 C.2.1 dX11_findFlows_69 (by decide) ?_
      refine r_ialdn (j := 2) C S a_77 (by decide) (by decide) dX11_findFlows_70 ?_
      refine lv_aload_n C.1 C.2.1 dX11_findFlows_71 rfl (lv_at hl 0 rfl) ?_
      refine r_getr C S o_76 cf_11 11 rfl (by decide) b_fl_RX11_37 dX11_findFlows_72 ?_
      refine lv_iload_n C.1 C.2.1 dX11_findFlows_75 rfl (lv_at hl 2 rfl) ?_
      obtain ⟨g11, h⟩ := gd_some h
      refine r_iald C S a_86 g11 dX11_findFlows_76 ?_
      refine lv_imul C.1 C.2.1 dX11_findFlows_77 ?_
      refine lv_iload_n C.1 C.2.1 dX11_findFlows_78 rfl (lv_at hl 1 rfl) ?_
      obtain ⟨g12, h⟩ := gd_some h
      refine lv_idiv C.1 C.2.1 dX11_findFlows_79 (nz_ne g12) ?_
      obtain ⟨g13, h⟩ := gd_some h
      refine r_iast C S a_86 g13 dX11_findFlows_80 (fun H locs S => ?_)
      obtain ⟨w14, h, S⟩ := lw_S (P := fun y => St D ad ca s y H locs) h S
      refine lv_iinc (v := z.1 + 1) (lv' := [(2, .int (z.1 + 1)), (0, .ref (ad 76)), (1, .int v1)]) C.1 C.2.1 dX11_findFlows_81 hl (k := 2) rfl rfl (by decide) rfl (fun ls hl => ?_)
      refine lv_goto (tgt := 42) C.1 C.2.1 dX11_findFlows_84 (by decide) ?_
      exact hN _ (Option.some.inj h).symm _ _ _ (lv_sub hl [1, 2, 0] rfl) S
    · replace h := (if_pos q10).symm.trans h
      refine lv_iconst (v := 0) C.1 C.2.1 dX11_findFlows_61 (by decide) ?_
      refine lv_goto (tgt := 80) C.1 C.2.1 dX11_findFlows_62 (by decide) ?_
      obtain ⟨g15, h⟩ := gd_some h
      refine r_iast C S a_86 g15 dX11_findFlows_80 (fun H locs S => ?_)
      obtain ⟨w16, h, S⟩ := lw_S (P := fun y => St D ad ca s y H locs) h S
      refine lv_iinc (v := z.1 + 1) (lv' := [(2, .int (z.1 + 1)), (0, .ref (ad 76)), (1, .int v1)]) C.1 C.2.1 dX11_findFlows_81 hl (k := 2) rfl rfl (by decide) rfl (fun ls hl => ?_)
      refine lv_goto (tgt := 42) C.1 C.2.1 dX11_findFlows_84 (by decide) ?_
      exact hN _ (Option.some.inj h).symm _ _ _ (lv_sub hl [1, 2, 0] rfl) S
set_option maxHeartbeats 4000000 in
set_option maxRecDepth 100000 in
theorem k_X11_findFlows   {w : Wd} {rv : Wd} (h : f_X11_findFlows w = some rv) : CV yX11_findFlows cX11_findFlows 3 3 68 (fun ad => [.ref (ad 76)]) w rv := by
  refine CV.of (by decide) ?_
  intro l D ad sx ca p e s m below meth c C S hr hlocks
  have hl := lv_entry ([.ref (ad 76)]) (n := 3) (Nat.le_of_ble_eq_true rfl)
  rw [lg_entry_eq]
  generalize (lg_sl ([.ref (ad 76)]) ++ List.replicate (3 - (lg_sl ([.ref (ad 76)])).length) Slot.unset).toArray = ls at hl ⊢
  have hl : lv_has ls 3 [(0, .ref (ad 76))] := hl
  generalize ha9 : ([.ref (ad 76)] : List Value).toArray = args at C ⊢
  generalize s.heap = H at S ⊢
  generalize ([] : List Loc) = locs at S ⊢
  unfold f_X11_findFlows at h
  refine lv_iconst (v := 0) C.1 C.2.1 dX11_findFlows_0 (by decide) ?_
  refine lv_istore_n (lv' := [(1, .int 0), (0, .ref (ad 76))]) C.1 C.2.1 dX11_findFlows_1 rfl hl (by decide) rfl (fun ls hl => ?_)
  refine lv_iconst (v := 0) C.1 C.2.1 dX11_findFlows_2 (by decide) ?_
  refine lv_istore_n (lv' := [(2, .int 0), (1, .int 0), (0, .ref (ad 76))]) C.1 C.2.1 dX11_findFlows_3 rfl hl (by decide) rfl (fun ls hl => ?_)
  obtain ⟨o7, e8, h⟩ := Option.bind_eq_some_iff.mp h
  refine k_X11_findFlows_L4 C  FU _ _ e8 (fun ls H locs hl S => ?_) ls H locs (lv_sub hl [2, 1, 0] rfl) S
  refine lv_iconst (v := 0) C.1 C.2.1 dX11_findFlows_40 (by decide) ?_
  refine lv_istore_n (lv' := [(2, .int 0), (0, .ref (ad 76)), (1, .int o7.1)]) C.1 C.2.1 dX11_findFlows_41 rfl hl (by decide) rfl (fun ls hl => ?_)
  obtain ⟨o17, e18, h⟩ := Option.bind_eq_some_iff.mp h
  refine k_X11_findFlows_L42 C  FU _ _ e18 (fun ls H locs hl S => ?_) ls H locs (lv_sub hl [1, 2, 0] rfl) S
  have h9 := Option.some.inj h
  subst h9
  exact r_vret C S hr hlocks dX11_findFlows_87

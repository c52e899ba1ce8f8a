set_option maxHeartbeats 4000000 in
set_option maxRecDepth 100000 in
theorem k_X11_findFew_L93 {p : Program} {l : Launch} {e : Env} {s : State} {m : MethodId} {args : Array Value} {below : List Frame} {meth : Method} {c : Code} {D : va_G} {ad sx : Nat → Nat} {ca : Nat → ClassId} (C : Cx D ad sx ca p s m c args RX11 cX11_findFew 5) (hr : meth.sig.returnType = none) (hlocks : meth.locks = false) {rv : Wd} {v1 : Int32} {v2 : Int32} {v3 : Int32}  : ∀ (n9 : Nat) (z : Int32 × Wd) (o : (Int32 × Wd) ⊕ (Wd)), lp (f_X11_findFew_L93 v1 v2 v3) n9 z = some o → ((∀ x, o = .inl x → ∀ (ls : Array Slot) (H : Heap) (locs : List Loc), lv_has ls 5 [(0, .ref (ad 76)), (1, .int v1), (2, .int v2), (3, .int v3)] → St D ad ca s x.2 H locs → W p l e (RM 6 139) s m args below meth c H locs 0 0 (MQ below (Qv D ad ca rv) args s 0 0 (Aad ad)) (F0 m 137 ls [])) ∧ ∀ y, o = .inr y → y = rv) → (∀ (ls : Array Slot) (H : Heap) (locs : List Loc), lv_has ls 5 [(0, .ref (ad 76)), (1, .int v1), (2, .int v2), (3, .int v3), (4, .int z.1)] → St D ad ca s z.2 H locs → W p l e (RM 6 139) s m args below meth c H locs 0 0 (MQ below (Qv D ad ca rv) args s 0 0 (Aad ad)) (F0 m 93 ls [])) := by
  refine lp_W (HW := fun (z : Int32 × Wd) => ∀ (ls : Array Slot) (H : Heap) (locs : List Loc), lv_has ls 5 [(0, .ref (ad 76)), (1, .int v1), (2, .int v2), (3, .int v3), (4, .int z.1)] → St D ad ca s z.2 H locs → W p l e (RM 6 139) s m args below meth c H locs 0 0 (MQ below (Qv D ad ca rv) args s 0 0 (Aad ad)) (F0 m 93 ls [])) (XW := fun (o : (Int32 × Wd) ⊕ (Wd)) => (∀ x, o = .inl x → ∀ (ls : Array Slot) (H : Heap) (locs : List Loc), lv_has ls 5 [(0, .ref (ad 76)), (1, .int v1), (2, .int v2), (3, .int v3)] → St D ad ca s x.2 H locs → W p l e (RM 6 139) s m args below meth c H locs 0 0 (MQ below (Qv D ad ca rv) args s 0 0 (Aad ad)) (F0 m 137 ls [])) ∧ ∀ y, o = .inr y → y = rv) ?_
  intro z x h hN hX ls H locs hl S
  unfold f_X11_findFew_L93 at h
  refine lv_iload C.1 C.2.1 dX11_findFew_93 (lv_at hl 4 rfl) ?_
  refine lv_iload_n C.1 C.2.1 dX11_findFew_95 rfl (lv_at hl 3 rfl) ?_
  refine lv_icmp_ge (tgt := 137) C.1 C.2.1 dX11_findFew_96 (by decide) (fun q16 => ?_) (fun q16 => ?_)
  · replace h := (if_pos q16).symm.trans h
    exact (hX _ (Option.some.inj h).symm).1 _ rfl _ _ _ (lv_sub hl [0, 1, 2, 3] rfl) S
  · replace h := (if_neg q16).symm.trans h
    refine lv_aload_n C.1 C.2.1 dX11_findFew_99 rfl (lv_at hl 0 rfl) ?_
    refine lv_iload_n C.1 C.2.1 dX11_findFew_100 rfl (lv_at hl 3 rfl) ?_
    refine lv_iconst (v := 4) C.1 C.2.1 dX11_findFew_101 (by decide) ?_
    obtain ⟨o17, e18, h⟩ := Option.bind_eq_some_iff.mp h
    refine r_vi C S hl o_76 cf_11 (k_X11_get e18) b_vb_RX11_101 [.int v3, .int 4] rfl [] rfl rfl (Nat.le_of_ble_eq_true rfl) ⟨Nat.le_of_ble_eq_true rfl, Nat.le_of_ble_eq_true rfl⟩ dX11_findFew_102 (fun H locs S => ?_)
    refine lv_if_ne (tgt := 137) C.1 C.2.1 dX11_findFew_105 (by decide) (fun q19 => ?_) (fun q19 => ?_)
    · replace h := (if_neg q19).symm.trans h
      exact (hX _ (Option.some.inj h).symm).1 _ rfl _ _ _ (lv_sub hl [0, 1, 2, 3] rfl) S
    · replace h := (if_pos q19).symm.trans h
      refine lv_aload_n C.1 C.2.1 dX11_findFew_108 rfl (lv_at hl 0 rfl) ?_
      refine lv_iload C.1 C.2.1 dX11_findFew_109 (lv_at hl 4 rfl) ?_
      refine lv_iconst (v := 4) C.1 C.2.1 dX11_findFew_111 (by decide) ?_
      obtain ⟨o20, e21, h⟩ := Option.bind_eq_some_iff.mp h
      refine r_vi C S hl o_76 cf_11 (k_X11_get e21) b_vb_RX11_101 [.int z.1, .int 4] rfl [] rfl rfl (Nat.le_of_ble_eq_true rfl) ⟨Nat.le_of_ble_eq_true rfl, Nat.le_of_ble_eq_true rfl⟩ dX11_findFew_112 (fun H locs S => ?_)
      refine lv_if_ne (tgt := 131) C.1 C.2.1 dX11_findFew_115 (by decide) (fun q22 => ?_) (fun q22 => ?_)
      · replace h := (if_neg q22).symm.trans h
        refine lv_iinc (v := z.1 + 1) (lv' := [(4, .int (z.1 + 1)), (0, .ref (ad 76)), (1, .int v1), (2, .int v2), (3, .int v3)]) C.1 C.2.1 dX11_findFew_131 hl (k := 4) rfl rfl (by decide) rfl (fun ls hl => ?_)
        refine lv_goto (tgt := 93) C.1 C.2.1 dX11_findFew_134 (by decide) ?_
        exact hN _ (Option.some.inj h).symm _ _ _ (lv_sub hl [1, 2, 3, 4, 0] rfl) S
      · replace h := (if_pos q22).symm.trans h
        refine lv_aload_n C.1 C.2.1 dX11_findFew_118 rfl (lv_at hl 0 rfl) ?_
        refine lv_iload C.1 C.2.1 dX11_findFew_119 (lv_at hl 4 rfl) ?_
        refine lv_iload_n C.1 C.2.1 dX11_findFew_121 rfl (lv_at hl 3 rfl) ?_
        refine lv_iload_n C.1 C.2.1 dX11_findFew_122 rfl (lv_at hl 1 rfl) ?_
        refine lv_iload_n C.1 C.2.1 dX11_findFew_123 rfl (lv_at hl 2 rfl) ?_
        obtain ⟨o23, e24, h⟩ := Option.bind_eq_some_iff.mp h
        refine r_vi C S hl o_76 cf_11 (k_X11_areTurned e24) b_vb_RX11_269 [.int z.1, .int v3, .int v1, .int v2] rfl [] rfl rfl (Nat.le_of_ble_eq_true rfl) ⟨Nat.le_of_ble_eq_true rfl, Nat.le_of_ble_eq_true rfl⟩ dX11_findFew_124 (fun H locs S => ?_)
        refine lv_if_eq (tgt := 131) C.1 C.2.1 dX11_findFew_127 (by decide) (fun q25 => ?_) (fun q25 => ?_)
        · replace h := (if_pos q25).symm.trans h
          refine lv_iinc (v := z.1 + 1) (lv' := [(4, .int (z.1 + 1)), (0, .ref (ad 76)), (1, .int v1), (2, .int v2), (3, .int v3)]) C.1 C.2.1 dX11_findFew_131 hl (k := 4) rfl rfl (by decide) rfl (fun ls hl => ?_)
          refine lv_goto (tgt := 93) C.1 C.2.1 dX11_findFew_134 (by decide) ?_
          exact hN _ (Option.some.inj h).symm _ _ _ (lv_sub hl [1, 2, 3, 4, 0] rfl) S
        · replace h := (if_neg q25).symm.trans h
          have h9 := (hX _ (Option.some.inj h).symm).2 _ rfl
          subst h9
          exact r_vret C S hr hlocks dX11_findFew_130
set_option maxHeartbeats 4000000 in
set_option maxRecDepth 100000 in
theorem k_X11_findFew_L80 {p : Program} {l : Launch} {e : Env} {s : State} {m : MethodId} {args : Array Value} {below : List Frame} {meth : Method} {c : Code} {D : va_G} {ad sx : Nat → Nat} {ca : Nat → ClassId} (C : Cx D ad sx ca p s m c args RX11 cX11_findFew 5) (hr : meth.sig.returnType = none) (hlocks : meth.locks = false) {rv : Wd} {v1 : Int32} {v2 : Int32}  : ∀ (n9 : Nat) (z : Int32 × Wd) (o : (Int32 × Wd) ⊕ (Wd)), lp (f_X11_findFew_L80 v1 v2) n9 z = some o → ((∀ x, o = .inl x → ∀ (ls : Array Slot) (H : Heap) (locs : List Loc), lv_has ls 5 [] → St D ad ca s x.2 H locs → W p l e (RM 6 139) s m args below meth c H locs 0 0 (MQ below (Qv D ad ca rv) args s 0 0 (Aad ad)) (F0 m 143 ls [])) ∧ ∀ y, o = .inr y → y = rv) → (∀ (ls : Array Slot) (H : Heap) (locs : List Loc), lv_has ls 5 [(0, .ref (ad 76)), (1, .int v1), (2, .int v2), (3, .int z.1)] → St D ad ca s z.2 H locs → W p l e (RM 6 139) s m args below meth c H locs 0 0 (MQ below (Qv D ad ca rv) args s 0 0 (Aad ad)) (F0 m 80 ls [])) := by
  refine lp_W (HW := fun (z : Int32 × Wd) => ∀ (ls : Array Slot) (H : Heap) (locs : List Loc), lv_has ls 5 [(0, .ref (ad 76)), (1, .int v1), (2, .int v2), (3, .int z.1)] → St D ad ca s z.2 H locs → W p l e (RM 6 139) s m args below meth c H locs 0 0 (MQ below (Qv D ad ca rv) args s 0 0 (Aad ad)) (F0 m 80 ls [])) (XW := fun (o : (Int32 × Wd) ⊕ (Wd)) => (∀ x, o = .inl x → ∀ (ls : Array Slot) (H : Heap) (locs : List Loc), lv_has ls 5 [] → St D ad ca s x.2 H locs → W p l e (RM 6 139) s m args below meth c H locs 0 0 (MQ below (Qv D ad ca rv) args s 0 0 (Aad ad)) (F0 m 143 ls [])) ∧ ∀ y, o = .inr y → y = rv) ?_
  intro z x h hN hX ls H locs hl S
  unfold f_X11_findFew_L80 at h
  refine lv_iload_n C.1 C.2.1 dX11_findFew_80 rfl (lv_at hl 3 rfl) ?_
  refine lv_aload_n C.1 C.2.1 dX11_findFew_81 rfl (lv_at hl 0 rfl) ?_
  refine r_getr C S o_76 cf_11 0 rfl (by decide) b_fl_RX11_9 dX11_findFew_82 ?_
  refine lv_iconst (v := 4) C.1 C.2.1 dX11_findFew_85 (by decide) ?_
  refine r_ialdn (j := 4) C S a_77 (by decide) (by decide) dX11_findFew_86 ?_
  refine lv_icmp_ge (tgt := 143) C.1 C.2.1 dX11_findFew_87 (by decide) (fun q15 => ?_) (fun q15 => ?_)
  · replace h := (if_pos q15).symm.trans h
    exact (hX _ (Option.some.inj h).symm).1 _ rfl _ _ _ (lv_sub hl [] rfl) S
  · replace h := (if_neg q15).symm.trans h
    refine lv_iconst (v := 0) C.1 C.2.1 dX11_findFew_90 (by decide) ?_
    refine lv_istore (lv' := [(4, .int 0), (0, .ref (ad 76)), (1, .int v1), (2, .int v2), (3, .int z.1)]) C.1 C.2.1 dX11_findFew_91 hl (by decide) rfl (fun ls hl => ?_)
    obtain ⟨o26, e27, h⟩ := Option.bind_eq_some_iff.mp h
    refine k_X11_findFew_L93 C hr hlocks  FU _ _ e27 ⟨fun x28 hx ls H locs hl S => ?_, fun y29 hy => ?_⟩ ls H locs (lv_sub hl [1, 2, 3, 4, 0] rfl) S
    · subst hx
      rw [sm_inl] at h
      refine lv_iinc (v := z.1 + 1) (lv' := [(3, .int (z.1 + 1)), (0, .ref (ad 76)), (1, .int v1), (2, .int v2)]) C.1 C.2.1 dX11_findFew_137 hl (k := 3) rfl rfl (by decide) rfl (fun ls hl => ?_)
      refine lv_goto (tgt := 80) C.1 C.2.1 dX11_findFew_140 (by decide) ?_
      exact hN _ (Option.some.inj h).symm _ _ _ (lv_sub hl [1, 2, 3, 0] rfl) S
    · subst hy
      rw [sm_inr] at h
      exact (hX _ (Option.some.inj h).symm).2 _ rfl
set_option maxHeartbeats 4000000 in
set_option maxRecDepth 100000 in
theorem k_X11_findFew_J58 {p : Program} {l : Launch} {e : Env} {s : State} {m : MethodId} {args : Array Value} {below : List Frame} {meth : Method} {c : Code} {D : va_G} {ad sx : Nat → Nat} {ca : Nat → ClassId} (C : Cx D ad sx ca p s m c args RX11 cX11_findFew 5) (hr : meth.sig.returnType = none) (hlocks : meth.locks = false) {w : Wd} {v1 : Int32} {v2 : Int32} {v101 : Int32}  {rv : Wd} (h : f_X11_findFew_J58 v1 v2 v101 w = some rv) {ls : Array Slot} {H : Heap} {locs : List Loc} (hl : lv_has ls 5 [(0, .ref (ad 76)), (1, .int v1), (2, .int v2)]) (S : St D ad ca s w H locs) : W p l e (RM 6 139) s m args below meth c H locs 0 0 (MQ below (Qv D ad ca rv) args s 0 0 (Aad ad)) (F0 m 58 ls [.int v101, .ref (ad 76)]) := by
  unfold f_X11_findFew_J58 at h
  refine r_put C S o_76 cf_11 33 rfl (by decide) rfl (ni _) b_fl_RX11_245 dX11_findFew_58 (fun H locs S => ?_)
  obtain ⟨w10, h, S⟩ := lw_S (P := fun y => St D ad ca s y H locs) h S
  refine lv_aload_n C.1 C.2.1 dX11_findFew_61 rfl (lv_at hl 0 rfl) ?_
  refine r_geti C S o_76 cf_11 33 rfl (by decide) b_fl_RX11_245 dX11_findFew_62 ?_
  refine lv_if_eq (tgt := 77) C.1 C.2.1 dX11_findFew_65 (by decide) (fun q11 => ?_) (fun q11 => ?_)
  · replace h := (if_pos q11).symm.trans h
    have h9 := Option.some.inj h
    subst h9
    exact r_vret C S hr hlocks dX11_findFew_77
  · replace h := (if_neg q11).symm.trans h
    refine lv_aload_n C.1 C.2.1 dX11_findFew_68 rfl (lv_at hl 0 rfl) ?_
    refine lv_iload_n C.1 C.2.1 dX11_findFew_69 rfl (lv_at hl 1 rfl) ?_
    refine lv_iload_n C.1 C.2.1 dX11_findFew_70 rfl (lv_at hl 2 rfl) ?_
    obtain ⟨o12, e13, h⟩ := Option.bind_eq_some_iff.mp h
    refine r_vi C S hl o_76 cf_11 (k_X11_findOne e13) b_vb_RX11_266 [.int v1, .int v2] rfl [] rfl rfl (Nat.le_of_ble_eq_true rfl) ⟨Nat.le_of_ble_eq_true rfl, Nat.le_of_ble_eq_true rfl⟩ dX11_findFew_71 (fun H locs S => ?_)
    refine lv_if_eq (tgt := 78) C.1 C.2.1 dX11_findFew_74 (by decide) (fun q14 => ?_) (fun q14 => ?_)
    · replace h := (if_pos q14).symm.trans h
      refine lv_iconst (v := 1) C.1 C.2.1 dX11_findFew_78 (by decide) ?_
      refine lv_istore_n (lv' := [(3, .int 1), (0, .ref (ad 76)), (1, .int v1), (2, .int v2)]) C.1 C.2.1 dX11_findFew_79 rfl hl (by decide) rfl (fun ls hl => ?_)
      obtain ⟨o30, e31, h⟩ := Option.bind_eq_some_iff.mp h
      refine k_X11_findFew_L80 C hr hlocks  FU _ _ e31 ⟨fun x32 hx ls H locs hl S => ?_, fun y33 hy => ?_⟩ ls H locs (lv_sub hl [1, 2, 3, 0] rfl) S
      · subst hx
        rw [sm_inl] at h
        have h9 := Option.some.inj h
        subst h9
        exact r_vret C S hr hlocks dX11_findFew_143
      · subst hy
        rw [sm_inr] at h
        exact Option.some.inj h
    · replace h := (if_neg q14).symm.trans h
      have h9 := Option.some.inj h
      subst h9
      exact r_vret C S hr hlocks dX11_findFew_77
set_option maxHeartbeats 4000000 in
set_option maxRecDepth 100000 in
theorem k_X11_findFew_J24 {p : Program} {l : Launch} {e : Env} {s : State} {m : MethodId} {args : Array Value} {below : List Frame} {meth : Method} {c : Code} {D : va_G} {ad sx : Nat → Nat} {ca : Nat → ClassId} (C : Cx D ad sx ca p s m c args RX11 cX11_findFew 5) (hr : meth.sig.returnType = none) (hlocks : meth.locks = false) {w : Wd} {v1 : Int32} {v2 : Int32}  {rv : Wd} (h : f_X11_findFew_J24 v1 v2 w = some rv) {ls : Array Slot} {H : Heap} {locs : List Loc} (hl : lv_has ls 5 [(0, .ref (ad 76)), (1, .int v1), (2, .int v2)]) (S : St D ad ca s w H locs) : W p l e (RM 6 139) s m args below meth c H locs 0 0 (MQ below (Qv D ad ca rv) args s 0 0 (Aad ad)) (F0 m 24 ls []) := by
  unfold f_X11_findFew_J24 at h
  refine lv_aload_n C.1 C.2.1 dX11_findFew_24 rfl (lv_at hl 0 rfl) ?_
  refine lv_iconst (v := 1) C.1 C.2.1 dX11_findFew_25 (by decide) ?_
  refine r_put C S o_76 cf_11 30 rfl (by decide) rfl (zo_nar (by decide)) b_fl_RX11_105 dX11_findFew_26 (fun H locs S => ?_)
  obtain ⟨w2, h, S⟩ := lw_S (P := fun y => St D ad ca s y H locs) h S
  refine lv_aload_n C.1 C.2.1 dX11_findFew_29 rfl (lv_at hl 0 rfl) ?_
  refine lv_iload_n C.1 C.2.1 dX11_findFew_30 rfl (lv_at hl 1 rfl) ?_
  refine r_put C S o_76 cf_11 31 rfl (by decide) rfl (ni _) b_fl_RX11_260 dX11_findFew_31 (fun H locs S => ?_)
  obtain ⟨w3, h, S⟩ := lw_S (P := fun y => St D ad ca s y H locs) h S
  refine lv_aload_n C.1 C.2.1 dX11_findFew_34 rfl (lv_at hl 0 rfl) ?_
  refine lv_iload_n C.1 C.2.1 dX11_findFew_35 rfl (lv_at hl 2 rfl) ?_
  refine r_put C S o_76 cf_11 32 rfl (by decide) rfl (ni _) b_fl_RX11_263 dX11_findFew_36 (fun H locs S => ?_)
  obtain ⟨w4, h, S⟩ := lw_S (P := fun y => St D ad ca s y H locs) h S
  refine lv_aload_n C.1 C.2.1 dX11_findFew_39 rfl (lv_at hl 0 rfl) ?_
  obtain ⟨o5, e6, h⟩ := Option.bind_eq_some_iff.mp h
  refine r_vv C S hl o_76 cf_11 (k_X11_setsAside e6) b_vb_RX11_145 [] rfl [] rfl rfl (Nat.le_of_ble_eq_true rfl) ⟨Nat.le_of_ble_eq_true rfl, Nat.le_of_ble_eq_true rfl⟩ dX11_findFew_40 (fun H locs S => ?_)
  refine lv_aload_n C.1 C.2.1 dX11_findFew_43 rfl (lv_at hl 0 rfl) ?_
  refine lv_aload_n C.1 C.2.1 dX11_findFew_44 rfl (lv_at hl 0 rfl) ?_
  refine lv_iload_n C.1 C.2.1 dX11_findFew_45 rfl (lv_at hl 1 rfl) ?_
  refine lv_iload_n C.1 C.2.1 dX11_findFew_46 rfl (lv_at hl 2 rfl) ?_
  obtain ⟨o7, e8, h⟩ := Option.bind_eq_some_iff.mp h
  refine r_vi C S hl o_76 cf_11 (k_X11_areEven e8) b_vb_RX11_242 [.int v1, .int v2] rfl [.ref (ad 76)] rfl rfl (Nat.le_of_ble_eq_true rfl) ⟨Nat.le_of_ble_eq_true rfl, Nat.le_of_ble_eq_true rfl⟩ dX11_findFew_47 (fun H locs S => ?_)
  refine lv_if_eq (tgt := 57) C.1 C.2.1 dX11_findFew_50 (by decide) (fun q9 => ?_) (fun q9 => ?_)
  · replace h := (if_pos q9).symm.trans h
    refine lv_iconst (v := (-1)) C.1 C.2.1 dX11_findFew_57 (by decide) ?_
    exact k_X11_findFew_J58 C hr hlocks  h (lv_sub hl [0, 1, 2] rfl) S
  · replace h := (if_neg q9).symm.trans h
    refine lv_iconst (v := 0) C.1 C.2.1 dX11_findFew_53 (by decide) ?_
    refine lv_goto (tgt := 58) C.1 C.2.1 dX11_findFew_54 (by decide) ?_
    exact k_X11_findFew_J58 C hr hlocks  h (lv_sub hl [0, 1, 2] rfl) S
set_option maxHeartbeats 4000000 in
set_option maxRecDepth 100000 in
theorem k_X11_findFew {v1 : Int32} {v2 : Int32}  {w : Wd} {rv : Wd} (h : f_X11_findFew v1 v2 w = some rv) : CV yX11_findFew cX11_findFew 5 6 139 (fun ad => [.ref (ad 76), .int v1, .int v2]) w rv := by
  refine CV.of (by decide) ?_
  intro l D ad sx ca p e s m below meth c C S hr hlocks
  have hl := lv_entry ([.ref (ad 76), .int v1, .int v2]) (n := 5) (Nat.le_of_ble_eq_true rfl)
  rw [lg_entry_eq]
  generalize (lg_sl ([.ref (ad 76), .int v1, .int v2]) ++ List.replicate (5 - (lg_sl ([.ref (ad 76), .int v1, .int v2])).length) Slot.unset).toArray = ls at hl ⊢
  have hl : lv_has ls 5 [(0, .ref (ad 76)), (1, .int v1), (2, .int v2)] := hl
  generalize ha9 : ([.ref (ad 76), .int v1, .int v2] : List Value).toArray = args at C ⊢
  generalize s.heap = H at S ⊢
  generalize ([] : List Loc) = locs at S ⊢
  unfold f_X11_findFew at h
  refine lv_aload_n C.1 C.2.1 dX11_findFew_0 rfl (lv_at hl 0 rfl) ?_
  refine r_geti C S o_76 cf_11 30 rfl (by decide) b_fl_RX11_105 dX11_findFew_1 ?_
  refine lv_if_eq (tgt := 24) C.1 C.2.1 dX11_findFew_4 (by decide) (fun q1 => ?_) (fun q1 => ?_)
  · replace h := (if_pos q1).symm.trans h
    exact k_X11_findFew_J24 C hr hlocks  h (lv_sub hl [0, 1, 2] rfl) S
  · replace h := (if_neg q1).symm.trans h
    refine lv_aload_n C.1 C.2.1 dX11_findFew_7 rfl (lv_at hl 0 rfl) ?_
    refine r_geti C S o_76 cf_11 31 rfl (by decide) b_fl_RX11_260 dX11_findFew_8 ?_
    refine lv_iload_n C.1 C.2.1 dX11_findFew_11 rfl (lv_at hl 1 rfl) ?_
    refine lv_icmp_ne (tgt := 24) C.1 C.2.1 dX11_findFew_12 (by decide) (fun q34 => ?_) (fun q34 => ?_)
    · replace h := (if_neg q34).symm.trans h
      exact k_X11_findFew_J24 C hr hlocks  h (lv_sub hl [0, 1, 2] rfl) S
    · replace h := (if_pos q34).symm.trans h
      refine lv_aload_n C.1 C.2.1 dX11_findFew_15 rfl (lv_at hl 0 rfl) ?_
      refine r_geti C S o_76 cf_11 32 rfl (by decide) b_fl_RX11_263 dX11_findFew_16 ?_
      refine lv_iload_n C.1 C.2.1 dX11_findFew_19 rfl (lv_at hl 2 rfl) ?_
      refine lv_icmp_ne (tgt := 24) C.1 C.2.1 dX11_findFew_20 (by decide) (fun q35 => ?_) (fun q35 => ?_)
      · replace h := (if_neg q35).symm.trans h
        exact k_X11_findFew_J24 C hr hlocks  h (lv_sub hl [0, 1, 2] rfl) S
      · replace h := (if_pos q35).symm.trans h
        have h9 := Option.some.inj h
        subst h9
        exact r_vret C S hr hlocks dX11_findFew_23
set_option maxHeartbeats 4000000 in
set_option maxRecDepth 100000 in
theorem k_X11_turnsOf {v1 : Int32} {v2 : Int32}  {w : Wd} {rv : Int32} (h : f_X11_turnsOf v1 v2 w = some rv) : CI yX11_turnsOf cX11_turnsOf 4 .int 1 22 (fun ad => [.ref (ad 76), .int v1, .int v2]) w rv w := by
  refine CI.of (by decide) ?_
  intro l D ad sx ca p e s m below meth c C S hr hlocks
  have hl := lv_entry ([.ref (ad 76), .int v1, .int v2]) (n := 4) (Nat.le_of_ble_eq_true rfl)
  rw [lg_entry_eq]
  generalize (lg_sl ([.ref (ad 76), .int v1, .int v2]) ++ List.replicate (4 - (lg_sl ([.ref (ad 76), .int v1, .int v2])).length) Slot.unset).toArray = ls at hl ⊢
  have hl : lv_has ls 4 [(0, .ref (ad 76)), (1, .int v1), (2, .int v2)] := hl
  generalize ha9 : ([.ref (ad 76), .int v1, .int v2] : List Value).toArray = args at C ⊢
  generalize s.heap = H at S ⊢
  generalize ([] : List Loc) = locs at S ⊢
  unfold f_X11_turnsOf at h
  refine lv_iload_n C.1 C.2.1 dX11_turnsOf_0 rfl (lv_at hl 2 rfl) ?_
  refine lv_aload_n C.1 C.2.1 dX11_turnsOf_1 rfl (lv_at hl 0 rfl) ?_
  refine lv_iload_n C.1 C.2.1 dX11_turnsOf_2 rfl (lv_at hl 1 rfl) ?_
  refine lv_iconst (v := 3) C.1 C.2.1 dX11_turnsOf_3 (by decide) ?_
  obtain ⟨o1, e2, h⟩ := Option.bind_eq_some_iff.mp h
  refine r_vi C S hl o_76 cf_11 (k_X11_get e2) b_vb_RX11_101 [.int v1, .int 3] rfl [.int v2] rfl rfl (Nat.le_of_ble_eq_true rfl) ⟨Nat.le_of_ble_eq_true rfl, Nat.le_of_ble_eq_true rfl⟩ dX11_turnsOf_4 (fun H locs S => ?_)
  refine lv_isub C.1 C.2.1 dX11_turnsOf_7 ?_
  refine lv_istore_n (lv' := [(3, .int (v2 - o1)), (0, .ref (ad 76)), (1, .int v1), (2, .int v2)]) C.1 C.2.1 dX11_turnsOf_8 rfl hl (by decide) rfl (fun ls hl => ?_)
  refine lv_iload_n C.1 C.2.1 dX11_turnsOf_9 rfl (lv_at hl 0 rfl) ?_
  refine lv_if_ge (tgt := 18) C.1 C.2.1 dX11_turnsOf_10 (by decide) (fun q3 => ?_) (fun q3 => ?_)
  · replace h := (if_pos q3).symm.trans h
    refine lv_iload_n C.1 C.2.1 dX11_turnsOf_18 rfl (lv_at hl 0 rfl) ?_
    have h9 := Option.some.inj h
    subst h9
    exact r_iret C S hr hlocks dX11_turnsOf_19
  · replace h := (if_neg q3).symm.trans h
    refine lv_iload_n C.1 C.2.1 dX11_turnsOf_13 rfl (lv_at hl 0 rfl) ?_
    refine lv_ineg C.1 C.2.1 dX11_turnsOf_14 ?_
    refine lv_goto (tgt := 19) C.1 C.2.1 dX11_turnsOf_15 (by decide) ?_
    have h9 := Option.some.inj h
    subst h9
    exact r_iret C S hr hlocks dX11_turnsOf_19
set_option maxHeartbeats 4000000 in
set_option maxRecDepth 100000 in
theorem k_X11_few_J106 {p : Program} {l : Launch} {e : Env} {s : State} {m : MethodId} {args : Array Value} {below : List Frame} {meth : Method} {c : Code} {D : va_G} {ad sx : Nat → Nat} {ca : Nat → ClassId} (C : Cx D ad sx ca p s m c args RX11 cX11_few 4) (hr : meth.sig.returnType = (some .int)) (hlocks : meth.locks = false) {w : Wd} {v100 : Int32}  {rv : Int32 × Wd} (h : f_X11_few_J106 v100 w = some rv) {ls : Array Slot} {H : Heap} {locs : List Loc} (hl : lv_has ls 4 [(0, .ref (ad 76))]) (S : St D ad ca s w H locs) : W p l e (RM 7 163) s m args below meth c H locs 0 0 (MQ below (Qi D ad ca rv.1 rv.2) args s 0 0 (Aad ad)) (F0 m 106 ls [.int v100]) := by
  unfold f_X11_few_J106 at h
  refine lv_aload_n C.1 C.2.1 dX11_few_106 rfl (lv_at hl 0 rfl) ?_
  refine r_geti C S o_76 cf_11 33 rfl (by decide) b_fl_RX11_245 dX11_few_107 ?_
  refine lv_iconst (v := 1) C.1 C.2.1 dX11_few_110 (by decide) ?_
  refine lv_icmp_le (tgt := 123) C.1 C.2.1 dX11_few_111 (by decide) (fun q20 => ?_) (fun q20 => ?_)
  · replace h := (if_pos q20).symm.trans h
    refine lv_iconst (v := 0) C.1 C.2.1 dX11_few_123 (by decide) ?_
    refine lv_ior C.1 C.2.1 dX11_few_124 ?_
    have h9 := Option.some.inj h
    subst h9
    exact r_iret C S hr hlocks dX11_few_125
  · replace h := (if_neg q20).symm.trans h
    refine lv_iconst (v := 1) C.1 C.2.1 dX11_few_114 (by decide) ?_
    refine lv_aload_n C.1 C.2.1 dX11_few_115 rfl (lv_at hl 0 rfl) ?_
    refine r_geti C S o_76 cf_11 35 rfl (by decide) b_fl_RX11_254 dX11_few_116 ?_
    refine lv_ishl C.1 C.2.1 dX11_few_119 ?_
    refine lv_goto (tgt := 124) C.1 C.2.1 dX11_few_120 (by decide) ?_
    refine lv_ior C.1 C.2.1 dX11_few_124 ?_
    have h9 := Option.some.inj h
    subst h9
    exact r_iret C S hr hlocks dX11_few_125
set_option maxHeartbeats 4000000 in
set_option maxRecDepth 100000 in
theorem k_X11_few_J149 {p : Program} {l : Launch} {e : Env} {s : State} {m : MethodId} {args : Array Value} {below : List Frame} {meth : Method} {c : Code} {D : va_G} {ad sx : Nat → Nat} {ca : Nat → ClassId} (C : Cx D ad sx ca p s m c args RX11 cX11_few 4) (hr : meth.sig.returnType = (some .int)) (hlocks : meth.locks = false) {w : Wd} {v100 : Int32}  {rv : Int32 × Wd} (h : f_X11_few_J149 v100 w = some rv) {ls : Array Slot} {H : Heap} {locs : List Loc} (hl : lv_has ls 4 [(0, .ref (ad 76))]) (S : St D ad ca s w H locs) : W p l e (RM 7 163) s m args below meth c H locs 0 0 (MQ below (Qi D ad ca rv.1 rv.2) args s 0 0 (Aad ad)) (F0 m 149 ls [.int v100]) := by
  unfold f_X11_few_J149 at h
  refine lv_aload_n C.1 C.2.1 dX11_few_149 rfl (lv_at hl 0 rfl) ?_
  refine r_geti C S o_76 cf_11 33 rfl (by decide) b_fl_RX11_245 dX11_few_150 ?_
  refine lv_iconst (v := 1) C.1 C.2.1 dX11_few_153 (by decide) ?_
  refine lv_icmp_le (tgt := 172) C.1 C.2.1 dX11_few_154 (by decide) (fun q23 => ?_) (fun q23 => ?_)
  · replace h := (if_pos q23).symm.trans h
    refine lv_iconst (v := 0) C.1 C.2.1 dX11_few_172 (by decide) ?_
    refine lv_iadd C.1 C.2.1 dX11_few_173 ?_
    have h9 := Option.some.inj h
    subst h9
    exact r_iret C S hr hlocks dX11_few_174
  · replace h := (if_neg q23).symm.trans h
    refine lv_aload_n C.1 C.2.1 dX11_few_157 rfl (lv_at hl 0 rfl) ?_
    refine lv_aload_n C.1 C.2.1 dX11_few_158 rfl (lv_at hl 0 rfl) ?_
    refine r_geti C S o_76 cf_11 35 rfl (by decide) b_fl_RX11_254 dX11_few_159 ?_
    refine lv_aload_n C.1 C.2.1 dX11_few_162 rfl (lv_at hl 0 rfl) ?_
    refine r_geti C S o_76 cf_11 37 rfl (by decide) b_fl_RX11_257 dX11_few_163 ?_
    obtain ⟨o24, e25, h⟩ := Option.bind_eq_some_iff.mp h
    refine r_vi C S hl o_76 cf_11 (k_X11_turnsOf e25) b_vb_RX11_277 [.int (w.1 76 35), .int (w.1 76 37)] rfl [.int v100] rfl rfl (Nat.le_of_ble_eq_true rfl) ⟨Nat.le_of_ble_eq_true rfl, Nat.le_of_ble_eq_true rfl⟩ dX11_few_166 (fun H locs S => ?_)
    refine lv_goto (tgt := 173) C.1 C.2.1 dX11_few_169 (by decide) ?_
    refine lv_iadd C.1 C.2.1 dX11_few_173 ?_
    have h9 := Option.some.inj h
    subst h9
    exact r_iret C S hr hlocks dX11_few_174
set_option maxHeartbeats 4000000 in
set_option maxRecDepth 100000 in
theorem k_X11_few {v1 : Int32} {v2 : Int32} {v3 : Int32}  {w : Wd} {rv : Int32 × Wd} (h : f_X11_few v1 v2 v3 w = some rv) : CI yX11_few cX11_few 4 .int 7 163 (fun ad => [.ref (ad 76), .int v1, .int v2, .int v3]) w rv.1 rv.2 := by
  refine CI.of (by decide) ?_
  intro l D ad sx ca p e s m below meth c C S hr hlocks
  have hl := lv_entry ([.ref (ad 76), .int v1, .int v2, .int v3]) (n := 4) (Nat.le_of_ble_eq_true rfl)
  rw [lg_entry_eq]
  generalize (lg_sl ([.ref (ad 76), .int v1, .int v2, .int v3]) ++ List.replicate (4 - (lg_sl ([.ref (ad 76), .int v1, .int v2, .int v3])).length) Slot.unset).toArray = ls at hl ⊢
  have hl : lv_has ls 4 [(0, .ref (ad 76)), (1, .int v1), (2, .int v2), (3, .int v3)] := hl
  generalize ha9 : ([.ref (ad 76), .int v1, .int v2, .int v3] : List Value).toArray = args at C ⊢
  generalize s.heap = H at S ⊢
  generalize ([] : List Loc) = locs at S ⊢
  unfold f_X11_few at h
  refine lv_iload_n C.1 C.2.1 dX11_few_0 rfl (lv_at hl 1 rfl) ?_
  obtain ⟨o1, e2, h⟩ := Option.bind_eq_some_iff.mp h
  refine r_si C S hl (k_X11_areBounds e2) b_sb_RX11_233 [.int v1] rfl [] rfl rfl (Nat.le_of_ble_eq_true rfl) ⟨Nat.le_of_ble_eq_true rfl, Nat.le_of_ble_eq_true rfl⟩ dX11_few_1 (fun H locs S => ?_)
  refine lv_if_eq (tgt := 26) C.1 C.2.1 dX11_few_4 (by decide) (fun q3 => ?_) (fun q3 => ?_)
  · replace h := (if_pos q3).symm.trans h
    refine lv_aload_n C.1 C.2.1 dX11_few_26 rfl (lv_at hl 0 rfl) ?_
    refine r_ldc C (-1000000001) b_cn_RX11_92 dX11_few_27 ?_
    obtain ⟨o4, e5, h⟩ := Option.bind_eq_some_iff.mp h
    refine r_vi C S hl o_76 cf_11 (k_X11_finds e5) b_vb_RX11_109 [.int (-1000000001)] rfl [] rfl rfl (Nat.le_of_ble_eq_true rfl) ⟨Nat.le_of_ble_eq_true rfl, Nat.le_of_ble_eq_true rfl⟩ dX11_few_29 (fun H locs S => ?_)
    have h9 := Option.some.inj h
    subst h9
    exact r_iret C S hr hlocks dX11_few_32
  · replace h := (if_neg q3).symm.trans h
    refine lv_iload_n C.1 C.2.1 dX11_few_7 rfl (lv_at hl 2 rfl) ?_
    refine lv_iconst (v := 1) C.1 C.2.1 dX11_few_8 (by decide) ?_
    refine lv_bipush (v := 8) C.1 C.2.1 dX11_few_9 (by decide) ?_
    obtain ⟨o6, e7, h⟩ := Option.bind_eq_some_iff.mp h
    refine r_si C S hl (k_X11_in e7) b_sb_RX11_97 [.int v2, .int 1, .int 8] rfl [] rfl rfl (Nat.le_of_ble_eq_true rfl) ⟨Nat.le_of_ble_eq_true rfl, Nat.le_of_ble_eq_true rfl⟩ dX11_few_11 (fun H locs S => ?_)
    refine lv_if_eq (tgt := 26) C.1 C.2.1 dX11_few_14 (by decide) (fun q8 => ?_) (fun q8 => ?_)
    · replace h := (if_pos q8).symm.trans h
      refine lv_aload_n C.1 C.2.1 dX11_few_26 rfl (lv_at hl 0 rfl) ?_
      refine r_ldc C (-1000000001) b_cn_RX11_92 dX11_few_27 ?_
      obtain ⟨o9, e10, h⟩ := Option.bind_eq_some_iff.mp h
      refine r_vi C S hl o_76 cf_11 (k_X11_finds e10) b_vb_RX11_109 [.int (-1000000001)] rfl [] rfl rfl (Nat.le_of_ble_eq_true rfl) ⟨Nat.le_of_ble_eq_true rfl, Nat.le_of_ble_eq_true rfl⟩ dX11_few_29 (fun H locs S => ?_)
      have h9 := Option.some.inj h
      subst h9
      exact r_iret C S hr hlocks dX11_few_32
    · replace h := (if_neg q8).symm.trans h
      refine lv_iload_n C.1 C.2.1 dX11_few_17 rfl (lv_at hl 3 rfl) ?_
      refine lv_iconst (v := 0) C.1 C.2.1 dX11_few_18 (by decide) ?_
      refine lv_iconst (v := 4) C.1 C.2.1 dX11_few_19 (by decide) ?_
      obtain ⟨o11, e12, h⟩ := Option.bind_eq_some_iff.mp h
      refine r_si C S hl (k_X11_in e12) b_sb_RX11_97 [.int v3, .int 0, .int 4] rfl [] rfl rfl (Nat.le_of_ble_eq_true rfl) ⟨Nat.le_of_ble_eq_true rfl, Nat.le_of_ble_eq_true rfl⟩ dX11_few_20 (fun H locs S => ?_)
      refine lv_if_ne (tgt := 33) C.1 C.2.1 dX11_few_23 (by decide) (fun q13 => ?_) (fun q13 => ?_)
      · replace h := (if_neg q13).symm.trans h
        refine lv_aload_n C.1 C.2.1 dX11_few_33 rfl (lv_at hl 0 rfl) ?_
        refine lv_iload_n C.1 C.2.1 dX11_few_34 rfl (lv_at hl 1 rfl) ?_
        refine lv_iload_n C.1 C.2.1 dX11_few_35 rfl (lv_at hl 2 rfl) ?_
        obtain ⟨o14, e15, h⟩ := Option.bind_eq_some_iff.mp h
        refine r_vv C S hl o_76 cf_11 (k_X11_findFew e15) b_vb_RX11_273 [.int v1, .int v2] rfl [] rfl rfl (Nat.le_of_ble_eq_true rfl) ⟨Nat.le_of_ble_eq_true rfl, Nat.le_of_ble_eq_true rfl⟩ dX11_few_36 (fun H locs S => ?_)
        refine lv_aload_n C.1 C.2.1 dX11_few_39 rfl (lv_at hl 0 rfl) ?_
        refine r_geti C S o_76 cf_11 33 rfl (by decide) b_fl_RX11_245 dX11_few_40 ?_
        refine lv_if_ge (tgt := 53) C.1 C.2.1 dX11_few_43 (by decide) (fun q16 => ?_) (fun q16 => ?_)
        · replace h := (if_pos q16).symm.trans h
          refine lv_iload_n C.1 C.2.1 dX11_few_53 rfl (lv_at hl 3 rfl) ?_
          by_cases q17 : v3 = 0
          · replace h := (if_pos q17).symm.trans h
            refine lv_tableIn (off := 30) (tgt := 84) C.1 C.2.1 dX11_few_54 (by rw [q17]; decide) (by rw [q17]; decide) (by rw [q17]; rfl) (by decide) ?_
            refine lv_aload_n C.1 C.2.1 dX11_few_84 rfl (lv_at hl 0 rfl) ?_
            refine r_geti C S o_76 cf_11 33 rfl (by decide) b_fl_RX11_245 dX11_few_85 ?_
            have h9 := Option.some.inj h
            subst h9
            exact r_iret C S hr hlocks dX11_few_88
          · replace h := (if_neg q17).symm.trans h
            by_cases q18 : v3 = 1
            · replace h := (if_pos q18).symm.trans h
              refine lv_tableIn (off := 35) (tgt := 89) C.1 C.2.1 dX11_few_54 (by rw [q18]; decide) (by rw [q18]; decide) (by rw [q18]; rfl) (by decide) ?_
              refine lv_aload_n C.1 C.2.1 dX11_few_89 rfl (lv_at hl 0 rfl) ?_
              refine r_geti C S o_76 cf_11 33 rfl (by decide) b_fl_RX11_245 dX11_few_90 ?_
              refine lv_if_le (tgt := 105) C.1 C.2.1 dX11_few_93 (by decide) (fun q19 => ?_) (fun q19 => ?_)
              · replace h := (if_pos q19).symm.trans h
                refine lv_iconst (v := 0) C.1 C.2.1 dX11_few_105 (by decide) ?_
                exact k_X11_few_J106 C hr hlocks  h (lv_sub hl [0] rfl) S
              · replace h := (if_neg q19).symm.trans h
                refine lv_iconst (v := 1) C.1 C.2.1 dX11_few_96 (by decide) ?_
                refine lv_aload_n C.1 C.2.1 dX11_few_97 rfl (lv_at hl 0 rfl) ?_
                refine r_geti C S o_76 cf_11 34 rfl (by decide) b_fl_RX11_248 dX11_few_98 ?_
                refine lv_ishl C.1 C.2.1 dX11_few_101 ?_
                refine lv_goto (tgt := 106) C.1 C.2.1 dX11_few_102 (by decide) ?_
                exact k_X11_few_J106 C hr hlocks  h (lv_sub hl [0] rfl) S
            · replace h := (if_neg q18).symm.trans h
              by_cases q21 : v3 = 2
              · replace h := (if_pos q21).symm.trans h
                refine lv_tableIn (off := 72) (tgt := 126) C.1 C.2.1 dX11_few_54 (by rw [q21]; decide) (by rw [q21]; decide) (by rw [q21]; rfl) (by decide) ?_
                refine lv_aload_n C.1 C.2.1 dX11_few_126 rfl (lv_at hl 0 rfl) ?_
                refine r_geti C S o_76 cf_11 33 rfl (by decide) b_fl_RX11_245 dX11_few_127 ?_
                refine lv_if_le (tgt := 148) C.1 C.2.1 dX11_few_130 (by decide) (fun q22 => ?_) (fun q22 => ?_)
                · replace h := (if_pos q22).symm.trans h
                  refine lv_iconst (v := 0) C.1 C.2.1 dX11_few_148 (by decide) ?_
                  exact k_X11_few_J149 C hr hlocks  h (lv_sub hl [0] rfl) S
                · replace h := (if_neg q22).symm.trans h
                  refine lv_aload_n C.1 C.2.1 dX11_few_133 rfl (lv_at hl 0 rfl) ?_
                  refine lv_aload_n C.1 C.2.1 dX11_few_134 rfl (lv_at hl 0 rfl) ?_
                  refine r_geti C S o_76 cf_11 34 rfl (by decide) b_fl_RX11_248 dX11_few_135 ?_
                  refine lv_aload_n C.1 C.2.1 dX11_few_138 rfl (lv_at hl 0 rfl) ?_
                  refine r_geti C S o_76 cf_11 36 rfl (by decide) b_fl_RX11_251 dX11_few_139 ?_
                  obtain ⟨o26, e27, h⟩ := Option.bind_eq_some_iff.mp h
                  refine r_vi C S hl o_76 cf_11 (k_X11_turnsOf e27) b_vb_RX11_277 [.int (o14.1 76 34), .int (o14.1 76 36)] rfl [] rfl rfl (Nat.le_of_ble_eq_true rfl) ⟨Nat.le_of_ble_eq_true rfl, Nat.le_of_ble_eq_true rfl⟩ dX11_few_142 (fun H locs S => ?_)
                  refine lv_goto (tgt := 149) C.1 C.2.1 dX11_few_145 (by decide) ?_
                  exact k_X11_few_J149 C hr hlocks  h (lv_sub hl [0] rfl) S
              · replace h := (if_neg q21).symm.trans h
                by_cases q28 : v3 = 3
                · replace h := (if_pos q28).symm.trans h
                  refine lv_tableIn (off := 121) (tgt := 175) C.1 C.2.1 dX11_few_54 (by rw [q28]; decide) (by rw [q28]; decide) (by rw [q28]; rfl) (by decide) ?_
                  refine lv_aload_n C.1 C.2.1 dX11_few_175 rfl (lv_at hl 0 rfl) ?_
                  refine r_geti C S o_76 cf_11 33 rfl (by decide) b_fl_RX11_245 dX11_few_176 ?_
                  refine lv_if_le (tgt := 189) C.1 C.2.1 dX11_few_179 (by decide) (fun q29 => ?_) (fun q29 => ?_)
                  · replace h := (if_pos q29).symm.trans h
                    refine lv_iconst (v := (-1)) C.1 C.2.1 dX11_few_189 (by decide) ?_
                    have h9 := Option.some.inj h
                    subst h9
                    exact r_iret C S hr hlocks dX11_few_190
                  · replace h := (if_neg q29).symm.trans h
                    refine lv_aload_n C.1 C.2.1 dX11_few_182 rfl (lv_at hl 0 rfl) ?_
                    refine r_geti C S o_76 cf_11 36 rfl (by decide) b_fl_RX11_251 dX11_few_183 ?_
                    refine lv_goto (tgt := 190) C.1 C.2.1 dX11_few_186 (by decide) ?_
                    have h9 := Option.some.inj h
                    subst h9
                    exact r_iret C S hr hlocks dX11_few_190
                · replace h := (if_neg q28).symm.trans h
                  have hb9 : (v3).toInt < 0 ∨ 3 < (v3).toInt := by
                    have zq17 := tb_ne q17
                    have zq18 := tb_ne q18
                    have zq21 := tb_ne q21
                    have zq28 := tb_ne q28
                    rw [show ((0 : Int32)).toInt = 0 from by decide] at zq17
                    rw [show ((1 : Int32)).toInt = 1 from by decide] at zq18
                    rw [show ((2 : Int32)).toInt = 2 from by decide] at zq21
                    rw [show ((3 : Int32)).toInt = 3 from by decide] at zq28
                    omega
                  refine lv_tableOut (tgt := 191) C.1 C.2.1 dX11_few_54 hb9 (by decide) ?_
                  refine lv_aload_n C.1 C.2.1 dX11_few_191 rfl (lv_at hl 0 rfl) ?_
                  refine r_geti C S o_76 cf_11 33 rfl (by decide) b_fl_RX11_245 dX11_few_192 ?_
                  refine lv_iconst (v := 1) C.1 C.2.1 dX11_few_195 (by decide) ?_
                  refine lv_icmp_le (tgt := 206) C.1 C.2.1 dX11_few_196 (by decide) (fun q30 => ?_) (fun q30 => ?_)
                  · replace h := (if_pos q30).symm.trans h
                    refine lv_iconst (v := (-1)) C.1 C.2.1 dX11_few_206 (by decide) ?_
                    have h9 := Option.some.inj h
                    subst h9
                    exact r_iret C S hr hlocks dX11_few_207
                  · replace h := (if_neg q30).symm.trans h
                    refine lv_aload_n C.1 C.2.1 dX11_few_199 rfl (lv_at hl 0 rfl) ?_
                    refine r_geti C S o_76 cf_11 37 rfl (by decide) b_fl_RX11_257 dX11_few_200 ?_
                    refine lv_goto (tgt := 207) C.1 C.2.1 dX11_few_203 (by decide) ?_
                    have h9 := Option.some.inj h
                    subst h9
                    exact r_iret C S hr hlocks dX11_few_207
        · replace h := (if_neg q16).symm.trans h
          refine lv_aload_n C.1 C.2.1 dX11_few_46 rfl (lv_at hl 0 rfl) ?_
          refine r_ldc C (-1000000004) b_cn_RX11_225 dX11_few_47 ?_
          obtain ⟨o31, e32, h⟩ := Option.bind_eq_some_iff.mp h
          refine r_vi C S hl o_76 cf_11 (k_X11_finds e32) b_vb_RX11_109 [.int (-1000000004)] rfl [] rfl rfl (Nat.le_of_ble_eq_true rfl) ⟨Nat.le_of_ble_eq_true rfl, Nat.le_of_ble_eq_true rfl⟩ dX11_few_49 (fun H locs S => ?_)
          have h9 := Option.some.inj h
          subst h9
          exact r_iret C S hr hlocks dX11_few_52
      · replace h := (if_pos q13).symm.trans h
        refine lv_aload_n C.1 C.2.1 dX11_few_26 rfl (lv_at hl 0 rfl) ?_
        refine r_ldc C (-1000000001) b_cn_RX11_92 dX11_few_27 ?_
        obtain ⟨o33, e34, h⟩ := Option.bind_eq_some_iff.mp h
        refine r_vi C S hl o_76 cf_11 (k_X11_finds e34) b_vb_RX11_109 [.int (-1000000001)] rfl [] rfl rfl (Nat.le_of_ble_eq_true rfl) ⟨Nat.le_of_ble_eq_true rfl, Nat.le_of_ble_eq_true rfl⟩ dX11_few_29 (fun H locs S => ?_)
        have h9 := Option.some.inj h
        subst h9
        exact r_iret C S hr hlocks dX11_few_32
set_option maxHeartbeats 4000000 in
set_option maxRecDepth 100000 in
theorem k_X11_setback {v1 : Int32} {v2 : Int32}  {w : Wd} {rv : Int32 × Wd} (h : f_X11_setback v1 v2 w = some rv) : CI yX11_setback cX11_setback 4 .int 5 114 (fun ad => [.ref (ad 76), .int v1, .int v2]) w rv.1 rv.2 := by
  refine CI.of (by decide) ?_
  intro l D ad sx ca p e s m below meth c C S hr hlocks
  have hl := lv_entry ([.ref (ad 76), .int v1, .int v2]) (n := 4) (Nat.le_of_ble_eq_true rfl)
  rw [lg_entry_eq]
  generalize (lg_sl ([.ref (ad 76), .int v1, .int v2]) ++ List.replicate (4 - (lg_sl ([.ref (ad 76), .int v1, .int v2])).length) Slot.unset).toArray = ls at hl ⊢
  have hl : lv_has ls 4 [(0, .ref (ad 76)), (1, .int v1), (2, .int v2)] := hl
  generalize ha9 : ([.ref (ad 76), .int v1, .int v2] : List Value).toArray = args at C ⊢
  generalize s.heap = H at S ⊢
  generalize ([] : List Loc) = locs at S ⊢
  unfold f_X11_setback at h
  refine lv_iload_n C.1 C.2.1 dX11_setback_0 rfl (lv_at hl 1 rfl) ?_
  refine lv_iconst (v := 0) C.1 C.2.1 dX11_setback_1 (by decide) ?_
  refine lv_sipush (v := 900) C.1 C.2.1 dX11_setback_2 (by decide) ?_
  obtain ⟨o1, e2, h⟩ := Option.bind_eq_some_iff.mp h
  refine r_si C S hl (k_X11_in e2) b_sb_RX11_97 [.int v1, .int 0, .int 900] rfl [] rfl rfl (Nat.le_of_ble_eq_true rfl) ⟨Nat.le_of_ble_eq_true rfl, Nat.le_of_ble_eq_true rfl⟩ dX11_setback_5 (fun H locs S => ?_)
  refine lv_if_eq (tgt := 21) C.1 C.2.1 dX11_setback_8 (by decide) (fun q3 => ?_) (fun q3 => ?_)
  · replace h := (if_pos q3).symm.trans h
    refine lv_aload_n C.1 C.2.1 dX11_setback_21 rfl (lv_at hl 0 rfl) ?_
    refine r_ldc C (-1000000001) b_cn_RX11_92 dX11_setback_22 ?_
    obtain ⟨o4, e5, h⟩ := Option.bind_eq_some_iff.mp h
    refine r_vi C S hl o_76 cf_11 (k_X11_finds e5) b_vb_RX11_109 [.int (-1000000001)] rfl [] rfl rfl (Nat.le_of_ble_eq_true rfl) ⟨Nat.le_of_ble_eq_true rfl, Nat.le_of_ble_eq_true rfl⟩ dX11_setback_24 (fun H locs S => ?_)
    have h9 := Option.some.inj h
    subst h9
    exact r_iret C S hr hlocks dX11_setback_27
  · replace h := (if_neg q3).symm.trans h
    refine lv_iload_n C.1 C.2.1 dX11_setback_11 rfl (lv_at hl 2 rfl) ?_
    refine lv_iconst (v := 1) C.1 C.2.1 dX11_setback_12 (by decide) ?_
    refine lv_bipush (v := 50) C.1 C.2.1 dX11_setback_13 (by decide) ?_
    obtain ⟨o6, e7, h⟩ := Option.bind_eq_some_iff.mp h
    refine r_si C S hl (k_X11_in e7) b_sb_RX11_97 [.int v2, .int 1, .int 50] rfl [] rfl rfl (Nat.le_of_ble_eq_true rfl) ⟨Nat.le_of_ble_eq_true rfl, Nat.le_of_ble_eq_true rfl⟩ dX11_setback_15 (fun H locs S => ?_)
    refine lv_if_ne (tgt := 28) C.1 C.2.1 dX11_setback_18 (by decide) (fun q8 => ?_) (fun q8 => ?_)
    · replace h := (if_neg q8).symm.trans h
      refine lv_aload_n C.1 C.2.1 dX11_setback_28 rfl (lv_at hl 0 rfl) ?_
      obtain ⟨o9, e10, h⟩ := Option.bind_eq_some_iff.mp h
      refine r_vv C S hl o_76 cf_11 (k_X11_setsAside e10) b_vb_RX11_145 [] rfl [] rfl rfl (Nat.le_of_ble_eq_true rfl) ⟨Nat.le_of_ble_eq_true rfl, Nat.le_of_ble_eq_true rfl⟩ dX11_setback_29 (fun H locs S => ?_)
      refine lv_aload_n C.1 C.2.1 dX11_setback_32 rfl (lv_at hl 0 rfl) ?_
      refine lv_aload_n C.1 C.2.1 dX11_setback_33 rfl (lv_at hl 0 rfl) ?_
      refine r_getr C S o_76 cf_11 0 rfl (by decide) b_fl_RX11_9 dX11_setback_34 ?_
      refine lv_iconst (v := 3) C.1 C.2.1 dX11_setback_37 (by decide) ?_
      refine r_ialdn (j := 3) C S a_77 (by decide) (by decide) dX11_setback_38 ?_
      refine lv_iload_n C.1 C.2.1 dX11_setback_39 rfl (lv_at hl 2 rfl) ?_
      obtain ⟨o11, e12, h⟩ := Option.bind_eq_some_iff.mp h
      refine r_vi C S hl o_76 cf_11 (k_X11_goesAll e12) b_vb_RX11_236 [.int (o9.1 77 3), .int v2] rfl [] rfl rfl (Nat.le_of_ble_eq_true rfl) ⟨Nat.le_of_ble_eq_true rfl, Nat.le_of_ble_eq_true rfl⟩ dX11_setback_40 (fun H locs S => ?_)
      refine lv_istore_n (lv' := [(3, .int o11.1), (0, .ref (ad 76)), (1, .int v1), (2, .int v2)]) C.1 C.2.1 dX11_setback_43 rfl hl (by decide) rfl (fun ls hl => ?_)
      refine lv_aload_n C.1 C.2.1 dX11_setback_44 rfl (lv_at hl 1 rfl) ?_
      obtain ⟨o13, e14, h⟩ := Option.bind_eq_some_iff.mp h
      refine r_vv C S hl o_76 cf_11 (k_X11_startsWarm e14) b_vb_RX11_123 [] rfl [] rfl rfl (Nat.le_of_ble_eq_true rfl) ⟨Nat.le_of_ble_eq_true rfl, Nat.le_of_ble_eq_true rfl⟩ dX11_setback_45 (fun H locs S => ?_)
      refine lv_iload_n C.1 C.2.1 dX11_setback_48 rfl (lv_at hl 0 rfl) ?_
      refine lv_aload_n C.1 C.2.1 dX11_setback_49 rfl (lv_at hl 1 rfl) ?_
      refine lv_iload_n C.1 C.2.1 dX11_setback_50 rfl (lv_at hl 2 rfl) ?_
      refine lv_iload_n C.1 C.2.1 dX11_setback_51 rfl (lv_at hl 3 rfl) ?_
      obtain ⟨o15, e16, h⟩ := Option.bind_eq_some_iff.mp h
      refine r_vi C S hl o_76 cf_11 (k_X11_goesAll e16) b_vb_RX11_236 [.int v1, .int v2] rfl [.int o11.1] rfl rfl (Nat.le_of_ble_eq_true rfl) ⟨Nat.le_of_ble_eq_true rfl, Nat.le_of_ble_eq_true rfl⟩ dX11_setback_52 (fun H locs S => ?_)
      refine lv_isub C.1 C.2.1 dX11_setback_55 ?_
      have h9 := Option.some.inj h
      subst h9
      exact r_iret C S hr hlocks dX11_setback_56
    · replace h := (if_pos q8).symm.trans h
      refine lv_aload_n C.1 C.2.1 dX11_setback_21 rfl (lv_at hl 0 rfl) ?_
      refine r_ldc C (-1000000001) b_cn_RX11_92 dX11_setback_22 ?_
      obtain ⟨o17, e18, h⟩ := Option.bind_eq_some_iff.mp h
      refine r_vi C S hl o_76 cf_11 (k_X11_finds e18) b_vb_RX11_109 [.int (-1000000001)] rfl [] rfl rfl (Nat.le_of_ble_eq_true rfl) ⟨Nat.le_of_ble_eq_true rfl, Nat.le_of_ble_eq_true rfl⟩ dX11_setback_24 (fun H locs S => ?_)
      have h9 := Option.some.inj h
      subst h9
      exact r_iret C S hr hlocks dX11_setback_27
set_option maxHeartbeats 4000000 in
set_option maxRecDepth 100000 in
theorem k_X11_works {v1 : Int32} {v2 : Int32} {v3 : Int32}  {w : Wd} {rv : Int32 × Wd} (h : f_X11_works v1 v2 v3 w = some rv) : CI yX11_works cX11_works 5 .int 5 114 (fun ad => [.ref (ad 76), .int v1, .int v2, .int v3]) w rv.1 rv.2 := by
  refine CI.of (by decide) ?_
  intro l D ad sx ca p e s m below meth c C S hr hlocks
  have hl := lv_entry ([.ref (ad 76), .int v1, .int v2, .int v3]) (n := 5) (Nat.le_of_ble_eq_true rfl)
  rw [lg_entry_eq]
  generalize (lg_sl ([.ref (ad 76), .int v1, .int v2, .int v3]) ++ List.replicate (5 - (lg_sl ([.ref (ad 76), .int v1, .int v2, .int v3])).length) Slot.unset).toArray = ls at hl ⊢
  have hl : lv_has ls 5 [(0, .ref (ad 76)), (1, .int v1), (2, .int v2), (3, .int v3)] := hl
  generalize ha9 : ([.ref (ad 76), .int v1, .int v2, .int v3] : List Value).toArray = args at C ⊢
  generalize s.heap = H at S ⊢
  generalize ([] : List Loc) = locs at S ⊢
  unfold f_X11_works at h
  refine lv_aload_n C.1 C.2.1 dX11_works_0 rfl (lv_at hl 0 rfl) ?_
  refine lv_iload_n C.1 C.2.1 dX11_works_1 rfl (lv_at hl 1 rfl) ?_
  obtain ⟨o1, e2, h⟩ := Option.bind_eq_some_iff.mp h
  refine r_vi C S hl o_76 cf_11 (k_X11_isFlat e2) b_vb_RX11_141 [.int v1] rfl [] rfl rfl (Nat.le_of_ble_eq_true rfl) ⟨Nat.le_of_ble_eq_true rfl, Nat.le_of_ble_eq_true rfl⟩ dX11_works_2 (fun H locs S => ?_)
  refine lv_if_eq (tgt := 28) C.1 C.2.1 dX11_works_5 (by decide) (fun q3 => ?_) (fun q3 => ?_)
  · replace h := (if_pos q3).symm.trans h
    refine lv_aload_n C.1 C.2.1 dX11_works_28 rfl (lv_at hl 0 rfl) ?_
    refine r_ldc C (-1000000001) b_cn_RX11_92 dX11_works_29 ?_
    obtain ⟨o4, e5, h⟩ := Option.bind_eq_some_iff.mp h
    refine r_vi C S hl o_76 cf_11 (k_X11_finds e5) b_vb_RX11_109 [.int (-1000000001)] rfl [] rfl rfl (Nat.le_of_ble_eq_true rfl) ⟨Nat.le_of_ble_eq_true rfl, Nat.le_of_ble_eq_true rfl⟩ dX11_works_31 (fun H locs S => ?_)
    have h9 := Option.some.inj h
    subst h9
    exact r_iret C S hr hlocks dX11_works_34
  · replace h := (if_neg q3).symm.trans h
    refine lv_iload_n C.1 C.2.1 dX11_works_8 rfl (lv_at hl 2 rfl) ?_
    refine lv_iconst (v := 1) C.1 C.2.1 dX11_works_9 (by decide) ?_
    refine lv_bipush (v := 99) C.1 C.2.1 dX11_works_10 (by decide) ?_
    obtain ⟨o6, e7, h⟩ := Option.bind_eq_some_iff.mp h
    refine r_si C S hl (k_X11_in e7) b_sb_RX11_97 [.int v2, .int 1, .int 99] rfl [] rfl rfl (Nat.le_of_ble_eq_true rfl) ⟨Nat.le_of_ble_eq_true rfl, Nat.le_of_ble_eq_true rfl⟩ dX11_works_12 (fun H locs S => ?_)
    refine lv_if_eq (tgt := 28) C.1 C.2.1 dX11_works_15 (by decide) (fun q8 => ?_) (fun q8 => ?_)
    · replace h := (if_pos q8).symm.trans h
      refine lv_aload_n C.1 C.2.1 dX11_works_28 rfl (lv_at hl 0 rfl) ?_
      refine r_ldc C (-1000000001) b_cn_RX11_92 dX11_works_29 ?_
      obtain ⟨o9, e10, h⟩ := Option.bind_eq_some_iff.mp h
      refine r_vi C S hl o_76 cf_11 (k_X11_finds e10) b_vb_RX11_109 [.int (-1000000001)] rfl [] rfl rfl (Nat.le_of_ble_eq_true rfl) ⟨Nat.le_of_ble_eq_true rfl, Nat.le_of_ble_eq_true rfl⟩ dX11_works_31 (fun H locs S => ?_)
      have h9 := Option.some.inj h
      subst h9
      exact r_iret C S hr hlocks dX11_works_34
    · replace h := (if_neg q8).symm.trans h
      refine lv_iload_n C.1 C.2.1 dX11_works_18 rfl (lv_at hl 3 rfl) ?_
      refine lv_iconst (v := 1) C.1 C.2.1 dX11_works_19 (by decide) ?_
      refine lv_bipush (v := 50) C.1 C.2.1 dX11_works_20 (by decide) ?_
      obtain ⟨o11, e12, h⟩ := Option.bind_eq_some_iff.mp h
      refine r_si C S hl (k_X11_in e12) b_sb_RX11_97 [.int v3, .int 1, .int 50] rfl [] rfl rfl (Nat.le_of_ble_eq_true rfl) ⟨Nat.le_of_ble_eq_true rfl, Nat.le_of_ble_eq_true rfl⟩ dX11_works_22 (fun H locs S => ?_)
      refine lv_if_ne (tgt := 35) C.1 C.2.1 dX11_works_25 (by decide) (fun q13 => ?_) (fun q13 => ?_)
      · replace h := (if_neg q13).symm.trans h
        refine lv_aload_n C.1 C.2.1 dX11_works_35 rfl (lv_at hl 0 rfl) ?_
        obtain ⟨o14, e15, h⟩ := Option.bind_eq_some_iff.mp h
        refine r_vv C S hl o_76 cf_11 (k_X11_setsAside e15) b_vb_RX11_145 [] rfl [] rfl rfl (Nat.le_of_ble_eq_true rfl) ⟨Nat.le_of_ble_eq_true rfl, Nat.le_of_ble_eq_true rfl⟩ dX11_works_36 (fun H locs S => ?_)
        refine lv_aload_n C.1 C.2.1 dX11_works_39 rfl (lv_at hl 0 rfl) ?_
        refine lv_aload_n C.1 C.2.1 dX11_works_40 rfl (lv_at hl 0 rfl) ?_
        refine r_getr C S o_76 cf_11 0 rfl (by decide) b_fl_RX11_9 dX11_works_41 ?_
        refine lv_iconst (v := 3) C.1 C.2.1 dX11_works_44 (by decide) ?_
        refine r_ialdn (j := 3) C S a_77 (by decide) (by decide) dX11_works_45 ?_
        refine lv_iload_n C.1 C.2.1 dX11_works_46 rfl (lv_at hl 3 rfl) ?_
        obtain ⟨o16, e17, h⟩ := Option.bind_eq_some_iff.mp h
        refine r_vi C S hl o_76 cf_11 (k_X11_goesAll e17) b_vb_RX11_236 [.int (o14.1 77 3), .int v3] rfl [] rfl rfl (Nat.le_of_ble_eq_true rfl) ⟨Nat.le_of_ble_eq_true rfl, Nat.le_of_ble_eq_true rfl⟩ dX11_works_47 (fun H locs S => ?_)
        refine lv_istore (lv' := [(4, .int o16.1), (0, .ref (ad 76)), (1, .int v1), (2, .int v2), (3, .int v3)]) C.1 C.2.1 dX11_works_50 hl (by decide) rfl (fun ls hl => ?_)
        refine lv_aload_n C.1 C.2.1 dX11_works_52 rfl (lv_at hl 1 rfl) ?_
        obtain ⟨o18, e19, h⟩ := Option.bind_eq_some_iff.mp h
        refine r_vv C S hl o_76 cf_11 (k_X11_startsWarm e19) b_vb_RX11_123 [] rfl [] rfl rfl (Nat.le_of_ble_eq_true rfl) ⟨Nat.le_of_ble_eq_true rfl, Nat.le_of_ble_eq_true rfl⟩ dX11_works_53 (fun H locs S => ?_)
        refine lv_aload_n C.1 C.2.1 dX11_works_56 rfl (lv_at hl 1 rfl) ?_
        refine r_getr C S o_76 cf_11 12 rfl (by decide) b_fl_RX11_40 dX11_works_57 ?_
        refine lv_iload_n C.1 C.2.1 dX11_works_60 rfl (lv_at hl 2 rfl) ?_
        refine lv_aload_n C.1 C.2.1 dX11_works_61 rfl (lv_at hl 1 rfl) ?_
        refine lv_iload_n C.1 C.2.1 dX11_works_62 rfl (lv_at hl 2 rfl) ?_
        refine lv_iload_n C.1 C.2.1 dX11_works_63 rfl (lv_at hl 3 rfl) ?_
        obtain ⟨o20, e21, h⟩ := Option.bind_eq_some_iff.mp h
        refine r_vi C S hl o_76 cf_11 (k_X11_leaksBy e21) b_vb_RX11_120 [.int v1, .int v2] rfl [.int v1, .ref (ad 87)] rfl rfl (Nat.le_of_ble_eq_true rfl) ⟨Nat.le_of_ble_eq_true rfl, Nat.le_of_ble_eq_true rfl⟩ dX11_works_64 (fun H locs S => ?_)
        obtain ⟨g22, h⟩ := gd_some h
        refine r_iast C S a_87 g22 dX11_works_67 (fun H locs S => ?_)
        obtain ⟨w23, h, S⟩ := lw_S (P := fun y => St D ad ca s y H locs) h S
        refine lv_iload C.1 C.2.1 dX11_works_68 (lv_at hl 0 rfl) ?_
        refine lv_aload_n C.1 C.2.1 dX11_works_70 rfl (lv_at hl 1 rfl) ?_
        refine lv_aload_n C.1 C.2.1 dX11_works_71 rfl (lv_at hl 1 rfl) ?_
        refine r_getr C S o_76 cf_11 0 rfl (by decide) b_fl_RX11_9 dX11_works_72 ?_
        refine lv_iconst (v := 3) C.1 C.2.1 dX11_works_75 (by decide) ?_
        refine r_ialdn (j := 3) C S a_77 (by decide) (by decide) dX11_works_76 ?_
        refine lv_iload_n C.1 C.2.1 dX11_works_77 rfl (lv_at hl 4 rfl) ?_
        obtain ⟨o24, e25, h⟩ := Option.bind_eq_some_iff.mp h
        refine r_vi C S hl o_76 cf_11 (k_X11_goesAll e25) b_vb_RX11_236 [.int (w23.1 77 3), .int v3] rfl [.int o16.1] rfl rfl (Nat.le_of_ble_eq_true rfl) ⟨Nat.le_of_ble_eq_true rfl, Nat.le_of_ble_eq_true rfl⟩ dX11_works_78 (fun H locs S => ?_)
        refine lv_isub C.1 C.2.1 dX11_works_81 ?_
        have h9 := Option.some.inj h
        subst h9
        exact r_iret C S hr hlocks dX11_works_82
      · replace h := (if_pos q13).symm.trans h
        refine lv_aload_n C.1 C.2.1 dX11_works_28 rfl (lv_at hl 0 rfl) ?_
        refine r_ldc C (-1000000001) b_cn_RX11_92 dX11_works_29 ?_
        obtain ⟨o26, e27, h⟩ := Option.bind_eq_some_iff.mp h
        refine r_vi C S hl o_76 cf_11 (k_X11_finds e27) b_vb_RX11_109 [.int (-1000000001)] rfl [] rfl rfl (Nat.le_of_ble_eq_true rfl) ⟨Nat.le_of_ble_eq_true rfl, Nat.le_of_ble_eq_true rfl⟩ dX11_works_31 (fun H locs S => ?_)
        have h9 := Option.some.inj h
        subst h9
        exact r_iret C S hr hlocks dX11_works_34
set_option maxHeartbeats 4000000 in
set_option maxRecDepth 100000 in
theorem k_X11_about {v1 : Int32} {v2 : Int32}  {w : Wd} {rv : Int32} (h : f_X11_about v1 v2 w = some rv) : CI yX11_about cX11_about 3 .int 0 0 (fun ad => [.ref (ad 76), .int v1, .int v2]) w rv w := by
  refine CI.of (by decide) ?_
  intro l D ad sx ca p e s m below meth c C S hr hlocks
  have hl := lv_entry ([.ref (ad 76), .int v1, .int v2]) (n := 3) (Nat.le_of_ble_eq_true rfl)
  rw [lg_entry_eq]
  generalize (lg_sl ([.ref (ad 76), .int v1, .int v2]) ++ List.replicate (3 - (lg_sl ([.ref (ad 76), .int v1, .int v2])).length) Slot.unset).toArray = ls at hl ⊢
  have hl : lv_has ls 3 [(0, .ref (ad 76)), (1, .int v1), (2, .int v2)] := hl
  generalize ha9 : ([.ref (ad 76), .int v1, .int v2] : List Value).toArray = args at C ⊢
  generalize s.heap = H at S ⊢
  generalize ([] : List Loc) = locs at S ⊢
  unfold f_X11_about at h
  refine lv_aload_n C.1 C.2.1 dX11_about_0 rfl (lv_at hl 0 rfl) ?_
  refine r_getr C S o_76 cf_11 0 rfl (by decide) b_fl_RX11_9 dX11_about_1 ?_
  refine lv_sipush (v := 139) C.1 C.2.1 dX11_about_4 (by decide) ?_
  refine lv_iconst (v := 3) C.1 C.2.1 dX11_about_7 (by decide) ?_
  refine lv_iload_n C.1 C.2.1 dX11_about_8 rfl (lv_at hl 1 rfl) ?_
  refine lv_imul C.1 C.2.1 dX11_about_9 ?_
  refine lv_iadd C.1 C.2.1 dX11_about_10 ?_
  refine lv_iload_n C.1 C.2.1 dX11_about_11 rfl (lv_at hl 2 rfl) ?_
  refine lv_iadd C.1 C.2.1 dX11_about_12 ?_
  obtain ⟨g1, h⟩ := gd_some h
  refine r_iald C S a_77 g1 dX11_about_13 ?_
  have h9 := Option.some.inj h
  subst h9
  exact r_iret C S hr hlocks dX11_about_14
set_option maxHeartbeats 4000000 in
set_option maxRecDepth 100000 in
theorem k_X11_isComplaint {v1 : Int32}  {w : Wd} {rv : Int32} (h : f_X11_isComplaint v1 w = some rv) : CI yX11_isComplaint cX11_isComplaint 2 .boolean 1 22 (fun ad => [.ref (ad 76), .int v1]) w rv w := by
  refine CI.of (by decide) ?_
  intro l D ad sx ca p e s m below meth c C S hr hlocks
  have hl := lv_entry ([.ref (ad 76), .int v1]) (n := 2) (Nat.le_of_ble_eq_true rfl)
  rw [lg_entry_eq]
  generalize (lg_sl ([.ref (ad 76), .int v1]) ++ List.replicate (2 - (lg_sl ([.ref (ad 76), .int v1])).length) Slot.unset).toArray = ls at hl ⊢
  have hl : lv_has ls 2 [(0, .ref (ad 76)), (1, .int v1)] := hl
  generalize ha9 : ([.ref (ad 76), .int v1] : List Value).toArray = args at C ⊢
  generalize s.heap = H at S ⊢
  generalize ([] : List Loc) = locs at S ⊢
  unfold f_X11_isComplaint at h
  refine lv_iload_n C.1 C.2.1 dX11_isComplaint_0 rfl (lv_at hl 1 rfl) ?_
  refine lv_iconst (v := 0) C.1 C.2.1 dX11_isComplaint_1 (by decide) ?_
  refine lv_aload_n C.1 C.2.1 dX11_isComplaint_2 rfl (lv_at hl 0 rfl) ?_
  refine r_getr C S o_76 cf_11 0 rfl (by decide) b_fl_RX11_9 dX11_isComplaint_3 ?_
  refine lv_iconst (v := 5) C.1 C.2.1 dX11_isComplaint_6 (by decide) ?_
  refine r_ialdn (j := 5) C S a_77 (by decide) (by decide) dX11_isComplaint_7 ?_
  refine lv_iconst (v := 1) C.1 C.2.1 dX11_isComplaint_8 (by decide) ?_
  refine lv_isub C.1 C.2.1 dX11_isComplaint_9 ?_
  obtain ⟨o1, e2, h⟩ := Option.bind_eq_some_iff.mp h
  refine r_si C S hl (k_X11_in e2) b_sb_RX11_97 [.int v1, .int 0, .int ((w.1 77 5) - 1)] rfl [] rfl rfl (Nat.le_of_ble_eq_true rfl) ⟨Nat.le_of_ble_eq_true rfl, Nat.le_of_ble_eq_true rfl⟩ dX11_isComplaint_10 (fun H locs S => ?_)
  obtain ⟨g3, h⟩ := gd_some h
  have h9 := Option.some.inj h
  subst h9
  exact r_zret C S hr hlocks (zo_or g3) dX11_isComplaint_13

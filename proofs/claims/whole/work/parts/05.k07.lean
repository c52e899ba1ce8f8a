set_option maxHeartbeats 4000000 in
set_option maxRecDepth 100000 in
theorem k_X3_isGood_L9 {p : Program} {l : Launch} {e : Env} {s : State} {m : MethodId} {args : Array Value} {below : List Frame} {meth : Method} {c : Code} {D : va_G} {ad sx : Nat → Nat} {ca : Nat → ClassId} (C : Cx D ad sx ca p s m c args RX3 cX3_isGood 2) {Q : State → Prop}   : ∀ (n9 : Nat) (z : Int32 × Wd) (o : Int32 × Wd), lp (f_X3_isGood_L9) n9 z = some o → (∀ (ls : Array Slot) (H : Heap) (locs : List Loc), lv_has ls 2 [(0, .ref (ad 14))] → St D ad ca s o.2 H locs → W p l e (RM 2 45) s m args below meth c H locs 0 0 Q (F0 m 30 ls [])) → (∀ (ls : Array Slot) (H : Heap) (locs : List Loc), lv_has ls 2 [(0, .ref (ad 14)), (1, .int z.1)] → St D ad ca s z.2 H locs → W p l e (RM 2 45) s m args below meth c H locs 0 0 Q (F0 m 9 ls [])) := by
  refine lp_W (HW := fun (z : Int32 × Wd) => ∀ (ls : Array Slot) (H : Heap) (locs : List Loc), lv_has ls 2 [(0, .ref (ad 14)), (1, .int z.1)] → St D ad ca s z.2 H locs → W p l e (RM 2 45) s m args below meth c H locs 0 0 Q (F0 m 9 ls [])) (XW := fun (o : Int32 × Wd) => ∀ (ls : Array Slot) (H : Heap) (locs : List Loc), lv_has ls 2 [(0, .ref (ad 14))] → St D ad ca s o.2 H locs → W p l e (RM 2 45) s m args below meth c H locs 0 0 Q (F0 m 30 ls [])) ?_
  intro z x h hN hX ls H locs hl S
  unfold f_X3_isGood_L9 at h
  refine lv_iload_n C.1 C.2.1 dX3_isGood_9 rfl (lv_at hl 1 rfl) ?_
  refine lv_aload_n C.1 C.2.1 dX3_isGood_10 rfl (lv_at hl 0 rfl) ?_
  refine r_geti C S o_14 cf_3 4 rfl (by decide) b_fl_RX3_27 dX3_isGood_11 ?_
  refine lv_icmp_ge (tgt := 30) C.1 C.2.1 dX3_isGood_14 (by decide) (fun q3 => ?_) (fun q3 => ?_)
  · replace h := (if_pos q3).symm.trans h
    exact hX _ (Option.some.inj h).symm _ _ _ (lv_sub hl [0] rfl) S
  · replace h := (if_neg q3).symm.trans h
    refine lv_aload_n C.1 C.2.1 dX3_isGood_17 rfl (lv_at hl 0 rfl) ?_
    refine r_getr C S o_14 cf_3 1 rfl (by decide) b_fl_RX3_19 dX3_isGood_18 ?_
    obtain ⟨o4, e5, h⟩ := Option.bind_eq_some_iff.mp h
    refine r_vv C S hl o_13 cf_2 (k_X2_goHour e5) b_vb_RX3_81 [] rfl [] rfl rfl (Nat.le_of_ble_eq_true rfl) ⟨Nat.le_of_ble_eq_true rfl, Nat.le_of_ble_eq_true rfl⟩ dX3_isGood_21 (fun H locs S => ?_)
    refine lv_iinc (v := z.1 + 1) (lv' := [(1, .int (z.1 + 1)), (0, .ref (ad 14))]) C.1 C.2.1 dX3_isGood_24 hl (k := 1) rfl rfl (by decide) rfl (fun ls hl => ?_)
    refine lv_goto (tgt := 9) C.1 C.2.1 dX3_isGood_27 (by decide) ?_
    exact hN _ (Option.some.inj h).symm _ _ _ (lv_sub hl [1, 0] rfl) S
set_option maxHeartbeats 4000000 in
set_option maxRecDepth 100000 in
theorem k_X3_isGood   {w : Wd} {rv : Int32 × Wd} (h : f_X3_isGood w = some rv) : CI yX3_isGood cX3_isGood 2 .boolean 2 45 (fun ad => [.ref (ad 14)]) w rv.1 rv.2 := by
  refine CI.of (by decide) ?_
  intro l D ad sx ca p e s m below meth c C S hr hlocks
  have hl := lv_entry ([.ref (ad 14)]) (n := 2) (Nat.le_of_ble_eq_true rfl)
  rw [lg_entry_eq]
  generalize (lg_sl ([.ref (ad 14)]) ++ List.replicate (2 - (lg_sl ([.ref (ad 14)])).length) Slot.unset).toArray = ls at hl ⊢
  have hl : lv_has ls 2 [(0, .ref (ad 14))] := hl
  generalize ha9 : ([.ref (ad 14)] : List Value).toArray = args at C ⊢
  generalize s.heap = H at S ⊢
  generalize ([] : List Loc) = locs at S ⊢
  unfold f_X3_isGood at h
  refine lv_aload_n C.1 C.2.1 dX3_isGood_0 rfl (lv_at hl 0 rfl) ?_
  refine r_getr C S o_14 cf_3 1 rfl (by decide) b_fl_RX3_19 dX3_isGood_1 ?_
  obtain ⟨o1, e2, h⟩ := Option.bind_eq_some_iff.mp h
  refine r_vv C S hl o_13 cf_2 (k_X2_restart e2) b_vb_RX3_78 [] rfl [] rfl rfl (Nat.le_of_ble_eq_true rfl) ⟨Nat.le_of_ble_eq_true rfl, Nat.le_of_ble_eq_true rfl⟩ dX3_isGood_4 (fun H locs S => ?_)
  refine lv_iconst (v := 0) C.1 C.2.1 dX3_isGood_7 (by decide) ?_
  refine lv_istore_n (lv' := [(1, .int 0), (0, .ref (ad 14))]) C.1 C.2.1 dX3_isGood_8 rfl hl (by decide) rfl (fun ls hl => ?_)
  obtain ⟨o6, e7, h⟩ := Option.bind_eq_some_iff.mp h
  refine k_X3_isGood_L9 C  FU _ _ e7 (fun ls H locs hl S => ?_) ls H locs (lv_sub hl [1, 0] rfl) S
  refine lv_aload_n C.1 C.2.1 dX3_isGood_30 rfl (lv_at hl 0 rfl) ?_
  refine r_getr C S o_14 cf_3 1 rfl (by decide) b_fl_RX3_19 dX3_isGood_31 ?_
  refine lv_aload_n C.1 C.2.1 dX3_isGood_34 rfl (lv_at hl 0 rfl) ?_
  refine r_geti C S o_14 cf_3 3 rfl (by decide) b_fl_RX3_23 dX3_isGood_35 ?_
  obtain ⟨o8, e9, h⟩ := Option.bind_eq_some_iff.mp h
  refine r_vi C S hl o_13 cf_2 (k_X2_isAllEven e9) b_vb_RX3_84 [.int (o6.2.1 14 3)] rfl [] rfl rfl (Nat.le_of_ble_eq_true rfl) ⟨Nat.le_of_ble_eq_true rfl, Nat.le_of_ble_eq_true rfl⟩ dX3_isGood_38 (fun H locs S => ?_)
  obtain ⟨g10, h⟩ := gd_some h
  have h9 := Option.some.inj h
  subst h9
  exact r_zret C S hr hlocks (zo_or g10) dX3_isGood_41
set_option maxHeartbeats 4000000 in
set_option maxRecDepth 100000 in
theorem k_X3_isOneEnough_L15 {p : Program} {l : Launch} {e : Env} {s : State} {m : MethodId} {args : Array Value} {below : List Frame} {meth : Method} {c : Code} {D : va_G} {ad sx : Nat → Nat} {ca : Nat → ClassId} (C : Cx D ad sx ca p s m c args RX3 cX3_isOneEnough 4) (hr : meth.sig.returnType = (some .boolean)) (hlocks : meth.locks = false) {rv : Int32 × Wd} {v1 : Int32} {v2 : Int32}  : ∀ (n9 : Nat) (z : Int32 × Wd) (o : (Int32 × Wd) ⊕ (Int32 × Wd)), lp (f_X3_isOneEnough_L15 v1 v2) n9 z = some o → ((∀ x, o = .inl x → ∀ (ls : Array Slot) (H : Heap) (locs : List Loc), lv_has ls 4 [(0, .ref (ad 14)), (1, .int v1), (2, .int v2)] → St D ad ca s x.2 H locs → W p l e (RM 3 67) s m args below meth c H locs 0 0 (MQ below (Qi D ad ca rv.1 rv.2) args s 0 0 (Aad ad)) (F0 m 66 ls [])) ∧ ∀ y, o = .inr y → y = rv) → (∀ (ls : Array Slot) (H : Heap) (locs : List Loc), lv_has ls 4 [(0, .ref (ad 14)), (1, .int v1), (2, .int v2), (3, .int z.1)] → St D ad ca s z.2 H locs → W p l e (RM 3 67) s m args below meth c H locs 0 0 (MQ below (Qi D ad ca rv.1 rv.2) args s 0 0 (Aad ad)) (F0 m 15 ls [])) := by
  refine lp_W (HW := fun (z : Int32 × Wd) => ∀ (ls : Array Slot) (H : Heap) (locs : List Loc), lv_has ls 4 [(0, .ref (ad 14)), (1, .int v1), (2, .int v2), (3, .int z.1)] → St D ad ca s z.2 H locs → W p l e (RM 3 67) s m args below meth c H locs 0 0 (MQ below (Qi D ad ca rv.1 rv.2) args s 0 0 (Aad ad)) (F0 m 15 ls [])) (XW := fun (o : (Int32 × Wd) ⊕ (Int32 × Wd)) => (∀ x, o = .inl x → ∀ (ls : Array Slot) (H : Heap) (locs : List Loc), lv_has ls 4 [(0, .ref (ad 14)), (1, .int v1), (2, .int v2)] → St D ad ca s x.2 H locs → W p l e (RM 3 67) s m args below meth c H locs 0 0 (MQ below (Qi D ad ca rv.1 rv.2) args s 0 0 (Aad ad)) (F0 m 66 ls [])) ∧ ∀ y, o = .inr y → y = rv) ?_
  intro z x h hN hX ls H locs hl S
  unfold f_X3_isOneEnough_L15 at h
  refine lv_iload_n C.1 C.2.1 dX3_isOneEnough_15 rfl (lv_at hl 3 rfl) ?_
  refine lv_bipush (v := 8) C.1 C.2.1 dX3_isOneEnough_16 (by decide) ?_
  refine lv_icmp_gt (tgt := 66) C.1 C.2.1 dX3_isOneEnough_18 (by decide) (fun q2 => ?_) (fun q2 => ?_)
  · replace h := (if_pos q2).symm.trans h
    exact (hX _ (Option.some.inj h).symm).1 _ rfl _ _ _ (lv_sub hl [0, 1, 2] rfl) S
  · replace h := (if_neg q2).symm.trans h
    refine lv_iload_n C.1 C.2.1 dX3_isOneEnough_21 rfl (lv_at hl 3 rfl) ?_
    refine lv_iload_n C.1 C.2.1 dX3_isOneEnough_22 rfl (lv_at hl 2 rfl) ?_
    refine lv_icmp_eq (tgt := 60) C.1 C.2.1 dX3_isOneEnough_23 (by decide) (fun q3 => ?_) (fun q3 => ?_)
    · replace h := (if_pos q3).symm.trans h
      refine lv_iinc (v := z.1 + 1) (lv' := [(3, .int (z.1 + 1)), (0, .ref (ad 14)), (1, .int v1), (2, .int v2)]) C.1 C.2.1 dX3_isOneEnough_60 hl (k := 3) rfl rfl (by decide) rfl (fun ls hl => ?_)
      refine lv_goto (tgt := 15) C.1 C.2.1 dX3_isOneEnough_63 (by decide) ?_
      exact hN _ (Option.some.inj h).symm _ _ _ (lv_sub hl [1, 2, 3, 0] rfl) S
    · replace h := (if_neg q3).symm.trans h
      refine lv_aload_n C.1 C.2.1 dX3_isOneEnough_26 rfl (lv_at hl 0 rfl) ?_
      refine r_getr C S o_14 cf_3 2 rfl (by decide) b_fl_RX3_9 dX3_isOneEnough_27 ?_
      refine lv_iload_n C.1 C.2.1 dX3_isOneEnough_30 rfl (lv_at hl 1 rfl) ?_
      refine lv_iload_n C.1 C.2.1 dX3_isOneEnough_31 rfl (lv_at hl 3 rfl) ?_
      obtain ⟨g4, h⟩ := gd_some h
      refine r_iast C S a_68 g4 dX3_isOneEnough_32 (fun H locs S => ?_)
      obtain ⟨w5, h, S⟩ := lw_S (P := fun y => St D ad ca s y H locs) h S
      refine lv_aload_n C.1 C.2.1 dX3_isOneEnough_33 rfl (lv_at hl 0 rfl) ?_
      refine r_getr C S o_14 cf_3 1 rfl (by decide) b_fl_RX3_19 dX3_isOneEnough_34 ?_
      refine r_getr C S o_13 cf_2 7 rfl (by decide) b_fl_RX3_72 dX3_isOneEnough_37 ?_
      refine lv_iload_n C.1 C.2.1 dX3_isOneEnough_40 rfl (lv_at hl 1 rfl) ?_
      refine lv_aload_n C.1 C.2.1 dX3_isOneEnough_41 rfl (lv_at hl 0 rfl) ?_
      refine r_getr C S o_14 cf_3 0 rfl (by decide) b_fl_RX3_15 dX3_isOneEnough_42 ?_
      refine lv_iload_n C.1 C.2.1 dX3_isOneEnough_45 rfl (lv_at hl 1 rfl) ?_
      refine lv_iload_n C.1 C.2.1 dX3_isOneEnough_46 rfl (lv_at hl 3 rfl) ?_
      obtain ⟨o6, e7, h⟩ := Option.bind_eq_some_iff.mp h
      refine r_vi C S hl o_3 cf_0 (k_X0_weight e7) b_vb_RX3_75 [.int v1, .int z.1] rfl [.int v1, .ref (ad 62)] rfl rfl (Nat.le_of_ble_eq_true rfl) ⟨Nat.le_of_ble_eq_true rfl, Nat.le_of_ble_eq_true rfl⟩ dX3_isOneEnough_47 (fun H locs S => ?_)
      obtain ⟨g8, h⟩ := gd_some h
      refine r_iast C S a_62 g8 dX3_isOneEnough_50 (fun H locs S => ?_)
      obtain ⟨w9, h, S⟩ := lw_S (P := fun y => St D ad ca s y H locs) h S
      refine lv_aload_n C.1 C.2.1 dX3_isOneEnough_51 rfl (lv_at hl 0 rfl) ?_
      obtain ⟨o10, e11, h⟩ := Option.bind_eq_some_iff.mp h
      refine r_vi C S hl o_14 cf_3 (k_X3_isGood e11) b_vb_RX3_36 [] rfl [] rfl rfl (Nat.le_of_ble_eq_true rfl) ⟨Nat.le_of_ble_eq_true rfl, Nat.le_of_ble_eq_true rfl⟩ dX3_isOneEnough_52 (fun H locs S => ?_)
      refine lv_if_eq (tgt := 60) C.1 C.2.1 dX3_isOneEnough_55 (by decide) (fun q12 => ?_) (fun q12 => ?_)
      · replace h := (if_pos q12).symm.trans h
        refine lv_iinc (v := z.1 + 1) (lv' := [(3, .int (z.1 + 1)), (0, .ref (ad 14)), (1, .int v1), (2, .int v2)]) C.1 C.2.1 dX3_isOneEnough_60 hl (k := 3) rfl rfl (by decide) rfl (fun ls hl => ?_)
        refine lv_goto (tgt := 15) C.1 C.2.1 dX3_isOneEnough_63 (by decide) ?_
        exact hN _ (Option.some.inj h).symm _ _ _ (lv_sub hl [1, 2, 3, 0] rfl) S
      · replace h := (if_neg q12).symm.trans h
        refine lv_iconst (v := 1) C.1 C.2.1 dX3_isOneEnough_58 (by decide) ?_
        have h9 := (hX _ (Option.some.inj h).symm).2 _ rfl
        subst h9
        exact r_zret C S hr hlocks (Or.inr rfl) dX3_isOneEnough_59
set_option maxHeartbeats 4000000 in
set_option maxRecDepth 100000 in
theorem k_X3_isOneEnough {v1 : Int32}  {w : Wd} {rv : Int32 × Wd} (h : f_X3_isOneEnough v1 w = some rv) : CI yX3_isOneEnough cX3_isOneEnough 4 .boolean 3 67 (fun ad => [.ref (ad 14), .int v1]) w rv.1 rv.2 := by
  refine CI.of (by decide) ?_
  intro l D ad sx ca p e s m below meth c C S hr hlocks
  have hl := lv_entry ([.ref (ad 14), .int v1]) (n := 4) (Nat.le_of_ble_eq_true rfl)
  rw [lg_entry_eq]
  generalize (lg_sl ([.ref (ad 14), .int v1]) ++ List.replicate (4 - (lg_sl ([.ref (ad 14), .int v1])).length) Slot.unset).toArray = ls at hl ⊢
  have hl : lv_has ls 4 [(0, .ref (ad 14)), (1, .int v1)] := hl
  generalize ha9 : ([.ref (ad 14), .int v1] : List Value).toArray = args at C ⊢
  generalize s.heap = H at S ⊢
  generalize ([] : List Loc) = locs at S ⊢
  unfold f_X3_isOneEnough at h
  refine lv_aload_n C.1 C.2.1 dX3_isOneEnough_0 rfl (lv_at hl 0 rfl) ?_
  refine r_getr C S o_14 cf_3 0 rfl (by decide) b_fl_RX3_15 dX3_isOneEnough_1 ?_
  refine r_getr C S o_3 cf_0 0 rfl (by decide) b_fl_RX3_51 dX3_isOneEnough_4 ?_
  refine lv_iload_n C.1 C.2.1 dX3_isOneEnough_7 rfl (lv_at hl 1 rfl) ?_
  obtain ⟨g1, h⟩ := gd_some h
  refine r_aald C S a_17 g1 dX3_isOneEnough_8 ?_
  refine r_geti C S (o_F1 (inB_lt g1)) cf_4 4 rfl (by decide) b_fl_RX3_69 dX3_isOneEnough_9 ?_
  refine lv_istore_n (lv' := [(2, .int (w.1 (35 + v1.toNatClampNeg) 4)), (0, .ref (ad 14)), (1, .int v1)]) C.1 C.2.1 dX3_isOneEnough_12 rfl hl (by decide) rfl (fun ls hl => ?_)
  refine lv_iconst (v := 0) C.1 C.2.1 dX3_isOneEnough_13 (by decide) ?_
  refine lv_istore_n (lv' := [(3, .int 0), (2, .int (w.1 (35 + v1.toNatClampNeg) 4)), (0, .ref (ad 14)), (1, .int v1)]) C.1 C.2.1 dX3_isOneEnough_14 rfl hl (by decide) rfl (fun ls hl => ?_)
  obtain ⟨o13, e14, h⟩ := Option.bind_eq_some_iff.mp h
  refine k_X3_isOneEnough_L15 C hr hlocks  FU _ _ e14 ⟨fun x15 hx ls H locs hl S => ?_, fun y16 hy => ?_⟩ ls H locs (lv_sub hl [2, 3, 1, 0] rfl) S
  · subst hx
    rw [sm_inl] at h
    refine lv_aload_n C.1 C.2.1 dX3_isOneEnough_66 rfl (lv_at hl 0 rfl) ?_
    refine r_getr C S o_14 cf_3 2 rfl (by decide) b_fl_RX3_9 dX3_isOneEnough_67 ?_
    refine lv_iload_n C.1 C.2.1 dX3_isOneEnough_70 rfl (lv_at hl 1 rfl) ?_
    refine lv_iconst (v := (-1)) C.1 C.2.1 dX3_isOneEnough_71 (by decide) ?_
    obtain ⟨g17, h⟩ := gd_some h
    refine r_iast C S a_68 g17 dX3_isOneEnough_72 (fun H locs S => ?_)
    obtain ⟨w18, h, S⟩ := lw_S (P := fun y => St D ad ca s y H locs) h S
    refine lv_aload_n C.1 C.2.1 dX3_isOneEnough_73 rfl (lv_at hl 0 rfl) ?_
    refine r_getr C S o_14 cf_3 1 rfl (by decide) b_fl_RX3_19 dX3_isOneEnough_74 ?_
    refine r_getr C S o_13 cf_2 7 rfl (by decide) b_fl_RX3_72 dX3_isOneEnough_77 ?_
    refine lv_iload_n C.1 C.2.1 dX3_isOneEnough_80 rfl (lv_at hl 1 rfl) ?_
    refine lv_aload_n C.1 C.2.1 dX3_isOneEnough_81 rfl (lv_at hl 0 rfl) ?_
    refine r_getr C S o_14 cf_3 0 rfl (by decide) b_fl_RX3_15 dX3_isOneEnough_82 ?_
    refine lv_iload_n C.1 C.2.1 dX3_isOneEnough_85 rfl (lv_at hl 1 rfl) ?_
    refine lv_iload_n C.1 C.2.1 dX3_isOneEnough_86 rfl (lv_at hl 2 rfl) ?_
    obtain ⟨o19, e20, h⟩ := Option.bind_eq_some_iff.mp h
    refine r_vi C S hl o_3 cf_0 (k_X0_weight e20) b_vb_RX3_75 [.int v1, .int (w.1 (35 + v1.toNatClampNeg) 4)] rfl [.int v1, .ref (ad 62)] rfl rfl (Nat.le_of_ble_eq_true rfl) ⟨Nat.le_of_ble_eq_true rfl, Nat.le_of_ble_eq_true rfl⟩ dX3_isOneEnough_87 (fun H locs S => ?_)
    obtain ⟨g21, h⟩ := gd_some h
    refine r_iast C S a_62 g21 dX3_isOneEnough_90 (fun H locs S => ?_)
    obtain ⟨w22, h, S⟩ := lw_S (P := fun y => St D ad ca s y H locs) h S
    refine lv_iconst (v := 0) C.1 C.2.1 dX3_isOneEnough_91 (by decide) ?_
    have h9 := Option.some.inj h
    subst h9
    exact r_zret C S hr hlocks (Or.inl rfl) dX3_isOneEnough_92
  · subst hy
    rw [sm_inr] at h
    exact Option.some.inj h
set_option maxHeartbeats 4000000 in
set_option maxRecDepth 100000 in
theorem k_X3_seekOne_L2 {p : Program} {l : Launch} {e : Env} {s : State} {m : MethodId} {args : Array Value} {below : List Frame} {meth : Method} {c : Code} {D : va_G} {ad sx : Nat → Nat} {ca : Nat → ClassId} (C : Cx D ad sx ca p s m c args RX3 cX3_seekOne 2) (hr : meth.sig.returnType = (some .boolean)) (hlocks : meth.locks = false) {rv : Int32 × Wd}   : ∀ (n9 : Nat) (z : Int32 × Wd) (o : (Int32 × Wd) ⊕ (Int32 × Wd)), lp (f_X3_seekOne_L2) n9 z = some o → ((∀ x, o = .inl x → ∀ (ls : Array Slot) (H : Heap) (locs : List Loc), lv_has ls 2 [] → St D ad ca s x.2 H locs → W p l e (RM 4 90) s m args below meth c H locs 0 0 (MQ below (Qi D ad ca rv.1 rv.2) args s 0 0 (Aad ad)) (F0 m 44 ls [])) ∧ ∀ y, o = .inr y → y = rv) → (∀ (ls : Array Slot) (H : Heap) (locs : List Loc), lv_has ls 2 [(0, .ref (ad 14)), (1, .int z.1)] → St D ad ca s z.2 H locs → W p l e (RM 4 90) s m args below meth c H locs 0 0 (MQ below (Qi D ad ca rv.1 rv.2) args s 0 0 (Aad ad)) (F0 m 2 ls [])) := by
  refine lp_W (HW := fun (z : Int32 × Wd) => ∀ (ls : Array Slot) (H : Heap) (locs : List Loc), lv_has ls 2 [(0, .ref (ad 14)), (1, .int z.1)] → St D ad ca s z.2 H locs → W p l e (RM 4 90) s m args below meth c H locs 0 0 (MQ below (Qi D ad ca rv.1 rv.2) args s 0 0 (Aad ad)) (F0 m 2 ls [])) (XW := fun (o : (Int32 × Wd) ⊕ (Int32 × Wd)) => (∀ x, o = .inl x → ∀ (ls : Array Slot) (H : Heap) (locs : List Loc), lv_has ls 2 [] → St D ad ca s x.2 H locs → W p l e (RM 4 90) s m args below meth c H locs 0 0 (MQ below (Qi D ad ca rv.1 rv.2) args s 0 0 (Aad ad)) (F0 m 44 ls [])) ∧ ∀ y, o = .inr y → y = rv) ?_
  intro z x h hN hX ls H locs hl S
  unfold f_X3_seekOne_L2 at h
  refine lv_iload_n C.1 C.2.1 dX3_seekOne_2 rfl (lv_at hl 1 rfl) ?_
  refine lv_aload_n C.1 C.2.1 dX3_seekOne_3 rfl (lv_at hl 0 rfl) ?_
  refine r_getr C S o_14 cf_3 0 rfl (by decide) b_fl_RX3_15 dX3_seekOne_4 ?_
  refine r_geti C S o_3 cf_0 1 rfl (by decide) b_fl_RX3_46 dX3_seekOne_7 ?_
  refine lv_icmp_ge (tgt := 44) C.1 C.2.1 dX3_seekOne_10 (by decide) (fun q1 => ?_) (fun q1 => ?_)
  · replace h := (if_pos q1).symm.trans h
    exact (hX _ (Option.some.inj h).symm).1 _ rfl _ _ _ (lv_sub hl [] rfl) S
  · replace h := (if_neg q1).symm.trans h
    refine lv_aload_n C.1 C.2.1 dX3_seekOne_13 rfl (lv_at hl 0 rfl) ?_
    refine r_getr C S o_14 cf_3 0 rfl (by decide) b_fl_RX3_15 dX3_seekOne_14 ?_
    refine r_getr C S o_3 cf_0 0 rfl (by decide) b_fl_RX3_51 dX3_seekOne_17 ?_
    refine lv_iload_n C.1 C.2.1 dX3_seekOne_20 rfl (lv_at hl 1 rfl) ?_
    obtain ⟨g2, h⟩ := gd_some h
    refine r_aald C S a_17 g2 dX3_seekOne_21 ?_
    refine r_geti C S (o_F1 (inB_lt g2)) cf_4 5 rfl (by decide) b_fl_RX3_55 dX3_seekOne_22 ?_
    refine lv_if_ne (tgt := 38) C.1 C.2.1 dX3_seekOne_25 (by decide) (fun q3 => ?_) (fun q3 => ?_)
    · replace h := (if_neg q3).symm.trans h
      refine lv_iinc (v := z.1 + 1) (lv' := [(1, .int (z.1 + 1)), (0, .ref (ad 14))]) C.1 C.2.1 dX3_seekOne_38 hl (k := 1) rfl rfl (by decide) rfl (fun ls hl => ?_)
      refine lv_goto (tgt := 2) C.1 C.2.1 dX3_seekOne_41 (by decide) ?_
      exact hN _ (Option.some.inj h).symm _ _ _ (lv_sub hl [1, 0] rfl) S
    · replace h := (if_pos q3).symm.trans h
      refine lv_aload_n C.1 C.2.1 dX3_seekOne_28 rfl (lv_at hl 0 rfl) ?_
      refine lv_iload_n C.1 C.2.1 dX3_seekOne_29 rfl (lv_at hl 1 rfl) ?_
      obtain ⟨o4, e5, h⟩ := Option.bind_eq_some_iff.mp h
      refine r_vi C S hl o_14 cf_3 (k_X3_isOneEnough e5) b_vb_RX3_61 [.int z.1] rfl [] rfl rfl (Nat.le_of_ble_eq_true rfl) ⟨Nat.le_of_ble_eq_true rfl, Nat.le_of_ble_eq_true rfl⟩ dX3_seekOne_30 (fun H locs S => ?_)
      refine lv_if_eq (tgt := 38) C.1 C.2.1 dX3_seekOne_33 (by decide) (fun q6 => ?_) (fun q6 => ?_)
      · replace h := (if_pos q6).symm.trans h
        refine lv_iinc (v := z.1 + 1) (lv' := [(1, .int (z.1 + 1)), (0, .ref (ad 14))]) C.1 C.2.1 dX3_seekOne_38 hl (k := 1) rfl rfl (by decide) rfl (fun ls hl => ?_)
        refine lv_goto (tgt := 2) C.1 C.2.1 dX3_seekOne_41 (by decide) ?_
        exact hN _ (Option.some.inj h).symm _ _ _ (lv_sub hl [1, 0] rfl) S
      · replace h := (if_neg q6).symm.trans h
        refine lv_iconst (v := 1) C.1 C.2.1 dX3_seekOne_36 (by decide) ?_
        have h9 := (hX _ (Option.some.inj h).symm).2 _ rfl
        subst h9
        exact r_zret C S hr hlocks (Or.inr rfl) dX3_seekOne_37
set_option maxHeartbeats 4000000 in
set_option maxRecDepth 100000 in
theorem k_X3_seekOne   {w : Wd} {rv : Int32 × Wd} (h : f_X3_seekOne w = some rv) : CI yX3_seekOne cX3_seekOne 2 .boolean 4 90 (fun ad => [.ref (ad 14)]) w rv.1 rv.2 := by
  refine CI.of (by decide) ?_
  intro l D ad sx ca p e s m below meth c C S hr hlocks
  have hl := lv_entry ([.ref (ad 14)]) (n := 2) (Nat.le_of_ble_eq_true rfl)
  rw [lg_entry_eq]
  generalize (lg_sl ([.ref (ad 14)]) ++ List.replicate (2 - (lg_sl ([.ref (ad 14)])).length) Slot.unset).toArray = ls at hl ⊢
  have hl : lv_has ls 2 [(0, .ref (ad 14))] := hl
  generalize ha9 : ([.ref (ad 14)] : List Value).toArray = args at C ⊢
  generalize s.heap = H at S ⊢
  generalize ([] : List Loc) = locs at S ⊢
  unfold f_X3_seekOne at h
  refine lv_iconst (v := 0) C.1 C.2.1 dX3_seekOne_0 (by decide) ?_
  refine lv_istore_n (lv' := [(1, .int 0), (0, .ref (ad 14))]) C.1 C.2.1 dX3_seekOne_1 rfl hl (by decide) rfl (fun ls hl => ?_)
  obtain ⟨o7, e8, h⟩ := Option.bind_eq_some_iff.mp h
  refine k_X3_seekOne_L2 C hr hlocks  FU _ _ e8 ⟨fun x9 hx ls H locs hl S => ?_, fun y10 hy => ?_⟩ ls H locs (lv_sub hl [1, 0] rfl) S
  · subst hx
    rw [sm_inl] at h
    refine lv_iconst (v := 0) C.1 C.2.1 dX3_seekOne_44 (by decide) ?_
    have h9 := Option.some.inj h
    subst h9
    exact r_zret C S hr hlocks (Or.inl rfl) dX3_seekOne_45
  · subst hy
    rw [sm_inr] at h
    exact Option.some.inj h
set_option maxHeartbeats 4000000 in
set_option maxRecDepth 100000 in
theorem k_X3_areTwoEnough_L16 {p : Program} {l : Launch} {e : Env} {s : State} {m : MethodId} {args : Array Value} {below : List Frame} {meth : Method} {c : Code} {D : va_G} {ad sx : Nat → Nat} {ca : Nat → ClassId} (C : Cx D ad sx ca p s m c args RX3 cX3_areTwoEnough 5) (hr : meth.sig.returnType = (some .boolean)) (hlocks : meth.locks = false) {rv : Int32 × Wd} {v1 : Int32} {v2 : Int32} {v3 : Int32}  : ∀ (n9 : Nat) (z : Int32 × Wd) (o : (Int32 × Wd) ⊕ (Int32 × Wd)), lp (f_X3_areTwoEnough_L16 v1 v2 v3) n9 z = some o → ((∀ x, o = .inl x → ∀ (ls : Array Slot) (H : Heap) (locs : List Loc), lv_has ls 5 [(0, .ref (ad 14)), (1, .int v1), (3, .int v3)] → St D ad ca s x.2 H locs → W p l e (RM 4 90) s m args below meth c H locs 0 0 (MQ below (Qi D ad ca rv.1 rv.2) args s 0 0 (Aad ad)) (F0 m 72 ls [])) ∧ ∀ y, o = .inr y → y = rv) → (∀ (ls : Array Slot) (H : Heap) (locs : List Loc), lv_has ls 5 [(0, .ref (ad 14)), (1, .int v1), (2, .int v2), (3, .int v3), (4, .int z.1)] → St D ad ca s z.2 H locs → W p l e (RM 4 90) s m args below meth c H locs 0 0 (MQ below (Qi D ad ca rv.1 rv.2) args s 0 0 (Aad ad)) (F0 m 16 ls [])) := by
  refine lp_W (HW := fun (z : Int32 × Wd) => ∀ (ls : Array Slot) (H : Heap) (locs : List Loc), lv_has ls 5 [(0, .ref (ad 14)), (1, .int v1), (2, .int v2), (3, .int v3), (4, .int z.1)] → St D ad ca s z.2 H locs → W p l e (RM 4 90) s m args below meth c H locs 0 0 (MQ below (Qi D ad ca rv.1 rv.2) args s 0 0 (Aad ad)) (F0 m 16 ls [])) (XW := fun (o : (Int32 × Wd) ⊕ (Int32 × Wd)) => (∀ x, o = .inl x → ∀ (ls : Array Slot) (H : Heap) (locs : List Loc), lv_has ls 5 [(0, .ref (ad 14)), (1, .int v1), (3, .int v3)] → St D ad ca s x.2 H locs → W p l e (RM 4 90) s m args below meth c H locs 0 0 (MQ below (Qi D ad ca rv.1 rv.2) args s 0 0 (Aad ad)) (F0 m 72 ls [])) ∧ ∀ y, o = .inr y → y = rv) ?_
  intro z x h hN hX ls H locs hl S
  unfold f_X3_areTwoEnough_L16 at h
  refine lv_iload C.1 C.2.1 dX3_areTwoEnough_16 (lv_at hl 4 rfl) ?_
  refine lv_bipush (v := 8) C.1 C.2.1 dX3_areTwoEnough_18 (by decide) ?_
  refine lv_icmp_gt (tgt := 72) C.1 C.2.1 dX3_areTwoEnough_20 (by decide) (fun q2 => ?_) (fun q2 => ?_)
  · replace h := (if_pos q2).symm.trans h
    exact (hX _ (Option.some.inj h).symm).1 _ rfl _ _ _ (lv_sub hl [0, 1, 3] rfl) S
  · replace h := (if_neg q2).symm.trans h
    refine lv_iload C.1 C.2.1 dX3_areTwoEnough_23 (lv_at hl 4 rfl) ?_
    refine lv_iload_n C.1 C.2.1 dX3_areTwoEnough_25 rfl (lv_at hl 3 rfl) ?_
    refine lv_icmp_eq (tgt := 66) C.1 C.2.1 dX3_areTwoEnough_26 (by decide) (fun q3 => ?_) (fun q3 => ?_)
    · replace h := (if_pos q3).symm.trans h
      refine lv_iinc (v := z.1 + 1) (lv' := [(4, .int (z.1 + 1)), (0, .ref (ad 14)), (1, .int v1), (2, .int v2), (3, .int v3)]) C.1 C.2.1 dX3_areTwoEnough_66 hl (k := 4) rfl rfl (by decide) rfl (fun ls hl => ?_)
      refine lv_goto (tgt := 16) C.1 C.2.1 dX3_areTwoEnough_69 (by decide) ?_
      exact hN _ (Option.some.inj h).symm _ _ _ (lv_sub hl [1, 2, 3, 4, 0] rfl) S
    · replace h := (if_neg q3).symm.trans h
      refine lv_aload_n C.1 C.2.1 dX3_areTwoEnough_29 rfl (lv_at hl 0 rfl) ?_
      refine r_getr C S o_14 cf_3 2 rfl (by decide) b_fl_RX3_9 dX3_areTwoEnough_30 ?_
      refine lv_iload_n C.1 C.2.1 dX3_areTwoEnough_33 rfl (lv_at hl 1 rfl) ?_
      refine lv_iload C.1 C.2.1 dX3_areTwoEnough_34 (lv_at hl 4 rfl) ?_
      obtain ⟨g4, h⟩ := gd_some h
      refine r_iast C S a_68 g4 dX3_areTwoEnough_36 (fun H locs S => ?_)
      obtain ⟨w5, h, S⟩ := lw_S (P := fun y => St D ad ca s y H locs) h S
      refine lv_aload_n C.1 C.2.1 dX3_areTwoEnough_37 rfl (lv_at hl 0 rfl) ?_
      refine r_getr C S o_14 cf_3 1 rfl (by decide) b_fl_RX3_19 dX3_areTwoEnough_38 ?_
      refine r_getr C S o_13 cf_2 7 rfl (by decide) b_fl_RX3_72 dX3_areTwoEnough_41 ?_
      refine lv_iload_n C.1 C.2.1 dX3_areTwoEnough_44 rfl (lv_at hl 1 rfl) ?_
      refine lv_aload_n C.1 C.2.1 dX3_areTwoEnough_45 rfl (lv_at hl 0 rfl) ?_
      refine r_getr C S o_14 cf_3 0 rfl (by decide) b_fl_RX3_15 dX3_areTwoEnough_46 ?_
      refine lv_iload_n C.1 C.2.1 dX3_areTwoEnough_49 rfl (lv_at hl 1 rfl) ?_
      refine lv_iload C.1 C.2.1 dX3_areTwoEnough_50 (lv_at hl 4 rfl) ?_
      obtain ⟨o6, e7, h⟩ := Option.bind_eq_some_iff.mp h
      refine r_vi C S hl o_3 cf_0 (k_X0_weight e7) b_vb_RX3_75 [.int v1, .int z.1] rfl [.int v1, .ref (ad 62)] rfl rfl (Nat.le_of_ble_eq_true rfl) ⟨Nat.le_of_ble_eq_true rfl, Nat.le_of_ble_eq_true rfl⟩ dX3_areTwoEnough_52 (fun H locs S => ?_)
      obtain ⟨g8, h⟩ := gd_some h
      refine r_iast C S a_62 g8 dX3_areTwoEnough_55 (fun H locs S => ?_)
      obtain ⟨w9, h, S⟩ := lw_S (P := fun y => St D ad ca s y H locs) h S
      refine lv_aload_n C.1 C.2.1 dX3_areTwoEnough_56 rfl (lv_at hl 0 rfl) ?_
      refine lv_iload_n C.1 C.2.1 dX3_areTwoEnough_57 rfl (lv_at hl 2 rfl) ?_
      obtain ⟨o10, e11, h⟩ := Option.bind_eq_some_iff.mp h
      refine r_vi C S hl o_14 cf_3 (k_X3_isOneEnough e11) b_vb_RX3_61 [.int v2] rfl [] rfl rfl (Nat.le_of_ble_eq_true rfl) ⟨Nat.le_of_ble_eq_true rfl, Nat.le_of_ble_eq_true rfl⟩ dX3_areTwoEnough_58 (fun H locs S => ?_)
      refine lv_if_eq (tgt := 66) C.1 C.2.1 dX3_areTwoEnough_61 (by decide) (fun q12 => ?_) (fun q12 => ?_)
      · replace h := (if_pos q12).symm.trans h
        refine lv_iinc (v := z.1 + 1) (lv' := [(4, .int (z.1 + 1)), (0, .ref (ad 14)), (1, .int v1), (2, .int v2), (3, .int v3)]) C.1 C.2.1 dX3_areTwoEnough_66 hl (k := 4) rfl rfl (by decide) rfl (fun ls hl => ?_)
        refine lv_goto (tgt := 16) C.1 C.2.1 dX3_areTwoEnough_69 (by decide) ?_
        exact hN _ (Option.some.inj h).symm _ _ _ (lv_sub hl [1, 2, 3, 4, 0] rfl) S
      · replace h := (if_neg q12).symm.trans h
        refine lv_iconst (v := 1) C.1 C.2.1 dX3_areTwoEnough_64 (by decide) ?_
        have h9 := (hX _ (Option.some.inj h).symm).2 _ rfl
        subst h9
        exact r_zret C S hr hlocks (Or.inr rfl) dX3_areTwoEnough_65
set_option maxHeartbeats 4000000 in
set_option maxRecDepth 100000 in
theorem k_X3_areTwoEnough {v1 : Int32} {v2 : Int32}  {w : Wd} {rv : Int32 × Wd} (h : f_X3_areTwoEnough v1 v2 w = some rv) : CI yX3_areTwoEnough cX3_areTwoEnough 5 .boolean 4 90 (fun ad => [.ref (ad 14), .int v1, .int v2]) w rv.1 rv.2 := by
  refine CI.of (by decide) ?_
  intro l D ad sx ca p e s m below meth c C S hr hlocks
  have hl := lv_entry ([.ref (ad 14), .int v1, .int v2]) (n := 5) (Nat.le_of_ble_eq_true rfl)
  rw [lg_entry_eq]
  generalize (lg_sl ([.ref (ad 14), .int v1, .int v2]) ++ List.replicate (5 - (lg_sl ([.ref (ad 14), .int v1, .int v2])).length) Slot.unset).toArray = ls at hl ⊢
  have hl : lv_has ls 5 [(0, .ref (ad 14)), (1, .int v1), (2, .int v2)] := hl
  generalize ha9 : ([.ref (ad 14), .int v1, .int v2] : List Value).toArray = args at C ⊢
  generalize s.heap = H at S ⊢
  generalize ([] : List Loc) = locs at S ⊢
  unfold f_X3_areTwoEnough at h
  refine lv_aload_n C.1 C.2.1 dX3_areTwoEnough_0 rfl (lv_at hl 0 rfl) ?_
  refine r_getr C S o_14 cf_3 0 rfl (by decide) b_fl_RX3_15 dX3_areTwoEnough_1 ?_
  refine r_getr C S o_3 cf_0 0 rfl (by decide) b_fl_RX3_51 dX3_areTwoEnough_4 ?_
  refine lv_iload_n C.1 C.2.1 dX3_areTwoEnough_7 rfl (lv_at hl 1 rfl) ?_
  obtain ⟨g1, h⟩ := gd_some h
  refine r_aald C S a_17 g1 dX3_areTwoEnough_8 ?_
  refine r_geti C S (o_F1 (inB_lt g1)) cf_4 4 rfl (by decide) b_fl_RX3_69 dX3_areTwoEnough_9 ?_
  refine lv_istore_n (lv' := [(3, .int (w.1 (35 + v1.toNatClampNeg) 4)), (0, .ref (ad 14)), (1, .int v1), (2, .int v2)]) C.1 C.2.1 dX3_areTwoEnough_12 rfl hl (by decide) rfl (fun ls hl => ?_)
  refine lv_iconst (v := 0) C.1 C.2.1 dX3_areTwoEnough_13 (by decide) ?_
  refine lv_istore (lv' := [(4, .int 0), (3, .int (w.1 (35 + v1.toNatClampNeg) 4)), (0, .ref (ad 14)), (1, .int v1), (2, .int v2)]) C.1 C.2.1 dX3_areTwoEnough_14 hl (by decide) rfl (fun ls hl => ?_)
  obtain ⟨o13, e14, h⟩ := Option.bind_eq_some_iff.mp h
  refine k_X3_areTwoEnough_L16 C hr hlocks  FU _ _ e14 ⟨fun x15 hx ls H locs hl S => ?_, fun y16 hy => ?_⟩ ls H locs (lv_sub hl [2, 3, 4, 1, 0] rfl) S
  · subst hx
    rw [sm_inl] at h
    refine lv_aload_n C.1 C.2.1 dX3_areTwoEnough_72 rfl (lv_at hl 0 rfl) ?_
    refine r_getr C S o_14 cf_3 2 rfl (by decide) b_fl_RX3_9 dX3_areTwoEnough_73 ?_
    refine lv_iload_n C.1 C.2.1 dX3_areTwoEnough_76 rfl (lv_at hl 1 rfl) ?_
    refine lv_iconst (v := (-1)) C.1 C.2.1 dX3_areTwoEnough_77 (by decide) ?_
    obtain ⟨g17, h⟩ := gd_some h
    refine r_iast C S a_68 g17 dX3_areTwoEnough_78 (fun H locs S => ?_)
    obtain ⟨w18, h, S⟩ := lw_S (P := fun y => St D ad ca s y H locs) h S
    refine lv_aload_n C.1 C.2.1 dX3_areTwoEnough_79 rfl (lv_at hl 0 rfl) ?_
    refine r_getr C S o_14 cf_3 1 rfl (by decide) b_fl_RX3_19 dX3_areTwoEnough_80 ?_
    refine r_getr C S o_13 cf_2 7 rfl (by decide) b_fl_RX3_72 dX3_areTwoEnough_83 ?_
    refine lv_iload_n C.1 C.2.1 dX3_areTwoEnough_86 rfl (lv_at hl 1 rfl) ?_
    refine lv_aload_n C.1 C.2.1 dX3_areTwoEnough_87 rfl (lv_at hl 0 rfl) ?_
    refine r_getr C S o_14 cf_3 0 rfl (by decide) b_fl_RX3_15 dX3_areTwoEnough_88 ?_
    refine lv_iload_n C.1 C.2.1 dX3_areTwoEnough_91 rfl (lv_at hl 1 rfl) ?_
    refine lv_iload_n C.1 C.2.1 dX3_areTwoEnough_92 rfl (lv_at hl 2 rfl) ?_
    obtain ⟨o19, e20, h⟩ := Option.bind_eq_some_iff.mp h
    refine r_vi C S hl o_3 cf_0 (k_X0_weight e20) b_vb_RX3_75 [.int v1, .int (w.1 (35 + v1.toNatClampNeg) 4)] rfl [.int v1, .ref (ad 62)] rfl rfl (Nat.le_of_ble_eq_true rfl) ⟨Nat.le_of_ble_eq_true rfl, Nat.le_of_ble_eq_true rfl⟩ dX3_areTwoEnough_93 (fun H locs S => ?_)
    obtain ⟨g21, h⟩ := gd_some h
    refine r_iast C S a_62 g21 dX3_areTwoEnough_96 (fun H locs S => ?_)
    obtain ⟨w22, h, S⟩ := lw_S (P := fun y => St D ad ca s y H locs) h S
    refine lv_iconst (v := 0) C.1 C.2.1 dX3_areTwoEnough_97 (by decide) ?_
    have h9 := Option.some.inj h
    subst h9
    exact r_zret C S hr hlocks (Or.inl rfl) dX3_areTwoEnough_98
  · subst hy
    rw [sm_inr] at h
    exact Option.some.inj h
set_option maxHeartbeats 4000000 in
set_option maxRecDepth 100000 in
theorem k_X3_seekTwo_J55 {p : Program} {l : Launch} {e : Env} {s : State} {m : MethodId} {args : Array Value} {below : List Frame} {meth : Method} {c : Code} {D : va_G} {ad sx : Nat → Nat} {ca : Nat → ClassId} (C : Cx D ad sx ca p s m c args RX3 cX3_seekTwo 4) (hr : meth.sig.returnType = (some .boolean)) (hlocks : meth.locks = false) {rv : Int32 × Wd} {w : Wd} {v1 : Int32} {v2 : Int32} {v100 : Int32}  {x : (Int32 × Wd) ⊕ ((Int32 × Wd) ⊕ (Int32 × Wd))} (h : f_X3_seekTwo_J55 v1 v2 v100 w = some x) (hN : ∀ z, x = .inl z → ∀ (ls : Array Slot) (H : Heap) (locs : List Loc), lv_has ls 4 [(0, .ref (ad 14)), (1, .int v1), (2, .int z.1)] → St D ad ca s z.2 H locs → W p l e (RM 5 114) s m args below meth c H locs 0 0 (MQ below (Qi D ad ca rv.1 rv.2) args s 0 0 (Aad ad)) (F0 m 15 ls [])) (hX : ∀ o, x = .inr o → (∀ x, o = .inl x → ∀ (ls : Array Slot) (H : Heap) (locs : List Loc), lv_has ls 4 [(0, .ref (ad 14)), (1, .int v1)] → St D ad ca s x.2 H locs → W p l e (RM 5 114) s m args below meth c H locs 0 0 (MQ below (Qi D ad ca rv.1 rv.2) args s 0 0 (Aad ad)) (F0 m 77 ls [])) ∧ ∀ y, o = .inr y → y = rv) {ls : Array Slot} {H : Heap} {locs : List Loc} (hl : lv_has ls 4 [(0, .ref (ad 14)), (1, .int v1), (2, .int v2)]) (S : St D ad ca s w H locs) : W p l e (RM 5 114) s m args below meth c H locs 0 0 (MQ below (Qi D ad ca rv.1 rv.2) args s 0 0 (Aad ad)) (F0 m 55 ls [.int v100]) := by
  unfold f_X3_seekTwo_J55 at h
  refine lv_istore_n (lv' := [(3, .int v100), (0, .ref (ad 14)), (1, .int v1), (2, .int v2)]) C.1 C.2.1 dX3_seekTwo_55 rfl hl (by decide) rfl (fun ls hl => ?_)
  refine lv_iload_n C.1 C.2.1 dX3_seekTwo_56 rfl (lv_at hl 0 rfl) ?_
  refine lv_if_ne (tgt := 71) C.1 C.2.1 dX3_seekTwo_57 (by decide) (fun q5 => ?_) (fun q5 => ?_)
  · replace h := (if_neg q5).symm.trans h
    refine lv_iinc (v := v2 + 1) (lv' := [(2, .int (v2 + 1)), (3, .int v100), (0, .ref (ad 14)), (1, .int v1)]) C.1 C.2.1 dX3_seekTwo_71 hl (k := 3) rfl rfl (by decide) rfl (fun ls hl => ?_)
    refine lv_goto (tgt := 15) C.1 C.2.1 dX3_seekTwo_74 (by decide) ?_
    exact hN _ (Option.some.inj h).symm _ _ _ (lv_sub hl [2, 3, 0] rfl) S
  · replace h := (if_pos q5).symm.trans h
    refine lv_aload_n C.1 C.2.1 dX3_seekTwo_60 rfl (lv_at hl 1 rfl) ?_
    refine lv_iload_n C.1 C.2.1 dX3_seekTwo_61 rfl (lv_at hl 3 rfl) ?_
    refine lv_iload_n C.1 C.2.1 dX3_seekTwo_62 rfl (lv_at hl 2 rfl) ?_
    obtain ⟨o6, e7, h⟩ := Option.bind_eq_some_iff.mp h
    refine r_vi C S hl o_14 cf_3 (k_X3_areTwoEnough e7) b_vb_RX3_65 [.int v2, .int v1] rfl [] rfl rfl (Nat.le_of_ble_eq_true rfl) ⟨Nat.le_of_ble_eq_true rfl, Nat.le_of_ble_eq_true rfl⟩ dX3_seekTwo_63 (fun H locs S => ?_)
    refine lv_if_eq (tgt := 71) C.1 C.2.1 dX3_seekTwo_66 (by decide) (fun q8 => ?_) (fun q8 => ?_)
    · replace h := (if_pos q8).symm.trans h
      refine lv_iinc (v := v2 + 1) (lv' := [(2, .int (v2 + 1)), (3, .int v100), (0, .ref (ad 14)), (1, .int v1)]) C.1 C.2.1 dX3_seekTwo_71 hl (k := 3) rfl rfl (by decide) rfl (fun ls hl => ?_)
      refine lv_goto (tgt := 15) C.1 C.2.1 dX3_seekTwo_74 (by decide) ?_
      exact hN _ (Option.some.inj h).symm _ _ _ (lv_sub hl [2, 3, 0] rfl) S
    · replace h := (if_neg q8).symm.trans h
      refine lv_iconst (v := 1) C.1 C.2.1 dX3_seekTwo_69 (by decide) ?_
      have h9 := (hX _ (Option.some.inj h).symm).2 _ rfl
      subst h9
      exact r_zret C S hr hlocks (Or.inr rfl) dX3_seekTwo_70
set_option maxHeartbeats 4000000 in
set_option maxRecDepth 100000 in
theorem k_X3_seekTwo_J50 {p : Program} {l : Launch} {e : Env} {s : State} {m : MethodId} {args : Array Value} {below : List Frame} {meth : Method} {c : Code} {D : va_G} {ad sx : Nat → Nat} {ca : Nat → ClassId} (C : Cx D ad sx ca p s m c args RX3 cX3_seekTwo 4) (hr : meth.sig.returnType = (some .boolean)) (hlocks : meth.locks = false) {rv : Int32 × Wd} {w : Wd} {v1 : Int32} {v2 : Int32}  {x : (Int32 × Wd) ⊕ ((Int32 × Wd) ⊕ (Int32 × Wd))} (h : f_X3_seekTwo_J50 v1 v2 w = some x) (hN : ∀ z, x = .inl z → ∀ (ls : Array Slot) (H : Heap) (locs : List Loc), lv_has ls 4 [(0, .ref (ad 14)), (1, .int v1), (2, .int z.1)] → St D ad ca s z.2 H locs → W p l e (RM 5 114) s m args below meth c H locs 0 0 (MQ below (Qi D ad ca rv.1 rv.2) args s 0 0 (Aad ad)) (F0 m 15 ls [])) (hX : ∀ o, x = .inr o → (∀ x, o = .inl x → ∀ (ls : Array Slot) (H : Heap) (locs : List Loc), lv_has ls 4 [(0, .ref (ad 14)), (1, .int v1)] → St D ad ca s x.2 H locs → W p l e (RM 5 114) s m args below meth c H locs 0 0 (MQ below (Qi D ad ca rv.1 rv.2) args s 0 0 (Aad ad)) (F0 m 77 ls [])) ∧ ∀ y, o = .inr y → y = rv) {ls : Array Slot} {H : Heap} {locs : List Loc} (hl : lv_has ls 4 [(0, .ref (ad 14)), (1, .int v1), (2, .int v2)]) (S : St D ad ca s w H locs) : W p l e (RM 5 114) s m args below meth c H locs 0 0 (MQ below (Qi D ad ca rv.1 rv.2) args s 0 0 (Aad ad)) (F0 m 50 ls []) := by
  unfold f_X3_seekTwo_J50 at h
  refine lv_iconst (v := 1) C.1 C.2.1 dX3_seekTwo_50 (by decide) ?_
  refine lv_goto (tgt := 55) C.1 C.2.1 dX3_seekTwo_51 (by decide) ?_
  exact k_X3_seekTwo_J55 C hr hlocks  h hN hX (lv_sub hl [0, 1, 2] rfl) S
set_option maxHeartbeats 4000000 in
set_option maxRecDepth 100000 in
theorem k_X3_seekTwo_L15 {p : Program} {l : Launch} {e : Env} {s : State} {m : MethodId} {args : Array Value} {below : List Frame} {meth : Method} {c : Code} {D : va_G} {ad sx : Nat → Nat} {ca : Nat → ClassId} (C : Cx D ad sx ca p s m c args RX3 cX3_seekTwo 4) (hr : meth.sig.returnType = (some .boolean)) (hlocks : meth.locks = false) {rv : Int32 × Wd} {v1 : Int32}  : ∀ (n9 : Nat) (z : Int32 × Wd) (o : (Int32 × Wd) ⊕ (Int32 × Wd)), lp (f_X3_seekTwo_L15 v1) n9 z = some o → ((∀ x, o = .inl x → ∀ (ls : Array Slot) (H : Heap) (locs : List Loc), lv_has ls 4 [(0, .ref (ad 14)), (1, .int v1)] → St D ad ca s x.2 H locs → W p l e (RM 5 114) s m args below meth c H locs 0 0 (MQ below (Qi D ad ca rv.1 rv.2) args s 0 0 (Aad ad)) (F0 m 77 ls [])) ∧ ∀ y, o = .inr y → y = rv) → (∀ (ls : Array Slot) (H : Heap) (locs : List Loc), lv_has ls 4 [(0, .ref (ad 14)), (1, .int v1), (2, .int z.1)] → St D ad ca s z.2 H locs → W p l e (RM 5 114) s m args below meth c H locs 0 0 (MQ below (Qi D ad ca rv.1 rv.2) args s 0 0 (Aad ad)) (F0 m 15 ls [])) := by
  refine lp_W (HW := fun (z : Int32 × Wd) => ∀ (ls : Array Slot) (H : Heap) (locs : List Loc), lv_has ls 4 [(0, .ref (ad 14)), (1, .int v1), (2, .int z.1)] → St D ad ca s z.2 H locs → W p l e (RM 5 114) s m args below meth c H locs 0 0 (MQ below (Qi D ad ca rv.1 rv.2) args s 0 0 (Aad ad)) (F0 m 15 ls [])) (XW := fun (o : (Int32 × Wd) ⊕ (Int32 × Wd)) => (∀ x, o = .inl x → ∀ (ls : Array Slot) (H : Heap) (locs : List Loc), lv_has ls 4 [(0, .ref (ad 14)), (1, .int v1)] → St D ad ca s x.2 H locs → W p l e (RM 5 114) s m args below meth c H locs 0 0 (MQ below (Qi D ad ca rv.1 rv.2) args s 0 0 (Aad ad)) (F0 m 77 ls [])) ∧ ∀ y, o = .inr y → y = rv) ?_
  intro z x h hN hX ls H locs hl S
  unfold f_X3_seekTwo_L15 at h
  refine lv_iload_n C.1 C.2.1 dX3_seekTwo_15 rfl (lv_at hl 2 rfl) ?_
  refine lv_iload_n C.1 C.2.1 dX3_seekTwo_16 rfl (lv_at hl 1 rfl) ?_
  refine lv_icmp_ge (tgt := 77) C.1 C.2.1 dX3_seekTwo_17 (by decide) (fun q2 => ?_) (fun q2 => ?_)
  · replace h := (if_pos q2).symm.trans h
    exact (hX _ (Option.some.inj h).symm).1 _ rfl _ _ _ (lv_sub hl [0, 1] rfl) S
  · replace h := (if_neg q2).symm.trans h
    refine lv_aload_n C.1 C.2.1 dX3_seekTwo_20 rfl (lv_at hl 0 rfl) ?_
    refine r_getr C S o_14 cf_3 0 rfl (by decide) b_fl_RX3_15 dX3_seekTwo_21 ?_
    refine r_getr C S o_3 cf_0 0 rfl (by decide) b_fl_RX3_51 dX3_seekTwo_24 ?_
    refine lv_iload_n C.1 C.2.1 dX3_seekTwo_27 rfl (lv_at hl 2 rfl) ?_
    obtain ⟨g3, h⟩ := gd_some h
    refine r_aald C S a_17 g3 dX3_seekTwo_28 ?_
    refine r_geti C S (o_F1 (inB_lt g3)) cf_4 5 rfl (by decide) b_fl_RX3_55 dX3_seekTwo_29 ?_
    refine lv_if_ne (tgt := 50) C.1 C.2.1 dX3_seekTwo_32 (by decide) (fun q4 => ?_) (fun q4 => ?_)
    · replace h := (if_neg q4).symm.trans h
      exact k_X3_seekTwo_J50 C hr hlocks  h hN hX (lv_sub hl [0, 1, 2] rfl) S
    · replace h := (if_pos q4).symm.trans h
      refine lv_aload_n C.1 C.2.1 dX3_seekTwo_35 rfl (lv_at hl 0 rfl) ?_
      refine r_getr C S o_14 cf_3 0 rfl (by decide) b_fl_RX3_15 dX3_seekTwo_36 ?_
      refine r_getr C S o_3 cf_0 0 rfl (by decide) b_fl_RX3_51 dX3_seekTwo_39 ?_
      refine lv_iload_n C.1 C.2.1 dX3_seekTwo_42 rfl (lv_at hl 1 rfl) ?_
      obtain ⟨g9, h⟩ := gd_some h
      refine r_aald C S a_17 g9 dX3_seekTwo_43 ?_
      refine r_geti C S (o_F1 (inB_lt g9)) cf_4 5 rfl (by decide) b_fl_RX3_55 dX3_seekTwo_44 ?_
      refine lv_if_eq (tgt := 54) C.1 C.2.1 dX3_seekTwo_47 (by decide) (fun q10 => ?_) (fun q10 => ?_)
      · replace h := (if_pos q10).symm.trans h
        refine lv_iconst (v := 0) C.1 C.2.1 dX3_seekTwo_54 (by decide) ?_
        exact k_X3_seekTwo_J55 C hr hlocks  h hN hX (lv_sub hl [0, 1, 2] rfl) S
      · replace h := (if_neg q10).symm.trans h
        exact k_X3_seekTwo_J50 C hr hlocks  h hN hX (lv_sub hl [0, 1, 2] rfl) S
set_option maxHeartbeats 4000000 in
set_option maxRecDepth 100000 in
theorem k_X3_seekTwo_L2 {p : Program} {l : Launch} {e : Env} {s : State} {m : MethodId} {args : Array Value} {below : List Frame} {meth : Method} {c : Code} {D : va_G} {ad sx : Nat → Nat} {ca : Nat → ClassId} (C : Cx D ad sx ca p s m c args RX3 cX3_seekTwo 4) (hr : meth.sig.returnType = (some .boolean)) (hlocks : meth.locks = false) {rv : Int32 × Wd}   : ∀ (n9 : Nat) (z : Int32 × Wd) (o : (Int32 × Wd) ⊕ (Int32 × Wd)), lp (f_X3_seekTwo_L2) n9 z = some o → ((∀ x, o = .inl x → ∀ (ls : Array Slot) (H : Heap) (locs : List Loc), lv_has ls 4 [] → St D ad ca s x.2 H locs → W p l e (RM 5 114) s m args below meth c H locs 0 0 (MQ below (Qi D ad ca rv.1 rv.2) args s 0 0 (Aad ad)) (F0 m 83 ls [])) ∧ ∀ y, o = .inr y → y = rv) → (∀ (ls : Array Slot) (H : Heap) (locs : List Loc), lv_has ls 4 [(0, .ref (ad 14)), (1, .int z.1)] → St D ad ca s z.2 H locs → W p l e (RM 5 114) s m args below meth c H locs 0 0 (MQ below (Qi D ad ca rv.1 rv.2) args s 0 0 (Aad ad)) (F0 m 2 ls [])) := by
  refine lp_W (HW := fun (z : Int32 × Wd) => ∀ (ls : Array Slot) (H : Heap) (locs : List Loc), lv_has ls 4 [(0, .ref (ad 14)), (1, .int z.1)] → St D ad ca s z.2 H locs → W p l e (RM 5 114) s m args below meth c H locs 0 0 (MQ below (Qi D ad ca rv.1 rv.2) args s 0 0 (Aad ad)) (F0 m 2 ls [])) (XW := fun (o : (Int32 × Wd) ⊕ (Int32 × Wd)) => (∀ x, o = .inl x → ∀ (ls : Array Slot) (H : Heap) (locs : List Loc), lv_has ls 4 [] → St D ad ca s x.2 H locs → W p l e (RM 5 114) s m args below meth c H locs 0 0 (MQ below (Qi D ad ca rv.1 rv.2) args s 0 0 (Aad ad)) (F0 m 83 ls [])) ∧ ∀ y, o = .inr y → y = rv) ?_
  intro z x h hN hX ls H locs hl S
  unfold f_X3_seekTwo_L2 at h
  refine lv_iload_n C.1 C.2.1 dX3_seekTwo_2 rfl (lv_at hl 1 rfl) ?_
  refine lv_aload_n C.1 C.2.1 dX3_seekTwo_3 rfl (lv_at hl 0 rfl) ?_
  refine r_getr C S o_14 cf_3 0 rfl (by decide) b_fl_RX3_15 dX3_seekTwo_4 ?_
  refine r_geti C S o_3 cf_0 1 rfl (by decide) b_fl_RX3_46 dX3_seekTwo_7 ?_
  refine lv_icmp_ge (tgt := 83) C.1 C.2.1 dX3_seekTwo_10 (by decide) (fun q1 => ?_) (fun q1 => ?_)
  · replace h := (if_pos q1).symm.trans h
    exact (hX _ (Option.some.inj h).symm).1 _ rfl _ _ _ (lv_sub hl [] rfl) S
  · replace h := (if_neg q1).symm.trans h
    refine lv_iconst (v := 0) C.1 C.2.1 dX3_seekTwo_13 (by decide) ?_
    refine lv_istore_n (lv' := [(2, .int 0), (0, .ref (ad 14)), (1, .int z.1)]) C.1 C.2.1 dX3_seekTwo_14 rfl hl (by decide) rfl (fun ls hl => ?_)
    obtain ⟨o11, e12, h⟩ := Option.bind_eq_some_iff.mp h
    refine k_X3_seekTwo_L15 C hr hlocks  FU _ _ e12 ⟨fun x13 hx ls H locs hl S => ?_, fun y14 hy => ?_⟩ ls H locs (lv_sub hl [1, 2, 0] rfl) S
    · subst hx
      rw [sm_inl] at h
      refine lv_iinc (v := z.1 + 1) (lv' := [(1, .int (z.1 + 1)), (0, .ref (ad 14))]) C.1 C.2.1 dX3_seekTwo_77 hl (k := 1) rfl rfl (by decide) rfl (fun ls hl => ?_)
      refine lv_goto (tgt := 2) C.1 C.2.1 dX3_seekTwo_80 (by decide) ?_
      exact hN _ (Option.some.inj h).symm _ _ _ (lv_sub hl [1, 0] rfl) S
    · subst hy
      rw [sm_inr] at h
      exact (hX _ (Option.some.inj h).symm).2 _ rfl
set_option maxHeartbeats 4000000 in
set_option maxRecDepth 100000 in
theorem k_X3_seekTwo   {w : Wd} {rv : Int32 × Wd} (h : f_X3_seekTwo w = some rv) : CI yX3_seekTwo cX3_seekTwo 4 .boolean 5 114 (fun ad => [.ref (ad 14)]) w rv.1 rv.2 := by
  refine CI.of (by decide) ?_
  intro l D ad sx ca p e s m below meth c C S hr hlocks
  have hl := lv_entry ([.ref (ad 14)]) (n := 4) (Nat.le_of_ble_eq_true rfl)
  rw [lg_entry_eq]
  generalize (lg_sl ([.ref (ad 14)]) ++ List.replicate (4 - (lg_sl ([.ref (ad 14)])).length) Slot.unset).toArray = ls at hl ⊢
  have hl : lv_has ls 4 [(0, .ref (ad 14))] := hl
  generalize ha9 : ([.ref (ad 14)] : List Value).toArray = args at C ⊢
  generalize s.heap = H at S ⊢
  generalize ([] : List Loc) = locs at S ⊢
  unfold f_X3_seekTwo at h
  refine lv_iconst (v := 1) C.1 C.2.1 dX3_seekTwo_0 (by decide) ?_
  refine lv_istore_n (lv' := [(1, .int 1), (0, .ref (ad 14))]) C.1 C.2.1 dX3_seekTwo_1 rfl hl (by decide) rfl (fun ls hl => ?_)
  obtain ⟨o15, e16, h⟩ := Option.bind_eq_some_iff.mp h
  refine k_X3_seekTwo_L2 C hr hlocks  FU _ _ e16 ⟨fun x17 hx ls H locs hl S => ?_, fun y18 hy => ?_⟩ ls H locs (lv_sub hl [1, 0] rfl) S
  · subst hx
    rw [sm_inl] at h
    refine lv_iconst (v := 0) C.1 C.2.1 dX3_seekTwo_83 (by decide) ?_
    have h9 := Option.some.inj h
    subst h9
    exact r_zret C S hr hlocks (Or.inl rfl) dX3_seekTwo_84
  · subst hy
    rw [sm_inr] at h
    exact Option.some.inj h
set_option maxHeartbeats 4000000 in
set_option maxRecDepth 100000 in
theorem k_X3_seek_L23 {p : Program} {l : Launch} {e : Env} {s : State} {m : MethodId} {args : Array Value} {below : List Frame} {meth : Method} {c : Code} {D : va_G} {ad sx : Nat → Nat} {ca : Nat → ClassId} (C : Cx D ad sx ca p s m c args RX3 cX3_seek 4) {Q : State → Prop}   : ∀ (n9 : Nat) (z : Int32 × Wd) (o : Int32 × Wd), lp (f_X3_seek_L23) n9 z = some o → (∀ (ls : Array Slot) (H : Heap) (locs : List Loc), lv_has ls 4 [(0, .ref (ad 14))] → St D ad ca s o.2 H locs → W p l e (RM 6 137) s m args below meth c H locs 0 0 Q (F0 m 42 ls [])) → (∀ (ls : Array Slot) (H : Heap) (locs : List Loc), lv_has ls 4 [(0, .ref (ad 14)), (3, .int z.1)] → St D ad ca s z.2 H locs → W p l e (RM 6 137) s m args below meth c H locs 0 0 Q (F0 m 23 ls [])) := by
  refine lp_W (HW := fun (z : Int32 × Wd) => ∀ (ls : Array Slot) (H : Heap) (locs : List Loc), lv_has ls 4 [(0, .ref (ad 14)), (3, .int z.1)] → St D ad ca s z.2 H locs → W p l e (RM 6 137) s m args below meth c H locs 0 0 Q (F0 m 23 ls [])) (XW := fun (o : Int32 × Wd) => ∀ (ls : Array Slot) (H : Heap) (locs : List Loc), lv_has ls 4 [(0, .ref (ad 14))] → St D ad ca s o.2 H locs → W p l e (RM 6 137) s m args below meth c H locs 0 0 Q (F0 m 42 ls [])) ?_
  intro z x h hN hX ls H locs hl S
  unfold f_X3_seek_L23 at h
  refine lv_iload_n C.1 C.2.1 dX3_seek_23 rfl (lv_at hl 1 rfl) ?_
  refine lv_bipush (v := 12) C.1 C.2.1 dX3_seek_24 (by decide) ?_
  refine lv_icmp_ge (tgt := 42) C.1 C.2.1 dX3_seek_26 (by decide) (fun q5 => ?_) (fun q5 => ?_)
  · replace h := (if_pos q5).symm.trans h
    exact hX _ (Option.some.inj h).symm _ _ _ (lv_sub hl [0] rfl) S
  · replace h := (if_neg q5).symm.trans h
    refine lv_aload_n C.1 C.2.1 dX3_seek_29 rfl (lv_at hl 0 rfl) ?_
    refine r_getr C S o_14 cf_3 2 rfl (by decide) b_fl_RX3_9 dX3_seek_30 ?_
    refine lv_iload_n C.1 C.2.1 dX3_seek_33 rfl (lv_at hl 1 rfl) ?_
    refine lv_iconst (v := (-1)) C.1 C.2.1 dX3_seek_34 (by decide) ?_
    obtain ⟨g6, h⟩ := gd_some h
    refine r_iast C S a_68 g6 dX3_seek_35 (fun H locs S => ?_)
    obtain ⟨w7, h, S⟩ := lw_S (P := fun y => St D ad ca s y H locs) h S
    refine lv_iinc (v := z.1 + 1) (lv' := [(3, .int (z.1 + 1)), (0, .ref (ad 14))]) C.1 C.2.1 dX3_seek_36 hl (k := 1) rfl rfl (by decide) rfl (fun ls hl => ?_)
    refine lv_goto (tgt := 23) C.1 C.2.1 dX3_seek_39 (by decide) ?_
    exact hN _ (Option.some.inj h).symm _ _ _ (lv_sub hl [1, 0] rfl) S
set_option maxHeartbeats 4000000 in
set_option maxRecDepth 100000 in
theorem k_X3_seek {v1 : Int32} {v2 : Int32}  {w : Wd} {rv : Int32 × Wd} (h : f_X3_seek v1 v2 w = some rv) : CI yX3_seek cX3_seek 4 .boolean 6 137 (fun ad => [.ref (ad 14), .int v1, .int v2]) w rv.1 rv.2 := by
  refine CI.of (by decide) ?_
  intro l D ad sx ca p e s m below meth c C S hr hlocks
  have hl := lv_entry ([.ref (ad 14), .int v1, .int v2]) (n := 4) (Nat.le_of_ble_eq_true rfl)
  rw [lg_entry_eq]
  generalize (lg_sl ([.ref (ad 14), .int v1, .int v2]) ++ List.replicate (4 - (lg_sl ([.ref (ad 14), .int v1, .int v2])).length) Slot.unset).toArray = ls at hl ⊢
  have hl : lv_has ls 4 [(0, .ref (ad 14)), (1, .int v1), (2, .int v2)] := hl
  generalize ha9 : ([.ref (ad 14), .int v1, .int v2] : List Value).toArray = args at C ⊢
  generalize s.heap = H at S ⊢
  generalize ([] : List Loc) = locs at S ⊢
  unfold f_X3_seek at h
  refine lv_aload_n C.1 C.2.1 dX3_seek_0 rfl (lv_at hl 0 rfl) ?_
  refine lv_iload_n C.1 C.2.1 dX3_seek_1 rfl (lv_at hl 1 rfl) ?_
  refine r_put C S o_14 cf_3 3 rfl (by decide) rfl (ni _) b_fl_RX3_23 dX3_seek_2 (fun H locs S => ?_)
  obtain ⟨w1, h, S⟩ := lw_S (P := fun y => St D ad ca s y H locs) h S
  refine lv_aload_n C.1 C.2.1 dX3_seek_5 rfl (lv_at hl 0 rfl) ?_
  refine lv_iload_n C.1 C.2.1 dX3_seek_6 rfl (lv_at hl 2 rfl) ?_
  refine r_put C S o_14 cf_3 4 rfl (by decide) rfl (ni _) b_fl_RX3_27 dX3_seek_7 (fun H locs S => ?_)
  obtain ⟨w2, h, S⟩ := lw_S (P := fun y => St D ad ca s y H locs) h S
  refine lv_aload_n C.1 C.2.1 dX3_seek_10 rfl (lv_at hl 0 rfl) ?_
  refine r_getr C S o_14 cf_3 1 rfl (by decide) b_fl_RX3_19 dX3_seek_11 ?_
  refine lv_aload_n C.1 C.2.1 dX3_seek_14 rfl (lv_at hl 0 rfl) ?_
  refine r_getr C S o_14 cf_3 0 rfl (by decide) b_fl_RX3_15 dX3_seek_15 ?_
  obtain ⟨o3, e4, h⟩ := Option.bind_eq_some_iff.mp h
  refine r_vv C S hl o_13 cf_2 (k_X2_begin e4) b_vb_RX3_30 [.ref (ad 3)] rfl [] rfl rfl (Nat.le_of_ble_eq_true rfl) ⟨Nat.le_of_ble_eq_true rfl, Nat.le_of_ble_eq_true rfl⟩ dX3_seek_18 (fun H locs S => ?_)
  refine lv_iconst (v := 0) C.1 C.2.1 dX3_seek_21 (by decide) ?_
  refine lv_istore_n (lv' := [(3, .int 0), (0, .ref (ad 14)), (1, .int v1), (2, .int v2)]) C.1 C.2.1 dX3_seek_22 rfl hl (by decide) rfl (fun ls hl => ?_)
  obtain ⟨o8, e9, h⟩ := Option.bind_eq_some_iff.mp h
  refine k_X3_seek_L23 C  FU _ _ e9 (fun ls H locs hl S => ?_) ls H locs (lv_sub hl [1, 0] rfl) S
  refine lv_aload_n C.1 C.2.1 dX3_seek_42 rfl (lv_at hl 0 rfl) ?_
  obtain ⟨o10, e11, h⟩ := Option.bind_eq_some_iff.mp h
  refine r_vi C S hl o_14 cf_3 (k_X3_isGood e11) b_vb_RX3_36 [] rfl [] rfl rfl (Nat.le_of_ble_eq_true rfl) ⟨Nat.le_of_ble_eq_true rfl, Nat.le_of_ble_eq_true rfl⟩ dX3_seek_43 (fun H locs S => ?_)
  refine lv_if_ne (tgt := 63) C.1 C.2.1 dX3_seek_46 (by decide) (fun q12 => ?_) (fun q12 => ?_)
  · replace h := (if_neg q12).symm.trans h
    refine lv_iconst (v := 1) C.1 C.2.1 dX3_seek_63 (by decide) ?_
    refine lv_goto (tgt := 68) C.1 C.2.1 dX3_seek_64 (by decide) ?_
    have h9 := Option.some.inj h
    subst h9
    exact r_zret C S hr hlocks (Or.inr rfl) dX3_seek_68
  · replace h := (if_pos q12).symm.trans h
    refine lv_aload_n C.1 C.2.1 dX3_seek_49 rfl (lv_at hl 0 rfl) ?_
    obtain ⟨o13, e14, h⟩ := Option.bind_eq_some_iff.mp h
    refine r_vi C S hl o_14 cf_3 (k_X3_seekOne e14) b_vb_RX3_40 [] rfl [] rfl rfl (Nat.le_of_ble_eq_true rfl) ⟨Nat.le_of_ble_eq_true rfl, Nat.le_of_ble_eq_true rfl⟩ dX3_seek_50 (fun H locs S => ?_)
    refine lv_if_ne (tgt := 63) C.1 C.2.1 dX3_seek_53 (by decide) (fun q15 => ?_) (fun q15 => ?_)
    · replace h := (if_neg q15).symm.trans h
      refine lv_iconst (v := 1) C.1 C.2.1 dX3_seek_63 (by decide) ?_
      refine lv_goto (tgt := 68) C.1 C.2.1 dX3_seek_64 (by decide) ?_
      have h9 := Option.some.inj h
      subst h9
      exact r_zret C S hr hlocks (Or.inr rfl) dX3_seek_68
    · replace h := (if_pos q15).symm.trans h
      refine lv_aload_n C.1 C.2.1 dX3_seek_56 rfl (lv_at hl 0 rfl) ?_
      obtain ⟨o16, e17, h⟩ := Option.bind_eq_some_iff.mp h
      refine r_vi C S hl o_14 cf_3 (k_X3_seekTwo e17) b_vb_RX3_43 [] rfl [] rfl rfl (Nat.le_of_ble_eq_true rfl) ⟨Nat.le_of_ble_eq_true rfl, Nat.le_of_ble_eq_true rfl⟩ dX3_seek_57 (fun H locs S => ?_)
      refine lv_if_eq (tgt := 67) C.1 C.2.1 dX3_seek_60 (by decide) (fun q18 => ?_) (fun q18 => ?_)
      · replace h := (if_pos q18).symm.trans h
        refine lv_iconst (v := 0) C.1 C.2.1 dX3_seek_67 (by decide) ?_
        have h9 := Option.some.inj h
        subst h9
        exact r_zret C S hr hlocks (Or.inl rfl) dX3_seek_68
      · replace h := (if_neg q18).symm.trans h
        refine lv_iconst (v := 1) C.1 C.2.1 dX3_seek_63 (by decide) ?_
        refine lv_goto (tgt := 68) C.1 C.2.1 dX3_seek_64 (by decide) ?_
        have h9 := Option.some.inj h
        subst h9
        exact r_zret C S hr hlocks (Or.inr rfl) dX3_seek_68

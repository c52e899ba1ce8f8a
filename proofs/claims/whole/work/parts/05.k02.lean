set_option maxHeartbeats 4000000 in
set_option maxRecDepth 100000 in
theorem k_X4_isBeside {t0 : Nat} {t1 : Nat} (ht0 : Fl t0) (ht1 : Fl t1) {w : Wd} {rv : Int32} (h : f_X4_isBeside t0 t1 w = some rv) : CI yX4_isBeside cX4_isBeside 2 .boolean 1 21 (fun ad => [.ref (ad t0), .ref (ad t1)]) w rv w := by
  refine CI.of (by decide) ?_
  intro l D ad sx ca p e s m below meth c C S hr hlocks
  have hl := lv_entry ([.ref (ad t0), .ref (ad t1)]) (n := 2) (Nat.le_of_ble_eq_true rfl)
  rw [lg_entry_eq]
  generalize (lg_sl ([.ref (ad t0), .ref (ad t1)]) ++ List.replicate (2 - (lg_sl ([.ref (ad t0), .ref (ad t1)])).length) Slot.unset).toArray = ls at hl ⊢
  have hl : lv_has ls 2 [(0, .ref (ad t0)), (1, .ref (ad t1))] := hl
  generalize ha9 : ([.ref (ad t0), .ref (ad t1)] : List Value).toArray = args at C ⊢
  generalize s.heap = H at S ⊢
  generalize ([] : List Loc) = locs at S ⊢
  unfold f_X4_isBeside at h
  refine lv_aload_n C.1 C.2.1 dX4_isBeside_0 rfl (lv_at hl 0 rfl) ?_
  refine r_geti C S ht0 cf_4 2 rfl (by decide) b_fl_RX4_18 dX4_isBeside_1 ?_
  refine lv_aload_n C.1 C.2.1 dX4_isBeside_4 rfl (lv_at hl 1 rfl) ?_
  refine r_geti C S ht1 cf_4 2 rfl (by decide) b_fl_RX4_18 dX4_isBeside_5 ?_
  refine lv_icmp_ne (tgt := 31) C.1 C.2.1 dX4_isBeside_8 (by decide) (fun q1 => ?_) (fun q1 => ?_)
  · replace h := (if_neg q1).symm.trans h
    refine lv_iconst (v := 0) C.1 C.2.1 dX4_isBeside_31 (by decide) ?_
    have h9 := Option.some.inj h
    subst h9
    exact r_zret C S hr hlocks (Or.inl rfl) dX4_isBeside_32
  · replace h := (if_pos q1).symm.trans h
    refine lv_aload_n C.1 C.2.1 dX4_isBeside_11 rfl (lv_at hl 0 rfl) ?_
    refine r_geti C S ht0 cf_4 1 rfl (by decide) b_fl_RX4_15 dX4_isBeside_12 ?_
    refine lv_aload_n C.1 C.2.1 dX4_isBeside_15 rfl (lv_at hl 1 rfl) ?_
    refine r_geti C S ht1 cf_4 1 rfl (by decide) b_fl_RX4_15 dX4_isBeside_16 ?_
    refine lv_isub C.1 C.2.1 dX4_isBeside_19 ?_
    refine r_mabs C hl b_ma_RX4_63 dX4_isBeside_20 (by decide) (Nat.le_of_ble_eq_true rfl) ?_
    refine lv_iconst (v := 1) C.1 C.2.1 dX4_isBeside_23 (by decide) ?_
    refine lv_icmp_ne (tgt := 31) C.1 C.2.1 dX4_isBeside_24 (by decide) (fun q2 => ?_) (fun q2 => ?_)
    · replace h := (if_neg q2).symm.trans h
      refine lv_iconst (v := 0) C.1 C.2.1 dX4_isBeside_31 (by decide) ?_
      have h9 := Option.some.inj h
      subst h9
      exact r_zret C S hr hlocks (Or.inl rfl) dX4_isBeside_32
    · replace h := (if_pos q2).symm.trans h
      refine lv_iconst (v := 1) C.1 C.2.1 dX4_isBeside_27 (by decide) ?_
      refine lv_goto (tgt := 32) C.1 C.2.1 dX4_isBeside_28 (by decide) ?_
      have h9 := Option.some.inj h
      subst h9
      exact r_zret C S hr hlocks (Or.inr rfl) dX4_isBeside_32
set_option maxHeartbeats 4000000 in
set_option maxRecDepth 100000 in
theorem k_X2_addWall {v1 : Int32} {v2 : Int32}  {w : Wd} {rv : Wd} (h : f_X2_addWall v1 v2 w = some rv) : CV yX2_addWall cX2_addWall 3 0 0 (fun ad => [.ref (ad 13), .int v1, .int v2]) w rv := by
  refine CV.of (by decide) ?_
  intro l D ad sx ca p e s m below meth c C S hr hlocks
  have hl := lv_entry ([.ref (ad 13), .int v1, .int v2]) (n := 3) (Nat.le_of_ble_eq_true rfl)
  rw [lg_entry_eq]
  generalize (lg_sl ([.ref (ad 13), .int v1, .int v2]) ++ List.replicate (3 - (lg_sl ([.ref (ad 13), .int v1, .int v2])).length) Slot.unset).toArray = ls at hl ⊢
  have hl : lv_has ls 3 [(0, .ref (ad 13)), (1, .int v1), (2, .int v2)] := hl
  generalize ha9 : ([.ref (ad 13), .int v1, .int v2] : List Value).toArray = args at C ⊢
  generalize s.heap = H at S ⊢
  generalize ([] : List Loc) = locs at S ⊢
  unfold f_X2_addWall at h
  refine lv_aload_n C.1 C.2.1 dX2_addWall_0 rfl (lv_at hl 0 rfl) ?_
  refine r_geti C S o_13 cf_2 13 rfl (by decide) b_fl_RX2_58 dX2_addWall_1 ?_
  refine lv_aload_n C.1 C.2.1 dX2_addWall_4 rfl (lv_at hl 0 rfl) ?_
  refine r_getr C S o_13 cf_2 11 rfl (by decide) b_fl_RX2_33 dX2_addWall_5 ?_
  refine r_alen C S a_66 (v := 48) (by decide) dX2_addWall_8 ?_
  refine lv_icmp_ge (tgt := 42) C.1 C.2.1 dX2_addWall_9 (by decide) (fun q1 => ?_) (fun q1 => ?_)
  · replace h := (if_pos q1).symm.trans h
    have h9 := Option.some.inj h
    subst h9
    exact r_vret C S hr hlocks dX2_addWall_42
  · replace h := (if_neg q1).symm.trans h
    refine lv_aload_n C.1 C.2.1 dX2_addWall_12 rfl (lv_at hl 0 rfl) ?_
    refine r_getr C S o_13 cf_2 11 rfl (by decide) b_fl_RX2_33 dX2_addWall_13 ?_
    refine lv_aload_n C.1 C.2.1 dX2_addWall_16 rfl (lv_at hl 0 rfl) ?_
    refine r_geti C S o_13 cf_2 13 rfl (by decide) b_fl_RX2_58 dX2_addWall_17 ?_
    refine lv_iload_n C.1 C.2.1 dX2_addWall_20 rfl (lv_at hl 1 rfl) ?_
    obtain ⟨g2, h⟩ := gd_some h
    refine r_iast C S a_66 g2 dX2_addWall_21 (fun H locs S => ?_)
    obtain ⟨w3, h, S⟩ := lw_S (P := fun y => St D ad ca s y H locs) h S
    refine lv_aload_n C.1 C.2.1 dX2_addWall_22 rfl (lv_at hl 0 rfl) ?_
    refine r_getr C S o_13 cf_2 12 rfl (by decide) b_fl_RX2_36 dX2_addWall_23 ?_
    refine lv_aload_n C.1 C.2.1 dX2_addWall_26 rfl (lv_at hl 0 rfl) ?_
    refine r_geti C S o_13 cf_2 13 rfl (by decide) b_fl_RX2_58 dX2_addWall_27 ?_
    refine lv_iload_n C.1 C.2.1 dX2_addWall_30 rfl (lv_at hl 2 rfl) ?_
    obtain ⟨g4, h⟩ := gd_some h
    refine r_iast C S a_67 g4 dX2_addWall_31 (fun H locs S => ?_)
    obtain ⟨w5, h, S⟩ := lw_S (P := fun y => St D ad ca s y H locs) h S
    refine lv_aload_n C.1 C.2.1 dX2_addWall_32 rfl (lv_at hl 0 rfl) ?_
    refine lv_dup C.1 C.2.1 dX2_addWall_33 rfl ?_
    refine r_geti C S o_13 cf_2 13 rfl (by decide) b_fl_RX2_58 dX2_addWall_34 ?_
    refine lv_iconst (v := 1) C.1 C.2.1 dX2_addWall_37 (by decide) ?_
    refine lv_iadd C.1 C.2.1 dX2_addWall_38 ?_
    refine r_put C S o_13 cf_2 13 rfl (by decide) rfl (ni _) b_fl_RX2_58 dX2_addWall_39 (fun H locs S => ?_)
    obtain ⟨w6, h, S⟩ := lw_S (P := fun y => St D ad ca s y H locs) h S
    have h9 := Option.some.inj h
    subst h9
    exact r_vret C S hr hlocks dX2_addWall_42
set_option maxHeartbeats 4000000 in
set_option maxRecDepth 100000 in
theorem k_X2_restart_L4 {p : Program} {l : Launch} {e : Env} {s : State} {m : MethodId} {args : Array Value} {below : List Frame} {meth : Method} {c : Code} {D : va_G} {ad sx : Nat → Nat} {ca : Nat → ClassId} (C : Cx D ad sx ca p s m c args RX2 cX2_restart 3) {Q : State → Prop} {w : Wd}   : ∀ (n9 : Nat) (z : Int32 × Int32) (o : Int32 × Int32), lp (f_X2_restart_L4 w) n9 z = some o → (∀ (ls : Array Slot) (H : Heap) (locs : List Loc), lv_has ls 3 [(0, .ref (ad 13)), (1, .int o.1)] → St D ad ca s w H locs → W p l e (RM 1 22) s m args below meth c H locs 0 0 Q (F0 m 27 ls [])) → (∀ (ls : Array Slot) (H : Heap) (locs : List Loc), lv_has ls 3 [(0, .ref (ad 13)), (1, .int z.1), (2, .int z.2)] → St D ad ca s w H locs → W p l e (RM 1 22) s m args below meth c H locs 0 0 Q (F0 m 4 ls [])) := by
  refine lp_W (HW := fun (z : Int32 × Int32) => ∀ (ls : Array Slot) (H : Heap) (locs : List Loc), lv_has ls 3 [(0, .ref (ad 13)), (1, .int z.1), (2, .int z.2)] → St D ad ca s w H locs → W p l e (RM 1 22) s m args below meth c H locs 0 0 Q (F0 m 4 ls [])) (XW := fun (o : Int32 × Int32) => ∀ (ls : Array Slot) (H : Heap) (locs : List Loc), lv_has ls 3 [(0, .ref (ad 13)), (1, .int o.1)] → St D ad ca s w H locs → W p l e (RM 1 22) s m args below meth c H locs 0 0 Q (F0 m 27 ls [])) ?_
  intro z x h hN hX ls H locs hl S
  unfold f_X2_restart_L4 at h
  refine lv_iload_n C.1 C.2.1 dX2_restart_4 rfl (lv_at hl 2 rfl) ?_
  refine lv_aload_n C.1 C.2.1 dX2_restart_5 rfl (lv_at hl 0 rfl) ?_
  refine r_geti C S o_13 cf_2 0 rfl (by decide) b_fl_RX2_45 dX2_restart_6 ?_
  refine lv_icmp_ge (tgt := 27) C.1 C.2.1 dX2_restart_9 (by decide) (fun q1 => ?_) (fun q1 => ?_)
  · replace h := (if_pos q1).symm.trans h
    exact hX _ (Option.some.inj h).symm _ _ _ (lv_sub hl [0, 1] rfl) S
  · replace h := (if_neg q1).symm.trans h
    refine lv_iload_n C.1 C.2.1 dX2_restart_12 rfl (lv_at hl 1 rfl) ?_
    refine lv_aload_n C.1 C.2.1 dX2_restart_13 rfl (lv_at hl 0 rfl) ?_
    refine r_getr C S o_13 cf_2 7 rfl (by decide) b_fl_RX2_21 dX2_restart_14 ?_
    refine lv_iload_n C.1 C.2.1 dX2_restart_17 rfl (lv_at hl 2 rfl) ?_
    obtain ⟨g2, h⟩ := gd_some h
    refine r_iald C S a_62 g2 dX2_restart_18 ?_
    refine lv_iadd C.1 C.2.1 dX2_restart_19 ?_
    refine lv_istore_n (lv' := [(1, .int (z.1 + (w.1 62 z.2.toNatClampNeg))), (0, .ref (ad 13)), (2, .int z.2)]) C.1 C.2.1 dX2_restart_20 rfl hl (by decide) rfl (fun ls hl => ?_)
    refine lv_iinc (v := z.2 + 1) (lv' := [(2, .int (z.2 + 1)), (1, .int (z.1 + (w.1 62 z.2.toNatClampNeg))), (0, .ref (ad 13))]) C.1 C.2.1 dX2_restart_21 hl (k := 2) rfl rfl (by decide) rfl (fun ls hl => ?_)
    refine lv_goto (tgt := 4) C.1 C.2.1 dX2_restart_24 (by decide) ?_
    exact hN _ (Option.some.inj h).symm _ _ _ (lv_sub hl [2, 1, 0] rfl) S
set_option maxHeartbeats 4000000 in
set_option maxRecDepth 100000 in
theorem k_X2_restart_L29 {p : Program} {l : Launch} {e : Env} {s : State} {m : MethodId} {args : Array Value} {below : List Frame} {meth : Method} {c : Code} {D : va_G} {ad sx : Nat → Nat} {ca : Nat → ClassId} (C : Cx D ad sx ca p s m c args RX2 cX2_restart 3) {Q : State → Prop} {v1 : Int32}  : ∀ (n9 : Nat) (z : Int32 × Wd) (o : Int32 × Wd), lp (f_X2_restart_L29 v1) n9 z = some o → (∀ (ls : Array Slot) (H : Heap) (locs : List Loc), lv_has ls 3 [] → St D ad ca s o.2 H locs → W p l e (RM 1 22) s m args below meth c H locs 0 0 Q (F0 m 75 ls [])) → (∀ (ls : Array Slot) (H : Heap) (locs : List Loc), lv_has ls 3 [(0, .ref (ad 13)), (1, .int v1), (2, .int z.1)] → St D ad ca s z.2 H locs → W p l e (RM 1 22) s m args below meth c H locs 0 0 Q (F0 m 29 ls [])) := by
  refine lp_W (HW := fun (z : Int32 × Wd) => ∀ (ls : Array Slot) (H : Heap) (locs : List Loc), lv_has ls 3 [(0, .ref (ad 13)), (1, .int v1), (2, .int z.1)] → St D ad ca s z.2 H locs → W p l e (RM 1 22) s m args below meth c H locs 0 0 Q (F0 m 29 ls [])) (XW := fun (o : Int32 × Wd) => ∀ (ls : Array Slot) (H : Heap) (locs : List Loc), lv_has ls 3 [] → St D ad ca s o.2 H locs → W p l e (RM 1 22) s m args below meth c H locs 0 0 Q (F0 m 75 ls [])) ?_
  intro z x h hN hX ls H locs hl S
  unfold f_X2_restart_L29 at h
  refine lv_iload_n C.1 C.2.1 dX2_restart_29 rfl (lv_at hl 2 rfl) ?_
  refine lv_aload_n C.1 C.2.1 dX2_restart_30 rfl (lv_at hl 0 rfl) ?_
  refine r_geti C S o_13 cf_2 0 rfl (by decide) b_fl_RX2_45 dX2_restart_31 ?_
  refine lv_icmp_ge (tgt := 75) C.1 C.2.1 dX2_restart_34 (by decide) (fun q5 => ?_) (fun q5 => ?_)
  · replace h := (if_pos q5).symm.trans h
    exact hX _ (Option.some.inj h).symm _ _ _ (lv_sub hl [] rfl) S
  · replace h := (if_neg q5).symm.trans h
    refine lv_aload_n C.1 C.2.1 dX2_restart_37 rfl (lv_at hl 0 rfl) ?_
    refine r_getr C S o_13 cf_2 5 rfl (by decide) b_fl_RX2_15 dX2_restart_38 ?_
    refine lv_iload_n C.1 C.2.1 dX2_restart_41 rfl (lv_at hl 2 rfl) ?_
    refine lv_aload_n C.1 C.2.1 dX2_restart_42 rfl (lv_at hl 0 rfl) ?_
    refine r_getr C S o_13 cf_2 4 rfl (by decide) b_fl_RX2_9 dX2_restart_43 ?_
    refine lv_iload_n C.1 C.2.1 dX2_restart_46 rfl (lv_at hl 2 rfl) ?_
    obtain ⟨g6, h⟩ := gd_some h
    refine r_iald C S a_59 g6 dX2_restart_47 ?_
    obtain ⟨g7, h⟩ := gd_some h
    refine r_iast C S a_60 g7 dX2_restart_48 (fun H locs S => ?_)
    obtain ⟨w8, h, S⟩ := lw_S (P := fun y => St D ad ca s y H locs) h S
    refine lv_aload_n C.1 C.2.1 dX2_restart_49 rfl (lv_at hl 0 rfl) ?_
    refine r_getr C S o_13 cf_2 8 rfl (by decide) b_fl_RX2_24 dX2_restart_50 ?_
    refine lv_iload_n C.1 C.2.1 dX2_restart_53 rfl (lv_at hl 2 rfl) ?_
    refine lv_aload_n C.1 C.2.1 dX2_restart_54 rfl (lv_at hl 0 rfl) ?_
    refine r_geti C S o_13 cf_2 3 rfl (by decide) b_fl_RX2_57 dX2_restart_55 ?_
    refine lv_aload_n C.1 C.2.1 dX2_restart_58 rfl (lv_at hl 0 rfl) ?_
    refine r_getr C S o_13 cf_2 7 rfl (by decide) b_fl_RX2_21 dX2_restart_59 ?_
    refine lv_iload_n C.1 C.2.1 dX2_restart_62 rfl (lv_at hl 2 rfl) ?_
    obtain ⟨g9, h⟩ := gd_some h
    refine r_iald C S a_62 g9 dX2_restart_63 ?_
    refine lv_iload_n C.1 C.2.1 dX2_restart_64 rfl (lv_at hl 1 rfl) ?_
    obtain ⟨o10, e11, h⟩ := Option.bind_eq_some_iff.mp h
    refine r_si C S hl (k_X0_flowOf e11) b_sb_RX2_95 [.int (w8.1 13 3), .int (w8.1 62 z.1.toNatClampNeg), .int v1] rfl [.int z.1, .ref (ad 63)] rfl rfl (Nat.le_of_ble_eq_true rfl) ⟨Nat.le_of_ble_eq_true rfl, Nat.le_of_ble_eq_true rfl⟩ dX2_restart_65 (fun H locs S => ?_)
    obtain ⟨g12, h⟩ := gd_some h
    refine r_iast C S a_63 g12 dX2_restart_68 (fun H locs S => ?_)
    obtain ⟨w13, h, S⟩ := lw_S (P := fun y => St D ad ca s y H locs) h S
    refine lv_iinc (v := z.1 + 1) (lv' := [(2, .int (z.1 + 1)), (0, .ref (ad 13)), (1, .int v1)]) C.1 C.2.1 dX2_restart_69 hl (k := 2) rfl rfl (by decide) rfl (fun ls hl => ?_)
    refine lv_goto (tgt := 29) C.1 C.2.1 dX2_restart_72 (by decide) ?_
    exact hN _ (Option.some.inj h).symm _ _ _ (lv_sub hl [1, 2, 0] rfl) S
set_option maxHeartbeats 4000000 in
set_option maxRecDepth 100000 in
theorem k_X2_restart   {w : Wd} {rv : Wd} (h : f_X2_restart w = some rv) : CV yX2_restart cX2_restart 3 1 22 (fun ad => [.ref (ad 13)]) w rv := by
  refine CV.of (by decide) ?_
  intro l D ad sx ca p e s m below meth c C S hr hlocks
  have hl := lv_entry ([.ref (ad 13)]) (n := 3) (Nat.le_of_ble_eq_true rfl)
  rw [lg_entry_eq]
  generalize (lg_sl ([.ref (ad 13)]) ++ List.replicate (3 - (lg_sl ([.ref (ad 13)])).length) Slot.unset).toArray = ls at hl ⊢
  have hl : lv_has ls 3 [(0, .ref (ad 13))] := hl
  generalize ha9 : ([.ref (ad 13)] : List Value).toArray = args at C ⊢
  generalize s.heap = H at S ⊢
  generalize ([] : List Loc) = locs at S ⊢
  unfold f_X2_restart at h
  refine lv_iconst (v := 0) C.1 C.2.1 dX2_restart_0 (by decide) ?_
  refine lv_istore_n (lv' := [(1, .int 0), (0, .ref (ad 13))]) C.1 C.2.1 dX2_restart_1 rfl hl (by decide) rfl (fun ls hl => ?_)
  refine lv_iconst (v := 0) C.1 C.2.1 dX2_restart_2 (by decide) ?_
  refine lv_istore_n (lv' := [(2, .int 0), (1, .int 0), (0, .ref (ad 13))]) C.1 C.2.1 dX2_restart_3 rfl hl (by decide) rfl (fun ls hl => ?_)
  obtain ⟨o3, e4, h⟩ := Option.bind_eq_some_iff.mp h
  refine k_X2_restart_L4 C  FU _ _ e4 (fun ls H locs hl S => ?_) ls H locs (lv_sub hl [2, 1, 0] rfl) S
  refine lv_iconst (v := 0) C.1 C.2.1 dX2_restart_27 (by decide) ?_
  refine lv_istore_n (lv' := [(2, .int 0), (0, .ref (ad 13)), (1, .int o3.1)]) C.1 C.2.1 dX2_restart_28 rfl hl (by decide) rfl (fun ls hl => ?_)
  obtain ⟨o14, e15, h⟩ := Option.bind_eq_some_iff.mp h
  refine k_X2_restart_L29 C  FU _ _ e15 (fun ls H locs hl S => ?_) ls H locs (lv_sub hl [1, 2, 0] rfl) S
  have h9 := Option.some.inj h
  subst h9
  exact r_vret C S hr hlocks dX2_restart_75
set_option maxHeartbeats 4000000 in
set_option maxRecDepth 100000 in
theorem k_X2_begin_J130 {p : Program} {l : Launch} {e : Env} {s : State} {m : MethodId} {args : Array Value} {below : List Frame} {meth : Method} {c : Code} {D : va_G} {ad sx : Nat → Nat} {ca : Nat → ClassId} (C : Cx D ad sx ca p s m c args RX2 cX2_begin 5) {Q : State → Prop} {w : Wd} {v2 : Int32} {t3 : Nat} {v4 : Int32} (ht3 : Fl t3) {x : (Int32 × Wd) ⊕ (Int32 × Wd)} (h : f_X2_begin_J130 v2 t3 v4 w = some x) (hN : ∀ z, x = .inl z → ∀ (ls : Array Slot) (H : Heap) (locs : List Loc), lv_has ls 5 [(0, .ref (ad 13)), (1, .ref (ad 3)), (2, .int v2), (3, .ref (ad t3)), (4, .int z.1)] → St D ad ca s z.2 H locs → W p l e (RM 3 67) s m args below meth c H locs 0 0 Q (F0 m 96 ls [])) (hX : ∀ o, x = .inr o → ∀ (ls : Array Slot) (H : Heap) (locs : List Loc), lv_has ls 5 [(0, .ref (ad 13)), (1, .ref (ad 3)), (2, .int v2)] → St D ad ca s o.2 H locs → W p l e (RM 3 67) s m args below meth c H locs 0 0 Q (F0 m 143 ls [])) {ls : Array Slot} {H : Heap} {locs : List Loc} (hl : lv_has ls 5 [(0, .ref (ad 13)), (1, .ref (ad 3)), (2, .int v2), (3, .ref (ad t3)), (4, .int v4)]) (S : St D ad ca s w H locs) : W p l e (RM 3 67) s m args below meth c H locs 0 0 Q (F0 m 130 ls []) := by
  unfold f_X2_begin_J130 at h
  refine lv_aload_n C.1 C.2.1 dX2_begin_130 rfl (lv_at hl 0 rfl) ?_
  refine lv_iload C.1 C.2.1 dX2_begin_131 (lv_at hl 4 rfl) ?_
  refine lv_iload_n C.1 C.2.1 dX2_begin_133 rfl (lv_at hl 2 rfl) ?_
  obtain ⟨o23, e24, h⟩ := Option.bind_eq_some_iff.mp h
  refine r_vv C S hl o_13 cf_2 (k_X2_addWall e24) b_vb_RX2_88 [.int v4, .int v2] rfl [] rfl rfl (Nat.le_of_ble_eq_true rfl) ⟨Nat.le_of_ble_eq_true rfl, Nat.le_of_ble_eq_true rfl⟩ dX2_begin_134 (fun H locs S => ?_)
  refine lv_iinc (v := v4 + 1) (lv' := [(4, .int (v4 + 1)), (0, .ref (ad 13)), (1, .ref (ad 3)), (2, .int v2), (3, .ref (ad t3))]) C.1 C.2.1 dX2_begin_137 hl (k := 4) rfl rfl (by decide) rfl (fun ls hl => ?_)
  refine lv_goto (tgt := 96) C.1 C.2.1 dX2_begin_140 (by decide) ?_
  exact hN _ (Option.some.inj h).symm _ _ _ (lv_sub hl [1, 2, 3, 4, 0] rfl) S
set_option maxHeartbeats 4000000 in
set_option maxRecDepth 100000 in
theorem k_X2_begin_L96 {p : Program} {l : Launch} {e : Env} {s : State} {m : MethodId} {args : Array Value} {below : List Frame} {meth : Method} {c : Code} {D : va_G} {ad sx : Nat → Nat} {ca : Nat → ClassId} (C : Cx D ad sx ca p s m c args RX2 cX2_begin 5) {Q : State → Prop} {v2 : Int32} {t3 : Nat} (ht3 : Fl t3) : ∀ (n9 : Nat) (z : Int32 × Wd) (o : Int32 × Wd), lp (f_X2_begin_L96 v2 t3) n9 z = some o → (∀ (ls : Array Slot) (H : Heap) (locs : List Loc), lv_has ls 5 [(0, .ref (ad 13)), (1, .ref (ad 3)), (2, .int v2)] → St D ad ca s o.2 H locs → W p l e (RM 3 67) s m args below meth c H locs 0 0 Q (F0 m 143 ls [])) → (∀ (ls : Array Slot) (H : Heap) (locs : List Loc), lv_has ls 5 [(0, .ref (ad 13)), (1, .ref (ad 3)), (2, .int v2), (3, .ref (ad t3)), (4, .int z.1)] → St D ad ca s z.2 H locs → W p l e (RM 3 67) s m args below meth c H locs 0 0 Q (F0 m 96 ls [])) := by
  refine lp_W (HW := fun (z : Int32 × Wd) => ∀ (ls : Array Slot) (H : Heap) (locs : List Loc), lv_has ls 5 [(0, .ref (ad 13)), (1, .ref (ad 3)), (2, .int v2), (3, .ref (ad t3)), (4, .int z.1)] → St D ad ca s z.2 H locs → W p l e (RM 3 67) s m args below meth c H locs 0 0 Q (F0 m 96 ls [])) (XW := fun (o : Int32 × Wd) => ∀ (ls : Array Slot) (H : Heap) (locs : List Loc), lv_has ls 5 [(0, .ref (ad 13)), (1, .ref (ad 3)), (2, .int v2)] → St D ad ca s o.2 H locs → W p l e (RM 3 67) s m args below meth c H locs 0 0 Q (F0 m 143 ls [])) ?_
  intro z x h hN hX ls H locs hl S
  unfold f_X2_begin_L96 at h
  refine lv_iload C.1 C.2.1 dX2_begin_96 (lv_at hl 4 rfl) ?_
  refine lv_iload_n C.1 C.2.1 dX2_begin_98 rfl (lv_at hl 2 rfl) ?_
  refine lv_icmp_ge (tgt := 143) C.1 C.2.1 dX2_begin_99 (by decide) (fun q18 => ?_) (fun q18 => ?_)
  · replace h := (if_pos q18).symm.trans h
    exact hX _ (Option.some.inj h).symm _ _ _ (lv_sub hl [0, 1, 2] rfl) S
  · replace h := (if_neg q18).symm.trans h
    refine lv_aload_n C.1 C.2.1 dX2_begin_102 rfl (lv_at hl 3 rfl) ?_
    refine lv_aload_n C.1 C.2.1 dX2_begin_103 rfl (lv_at hl 1 rfl) ?_
    refine r_getr C S o_3 cf_0 0 rfl (by decide) b_fl_RX2_61 dX2_begin_104 ?_
    refine lv_iload C.1 C.2.1 dX2_begin_107 (lv_at hl 4 rfl) ?_
    obtain ⟨g19, h⟩ := gd_some h
    refine r_aald C S a_17 g19 dX2_begin_109 ?_
    obtain ⟨o20, e21, h⟩ := Option.bind_eq_some_iff.mp h
    refine r_vi C S hl ht3 cf_4 (k_X4_isRightAboveOrBelow ht3 (o_F1 (inB_lt g19)) e21) b_vb_RX2_81 [.ref (ad (35 + z.1.toNatClampNeg))] rfl [] rfl rfl (Nat.le_of_ble_eq_true rfl) ⟨Nat.le_of_ble_eq_true rfl, Nat.le_of_ble_eq_true rfl⟩ dX2_begin_110 (fun H locs S => ?_)
    refine lv_if_ne (tgt := 130) C.1 C.2.1 dX2_begin_113 (by decide) (fun q22 => ?_) (fun q22 => ?_)
    · replace h := (if_neg q22).symm.trans h
      exact k_X2_begin_J130 C ht3 h hN hX (lv_sub hl [0, 1, 2, 3, 4] rfl) S
    · replace h := (if_pos q22).symm.trans h
      refine lv_aload_n C.1 C.2.1 dX2_begin_116 rfl (lv_at hl 3 rfl) ?_
      refine lv_aload_n C.1 C.2.1 dX2_begin_117 rfl (lv_at hl 1 rfl) ?_
      refine r_getr C S o_3 cf_0 0 rfl (by decide) b_fl_RX2_61 dX2_begin_118 ?_
      refine lv_iload C.1 C.2.1 dX2_begin_121 (lv_at hl 4 rfl) ?_
      obtain ⟨g25, h⟩ := gd_some h
      refine r_aald C S a_17 g25 dX2_begin_123 ?_
      obtain ⟨o26, e27, h⟩ := Option.bind_eq_some_iff.mp h
      refine r_vi C S hl ht3 cf_4 (k_X4_isBeside ht3 (o_F1 (inB_lt g25)) e27) b_vb_RX2_85 [.ref (ad (35 + z.1.toNatClampNeg))] rfl [] rfl rfl (Nat.le_of_ble_eq_true rfl) ⟨Nat.le_of_ble_eq_true rfl, Nat.le_of_ble_eq_true rfl⟩ dX2_begin_124 (fun H locs S => ?_)
      refine lv_if_eq (tgt := 137) C.1 C.2.1 dX2_begin_127 (by decide) (fun q28 => ?_) (fun q28 => ?_)
      · replace h := (if_pos q28).symm.trans h
        refine lv_iinc (v := z.1 + 1) (lv' := [(4, .int (z.1 + 1)), (0, .ref (ad 13)), (1, .ref (ad 3)), (2, .int v2), (3, .ref (ad t3))]) C.1 C.2.1 dX2_begin_137 hl (k := 4) rfl rfl (by decide) rfl (fun ls hl => ?_)
        refine lv_goto (tgt := 96) C.1 C.2.1 dX2_begin_140 (by decide) ?_
        exact hN _ (Option.some.inj h).symm _ _ _ (lv_sub hl [1, 2, 3, 4, 0] rfl) S
      · replace h := (if_neg q28).symm.trans h
        exact k_X2_begin_J130 C ht3 h hN hX (lv_sub hl [0, 1, 2, 3, 4] rfl) S
set_option maxHeartbeats 4000000 in
set_option maxRecDepth 100000 in
theorem k_X2_begin_L39 {p : Program} {l : Launch} {e : Env} {s : State} {m : MethodId} {args : Array Value} {below : List Frame} {meth : Method} {c : Code} {D : va_G} {ad sx : Nat → Nat} {ca : Nat → ClassId} (C : Cx D ad sx ca p s m c args RX2 cX2_begin 5) {Q : State → Prop}   : ∀ (n9 : Nat) (z : Int32 × Wd) (o : Int32 × Wd), lp (f_X2_begin_L39) n9 z = some o → (∀ (ls : Array Slot) (H : Heap) (locs : List Loc), lv_has ls 5 [(0, .ref (ad 13))] → St D ad ca s o.2 H locs → W p l e (RM 3 67) s m args below meth c H locs 0 0 Q (F0 m 149 ls [])) → (∀ (ls : Array Slot) (H : Heap) (locs : List Loc), lv_has ls 5 [(0, .ref (ad 13)), (1, .ref (ad 3)), (2, .int z.1)] → St D ad ca s z.2 H locs → W p l e (RM 3 67) s m args below meth c H locs 0 0 Q (F0 m 39 ls [])) := by
  refine lp_W (HW := fun (z : Int32 × Wd) => ∀ (ls : Array Slot) (H : Heap) (locs : List Loc), lv_has ls 5 [(0, .ref (ad 13)), (1, .ref (ad 3)), (2, .int z.1)] → St D ad ca s z.2 H locs → W p l e (RM 3 67) s m args below meth c H locs 0 0 Q (F0 m 39 ls [])) (XW := fun (o : Int32 × Wd) => ∀ (ls : Array Slot) (H : Heap) (locs : List Loc), lv_has ls 5 [(0, .ref (ad 13))] → St D ad ca s o.2 H locs → W p l e (RM 3 67) s m args below meth c H locs 0 0 Q (F0 m 149 ls [])) ?_
  intro z x h hN hX ls H locs hl S
  unfold f_X2_begin_L39 at h
  refine lv_iload_n C.1 C.2.1 dX2_begin_39 rfl (lv_at hl 2 rfl) ?_
  refine lv_aload_n C.1 C.2.1 dX2_begin_40 rfl (lv_at hl 0 rfl) ?_
  refine r_geti C S o_13 cf_2 0 rfl (by decide) b_fl_RX2_45 dX2_begin_41 ?_
  refine lv_icmp_ge (tgt := 149) C.1 C.2.1 dX2_begin_44 (by decide) (fun q6 => ?_) (fun q6 => ?_)
  · replace h := (if_pos q6).symm.trans h
    exact hX _ (Option.some.inj h).symm _ _ _ (lv_sub hl [0] rfl) S
  · replace h := (if_neg q6).symm.trans h
    refine lv_aload_n C.1 C.2.1 dX2_begin_47 rfl (lv_at hl 1 rfl) ?_
    refine r_getr C S o_3 cf_0 0 rfl (by decide) b_fl_RX2_61 dX2_begin_48 ?_
    refine lv_iload_n C.1 C.2.1 dX2_begin_51 rfl (lv_at hl 2 rfl) ?_
    obtain ⟨g7, h⟩ := gd_some h
    refine r_aald C S a_17 g7 dX2_begin_52 ?_
    refine lv_astore_n (lv' := [(3, .ref (ad (35 + z.1.toNatClampNeg))), (0, .ref (ad 13)), (1, .ref (ad 3)), (2, .int z.1)]) C.1 C.2.1 dX2_begin_53 rfl hl (by decide) rfl (fun ls hl => ?_)
    refine lv_aload_n C.1 C.2.1 dX2_begin_54 rfl (lv_at hl 1 rfl) ?_
    refine r_getr C S o_13 cf_2 4 rfl (by decide) b_fl_RX2_9 dX2_begin_55 ?_
    refine lv_iload_n C.1 C.2.1 dX2_begin_58 rfl (lv_at hl 3 rfl) ?_
    refine lv_aload_n C.1 C.2.1 dX2_begin_59 rfl (lv_at hl 0 rfl) ?_
    refine r_geti C S (o_F1 (inB_lt g7)) cf_4 7 rfl (by decide) b_fl_RX2_65 dX2_begin_60 ?_
    obtain ⟨g8, h⟩ := gd_some h
    refine r_iast C S a_59 g8 dX2_begin_63 (fun H locs S => ?_)
    obtain ⟨w9, h, S⟩ := lw_S (P := fun y => St D ad ca s y H locs) h S
    refine lv_aload_n C.1 C.2.1 dX2_begin_64 rfl (lv_at hl 1 rfl) ?_
    refine r_getr C S o_13 cf_2 6 rfl (by decide) b_fl_RX2_18 dX2_begin_65 ?_
    refine lv_iload_n C.1 C.2.1 dX2_begin_68 rfl (lv_at hl 3 rfl) ?_
    refine lv_aload_n C.1 C.2.1 dX2_begin_69 rfl (lv_at hl 0 rfl) ?_
    refine lv_aload_n C.1 C.2.1 dX2_begin_70 rfl (lv_at hl 0 rfl) ?_
    refine r_geti C S (o_F1 (inB_lt g7)) cf_4 3 rfl (by decide) b_fl_RX2_69 dX2_begin_71 ?_
    obtain ⟨o10, e11, h⟩ := Option.bind_eq_some_iff.mp h
    refine r_vi C S hl (o_F1 (inB_lt g7)) cf_4 (k_X4_leaks (o_F1 (inB_lt g7)) e11) b_vb_RX2_72 [.int (w9.1 (35 + z.1.toNatClampNeg) 3)] rfl [.int z.1, .ref (ad 61)] rfl rfl (Nat.le_of_ble_eq_true rfl) ⟨Nat.le_of_ble_eq_true rfl, Nat.le_of_ble_eq_true rfl⟩ dX2_begin_74 (fun H locs S => ?_)
    obtain ⟨g12, h⟩ := gd_some h
    refine r_iast C S a_61 g12 dX2_begin_77 (fun H locs S => ?_)
    obtain ⟨w13, h, S⟩ := lw_S (P := fun y => St D ad ca s y H locs) h S
    refine lv_aload_n C.1 C.2.1 dX2_begin_78 rfl (lv_at hl 1 rfl) ?_
    refine r_getr C S o_13 cf_2 7 rfl (by decide) b_fl_RX2_21 dX2_begin_79 ?_
    refine lv_iload_n C.1 C.2.1 dX2_begin_82 rfl (lv_at hl 3 rfl) ?_
    refine lv_aload_n C.1 C.2.1 dX2_begin_83 rfl (lv_at hl 2 rfl) ?_
    refine lv_iload_n C.1 C.2.1 dX2_begin_84 rfl (lv_at hl 3 rfl) ?_
    refine lv_aload_n C.1 C.2.1 dX2_begin_85 rfl (lv_at hl 0 rfl) ?_
    refine r_geti C S (o_F1 (inB_lt g7)) cf_4 4 rfl (by decide) b_fl_RX2_75 dX2_begin_86 ?_
    obtain ⟨o14, e15, h⟩ := Option.bind_eq_some_iff.mp h
    refine r_vi C S hl o_3 cf_0 (k_X0_weight e15) b_vb_RX2_78 [.int z.1, .int (w13.1 (35 + z.1.toNatClampNeg) 4)] rfl [.int z.1, .ref (ad 62)] rfl rfl (Nat.le_of_ble_eq_true rfl) ⟨Nat.le_of_ble_eq_true rfl, Nat.le_of_ble_eq_true rfl⟩ dX2_begin_89 (fun H locs S => ?_)
    obtain ⟨g16, h⟩ := gd_some h
    refine r_iast C S a_62 g16 dX2_begin_92 (fun H locs S => ?_)
    obtain ⟨w17, h, S⟩ := lw_S (P := fun y => St D ad ca s y H locs) h S
    refine lv_iconst (v := 0) C.1 C.2.1 dX2_begin_93 (by decide) ?_
    refine lv_istore (lv' := [(4, .int 0), (3, .ref (ad (35 + z.1.toNatClampNeg))), (0, .ref (ad 13)), (1, .ref (ad 3)), (2, .int z.1)]) C.1 C.2.1 dX2_begin_94 hl (by decide) rfl (fun ls hl => ?_)
    obtain ⟨o29, e30, h⟩ := Option.bind_eq_some_iff.mp h
    refine k_X2_begin_L96 C (o_F1 (inB_lt g7)) FU _ _ e30 (fun ls H locs hl S => ?_) ls H locs (lv_sub hl [2, 3, 4, 1, 0] rfl) S
    refine lv_iinc (v := z.1 + 1) (lv' := [(2, .int (z.1 + 1)), (0, .ref (ad 13)), (1, .ref (ad 3))]) C.1 C.2.1 dX2_begin_143 hl (k := 2) rfl rfl (by decide) rfl (fun ls hl => ?_)
    refine lv_goto (tgt := 39) C.1 C.2.1 dX2_begin_146 (by decide) ?_
    exact hN _ (Option.some.inj h).symm _ _ _ (lv_sub hl [1, 2, 0] rfl) S
set_option maxHeartbeats 4000000 in
set_option maxRecDepth 100000 in
theorem k_X2_begin   {w : Wd} {rv : Wd} (h : f_X2_begin w = some rv) : CV yX2_begin cX2_begin 5 3 67 (fun ad => [.ref (ad 13), .ref (ad 3)]) w rv := by
  refine CV.of (by decide) ?_
  intro l D ad sx ca p e s m below meth c C S hr hlocks
  have hl := lv_entry ([.ref (ad 13), .ref (ad 3)]) (n := 5) (Nat.le_of_ble_eq_true rfl)
  rw [lg_entry_eq]
  generalize (lg_sl ([.ref (ad 13), .ref (ad 3)]) ++ List.replicate (5 - (lg_sl ([.ref (ad 13), .ref (ad 3)])).length) Slot.unset).toArray = ls at hl ⊢
  have hl : lv_has ls 5 [(0, .ref (ad 13)), (1, .ref (ad 3))] := hl
  generalize ha9 : ([.ref (ad 13), .ref (ad 3)] : List Value).toArray = args at C ⊢
  generalize s.heap = H at S ⊢
  generalize ([] : List Loc) = locs at S ⊢
  unfold f_X2_begin at h
  refine lv_aload_n C.1 C.2.1 dX2_begin_0 rfl (lv_at hl 0 rfl) ?_
  refine lv_aload_n C.1 C.2.1 dX2_begin_1 rfl (lv_at hl 1 rfl) ?_
  refine r_geti C S o_3 cf_0 1 rfl (by decide) b_fl_RX2_39 dX2_begin_2 ?_
  refine r_put C S o_13 cf_2 0 rfl (by decide) rfl (ni _) b_fl_RX2_45 dX2_begin_5 (fun H locs S => ?_)
  obtain ⟨w1, h, S⟩ := lw_S (P := fun y => St D ad ca s y H locs) h S
  refine lv_aload_n C.1 C.2.1 dX2_begin_8 rfl (lv_at hl 0 rfl) ?_
  refine lv_aload_n C.1 C.2.1 dX2_begin_9 rfl (lv_at hl 1 rfl) ?_
  refine r_geti C S o_3 cf_0 6 rfl (by decide) b_fl_RX2_46 dX2_begin_10 ?_
  refine r_put C S o_13 cf_2 1 rfl (by decide) rfl (ni _) b_fl_RX2_49 dX2_begin_13 (fun H locs S => ?_)
  obtain ⟨w2, h, S⟩ := lw_S (P := fun y => St D ad ca s y H locs) h S
  refine lv_aload_n C.1 C.2.1 dX2_begin_16 rfl (lv_at hl 0 rfl) ?_
  refine lv_aload_n C.1 C.2.1 dX2_begin_17 rfl (lv_at hl 1 rfl) ?_
  refine r_geti C S o_3 cf_0 4 rfl (by decide) b_fl_RX2_50 dX2_begin_18 ?_
  refine r_put C S o_13 cf_2 2 rfl (by decide) rfl (ni _) b_fl_RX2_53 dX2_begin_21 (fun H locs S => ?_)
  obtain ⟨w3, h, S⟩ := lw_S (P := fun y => St D ad ca s y H locs) h S
  refine lv_aload_n C.1 C.2.1 dX2_begin_24 rfl (lv_at hl 0 rfl) ?_
  refine lv_aload_n C.1 C.2.1 dX2_begin_25 rfl (lv_at hl 1 rfl) ?_
  refine r_geti C S o_3 cf_0 5 rfl (by decide) b_fl_RX2_54 dX2_begin_26 ?_
  refine r_put C S o_13 cf_2 3 rfl (by decide) rfl (ni _) b_fl_RX2_57 dX2_begin_29 (fun H locs S => ?_)
  obtain ⟨w4, h, S⟩ := lw_S (P := fun y => St D ad ca s y H locs) h S
  refine lv_aload_n C.1 C.2.1 dX2_begin_32 rfl (lv_at hl 0 rfl) ?_
  refine lv_iconst (v := 0) C.1 C.2.1 dX2_begin_33 (by decide) ?_
  refine r_put C S o_13 cf_2 13 rfl (by decide) rfl (ni _) b_fl_RX2_58 dX2_begin_34 (fun H locs S => ?_)
  obtain ⟨w5, h, S⟩ := lw_S (P := fun y => St D ad ca s y H locs) h S
  refine lv_iconst (v := 0) C.1 C.2.1 dX2_begin_37 (by decide) ?_
  refine lv_istore_n (lv' := [(2, .int 0), (0, .ref (ad 13)), (1, .ref (ad 3))]) C.1 C.2.1 dX2_begin_38 rfl hl (by decide) rfl (fun ls hl => ?_)
  obtain ⟨o31, e32, h⟩ := Option.bind_eq_some_iff.mp h
  refine k_X2_begin_L39 C  FU _ _ e32 (fun ls H locs hl S => ?_) ls H locs (lv_sub hl [1, 2, 0] rfl) S
  refine lv_aload_n C.1 C.2.1 dX2_begin_149 rfl (lv_at hl 0 rfl) ?_
  obtain ⟨o33, e34, h⟩ := Option.bind_eq_some_iff.mp h
  refine r_vv C S hl o_13 cf_2 (k_X2_restart e34) b_vb_RX2_92 [] rfl [] rfl rfl (Nat.le_of_ble_eq_true rfl) ⟨Nat.le_of_ble_eq_true rfl, Nat.le_of_ble_eq_true rfl⟩ dX2_begin_150 (fun H locs S => ?_)
  have h9 := Option.some.inj h
  subst h9
  exact r_vret C S hr hlocks dX2_begin_153
set_option maxHeartbeats 4000000 in
set_option maxRecDepth 100000 in
theorem k_X2_goHour_L2 {p : Program} {l : Launch} {e : Env} {s : State} {m : MethodId} {args : Array Value} {below : List Frame} {meth : Method} {c : Code} {D : va_G} {ad sx : Nat → Nat} {ca : Nat → ClassId} (C : Cx D ad sx ca p s m c args RX2 cX2_goHour 5) {Q : State → Prop}   : ∀ (n9 : Nat) (z : Int32 × Wd) (o : Int32 × Wd), lp (f_X2_goHour_L2) n9 z = some o → (∀ (ls : Array Slot) (H : Heap) (locs : List Loc), lv_has ls 5 [(0, .ref (ad 13))] → St D ad ca s o.2 H locs → W p l e (RM 1 21) s m args below meth c H locs 0 0 Q (F0 m 55 ls [])) → (∀ (ls : Array Slot) (H : Heap) (locs : List Loc), lv_has ls 5 [(0, .ref (ad 13)), (1, .int z.1)] → St D ad ca s z.2 H locs → W p l e (RM 1 21) s m args below meth c H locs 0 0 Q (F0 m 2 ls [])) := by
  refine lp_W (HW := fun (z : Int32 × Wd) => ∀ (ls : Array Slot) (H : Heap) (locs : List Loc), lv_has ls 5 [(0, .ref (ad 13)), (1, .int z.1)] → St D ad ca s z.2 H locs → W p l e (RM 1 21) s m args below meth c H locs 0 0 Q (F0 m 2 ls [])) (XW := fun (o : Int32 × Wd) => ∀ (ls : Array Slot) (H : Heap) (locs : List Loc), lv_has ls 5 [(0, .ref (ad 13))] → St D ad ca s o.2 H locs → W p l e (RM 1 21) s m args below meth c H locs 0 0 Q (F0 m 55 ls [])) ?_
  intro z x h hN hX ls H locs hl S
  unfold f_X2_goHour_L2 at h
  refine lv_iload_n C.1 C.2.1 dX2_goHour_2 rfl (lv_at hl 1 rfl) ?_
  refine lv_aload_n C.1 C.2.1 dX2_goHour_3 rfl (lv_at hl 0 rfl) ?_
  refine r_geti C S o_13 cf_2 0 rfl (by decide) b_fl_RX2_45 dX2_goHour_4 ?_
  refine lv_icmp_ge (tgt := 55) C.1 C.2.1 dX2_goHour_7 (by decide) (fun q1 => ?_) (fun q1 => ?_)
  · replace h := (if_pos q1).symm.trans h
    exact hX _ (Option.some.inj h).symm _ _ _ (lv_sub hl [0] rfl) S
  · replace h := (if_neg q1).symm.trans h
    refine lv_aload_n C.1 C.2.1 dX2_goHour_10 rfl (lv_at hl 0 rfl) ?_
    refine r_getr C S o_13 cf_2 9 rfl (by decide) b_fl_RX2_27 dX2_goHour_11 ?_
    refine lv_iload_n C.1 C.2.1 dX2_goHour_14 rfl (lv_at hl 1 rfl) ?_
    refine lv_aload_n C.1 C.2.1 dX2_goHour_15 rfl (lv_at hl 0 rfl) ?_
    refine r_getr C S o_13 cf_2 8 rfl (by decide) b_fl_RX2_24 dX2_goHour_16 ?_
    refine lv_iload_n C.1 C.2.1 dX2_goHour_19 rfl (lv_at hl 1 rfl) ?_
    obtain ⟨g2, h⟩ := gd_some h
    refine r_iald C S a_63 g2 dX2_goHour_20 ?_
    refine lv_iconst (v := 0) C.1 C.2.1 dX2_goHour_21 (by decide) ?_
    refine lv_aload_n C.1 C.2.1 dX2_goHour_22 rfl (lv_at hl 0 rfl) ?_
    refine r_geti C S o_13 cf_2 1 rfl (by decide) b_fl_RX2_49 dX2_goHour_23 ?_
    refine lv_aload_n C.1 C.2.1 dX2_goHour_26 rfl (lv_at hl 0 rfl) ?_
    refine r_getr C S o_13 cf_2 5 rfl (by decide) b_fl_RX2_15 dX2_goHour_27 ?_
    refine lv_iload_n C.1 C.2.1 dX2_goHour_30 rfl (lv_at hl 1 rfl) ?_
    obtain ⟨g3, h⟩ := gd_some h
    refine r_iald C S a_60 g3 dX2_goHour_31 ?_
    refine lv_isub C.1 C.2.1 dX2_goHour_32 ?_
    refine r_mmax C hl b_ma_RX2_102 dX2_goHour_33 (by decide) (Nat.le_of_ble_eq_true rfl) ?_
    refine lv_imul C.1 C.2.1 dX2_goHour_36 ?_
    refine lv_sipush (v := 1000) C.1 C.2.1 dX2_goHour_37 (by decide) ?_
    refine lv_idiv C.1 C.2.1 dX2_goHour_40 (by decide) ?_
    obtain ⟨g4, h⟩ := gd_some h
    refine r_iast C S a_64 g4 dX2_goHour_41 (fun H locs S => ?_)
    obtain ⟨w5, h, S⟩ := lw_S (P := fun y => St D ad ca s y H locs) h S
    refine lv_aload_n C.1 C.2.1 dX2_goHour_42 rfl (lv_at hl 0 rfl) ?_
    refine r_getr C S o_13 cf_2 10 rfl (by decide) b_fl_RX2_30 dX2_goHour_43 ?_
    refine lv_iload_n C.1 C.2.1 dX2_goHour_46 rfl (lv_at hl 1 rfl) ?_
    refine lv_iconst (v := 0) C.1 C.2.1 dX2_goHour_47 (by decide) ?_
    obtain ⟨g6, h⟩ := gd_some h
    refine r_iast C S a_65 g6 dX2_goHour_48 (fun H locs S => ?_)
    obtain ⟨w7, h, S⟩ := lw_S (P := fun y => St D ad ca s y H locs) h S
    refine lv_iinc (v := z.1 + 1) (lv' := [(1, .int (z.1 + 1)), (0, .ref (ad 13))]) C.1 C.2.1 dX2_goHour_49 hl (k := 1) rfl rfl (by decide) rfl (fun ls hl => ?_)
    refine lv_goto (tgt := 2) C.1 C.2.1 dX2_goHour_52 (by decide) ?_
    exact hN _ (Option.some.inj h).symm _ _ _ (lv_sub hl [1, 0] rfl) S
set_option maxHeartbeats 4000000 in
set_option maxRecDepth 100000 in
theorem k_X2_goHour_L57 {p : Program} {l : Launch} {e : Env} {s : State} {m : MethodId} {args : Array Value} {below : List Frame} {meth : Method} {c : Code} {D : va_G} {ad sx : Nat → Nat} {ca : Nat → ClassId} (C : Cx D ad sx ca p s m c args RX2 cX2_goHour 5) {Q : State → Prop}   : ∀ (n9 : Nat) (z : Int32 × Wd) (o : Int32 × Wd), lp (f_X2_goHour_L57) n9 z = some o → (∀ (ls : Array Slot) (H : Heap) (locs : List Loc), lv_has ls 5 [(0, .ref (ad 13))] → St D ad ca s o.2 H locs → W p l e (RM 1 21) s m args below meth c H locs 0 0 Q (F0 m 125 ls [])) → (∀ (ls : Array Slot) (H : Heap) (locs : List Loc), lv_has ls 5 [(0, .ref (ad 13)), (1, .int z.1)] → St D ad ca s z.2 H locs → W p l e (RM 1 21) s m args below meth c H locs 0 0 Q (F0 m 57 ls [])) := by
  refine lp_W (HW := fun (z : Int32 × Wd) => ∀ (ls : Array Slot) (H : Heap) (locs : List Loc), lv_has ls 5 [(0, .ref (ad 13)), (1, .int z.1)] → St D ad ca s z.2 H locs → W p l e (RM 1 21) s m args below meth c H locs 0 0 Q (F0 m 57 ls [])) (XW := fun (o : Int32 × Wd) => ∀ (ls : Array Slot) (H : Heap) (locs : List Loc), lv_has ls 5 [(0, .ref (ad 13))] → St D ad ca s o.2 H locs → W p l e (RM 1 21) s m args below meth c H locs 0 0 Q (F0 m 125 ls [])) ?_
  intro z x h hN hX ls H locs hl S
  unfold f_X2_goHour_L57 at h
  refine lv_iload_n C.1 C.2.1 dX2_goHour_57 rfl (lv_at hl 1 rfl) ?_
  refine lv_aload_n C.1 C.2.1 dX2_goHour_58 rfl (lv_at hl 0 rfl) ?_
  refine r_geti C S o_13 cf_2 13 rfl (by decide) b_fl_RX2_58 dX2_goHour_59 ?_
  refine lv_icmp_ge (tgt := 125) C.1 C.2.1 dX2_goHour_62 (by decide) (fun q10 => ?_) (fun q10 => ?_)
  · replace h := (if_pos q10).symm.trans h
    exact hX _ (Option.some.inj h).symm _ _ _ (lv_sub hl [0] rfl) S
  · replace h := (if_neg q10).symm.trans h
    refine lv_aload_n C.1 C.2.1 dX2_goHour_65 rfl (lv_at hl 0 rfl) ?_
    refine r_getr C S o_13 cf_2 11 rfl (by decide) b_fl_RX2_33 dX2_goHour_66 ?_
    refine lv_iload_n C.1 C.2.1 dX2_goHour_69 rfl (lv_at hl 1 rfl) ?_
    obtain ⟨g11, h⟩ := gd_some h
    refine r_iald C S a_66 g11 dX2_goHour_70 ?_
    refine lv_istore_n (lv' := [(2, .int (z.2.1 66 z.1.toNatClampNeg)), (0, .ref (ad 13)), (1, .int z.1)]) C.1 C.2.1 dX2_goHour_71 rfl hl (by decide) rfl (fun ls hl => ?_)
    refine lv_aload_n C.1 C.2.1 dX2_goHour_72 rfl (lv_at hl 1 rfl) ?_
    refine r_getr C S o_13 cf_2 12 rfl (by decide) b_fl_RX2_36 dX2_goHour_73 ?_
    refine lv_iload_n C.1 C.2.1 dX2_goHour_76 rfl (lv_at hl 2 rfl) ?_
    obtain ⟨g12, h⟩ := gd_some h
    refine r_iald C S a_67 g12 dX2_goHour_77 ?_
    refine lv_istore_n (lv' := [(3, .int (z.2.1 67 z.1.toNatClampNeg)), (2, .int (z.2.1 66 z.1.toNatClampNeg)), (0, .ref (ad 13)), (1, .int z.1)]) C.1 C.2.1 dX2_goHour_78 rfl hl (by decide) rfl (fun ls hl => ?_)
    refine lv_aload_n C.1 C.2.1 dX2_goHour_79 rfl (lv_at hl 2 rfl) ?_
    refine r_getr C S o_13 cf_2 5 rfl (by decide) b_fl_RX2_15 dX2_goHour_80 ?_
    refine lv_iload_n C.1 C.2.1 dX2_goHour_83 rfl (lv_at hl 0 rfl) ?_
    obtain ⟨g13, h⟩ := gd_some h
    refine r_iald C S a_60 g13 dX2_goHour_84 ?_
    refine lv_aload_n C.1 C.2.1 dX2_goHour_85 rfl (lv_at hl 2 rfl) ?_
    refine r_getr C S o_13 cf_2 5 rfl (by decide) b_fl_RX2_15 dX2_goHour_86 ?_
    refine lv_iload_n C.1 C.2.1 dX2_goHour_89 rfl (lv_at hl 1 rfl) ?_
    obtain ⟨g14, h⟩ := gd_some h
    refine r_iald C S a_60 g14 dX2_goHour_90 ?_
    refine lv_isub C.1 C.2.1 dX2_goHour_91 ?_
    refine lv_bipush (v := 20) C.1 C.2.1 dX2_goHour_92 (by decide) ?_
    refine lv_idiv C.1 C.2.1 dX2_goHour_94 (by decide) ?_
    refine lv_istore (lv' := [(4, .int (((z.2.1 60 ((z.2.1 67 z.1.toNatClampNeg).toNatClampNeg)) - (z.2.1 60 ((z.2.1 66 z.1.toNatClampNeg).toNatClampNeg))) / 20)), (3, .int (z.2.1 67 z.1.toNatClampNeg)), (2, .int (z.2.1 66 z.1.toNatClampNeg)), (0, .ref (ad 13)), (1, .int z.1)]) C.1 C.2.1 dX2_goHour_95 hl (by decide) rfl (fun ls hl => ?_)
    refine lv_aload_n C.1 C.2.1 dX2_goHour_97 rfl (lv_at hl 3 rfl) ?_
    refine r_getr C S o_13 cf_2 10 rfl (by decide) b_fl_RX2_30 dX2_goHour_98 ?_
    refine lv_iload_n C.1 C.2.1 dX2_goHour_101 rfl (lv_at hl 2 rfl) ?_
    refine lv_dup2_11 C.1 C.2.1 dX2_goHour_102 rfl rfl ?_
    obtain ⟨g15, h⟩ := gd_some h
    refine r_iald C S a_65 g15 dX2_goHour_103 ?_
    refine lv_iload C.1 C.2.1 dX2_goHour_104 (lv_at hl 0 rfl) ?_
    refine lv_iadd C.1 C.2.1 dX2_goHour_106 ?_
    obtain ⟨g16, h⟩ := gd_some h
    refine r_iast C S a_65 g16 dX2_goHour_107 (fun H locs S => ?_)
    obtain ⟨w17, h, S⟩ := lw_S (P := fun y => St D ad ca s y H locs) h S
    refine lv_aload_n C.1 C.2.1 dX2_goHour_108 rfl (lv_at hl 3 rfl) ?_
    refine r_getr C S o_13 cf_2 10 rfl (by decide) b_fl_RX2_30 dX2_goHour_109 ?_
    refine lv_iload_n C.1 C.2.1 dX2_goHour_112 rfl (lv_at hl 1 rfl) ?_
    refine lv_dup2_11 C.1 C.2.1 dX2_goHour_113 rfl rfl ?_
    obtain ⟨g18, h⟩ := gd_some h
    refine r_iald C S a_65 g18 dX2_goHour_114 ?_
    refine lv_iload C.1 C.2.1 dX2_goHour_115 (lv_at hl 0 rfl) ?_
    refine lv_isub C.1 C.2.1 dX2_goHour_117 ?_
    obtain ⟨g19, h⟩ := gd_some h
    refine r_iast C S a_65 g19 dX2_goHour_118 (fun H locs S => ?_)
    obtain ⟨w20, h, S⟩ := lw_S (P := fun y => St D ad ca s y H locs) h S
    refine lv_iinc (v := z.1 + 1) (lv' := [(1, .int (z.1 + 1)), (4, .int (((z.2.1 60 ((z.2.1 67 z.1.toNatClampNeg).toNatClampNeg)) - (z.2.1 60 ((z.2.1 66 z.1.toNatClampNeg).toNatClampNeg))) / 20)), (3, .int (z.2.1 67 z.1.toNatClampNeg)), (2, .int (z.2.1 66 z.1.toNatClampNeg)), (0, .ref (ad 13))]) C.1 C.2.1 dX2_goHour_119 hl (k := 4) rfl rfl (by decide) rfl (fun ls hl => ?_)
    refine lv_goto (tgt := 57) C.1 C.2.1 dX2_goHour_122 (by decide) ?_
    exact hN _ (Option.some.inj h).symm _ _ _ (lv_sub hl [4, 0] rfl) S
set_option maxHeartbeats 4000000 in
set_option maxRecDepth 100000 in
theorem k_X2_goHour_L127 {p : Program} {l : Launch} {e : Env} {s : State} {m : MethodId} {args : Array Value} {below : List Frame} {meth : Method} {c : Code} {D : va_G} {ad sx : Nat → Nat} {ca : Nat → ClassId} (C : Cx D ad sx ca p s m c args RX2 cX2_goHour 5) {Q : State → Prop}   : ∀ (n9 : Nat) (z : Int32 × Wd) (o : Int32 × Wd), lp (f_X2_goHour_L127) n9 z = some o → (∀ (ls : Array Slot) (H : Heap) (locs : List Loc), lv_has ls 5 [] → St D ad ca s o.2 H locs → W p l e (RM 1 21) s m args below meth c H locs 0 0 Q (F0 m 188 ls [])) → (∀ (ls : Array Slot) (H : Heap) (locs : List Loc), lv_has ls 5 [(0, .ref (ad 13)), (1, .int z.1)] → St D ad ca s z.2 H locs → W p l e (RM 1 21) s m args below meth c H locs 0 0 Q (F0 m 127 ls [])) := by
  refine lp_W (HW := fun (z : Int32 × Wd) => ∀ (ls : Array Slot) (H : Heap) (locs : List Loc), lv_has ls 5 [(0, .ref (ad 13)), (1, .int z.1)] → St D ad ca s z.2 H locs → W p l e (RM 1 21) s m args below meth c H locs 0 0 Q (F0 m 127 ls [])) (XW := fun (o : Int32 × Wd) => ∀ (ls : Array Slot) (H : Heap) (locs : List Loc), lv_has ls 5 [] → St D ad ca s o.2 H locs → W p l e (RM 1 21) s m args below meth c H locs 0 0 Q (F0 m 188 ls [])) ?_
  intro z x h hN hX ls H locs hl S
  unfold f_X2_goHour_L127 at h
  refine lv_iload_n C.1 C.2.1 dX2_goHour_127 rfl (lv_at hl 1 rfl) ?_
  refine lv_aload_n C.1 C.2.1 dX2_goHour_128 rfl (lv_at hl 0 rfl) ?_
  refine r_geti C S o_13 cf_2 0 rfl (by decide) b_fl_RX2_45 dX2_goHour_129 ?_
  refine lv_icmp_ge (tgt := 188) C.1 C.2.1 dX2_goHour_132 (by decide) (fun q23 => ?_) (fun q23 => ?_)
  · replace h := (if_pos q23).symm.trans h
    exact hX _ (Option.some.inj h).symm _ _ _ (lv_sub hl [] rfl) S
  · replace h := (if_neg q23).symm.trans h
    refine lv_aload_n C.1 C.2.1 dX2_goHour_135 rfl (lv_at hl 0 rfl) ?_
    refine r_getr C S o_13 cf_2 6 rfl (by decide) b_fl_RX2_18 dX2_goHour_136 ?_
    refine lv_iload_n C.1 C.2.1 dX2_goHour_139 rfl (lv_at hl 1 rfl) ?_
    obtain ⟨g24, h⟩ := gd_some h
    refine r_iald C S a_61 g24 dX2_goHour_140 ?_
    refine lv_aload_n C.1 C.2.1 dX2_goHour_141 rfl (lv_at hl 0 rfl) ?_
    refine r_getr C S o_13 cf_2 5 rfl (by decide) b_fl_RX2_15 dX2_goHour_142 ?_
    refine lv_iload_n C.1 C.2.1 dX2_goHour_145 rfl (lv_at hl 1 rfl) ?_
    obtain ⟨g25, h⟩ := gd_some h
    refine r_iald C S a_60 g25 dX2_goHour_146 ?_
    refine lv_aload_n C.1 C.2.1 dX2_goHour_147 rfl (lv_at hl 0 rfl) ?_
    refine r_geti C S o_13 cf_2 2 rfl (by decide) b_fl_RX2_53 dX2_goHour_148 ?_
    refine lv_isub C.1 C.2.1 dX2_goHour_151 ?_
    refine lv_imul C.1 C.2.1 dX2_goHour_152 ?_
    refine lv_sipush (v := 1000) C.1 C.2.1 dX2_goHour_153 (by decide) ?_
    refine lv_idiv C.1 C.2.1 dX2_goHour_156 (by decide) ?_
    refine lv_istore_n (lv' := [(2, .int (((z.2.1 61 z.1.toNatClampNeg) * ((z.2.1 60 z.1.toNatClampNeg) - (z.2.1 13 2))) / 1000)), (0, .ref (ad 13)), (1, .int z.1)]) C.1 C.2.1 dX2_goHour_157 rfl hl (by decide) rfl (fun ls hl => ?_)
    refine lv_aload_n C.1 C.2.1 dX2_goHour_158 rfl (lv_at hl 1 rfl) ?_
    refine r_getr C S o_13 cf_2 5 rfl (by decide) b_fl_RX2_15 dX2_goHour_159 ?_
    refine lv_iload_n C.1 C.2.1 dX2_goHour_162 rfl (lv_at hl 2 rfl) ?_
    refine lv_dup2_11 C.1 C.2.1 dX2_goHour_163 rfl rfl ?_
    obtain ⟨g26, h⟩ := gd_some h
    refine r_iald C S a_60 g26 dX2_goHour_164 ?_
    refine lv_aload_n C.1 C.2.1 dX2_goHour_165 rfl (lv_at hl 1 rfl) ?_
    refine r_getr C S o_13 cf_2 9 rfl (by decide) b_fl_RX2_27 dX2_goHour_166 ?_
    refine lv_iload_n C.1 C.2.1 dX2_goHour_169 rfl (lv_at hl 2 rfl) ?_
    obtain ⟨g27, h⟩ := gd_some h
    refine r_iald C S a_64 g27 dX2_goHour_170 ?_
    refine lv_iload_n C.1 C.2.1 dX2_goHour_171 rfl (lv_at hl 0 rfl) ?_
    refine lv_isub C.1 C.2.1 dX2_goHour_172 ?_
    refine lv_aload_n C.1 C.2.1 dX2_goHour_173 rfl (lv_at hl 1 rfl) ?_
    refine r_getr C S o_13 cf_2 10 rfl (by decide) b_fl_RX2_30 dX2_goHour_174 ?_
    refine lv_iload_n C.1 C.2.1 dX2_goHour_177 rfl (lv_at hl 2 rfl) ?_
    obtain ⟨g28, h⟩ := gd_some h
    refine r_iald C S a_65 g28 dX2_goHour_178 ?_
    refine lv_iadd C.1 C.2.1 dX2_goHour_179 ?_
    refine lv_iadd C.1 C.2.1 dX2_goHour_180 ?_
    obtain ⟨g29, h⟩ := gd_some h
    refine r_iast C S a_60 g29 dX2_goHour_181 (fun H locs S => ?_)
    obtain ⟨w30, h, S⟩ := lw_S (P := fun y => St D ad ca s y H locs) h S
    refine lv_iinc (v := z.1 + 1) (lv' := [(1, .int (z.1 + 1)), (2, .int (((z.2.1 61 z.1.toNatClampNeg) * ((z.2.1 60 z.1.toNatClampNeg) - (z.2.1 13 2))) / 1000)), (0, .ref (ad 13))]) C.1 C.2.1 dX2_goHour_182 hl (k := 2) rfl rfl (by decide) rfl (fun ls hl => ?_)
    refine lv_goto (tgt := 127) C.1 C.2.1 dX2_goHour_185 (by decide) ?_
    exact hN _ (Option.some.inj h).symm _ _ _ (lv_sub hl [2, 0] rfl) S
set_option maxHeartbeats 4000000 in
set_option maxRecDepth 100000 in
theorem k_X2_goHour   {w : Wd} {rv : Wd} (h : f_X2_goHour w = some rv) : CV yX2_goHour cX2_goHour 5 1 21 (fun ad => [.ref (ad 13)]) w rv := by
  refine CV.of (by decide) ?_
  intro l D ad sx ca p e s m below meth c C S hr hlocks
  have hl := lv_entry ([.ref (ad 13)]) (n := 5) (Nat.le_of_ble_eq_true rfl)
  rw [lg_entry_eq]
  generalize (lg_sl ([.ref (ad 13)]) ++ List.replicate (5 - (lg_sl ([.ref (ad 13)])).length) Slot.unset).toArray = ls at hl ⊢
  have hl : lv_has ls 5 [(0, .ref (ad 13))] := hl
  generalize ha9 : ([.ref (ad 13)] : List Value).toArray = args at C ⊢
  generalize s.heap = H at S ⊢
  generalize ([] : List Loc) = locs at S ⊢
  unfold f_X2_goHour at h
  refine lv_iconst (v := 0) C.1 C.2.1 dX2_goHour_0 (by decide) ?_
  refine lv_istore_n (lv' := [(1, .int 0), (0, .ref (ad 13))]) C.1 C.2.1 dX2_goHour_1 rfl hl (by decide) rfl (fun ls hl => ?_)
  obtain ⟨o8, e9, h⟩ := Option.bind_eq_some_iff.mp h
  refine k_X2_goHour_L2 C  FU _ _ e9 (fun ls H locs hl S => ?_) ls H locs (lv_sub hl [1, 0] rfl) S
  refine lv_iconst (v := 0) C.1 C.2.1 dX2_goHour_55 (by decide) ?_
  refine lv_istore_n (lv' := [(1, .int 0), (0, .ref (ad 13))]) C.1 C.2.1 dX2_goHour_56 rfl hl (by decide) rfl (fun ls hl => ?_)
  obtain ⟨o21, e22, h⟩ := Option.bind_eq_some_iff.mp h
  refine k_X2_goHour_L57 C  FU _ _ e22 (fun ls H locs hl S => ?_) ls H locs (lv_sub hl [1, 0] rfl) S
  refine lv_iconst (v := 0) C.1 C.2.1 dX2_goHour_125 (by decide) ?_
  refine lv_istore_n (lv' := [(1, .int 0), (0, .ref (ad 13))]) C.1 C.2.1 dX2_goHour_126 rfl hl (by decide) rfl (fun ls hl => ?_)
  obtain ⟨o31, e32, h⟩ := Option.bind_eq_some_iff.mp h
  refine k_X2_goHour_L127 C  FU _ _ e32 (fun ls H locs hl S => ?_) ls H locs (lv_sub hl [1, 0] rfl) S
  have h9 := Option.some.inj h
  subst h9
  exact r_vret C S hr hlocks dX2_goHour_188
set_option maxHeartbeats 4000000 in
set_option maxRecDepth 100000 in
theorem k_X0_live_L6 {p : Program} {l : Launch} {e : Env} {s : State} {m : MethodId} {args : Array Value} {below : List Frame} {meth : Method} {c : Code} {D : va_G} {ad sx : Nat → Nat} {ca : Nat → ClassId} (C : Cx D ad sx ca p s m c args RX0 cX0_live 4) {Q : State → Prop}   : ∀ (n9 : Nat) (z : Int32 × Wd) (o : Int32 × Wd), lp (f_X0_live_L6) n9 z = some o → (∀ (ls : Array Slot) (H : Heap) (locs : List Loc), lv_has ls 4 [(0, .ref (ad 3))] → St D ad ca s o.2 H locs → W p l e (RM 2 45) s m args below meth c H locs 0 0 Q (F0 m 90 ls [])) → (∀ (ls : Array Slot) (H : Heap) (locs : List Loc), lv_has ls 4 [(0, .ref (ad 3)), (1, .ref (ad 13)), (2, .int z.1)] → St D ad ca s z.2 H locs → W p l e (RM 2 45) s m args below meth c H locs 0 0 Q (F0 m 6 ls [])) := by
  refine lp_W (HW := fun (z : Int32 × Wd) => ∀ (ls : Array Slot) (H : Heap) (locs : List Loc), lv_has ls 4 [(0, .ref (ad 3)), (1, .ref (ad 13)), (2, .int z.1)] → St D ad ca s z.2 H locs → W p l e (RM 2 45) s m args below meth c H locs 0 0 Q (F0 m 6 ls [])) (XW := fun (o : Int32 × Wd) => ∀ (ls : Array Slot) (H : Heap) (locs : List Loc), lv_has ls 4 [(0, .ref (ad 3))] → St D ad ca s o.2 H locs → W p l e (RM 2 45) s m args below meth c H locs 0 0 Q (F0 m 90 ls [])) ?_
  intro z x h hN hX ls H locs hl S
  unfold f_X0_live_L6 at h
  refine lv_iload_n C.1 C.2.1 dX0_live_6 rfl (lv_at hl 2 rfl) ?_
  refine lv_aload_n C.1 C.2.1 dX0_live_7 rfl (lv_at hl 0 rfl) ?_
  refine r_geti C S o_3 cf_0 1 rfl (by decide) b_fl_RX0_17 dX0_live_8 ?_
  refine lv_icmp_ge (tgt := 90) C.1 C.2.1 dX0_live_11 (by decide) (fun q3 => ?_) (fun q3 => ?_)
  · replace h := (if_pos q3).symm.trans h
    exact hX _ (Option.some.inj h).symm _ _ _ (lv_sub hl [0] rfl) S
  · replace h := (if_neg q3).symm.trans h
    refine lv_aload_n C.1 C.2.1 dX0_live_14 rfl (lv_at hl 0 rfl) ?_
    refine r_getr C S o_3 cf_0 0 rfl (by decide) b_fl_RX0_11 dX0_live_15 ?_
    refine lv_iload_n C.1 C.2.1 dX0_live_18 rfl (lv_at hl 2 rfl) ?_
    obtain ⟨g4, h⟩ := gd_some h
    refine r_aald C S a_17 g4 dX0_live_19 ?_
    refine lv_astore_n (lv' := [(3, .ref (ad (35 + z.1.toNatClampNeg))), (0, .ref (ad 3)), (1, .ref (ad 13)), (2, .int z.1)]) C.1 C.2.1 dX0_live_20 rfl hl (by decide) rfl (fun ls hl => ?_)
    refine lv_aload_n C.1 C.2.1 dX0_live_21 rfl (lv_at hl 0 rfl) ?_
    refine lv_aload_n C.1 C.2.1 dX0_live_22 rfl (lv_at hl 2 rfl) ?_
    refine r_getr C S o_13 cf_2 5 rfl (by decide) b_fl_RX0_81 dX0_live_23 ?_
    refine lv_iload_n C.1 C.2.1 dX0_live_26 rfl (lv_at hl 3 rfl) ?_
    obtain ⟨g5, h⟩ := gd_some h
    refine r_iald C S a_60 g5 dX0_live_27 ?_
    refine r_put C S (o_F1 (inB_lt g4)) cf_4 7 rfl (by decide) rfl (ni _) b_fl_RX0_84 dX0_live_28 (fun H locs S => ?_)
    obtain ⟨w6, h, S⟩ := lw_S (P := fun y => St D ad ca s y H locs) h S
    refine lv_aload_n C.1 C.2.1 dX0_live_31 rfl (lv_at hl 0 rfl) ?_
    refine lv_dup C.1 C.2.1 dX0_live_32 rfl ?_
    refine r_geti C S (o_F1 (inB_lt g4)) cf_4 8 rfl (by decide) b_fl_RX0_86 dX0_live_33 ?_
    refine lv_aload_n C.1 C.2.1 dX0_live_36 rfl (lv_at hl 2 rfl) ?_
    refine r_getr C S o_13 cf_2 9 rfl (by decide) b_fl_RX0_89 dX0_live_37 ?_
    refine lv_iload_n C.1 C.2.1 dX0_live_40 rfl (lv_at hl 3 rfl) ?_
    obtain ⟨g7, h⟩ := gd_some h
    refine r_iald C S a_64 g7 dX0_live_41 ?_
    refine lv_aload_n C.1 C.2.1 dX0_live_42 rfl (lv_at hl 0 rfl) ?_
    refine r_geti C S (o_F1 (inB_lt g4)) cf_4 11 rfl (by decide) b_fl_RX0_92 dX0_live_43 ?_
    refine lv_imul C.1 C.2.1 dX0_live_46 ?_
    refine lv_bipush (v := 100) C.1 C.2.1 dX0_live_47 (by decide) ?_
    refine lv_idiv C.1 C.2.1 dX0_live_49 (by decide) ?_
    refine lv_iadd C.1 C.2.1 dX0_live_50 ?_
    refine r_put C S (o_F1 (inB_lt g4)) cf_4 8 rfl (by decide) rfl (ni _) b_fl_RX0_86 dX0_live_51 (fun H locs S => ?_)
    obtain ⟨w8, h, S⟩ := lw_S (P := fun y => St D ad ca s y H locs) h S
    refine lv_aload_n C.1 C.2.1 dX0_live_54 rfl (lv_at hl 0 rfl) ?_
    refine lv_dup C.1 C.2.1 dX0_live_55 rfl ?_
    refine r_geti C S (o_F1 (inB_lt g4)) cf_4 9 rfl (by decide) b_fl_RX0_95 dX0_live_56 ?_
    refine lv_aload_n C.1 C.2.1 dX0_live_59 rfl (lv_at hl 2 rfl) ?_
    refine r_getr C S o_13 cf_2 9 rfl (by decide) b_fl_RX0_89 dX0_live_60 ?_
    refine lv_iload_n C.1 C.2.1 dX0_live_63 rfl (lv_at hl 3 rfl) ?_
    obtain ⟨g9, h⟩ := gd_some h
    refine r_iald C S a_64 g9 dX0_live_64 ?_
    refine lv_iadd C.1 C.2.1 dX0_live_65 ?_
    refine r_put C S (o_F1 (inB_lt g4)) cf_4 9 rfl (by decide) rfl (ni _) b_fl_RX0_95 dX0_live_66 (fun H locs S => ?_)
    obtain ⟨w10, h, S⟩ := lw_S (P := fun y => St D ad ca s y H locs) h S
    refine lv_aload_n C.1 C.2.1 dX0_live_69 rfl (lv_at hl 0 rfl) ?_
    refine lv_dup C.1 C.2.1 dX0_live_70 rfl ?_
    refine r_geti C S (o_F1 (inB_lt g4)) cf_4 10 rfl (by decide) b_fl_RX0_98 dX0_live_71 ?_
    refine lv_aload_n C.1 C.2.1 dX0_live_74 rfl (lv_at hl 2 rfl) ?_
    refine r_getr C S o_13 cf_2 10 rfl (by decide) b_fl_RX0_101 dX0_live_75 ?_
    refine lv_iload_n C.1 C.2.1 dX0_live_78 rfl (lv_at hl 3 rfl) ?_
    obtain ⟨g11, h⟩ := gd_some h
    refine r_iald C S a_65 g11 dX0_live_79 ?_
    refine lv_iadd C.1 C.2.1 dX0_live_80 ?_
    refine r_put C S (o_F1 (inB_lt g4)) cf_4 10 rfl (by decide) rfl (ni _) b_fl_RX0_98 dX0_live_81 (fun H locs S => ?_)
    obtain ⟨w12, h, S⟩ := lw_S (P := fun y => St D ad ca s y H locs) h S
    refine lv_iinc (v := z.1 + 1) (lv' := [(2, .int (z.1 + 1)), (3, .ref (ad (35 + z.1.toNatClampNeg))), (0, .ref (ad 3)), (1, .ref (ad 13))]) C.1 C.2.1 dX0_live_84 hl (k := 3) rfl rfl (by decide) rfl (fun ls hl => ?_)
    refine lv_goto (tgt := 6) C.1 C.2.1 dX0_live_87 (by decide) ?_
    exact hN _ (Option.some.inj h).symm _ _ _ (lv_sub hl [2, 3, 0] rfl) S
set_option maxHeartbeats 4000000 in
set_option maxRecDepth 100000 in
theorem k_X0_live   {w : Wd} {rv : Wd} (h : f_X0_live w = some rv) : CV yX0_live cX0_live 4 2 45 (fun ad => [.ref (ad 3), .ref (ad 13)]) w rv := by
  refine CV.of (by decide) ?_
  intro l D ad sx ca p e s m below meth c C S hr hlocks
  have hl := lv_entry ([.ref (ad 3), .ref (ad 13)]) (n := 4) (Nat.le_of_ble_eq_true rfl)
  rw [lg_entry_eq]
  generalize (lg_sl ([.ref (ad 3), .ref (ad 13)]) ++ List.replicate (4 - (lg_sl ([.ref (ad 3), .ref (ad 13)])).length) Slot.unset).toArray = ls at hl ⊢
  have hl : lv_has ls 4 [(0, .ref (ad 3)), (1, .ref (ad 13))] := hl
  generalize ha9 : ([.ref (ad 3), .ref (ad 13)] : List Value).toArray = args at C ⊢
  generalize s.heap = H at S ⊢
  generalize ([] : List Loc) = locs at S ⊢
  unfold f_X0_live at h
  refine lv_aload_n C.1 C.2.1 dX0_live_0 rfl (lv_at hl 1 rfl) ?_
  obtain ⟨o1, e2, h⟩ := Option.bind_eq_some_iff.mp h
  refine r_vv C S hl o_13 cf_2 (k_X2_goHour e2) b_vb_RX0_76 [] rfl [] rfl rfl (Nat.le_of_ble_eq_true rfl) ⟨Nat.le_of_ble_eq_true rfl, Nat.le_of_ble_eq_true rfl⟩ dX0_live_1 (fun H locs S => ?_)
  refine lv_iconst (v := 0) C.1 C.2.1 dX0_live_4 (by decide) ?_
  refine lv_istore_n (lv' := [(2, .int 0), (0, .ref (ad 3)), (1, .ref (ad 13))]) C.1 C.2.1 dX0_live_5 rfl hl (by decide) rfl (fun ls hl => ?_)
  obtain ⟨o13, e14, h⟩ := Option.bind_eq_some_iff.mp h
  refine k_X0_live_L6 C  FU _ _ e14 (fun ls H locs hl S => ?_) ls H locs (lv_sub hl [1, 2, 0] rfl) S
  refine lv_aload_n C.1 C.2.1 dX0_live_90 rfl (lv_at hl 0 rfl) ?_
  refine lv_dup C.1 C.2.1 dX0_live_91 rfl ?_
  refine r_geti C S o_3 cf_0 3 rfl (by decide) b_fl_RX0_25 dX0_live_92 ?_
  refine lv_iconst (v := 1) C.1 C.2.1 dX0_live_95 (by decide) ?_
  refine lv_iadd C.1 C.2.1 dX0_live_96 ?_
  refine r_put C S o_3 cf_0 3 rfl (by decide) rfl (ni _) b_fl_RX0_25 dX0_live_97 (fun H locs S => ?_)
  obtain ⟨w15, h, S⟩ := lw_S (P := fun y => St D ad ca s y H locs) h S
  have h9 := Option.some.inj h
  subst h9
  exact r_vret C S hr hlocks dX0_live_100

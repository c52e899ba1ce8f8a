set_option maxHeartbeats 4000000 in
set_option maxRecDepth 100000 in
theorem k_X11_isEven {v1 : Int32} {v2 : Int32}  {w : Wd} {rv : Int32} (h : f_X11_isEven v1 v2 w = some rv) : CI yX11_isEven cX11_isEven 3 .boolean 0 0 (fun ad => [.ref (ad 76), .int v1, .int v2]) w rv w := by
  refine CI.of (by decide) ?_
  intro l D ad sx ca p e s m below meth c C S hr hlocks
  have hl := lv_entry ([.ref (ad 76), .int v1, .int v2]) (n := 3) (Nat.le_of_ble_eq_true rfl)
  rw [lg_entry_eq]
  generalize (lg_sl ([.ref (ad 76), .int v1, .int v2]) ++ List.replicate (3 - (lg_sl ([.ref (ad 76), .int v1, .int v2])).length) Slot.unset).toArray = ls at hl ⊢
  have hl : lv_has ls 3 [(0, .ref (ad 76)), (1, .int v1), (2, .int v2)] := hl
  generalize ha9 : ([.ref (ad 76), .int v1, .int v2] : List Value).toArray = args at C ⊢
  generalize s.heap = H at S ⊢
  generalize ([] : List Loc) = locs at S ⊢
  unfold f_X11_isEven at h
  refine lv_aload_n C.1 C.2.1 dX11_isEven_0 rfl (lv_at hl 0 rfl) ?_
  refine r_getr C S o_76 cf_11 13 rfl (by decide) b_fl_RX11_43 dX11_isEven_1 ?_
  refine lv_iload_n C.1 C.2.1 dX11_isEven_4 rfl (lv_at hl 1 rfl) ?_
  obtain ⟨g1, h⟩ := gd_some h
  refine r_iald C S a_88 g1 dX11_isEven_5 ?_
  refine lv_iload_n C.1 C.2.1 dX11_isEven_6 rfl (lv_at hl 2 rfl) ?_
  refine lv_sipush (v := 1000) C.1 C.2.1 dX11_isEven_7 (by decide) ?_
  refine lv_idiv C.1 C.2.1 dX11_isEven_10 (by decide) ?_
  refine lv_icmp_lt (tgt := 32) C.1 C.2.1 dX11_isEven_11 (by decide) (fun q2 => ?_) (fun q2 => ?_)
  · replace h := (if_pos q2).symm.trans h
    refine lv_iconst (v := 0) C.1 C.2.1 dX11_isEven_32 (by decide) ?_
    have h9 := Option.some.inj h
    subst h9
    exact r_zret C S hr hlocks (Or.inl rfl) dX11_isEven_33
  · replace h := (if_neg q2).symm.trans h
    refine lv_aload_n C.1 C.2.1 dX11_isEven_14 rfl (lv_at hl 0 rfl) ?_
    refine r_getr C S o_76 cf_11 13 rfl (by decide) b_fl_RX11_43 dX11_isEven_15 ?_
    refine lv_iload_n C.1 C.2.1 dX11_isEven_18 rfl (lv_at hl 1 rfl) ?_
    obtain ⟨g3, h⟩ := gd_some h
    refine r_iald C S a_88 g3 dX11_isEven_19 ?_
    refine lv_iload_n C.1 C.2.1 dX11_isEven_20 rfl (lv_at hl 2 rfl) ?_
    refine lv_sipush (v := 1000) C.1 C.2.1 dX11_isEven_21 (by decide) ?_
    refine lv_irem C.1 C.2.1 dX11_isEven_24 (by decide) ?_
    refine lv_icmp_gt (tgt := 32) C.1 C.2.1 dX11_isEven_25 (by decide) (fun q4 => ?_) (fun q4 => ?_)
    · replace h := (if_pos q4).symm.trans h
      refine lv_iconst (v := 0) C.1 C.2.1 dX11_isEven_32 (by decide) ?_
      have h9 := Option.some.inj h
      subst h9
      exact r_zret C S hr hlocks (Or.inl rfl) dX11_isEven_33
    · replace h := (if_neg q4).symm.trans h
      refine lv_iconst (v := 1) C.1 C.2.1 dX11_isEven_28 (by decide) ?_
      refine lv_goto (tgt := 33) C.1 C.2.1 dX11_isEven_29 (by decide) ?_
      have h9 := Option.some.inj h
      subst h9
      exact r_zret C S hr hlocks (Or.inr rfl) dX11_isEven_33
set_option maxHeartbeats 4000000 in
set_option maxRecDepth 100000 in
theorem k_X11_even_L45 {p : Program} {l : Launch} {e : Env} {s : State} {m : MethodId} {args : Array Value} {below : List Frame} {meth : Method} {c : Code} {D : va_G} {ad sx : Nat → Nat} {ca : Nat → ClassId} (C : Cx D ad sx ca p s m c args RX11 cX11_even 5) {Q : State → Prop} {w : Wd} {v1 : Int32}  : ∀ (n9 : Nat) (z : Int32 × Int32) (o : Int32 × Int32), lp (f_X11_even_L45 v1 w) n9 z = some o → (∀ (ls : Array Slot) (H : Heap) (locs : List Loc), lv_has ls 5 [(3, .int o.1)] → St D ad ca s w H locs → W p l e (RM 5 114) s m args below meth c H locs 0 0 Q (F0 m 83 ls [])) → (∀ (ls : Array Slot) (H : Heap) (locs : List Loc), lv_has ls 5 [(0, .ref (ad 76)), (1, .int v1), (3, .int z.1), (4, .int z.2)] → St D ad ca s w H locs → W p l e (RM 5 114) s m args below meth c H locs 0 0 Q (F0 m 45 ls [])) := by
  refine lp_W (HW := fun (z : Int32 × Int32) => ∀ (ls : Array Slot) (H : Heap) (locs : List Loc), lv_has ls 5 [(0, .ref (ad 76)), (1, .int v1), (3, .int z.1), (4, .int z.2)] → St D ad ca s w H locs → W p l e (RM 5 114) s m args below meth c H locs 0 0 Q (F0 m 45 ls [])) (XW := fun (o : Int32 × Int32) => ∀ (ls : Array Slot) (H : Heap) (locs : List Loc), lv_has ls 5 [(3, .int o.1)] → St D ad ca s w H locs → W p l e (RM 5 114) s m args below meth c H locs 0 0 Q (F0 m 83 ls [])) ?_
  intro z x h hN hX ls H locs hl S
  unfold f_X11_even_L45 at h
  refine lv_iload C.1 C.2.1 dX11_even_45 (lv_at hl 3 rfl) ?_
  refine lv_aload_n C.1 C.2.1 dX11_even_47 rfl (lv_at hl 0 rfl) ?_
  refine r_getr C S o_76 cf_11 0 rfl (by decide) b_fl_RX11_9 dX11_even_48 ?_
  refine lv_iconst (v := 4) C.1 C.2.1 dX11_even_51 (by decide) ?_
  refine r_ialdn (j := 4) C S a_77 (by decide) (by decide) dX11_even_52 ?_
  refine lv_icmp_ge (tgt := 83) C.1 C.2.1 dX11_even_53 (by decide) (fun q13 => ?_) (fun q13 => ?_)
  · replace h := (if_pos q13).symm.trans h
    exact hX _ (Option.some.inj h).symm _ _ _ (lv_sub hl [2] rfl) S
  · replace h := (if_neg q13).symm.trans h
    refine lv_iload_n C.1 C.2.1 dX11_even_56 rfl (lv_at hl 2 rfl) ?_
    refine lv_aload_n C.1 C.2.1 dX11_even_57 rfl (lv_at hl 0 rfl) ?_
    refine lv_iload C.1 C.2.1 dX11_even_58 (lv_at hl 3 rfl) ?_
    refine lv_iload_n C.1 C.2.1 dX11_even_60 rfl (lv_at hl 1 rfl) ?_
    obtain ⟨o14, e15, h⟩ := Option.bind_eq_some_iff.mp h
    refine r_vi C S hl o_76 cf_11 (k_X11_isEven e15) b_vb_RX11_239 [.int z.2, .int v1] rfl [.int z.1] rfl rfl (Nat.le_of_ble_eq_true rfl) ⟨Nat.le_of_ble_eq_true rfl, Nat.le_of_ble_eq_true rfl⟩ dX11_even_61 (fun H locs S => ?_)
    refine lv_if_eq (tgt := 74) C.1 C.2.1 dX11_even_64 (by decide) (fun q16 => ?_) (fun q16 => ?_)
    · replace h := (if_pos q16).symm.trans h
      refine lv_iconst (v := 0) C.1 C.2.1 dX11_even_74 (by decide) ?_
      refine lv_ior C.1 C.2.1 dX11_even_75 ?_
      refine lv_istore_n (lv' := [(3, .int (z.1 ||| 0)), (0, .ref (ad 76)), (1, .int v1), (4, .int z.2)]) C.1 C.2.1 dX11_even_76 rfl hl (by decide) rfl (fun ls hl => ?_)
      refine lv_iinc (v := z.2 + 1) (lv' := [(4, .int (z.2 + 1)), (3, .int (z.1 ||| 0)), (0, .ref (ad 76)), (1, .int v1)]) C.1 C.2.1 dX11_even_77 hl (k := 3) rfl rfl (by decide) rfl (fun ls hl => ?_)
      refine lv_goto (tgt := 45) C.1 C.2.1 dX11_even_80 (by decide) ?_
      exact hN _ (Option.some.inj h).symm _ _ _ (lv_sub hl [2, 3, 1, 0] rfl) S
    · replace h := (if_neg q16).symm.trans h
      refine lv_iconst (v := 1) C.1 C.2.1 dX11_even_67 (by decide) ?_
      refine lv_iload C.1 C.2.1 dX11_even_68 (lv_at hl 3 rfl) ?_
      refine lv_ishl C.1 C.2.1 dX11_even_70 ?_
      refine lv_goto (tgt := 75) C.1 C.2.1 dX11_even_71 (by decide) ?_
      refine lv_ior C.1 C.2.1 dX11_even_75 ?_
      refine lv_istore_n (lv' := [(3, .int (z.1 ||| (1 <<< (z.2 &&& 31)))), (0, .ref (ad 76)), (1, .int v1), (4, .int z.2)]) C.1 C.2.1 dX11_even_76 rfl hl (by decide) rfl (fun ls hl => ?_)
      refine lv_iinc (v := z.2 + 1) (lv' := [(4, .int (z.2 + 1)), (3, .int (z.1 ||| (1 <<< (z.2 &&& 31)))), (0, .ref (ad 76)), (1, .int v1)]) C.1 C.2.1 dX11_even_77 hl (k := 3) rfl rfl (by decide) rfl (fun ls hl => ?_)
      refine lv_goto (tgt := 45) C.1 C.2.1 dX11_even_80 (by decide) ?_
      exact hN _ (Option.some.inj h).symm _ _ _ (lv_sub hl [2, 3, 1, 0] rfl) S
set_option maxHeartbeats 4000000 in
set_option maxRecDepth 100000 in
theorem k_X11_even {v1 : Int32} {v2 : Int32}  {w : Wd} {rv : Int32 × Wd} (h : f_X11_even v1 v2 w = some rv) : CI yX11_even cX11_even 5 .int 5 114 (fun ad => [.ref (ad 76), .int v1, .int v2]) w rv.1 rv.2 := by
  refine CI.of (by decide) ?_
  intro l D ad sx ca p e s m below meth c C S hr hlocks
  have hl := lv_entry ([.ref (ad 76), .int v1, .int v2]) (n := 5) (Nat.le_of_ble_eq_true rfl)
  rw [lg_entry_eq]
  generalize (lg_sl ([.ref (ad 76), .int v1, .int v2]) ++ List.replicate (5 - (lg_sl ([.ref (ad 76), .int v1, .int v2])).length) Slot.unset).toArray = ls at hl ⊢
  have hl : lv_has ls 5 [(0, .ref (ad 76)), (1, .int v1), (2, .int v2)] := hl
  generalize ha9 : ([.ref (ad 76), .int v1, .int v2] : List Value).toArray = args at C ⊢
  generalize s.heap = H at S ⊢
  generalize ([] : List Loc) = locs at S ⊢
  unfold f_X11_even at h
  refine lv_iload_n C.1 C.2.1 dX11_even_0 rfl (lv_at hl 1 rfl) ?_
  obtain ⟨o1, e2, h⟩ := Option.bind_eq_some_iff.mp h
  refine r_si C S hl (k_X11_areBounds e2) b_sb_RX11_233 [.int v1] rfl [] rfl rfl (Nat.le_of_ble_eq_true rfl) ⟨Nat.le_of_ble_eq_true rfl, Nat.le_of_ble_eq_true rfl⟩ dX11_even_1 (fun H locs S => ?_)
  refine lv_if_eq (tgt := 17) C.1 C.2.1 dX11_even_4 (by decide) (fun q3 => ?_) (fun q3 => ?_)
  · replace h := (if_pos q3).symm.trans h
    refine lv_aload_n C.1 C.2.1 dX11_even_17 rfl (lv_at hl 0 rfl) ?_
    refine r_ldc C (-1000000001) b_cn_RX11_92 dX11_even_18 ?_
    obtain ⟨o4, e5, h⟩ := Option.bind_eq_some_iff.mp h
    refine r_vi C S hl o_76 cf_11 (k_X11_finds e5) b_vb_RX11_109 [.int (-1000000001)] rfl [] rfl rfl (Nat.le_of_ble_eq_true rfl) ⟨Nat.le_of_ble_eq_true rfl, Nat.le_of_ble_eq_true rfl⟩ dX11_even_20 (fun H locs S => ?_)
    have h9 := Option.some.inj h
    subst h9
    exact r_iret C S hr hlocks dX11_even_23
  · replace h := (if_neg q3).symm.trans h
    refine lv_iload_n C.1 C.2.1 dX11_even_7 rfl (lv_at hl 2 rfl) ?_
    refine lv_iconst (v := 0) C.1 C.2.1 dX11_even_8 (by decide) ?_
    refine lv_bipush (v := 50) C.1 C.2.1 dX11_even_9 (by decide) ?_
    obtain ⟨o6, e7, h⟩ := Option.bind_eq_some_iff.mp h
    refine r_si C S hl (k_X11_in e7) b_sb_RX11_97 [.int v2, .int 0, .int 50] rfl [] rfl rfl (Nat.le_of_ble_eq_true rfl) ⟨Nat.le_of_ble_eq_true rfl, Nat.le_of_ble_eq_true rfl⟩ dX11_even_11 (fun H locs S => ?_)
    refine lv_if_ne (tgt := 24) C.1 C.2.1 dX11_even_14 (by decide) (fun q8 => ?_) (fun q8 => ?_)
    · replace h := (if_neg q8).symm.trans h
      refine lv_aload_n C.1 C.2.1 dX11_even_24 rfl (lv_at hl 0 rfl) ?_
      obtain ⟨o9, e10, h⟩ := Option.bind_eq_some_iff.mp h
      refine r_vv C S hl o_76 cf_11 (k_X11_setsAside e10) b_vb_RX11_145 [] rfl [] rfl rfl (Nat.le_of_ble_eq_true rfl) ⟨Nat.le_of_ble_eq_true rfl, Nat.le_of_ble_eq_true rfl⟩ dX11_even_25 (fun H locs S => ?_)
      refine lv_aload_n C.1 C.2.1 dX11_even_28 rfl (lv_at hl 0 rfl) ?_
      refine lv_aload_n C.1 C.2.1 dX11_even_29 rfl (lv_at hl 0 rfl) ?_
      refine r_getr C S o_76 cf_11 0 rfl (by decide) b_fl_RX11_9 dX11_even_30 ?_
      refine lv_iconst (v := 3) C.1 C.2.1 dX11_even_33 (by decide) ?_
      refine r_ialdn (j := 3) C S a_77 (by decide) (by decide) dX11_even_34 ?_
      refine lv_iload_n C.1 C.2.1 dX11_even_35 rfl (lv_at hl 2 rfl) ?_
      obtain ⟨o11, e12, h⟩ := Option.bind_eq_some_iff.mp h
      refine r_vi C S hl o_76 cf_11 (k_X11_goesAll e12) b_vb_RX11_236 [.int (o9.1 77 3), .int v2] rfl [] rfl rfl (Nat.le_of_ble_eq_true rfl) ⟨Nat.le_of_ble_eq_true rfl, Nat.le_of_ble_eq_true rfl⟩ dX11_even_36 (fun H locs S => ?_)
      refine lv_pop C.1 C.2.1 dX11_even_39 rfl ?_
      refine lv_iconst (v := 0) C.1 C.2.1 dX11_even_40 (by decide) ?_
      refine lv_istore_n (lv' := [(3, .int 0), (0, .ref (ad 76)), (1, .int v1), (2, .int v2)]) C.1 C.2.1 dX11_even_41 rfl hl (by decide) rfl (fun ls hl => ?_)
      refine lv_iconst (v := 0) C.1 C.2.1 dX11_even_42 (by decide) ?_
      refine lv_istore (lv' := [(4, .int 0), (3, .int 0), (0, .ref (ad 76)), (1, .int v1), (2, .int v2)]) C.1 C.2.1 dX11_even_43 hl (by decide) rfl (fun ls hl => ?_)
      obtain ⟨o17, e18, h⟩ := Option.bind_eq_some_iff.mp h
      refine k_X11_even_L45 C  FU _ _ e18 (fun ls H locs hl S => ?_) ls H locs (lv_sub hl [2, 3, 1, 0] rfl) S
      refine lv_iload_n C.1 C.2.1 dX11_even_83 rfl (lv_at hl 0 rfl) ?_
      have h9 := Option.some.inj h
      subst h9
      exact r_iret C S hr hlocks dX11_even_84
    · replace h := (if_pos q8).symm.trans h
      refine lv_aload_n C.1 C.2.1 dX11_even_17 rfl (lv_at hl 0 rfl) ?_
      refine r_ldc C (-1000000001) b_cn_RX11_92 dX11_even_18 ?_
      obtain ⟨o19, e20, h⟩ := Option.bind_eq_some_iff.mp h
      refine r_vi C S hl o_76 cf_11 (k_X11_finds e20) b_vb_RX11_109 [.int (-1000000001)] rfl [] rfl rfl (Nat.le_of_ble_eq_true rfl) ⟨Nat.le_of_ble_eq_true rfl, Nat.le_of_ble_eq_true rfl⟩ dX11_even_20 (fun H locs S => ?_)
      have h9 := Option.some.inj h
      subst h9
      exact r_iret C S hr hlocks dX11_even_23
set_option maxHeartbeats 4000000 in
set_option maxRecDepth 100000 in
theorem k_X11_foretold {v1 : Int32} {v2 : Int32}  {w : Wd} {rv : Int32 × Wd} (h : f_X11_foretold v1 v2 w = some rv) : CI yX11_foretold cX11_foretold 3 .int 5 114 (fun ad => [.ref (ad 76), .int v1, .int v2]) w rv.1 rv.2 := by
  refine CI.of (by decide) ?_
  intro l D ad sx ca p e s m below meth c C S hr hlocks
  have hl := lv_entry ([.ref (ad 76), .int v1, .int v2]) (n := 3) (Nat.le_of_ble_eq_true rfl)
  rw [lg_entry_eq]
  generalize (lg_sl ([.ref (ad 76), .int v1, .int v2]) ++ List.replicate (3 - (lg_sl ([.ref (ad 76), .int v1, .int v2])).length) Slot.unset).toArray = ls at hl ⊢
  have hl : lv_has ls 3 [(0, .ref (ad 76)), (1, .int v1), (2, .int v2)] := hl
  generalize ha9 : ([.ref (ad 76), .int v1, .int v2] : List Value).toArray = args at C ⊢
  generalize s.heap = H at S ⊢
  generalize ([] : List Loc) = locs at S ⊢
  unfold f_X11_foretold at h
  refine lv_aload_n C.1 C.2.1 dX11_foretold_0 rfl (lv_at hl 0 rfl) ?_
  refine lv_iload_n C.1 C.2.1 dX11_foretold_1 rfl (lv_at hl 1 rfl) ?_
  obtain ⟨o1, e2, h⟩ := Option.bind_eq_some_iff.mp h
  refine r_vi C S hl o_76 cf_11 (k_X11_isFlat e2) b_vb_RX11_141 [.int v1] rfl [] rfl rfl (Nat.le_of_ble_eq_true rfl) ⟨Nat.le_of_ble_eq_true rfl, Nat.le_of_ble_eq_true rfl⟩ dX11_foretold_2 (fun H locs S => ?_)
  refine lv_if_eq (tgt := 18) C.1 C.2.1 dX11_foretold_5 (by decide) (fun q3 => ?_) (fun q3 => ?_)
  · replace h := (if_pos q3).symm.trans h
    refine lv_aload_n C.1 C.2.1 dX11_foretold_18 rfl (lv_at hl 0 rfl) ?_
    refine r_ldc C (-1000000001) b_cn_RX11_92 dX11_foretold_19 ?_
    obtain ⟨o4, e5, h⟩ := Option.bind_eq_some_iff.mp h
    refine r_vi C S hl o_76 cf_11 (k_X11_finds e5) b_vb_RX11_109 [.int (-1000000001)] rfl [] rfl rfl (Nat.le_of_ble_eq_true rfl) ⟨Nat.le_of_ble_eq_true rfl, Nat.le_of_ble_eq_true rfl⟩ dX11_foretold_21 (fun H locs S => ?_)
    have h9 := Option.some.inj h
    subst h9
    exact r_iret C S hr hlocks dX11_foretold_24
  · replace h := (if_neg q3).symm.trans h
    refine lv_iload_n C.1 C.2.1 dX11_foretold_8 rfl (lv_at hl 2 rfl) ?_
    refine lv_iconst (v := 0) C.1 C.2.1 dX11_foretold_9 (by decide) ?_
    refine lv_bipush (v := 100) C.1 C.2.1 dX11_foretold_10 (by decide) ?_
    obtain ⟨o6, e7, h⟩ := Option.bind_eq_some_iff.mp h
    refine r_si C S hl (k_X11_in e7) b_sb_RX11_97 [.int v2, .int 0, .int 100] rfl [] rfl rfl (Nat.le_of_ble_eq_true rfl) ⟨Nat.le_of_ble_eq_true rfl, Nat.le_of_ble_eq_true rfl⟩ dX11_foretold_12 (fun H locs S => ?_)
    refine lv_if_ne (tgt := 25) C.1 C.2.1 dX11_foretold_15 (by decide) (fun q8 => ?_) (fun q8 => ?_)
    · replace h := (if_neg q8).symm.trans h
      refine lv_aload_n C.1 C.2.1 dX11_foretold_25 rfl (lv_at hl 0 rfl) ?_
      obtain ⟨o9, e10, h⟩ := Option.bind_eq_some_iff.mp h
      refine r_vv C S hl o_76 cf_11 (k_X11_setsAside e10) b_vb_RX11_145 [] rfl [] rfl rfl (Nat.le_of_ble_eq_true rfl) ⟨Nat.le_of_ble_eq_true rfl, Nat.le_of_ble_eq_true rfl⟩ dX11_foretold_26 (fun H locs S => ?_)
      refine lv_aload_n C.1 C.2.1 dX11_foretold_29 rfl (lv_at hl 0 rfl) ?_
      refine lv_aload_n C.1 C.2.1 dX11_foretold_30 rfl (lv_at hl 0 rfl) ?_
      refine r_getr C S o_76 cf_11 0 rfl (by decide) b_fl_RX11_9 dX11_foretold_31 ?_
      refine lv_iconst (v := 3) C.1 C.2.1 dX11_foretold_34 (by decide) ?_
      refine r_ialdn (j := 3) C S a_77 (by decide) (by decide) dX11_foretold_35 ?_
      refine lv_iload_n C.1 C.2.1 dX11_foretold_36 rfl (lv_at hl 2 rfl) ?_
      obtain ⟨o11, e12, h⟩ := Option.bind_eq_some_iff.mp h
      refine r_vi C S hl o_76 cf_11 (k_X11_goesAll e12) b_vb_RX11_236 [.int (o9.1 77 3), .int v2] rfl [] rfl rfl (Nat.le_of_ble_eq_true rfl) ⟨Nat.le_of_ble_eq_true rfl, Nat.le_of_ble_eq_true rfl⟩ dX11_foretold_37 (fun H locs S => ?_)
      refine lv_pop C.1 C.2.1 dX11_foretold_40 rfl ?_
      refine lv_aload_n C.1 C.2.1 dX11_foretold_41 rfl (lv_at hl 0 rfl) ?_
      refine r_getr C S o_76 cf_11 13 rfl (by decide) b_fl_RX11_43 dX11_foretold_42 ?_
      refine lv_iload_n C.1 C.2.1 dX11_foretold_45 rfl (lv_at hl 1 rfl) ?_
      obtain ⟨g13, h⟩ := gd_some h
      refine r_iald C S a_88 g13 dX11_foretold_46 ?_
      have h9 := Option.some.inj h
      subst h9
      exact r_iret C S hr hlocks dX11_foretold_47
    · replace h := (if_pos q8).symm.trans h
      refine lv_aload_n C.1 C.2.1 dX11_foretold_18 rfl (lv_at hl 0 rfl) ?_
      refine r_ldc C (-1000000001) b_cn_RX11_92 dX11_foretold_19 ?_
      obtain ⟨o14, e15, h⟩ := Option.bind_eq_some_iff.mp h
      refine r_vi C S hl o_76 cf_11 (k_X11_finds e15) b_vb_RX11_109 [.int (-1000000001)] rfl [] rfl rfl (Nat.le_of_ble_eq_true rfl) ⟨Nat.le_of_ble_eq_true rfl, Nat.le_of_ble_eq_true rfl⟩ dX11_foretold_21 (fun H locs S => ?_)
      have h9 := Option.some.inj h
      subst h9
      exact r_iret C S hr hlocks dX11_foretold_24
set_option maxHeartbeats 4000000 in
set_option maxRecDepth 100000 in
theorem k_X11_areEven_L22 {p : Program} {l : Launch} {e : Env} {s : State} {m : MethodId} {args : Array Value} {below : List Frame} {meth : Method} {c : Code} {D : va_G} {ad sx : Nat → Nat} {ca : Nat → ClassId} (C : Cx D ad sx ca p s m c args RX11 cX11_areEven 4) (hr : meth.sig.returnType = (some .boolean)) (hlocks : meth.locks = false) {rv : Int32 × Wd} {w : Wd} {v1 : Int32}  : ∀ (n9 : Nat) (z : Int32) (o : (Int32) ⊕ (Int32 × Wd)), lp (f_X11_areEven_L22 v1 w) n9 z = some o → ((∀ x, o = .inl x → ∀ (ls : Array Slot) (H : Heap) (locs : List Loc), lv_has ls 4 [] → St D ad ca s w H locs → W p l e (RM 4 90) s m args below meth c H locs 0 0 (MQ below (Qi D ad ca rv.1 rv.2) args s 0 0 (Aad ad)) (F0 m 49 ls [])) ∧ ∀ y, o = .inr y → y = rv) → (∀ (ls : Array Slot) (H : Heap) (locs : List Loc), lv_has ls 4 [(0, .ref (ad 76)), (1, .int v1), (3, .int z)] → St D ad ca s w H locs → W p l e (RM 4 90) s m args below meth c H locs 0 0 (MQ below (Qi D ad ca rv.1 rv.2) args s 0 0 (Aad ad)) (F0 m 22 ls [])) := by
  refine lp_W (HW := fun (z : Int32) => ∀ (ls : Array Slot) (H : Heap) (locs : List Loc), lv_has ls 4 [(0, .ref (ad 76)), (1, .int v1), (3, .int z)] → St D ad ca s w H locs → W p l e (RM 4 90) s m args below meth c H locs 0 0 (MQ below (Qi D ad ca rv.1 rv.2) args s 0 0 (Aad ad)) (F0 m 22 ls [])) (XW := fun (o : (Int32) ⊕ (Int32 × Wd)) => (∀ x, o = .inl x → ∀ (ls : Array Slot) (H : Heap) (locs : List Loc), lv_has ls 4 [] → St D ad ca s w H locs → W p l e (RM 4 90) s m args below meth c H locs 0 0 (MQ below (Qi D ad ca rv.1 rv.2) args s 0 0 (Aad ad)) (F0 m 49 ls [])) ∧ ∀ y, o = .inr y → y = rv) ?_
  intro z x h hN hX ls H locs hl S
  unfold f_X11_areEven_L22 at h
  refine lv_iload_n C.1 C.2.1 dX11_areEven_22 rfl (lv_at hl 2 rfl) ?_
  refine lv_aload_n C.1 C.2.1 dX11_areEven_23 rfl (lv_at hl 0 rfl) ?_
  refine r_getr C S o_76 cf_11 0 rfl (by decide) b_fl_RX11_9 dX11_areEven_24 ?_
  refine lv_iconst (v := 4) C.1 C.2.1 dX11_areEven_27 (by decide) ?_
  refine r_ialdn (j := 4) C S a_77 (by decide) (by decide) dX11_areEven_28 ?_
  refine lv_icmp_ge (tgt := 49) C.1 C.2.1 dX11_areEven_29 (by decide) (fun q7 => ?_) (fun q7 => ?_)
  · replace h := (if_pos q7).symm.trans h
    exact (hX _ (Option.some.inj h).symm).1 _ rfl _ _ _ (lv_sub hl [] rfl) S
  · replace h := (if_neg q7).symm.trans h
    refine lv_aload_n C.1 C.2.1 dX11_areEven_32 rfl (lv_at hl 0 rfl) ?_
    refine lv_iload_n C.1 C.2.1 dX11_areEven_33 rfl (lv_at hl 2 rfl) ?_
    refine lv_iload_n C.1 C.2.1 dX11_areEven_34 rfl (lv_at hl 1 rfl) ?_
    obtain ⟨o8, e9, h⟩ := Option.bind_eq_some_iff.mp h
    refine r_vi C S hl o_76 cf_11 (k_X11_isEven e9) b_vb_RX11_239 [.int z, .int v1] rfl [] rfl rfl (Nat.le_of_ble_eq_true rfl) ⟨Nat.le_of_ble_eq_true rfl, Nat.le_of_ble_eq_true rfl⟩ dX11_areEven_35 (fun H locs S => ?_)
    refine lv_if_ne (tgt := 43) C.1 C.2.1 dX11_areEven_38 (by decide) (fun q10 => ?_) (fun q10 => ?_)
    · replace h := (if_neg q10).symm.trans h
      refine lv_iinc (v := z + 1) (lv' := [(3, .int (z + 1)), (0, .ref (ad 76)), (1, .int v1)]) C.1 C.2.1 dX11_areEven_43 hl (k := 2) rfl rfl (by decide) rfl (fun ls hl => ?_)
      refine lv_goto (tgt := 22) C.1 C.2.1 dX11_areEven_46 (by decide) ?_
      exact hN _ (Option.some.inj h).symm _ _ _ (lv_sub hl [1, 2, 0] rfl) S
    · replace h := (if_pos q10).symm.trans h
      refine lv_iconst (v := 0) C.1 C.2.1 dX11_areEven_41 (by decide) ?_
      have h9 := (hX _ (Option.some.inj h).symm).2 _ rfl
      subst h9
      exact r_zret C S hr hlocks (Or.inl rfl) dX11_areEven_42
set_option maxHeartbeats 4000000 in
set_option maxRecDepth 100000 in
theorem k_X11_areEven {v1 : Int32} {v2 : Int32}  {w : Wd} {rv : Int32 × Wd} (h : f_X11_areEven v1 v2 w = some rv) : CI yX11_areEven cX11_areEven 4 .boolean 4 90 (fun ad => [.ref (ad 76), .int v1, .int v2]) w rv.1 rv.2 := by
  refine CI.of (by decide) ?_
  intro l D ad sx ca p e s m below meth c C S hr hlocks
  have hl := lv_entry ([.ref (ad 76), .int v1, .int v2]) (n := 4) (Nat.le_of_ble_eq_true rfl)
  rw [lg_entry_eq]
  generalize (lg_sl ([.ref (ad 76), .int v1, .int v2]) ++ List.replicate (4 - (lg_sl ([.ref (ad 76), .int v1, .int v2])).length) Slot.unset).toArray = ls at hl ⊢
  have hl : lv_has ls 4 [(0, .ref (ad 76)), (1, .int v1), (2, .int v2)] := hl
  generalize ha9 : ([.ref (ad 76), .int v1, .int v2] : List Value).toArray = args at C ⊢
  generalize s.heap = H at S ⊢
  generalize ([] : List Loc) = locs at S ⊢
  unfold f_X11_areEven at h
  refine lv_aload_n C.1 C.2.1 dX11_areEven_0 rfl (lv_at hl 0 rfl) ?_
  obtain ⟨o1, e2, h⟩ := Option.bind_eq_some_iff.mp h
  refine r_vv C S hl o_76 cf_11 (k_X11_startsWarm e2) b_vb_RX11_123 [] rfl [] rfl rfl (Nat.le_of_ble_eq_true rfl) ⟨Nat.le_of_ble_eq_true rfl, Nat.le_of_ble_eq_true rfl⟩ dX11_areEven_1 (fun H locs S => ?_)
  refine lv_aload_n C.1 C.2.1 dX11_areEven_4 rfl (lv_at hl 0 rfl) ?_
  obtain ⟨o3, e4, h⟩ := Option.bind_eq_some_iff.mp h
  refine r_vv C S hl o_76 cf_11 (k_X11_findFlows e4) b_vb_RX11_126 [] rfl [] rfl rfl (Nat.le_of_ble_eq_true rfl) ⟨Nat.le_of_ble_eq_true rfl, Nat.le_of_ble_eq_true rfl⟩ dX11_areEven_5 (fun H locs S => ?_)
  refine lv_aload_n C.1 C.2.1 dX11_areEven_8 rfl (lv_at hl 0 rfl) ?_
  refine lv_aload_n C.1 C.2.1 dX11_areEven_9 rfl (lv_at hl 0 rfl) ?_
  refine r_getr C S o_76 cf_11 0 rfl (by decide) b_fl_RX11_9 dX11_areEven_10 ?_
  refine lv_iconst (v := 3) C.1 C.2.1 dX11_areEven_13 (by decide) ?_
  refine r_ialdn (j := 3) C S a_77 (by decide) (by decide) dX11_areEven_14 ?_
  refine lv_iload_n C.1 C.2.1 dX11_areEven_15 rfl (lv_at hl 2 rfl) ?_
  obtain ⟨o5, e6, h⟩ := Option.bind_eq_some_iff.mp h
  refine r_vi C S hl o_76 cf_11 (k_X11_goesAll e6) b_vb_RX11_236 [.int (o3.1 77 3), .int v2] rfl [] rfl rfl (Nat.le_of_ble_eq_true rfl) ⟨Nat.le_of_ble_eq_true rfl, Nat.le_of_ble_eq_true rfl⟩ dX11_areEven_16 (fun H locs S => ?_)
  refine lv_pop C.1 C.2.1 dX11_areEven_19 rfl ?_
  refine lv_iconst (v := 0) C.1 C.2.1 dX11_areEven_20 (by decide) ?_
  refine lv_istore_n (lv' := [(3, .int 0), (0, .ref (ad 76)), (1, .int v1), (2, .int v2)]) C.1 C.2.1 dX11_areEven_21 rfl hl (by decide) rfl (fun ls hl => ?_)
  obtain ⟨o11, e12, h⟩ := Option.bind_eq_some_iff.mp h
  refine k_X11_areEven_L22 C hr hlocks  FU _ _ e12 ⟨fun x13 hx ls H locs hl S => ?_, fun y14 hy => ?_⟩ ls H locs (lv_sub hl [1, 2, 0] rfl) S
  · subst hx
    rw [sm_inl] at h
    refine lv_iconst (v := 1) C.1 C.2.1 dX11_areEven_49 (by decide) ?_
    have h9 := Option.some.inj h
    subst h9
    exact r_zret C S hr hlocks (Or.inr rfl) dX11_areEven_50
  · subst hy
    rw [sm_inr] at h
    exact Option.some.inj h
set_option maxHeartbeats 4000000 in
set_option maxRecDepth 100000 in
theorem k_X11_findOne_L15 {p : Program} {l : Launch} {e : Env} {s : State} {m : MethodId} {args : Array Value} {below : List Frame} {meth : Method} {c : Code} {D : va_G} {ad sx : Nat → Nat} {ca : Nat → ClassId} (C : Cx D ad sx ca p s m c args RX11 cX11_findOne 5) (hr : meth.sig.returnType = (some .boolean)) (hlocks : meth.locks = false) {rv : Int32 × Wd} {v1 : Int32} {v2 : Int32} {v3 : Int32}  : ∀ (n9 : Nat) (z : Int32 × Wd) (o : (Int32 × Wd) ⊕ (Int32 × Wd)), lp (f_X11_findOne_L15 v1 v2 v3) n9 z = some o → ((∀ x, o = .inl x → ∀ (ls : Array Slot) (H : Heap) (locs : List Loc), lv_has ls 5 [(0, .ref (ad 76)), (1, .int v1), (2, .int v2), (3, .int v3)] → St D ad ca s x.2 H locs → W p l e (RM 5 113) s m args below meth c H locs 0 0 (MQ below (Qi D ad ca rv.1 rv.2) args s 0 0 (Aad ad)) (F0 m 83 ls [])) ∧ ∀ y, o = .inr y → y = rv) → (∀ (ls : Array Slot) (H : Heap) (locs : List Loc), lv_has ls 5 [(0, .ref (ad 76)), (1, .int v1), (2, .int v2), (3, .int v3), (4, .int z.1)] → St D ad ca s z.2 H locs → W p l e (RM 5 113) s m args below meth c H locs 0 0 (MQ below (Qi D ad ca rv.1 rv.2) args s 0 0 (Aad ad)) (F0 m 15 ls [])) := by
  refine lp_W (HW := fun (z : Int32 × Wd) => ∀ (ls : Array Slot) (H : Heap) (locs : List Loc), lv_has ls 5 [(0, .ref (ad 76)), (1, .int v1), (2, .int v2), (3, .int v3), (4, .int z.1)] → St D ad ca s z.2 H locs → W p l e (RM 5 113) s m args below meth c H locs 0 0 (MQ below (Qi D ad ca rv.1 rv.2) args s 0 0 (Aad ad)) (F0 m 15 ls [])) (XW := fun (o : (Int32 × Wd) ⊕ (Int32 × Wd)) => (∀ x, o = .inl x → ∀ (ls : Array Slot) (H : Heap) (locs : List Loc), lv_has ls 5 [(0, .ref (ad 76)), (1, .int v1), (2, .int v2), (3, .int v3)] → St D ad ca s x.2 H locs → W p l e (RM 5 113) s m args below meth c H locs 0 0 (MQ below (Qi D ad ca rv.1 rv.2) args s 0 0 (Aad ad)) (F0 m 83 ls [])) ∧ ∀ y, o = .inr y → y = rv) ?_
  intro z x h hN hX ls H locs hl S
  unfold f_X11_findOne_L15 at h
  refine lv_iload C.1 C.2.1 dX11_findOne_15 (lv_at hl 4 rfl) ?_
  refine lv_bipush (v := 9) C.1 C.2.1 dX11_findOne_17 (by decide) ?_
  refine lv_icmp_ge (tgt := 83) C.1 C.2.1 dX11_findOne_19 (by decide) (fun q2 => ?_) (fun q2 => ?_)
  · replace h := (if_pos q2).symm.trans h
    exact (hX _ (Option.some.inj h).symm).1 _ rfl _ _ _ (lv_sub hl [0, 1, 2, 3] rfl) S
  · replace h := (if_neg q2).symm.trans h
    refine lv_aload_n C.1 C.2.1 dX11_findOne_22 rfl (lv_at hl 0 rfl) ?_
    refine lv_iload_n C.1 C.2.1 dX11_findOne_23 rfl (lv_at hl 3 rfl) ?_
    refine lv_iconst (v := 4) C.1 C.2.1 dX11_findOne_24 (by decide) ?_
    obtain ⟨o3, e4, h⟩ := Option.bind_eq_some_iff.mp h
    refine r_vi C S hl o_76 cf_11 (k_X11_get e4) b_vb_RX11_101 [.int v3, .int 4] rfl [] rfl rfl (Nat.le_of_ble_eq_true rfl) ⟨Nat.le_of_ble_eq_true rfl, Nat.le_of_ble_eq_true rfl⟩ dX11_findOne_25 (fun H locs S => ?_)
    refine lv_if_ne (tgt := 83) C.1 C.2.1 dX11_findOne_28 (by decide) (fun q5 => ?_) (fun q5 => ?_)
    · replace h := (if_neg q5).symm.trans h
      exact (hX _ (Option.some.inj h).symm).1 _ rfl _ _ _ (lv_sub hl [0, 1, 2, 3] rfl) S
    · replace h := (if_pos q5).symm.trans h
      refine lv_aload_n C.1 C.2.1 dX11_findOne_31 rfl (lv_at hl 0 rfl) ?_
      refine r_getr C S o_76 cf_11 10 rfl (by decide) b_fl_RX11_34 dX11_findOne_32 ?_
      refine lv_iload_n C.1 C.2.1 dX11_findOne_35 rfl (lv_at hl 3 rfl) ?_
      refine lv_iload C.1 C.2.1 dX11_findOne_36 (lv_at hl 4 rfl) ?_
      obtain ⟨g6, h⟩ := gd_some h
      refine r_iast C S a_85 g6 dX11_findOne_38 (fun H locs S => ?_)
      obtain ⟨w7, h, S⟩ := lw_S (P := fun y => St D ad ca s y H locs) h S
      refine lv_iload C.1 C.2.1 dX11_findOne_39 (lv_at hl 4 rfl) ?_
      refine lv_aload_n C.1 C.2.1 dX11_findOne_41 rfl (lv_at hl 0 rfl) ?_
      refine lv_iload_n C.1 C.2.1 dX11_findOne_42 rfl (lv_at hl 3 rfl) ?_
      refine lv_iconst (v := 3) C.1 C.2.1 dX11_findOne_43 (by decide) ?_
      obtain ⟨o8, e9, h⟩ := Option.bind_eq_some_iff.mp h
      refine r_vi C S hl o_76 cf_11 (k_X11_get e9) b_vb_RX11_101 [.int v3, .int 3] rfl [.int z.1] rfl rfl (Nat.le_of_ble_eq_true rfl) ⟨Nat.le_of_ble_eq_true rfl, Nat.le_of_ble_eq_true rfl⟩ dX11_findOne_44 (fun H locs S => ?_)
      refine lv_icmp_eq (tgt := 77) C.1 C.2.1 dX11_findOne_47 (by decide) (fun q10 => ?_) (fun q10 => ?_)
      · replace h := (if_pos q10).symm.trans h
        refine lv_iinc (v := z.1 + 1) (lv' := [(4, .int (z.1 + 1)), (0, .ref (ad 76)), (1, .int v1), (2, .int v2), (3, .int v3)]) C.1 C.2.1 dX11_findOne_77 hl (k := 4) rfl rfl (by decide) rfl (fun ls hl => ?_)
        refine lv_goto (tgt := 15) C.1 C.2.1 dX11_findOne_80 (by decide) ?_
        exact hN _ (Option.some.inj h).symm _ _ _ (lv_sub hl [1, 2, 3, 4, 0] rfl) S
      · replace h := (if_neg q10).symm.trans h
        refine lv_aload_n C.1 C.2.1 dX11_findOne_50 rfl (lv_at hl 0 rfl) ?_
        refine lv_iload_n C.1 C.2.1 dX11_findOne_51 rfl (lv_at hl 1 rfl) ?_
        refine lv_iload_n C.1 C.2.1 dX11_findOne_52 rfl (lv_at hl 2 rfl) ?_
        obtain ⟨o11, e12, h⟩ := Option.bind_eq_some_iff.mp h
        refine r_vi C S hl o_76 cf_11 (k_X11_areEven e12) b_vb_RX11_242 [.int v1, .int v2] rfl [] rfl rfl (Nat.le_of_ble_eq_true rfl) ⟨Nat.le_of_ble_eq_true rfl, Nat.le_of_ble_eq_true rfl⟩ dX11_findOne_53 (fun H locs S => ?_)
        refine lv_if_eq (tgt := 77) C.1 C.2.1 dX11_findOne_56 (by decide) (fun q13 => ?_) (fun q13 => ?_)
        · replace h := (if_pos q13).symm.trans h
          refine lv_iinc (v := z.1 + 1) (lv' := [(4, .int (z.1 + 1)), (0, .ref (ad 76)), (1, .int v1), (2, .int v2), (3, .int v3)]) C.1 C.2.1 dX11_findOne_77 hl (k := 4) rfl rfl (by decide) rfl (fun ls hl => ?_)
          refine lv_goto (tgt := 15) C.1 C.2.1 dX11_findOne_80 (by decide) ?_
          exact hN _ (Option.some.inj h).symm _ _ _ (lv_sub hl [1, 2, 3, 4, 0] rfl) S
        · replace h := (if_neg q13).symm.trans h
          refine lv_aload_n C.1 C.2.1 dX11_findOne_59 rfl (lv_at hl 0 rfl) ?_
          refine lv_iconst (v := 1) C.1 C.2.1 dX11_findOne_60 (by decide) ?_
          refine r_put C S o_76 cf_11 33 rfl (by decide) rfl (ni _) b_fl_RX11_245 dX11_findOne_61 (fun H locs S => ?_)
          obtain ⟨w14, h, S⟩ := lw_S (P := fun y => St D ad ca s y H locs) h S
          refine lv_aload_n C.1 C.2.1 dX11_findOne_64 rfl (lv_at hl 0 rfl) ?_
          refine lv_iload_n C.1 C.2.1 dX11_findOne_65 rfl (lv_at hl 3 rfl) ?_
          refine r_put C S o_76 cf_11 34 rfl (by decide) rfl (ni _) b_fl_RX11_248 dX11_findOne_66 (fun H locs S => ?_)
          obtain ⟨w15, h, S⟩ := lw_S (P := fun y => St D ad ca s y H locs) h S
          refine lv_aload_n C.1 C.2.1 dX11_findOne_69 rfl (lv_at hl 0 rfl) ?_
          refine lv_iload C.1 C.2.1 dX11_findOne_70 (lv_at hl 4 rfl) ?_
          refine r_put C S o_76 cf_11 36 rfl (by decide) rfl (ni _) b_fl_RX11_251 dX11_findOne_72 (fun H locs S => ?_)
          obtain ⟨w16, h, S⟩ := lw_S (P := fun y => St D ad ca s y H locs) h S
          refine lv_iconst (v := 1) C.1 C.2.1 dX11_findOne_75 (by decide) ?_
          have h9 := (hX _ (Option.some.inj h).symm).2 _ rfl
          subst h9
          exact r_zret C S hr hlocks (Or.inr rfl) dX11_findOne_76
set_option maxHeartbeats 4000000 in
set_option maxRecDepth 100000 in
theorem k_X11_findOne_J83 {p : Program} {l : Launch} {e : Env} {s : State} {m : MethodId} {args : Array Value} {below : List Frame} {meth : Method} {c : Code} {D : va_G} {ad sx : Nat → Nat} {ca : Nat → ClassId} (C : Cx D ad sx ca p s m c args RX11 cX11_findOne 5) (hr : meth.sig.returnType = (some .boolean)) (hlocks : meth.locks = false) {rv : Int32 × Wd} {w : Wd} {v1 : Int32} {v2 : Int32} {v3 : Int32}  {x : (Int32 × Wd) ⊕ ((Int32 × Wd) ⊕ (Int32 × Wd))} (h : f_X11_findOne_J83 v1 v2 v3 w = some x) (hN : ∀ z, x = .inl z → ∀ (ls : Array Slot) (H : Heap) (locs : List Loc), lv_has ls 5 [(0, .ref (ad 76)), (1, .int v1), (2, .int v2), (3, .int z.1)] → St D ad ca s z.2 H locs → W p l e (RM 5 113) s m args below meth c H locs 0 0 (MQ below (Qi D ad ca rv.1 rv.2) args s 0 0 (Aad ad)) (F0 m 2 ls [])) (hX : ∀ o, x = .inr o → (∀ x, o = .inl x → ∀ (ls : Array Slot) (H : Heap) (locs : List Loc), lv_has ls 5 [] → St D ad ca s x.2 H locs → W p l e (RM 5 113) s m args below meth c H locs 0 0 (MQ below (Qi D ad ca rv.1 rv.2) args s 0 0 (Aad ad)) (F0 m 101 ls [])) ∧ ∀ y, o = .inr y → y = rv) {ls : Array Slot} {H : Heap} {locs : List Loc} (hl : lv_has ls 5 [(0, .ref (ad 76)), (1, .int v1), (2, .int v2), (3, .int v3)]) (S : St D ad ca s w H locs) : W p l e (RM 5 113) s m args below meth c H locs 0 0 (MQ below (Qi D ad ca rv.1 rv.2) args s 0 0 (Aad ad)) (F0 m 83 ls []) := by
  unfold f_X11_findOne_J83 at h
  refine lv_aload_n C.1 C.2.1 dX11_findOne_83 rfl (lv_at hl 0 rfl) ?_
  refine r_getr C S o_76 cf_11 10 rfl (by decide) b_fl_RX11_34 dX11_findOne_84 ?_
  refine lv_iload_n C.1 C.2.1 dX11_findOne_87 rfl (lv_at hl 3 rfl) ?_
  refine lv_aload_n C.1 C.2.1 dX11_findOne_88 rfl (lv_at hl 0 rfl) ?_
  refine lv_iload_n C.1 C.2.1 dX11_findOne_89 rfl (lv_at hl 3 rfl) ?_
  refine lv_iconst (v := 3) C.1 C.2.1 dX11_findOne_90 (by decide) ?_
  obtain ⟨o21, e22, h⟩ := Option.bind_eq_some_iff.mp h
  refine r_vi C S hl o_76 cf_11 (k_X11_get e22) b_vb_RX11_101 [.int v3, .int 3] rfl [.int v3, .ref (ad 85)] rfl rfl (Nat.le_of_ble_eq_true rfl) ⟨Nat.le_of_ble_eq_true rfl, Nat.le_of_ble_eq_true rfl⟩ dX11_findOne_91 (fun H locs S => ?_)
  obtain ⟨g23, h⟩ := gd_some h
  refine r_iast C S a_85 g23 dX11_findOne_94 (fun H locs S => ?_)
  obtain ⟨w24, h, S⟩ := lw_S (P := fun y => St D ad ca s y H locs) h S
  refine lv_iinc (v := v3 + 1) (lv' := [(3, .int (v3 + 1)), (0, .ref (ad 76)), (1, .int v1), (2, .int v2)]) C.1 C.2.1 dX11_findOne_95 hl (k := 3) rfl rfl (by decide) rfl (fun ls hl => ?_)
  refine lv_goto (tgt := 2) C.1 C.2.1 dX11_findOne_98 (by decide) ?_
  exact hN _ (Option.some.inj h).symm _ _ _ (lv_sub hl [1, 2, 3, 0] rfl) S
set_option maxHeartbeats 4000000 in
set_option maxRecDepth 100000 in
theorem k_X11_findOne_L2 {p : Program} {l : Launch} {e : Env} {s : State} {m : MethodId} {args : Array Value} {below : List Frame} {meth : Method} {c : Code} {D : va_G} {ad sx : Nat → Nat} {ca : Nat → ClassId} (C : Cx D ad sx ca p s m c args RX11 cX11_findOne 5) (hr : meth.sig.returnType = (some .boolean)) (hlocks : meth.locks = false) {rv : Int32 × Wd} {v1 : Int32} {v2 : Int32}  : ∀ (n9 : Nat) (z : Int32 × Wd) (o : (Int32 × Wd) ⊕ (Int32 × Wd)), lp (f_X11_findOne_L2 v1 v2) n9 z = some o → ((∀ x, o = .inl x → ∀ (ls : Array Slot) (H : Heap) (locs : List Loc), lv_has ls 5 [] → St D ad ca s x.2 H locs → W p l e (RM 5 113) s m args below meth c H locs 0 0 (MQ below (Qi D ad ca rv.1 rv.2) args s 0 0 (Aad ad)) (F0 m 101 ls [])) ∧ ∀ y, o = .inr y → y = rv) → (∀ (ls : Array Slot) (H : Heap) (locs : List Loc), lv_has ls 5 [(0, .ref (ad 76)), (1, .int v1), (2, .int v2), (3, .int z.1)] → St D ad ca s z.2 H locs → W p l e (RM 5 113) s m args below meth c H locs 0 0 (MQ below (Qi D ad ca rv.1 rv.2) args s 0 0 (Aad ad)) (F0 m 2 ls [])) := by
  refine lp_W (HW := fun (z : Int32 × Wd) => ∀ (ls : Array Slot) (H : Heap) (locs : List Loc), lv_has ls 5 [(0, .ref (ad 76)), (1, .int v1), (2, .int v2), (3, .int z.1)] → St D ad ca s z.2 H locs → W p l e (RM 5 113) s m args below meth c H locs 0 0 (MQ below (Qi D ad ca rv.1 rv.2) args s 0 0 (Aad ad)) (F0 m 2 ls [])) (XW := fun (o : (Int32 × Wd) ⊕ (Int32 × Wd)) => (∀ x, o = .inl x → ∀ (ls : Array Slot) (H : Heap) (locs : List Loc), lv_has ls 5 [] → St D ad ca s x.2 H locs → W p l e (RM 5 113) s m args below meth c H locs 0 0 (MQ below (Qi D ad ca rv.1 rv.2) args s 0 0 (Aad ad)) (F0 m 101 ls [])) ∧ ∀ y, o = .inr y → y = rv) ?_
  intro z x h hN hX ls H locs hl S
  unfold f_X11_findOne_L2 at h
  refine lv_iload_n C.1 C.2.1 dX11_findOne_2 rfl (lv_at hl 3 rfl) ?_
  refine lv_aload_n C.1 C.2.1 dX11_findOne_3 rfl (lv_at hl 0 rfl) ?_
  refine r_getr C S o_76 cf_11 0 rfl (by decide) b_fl_RX11_9 dX11_findOne_4 ?_
  refine lv_iconst (v := 4) C.1 C.2.1 dX11_findOne_7 (by decide) ?_
  refine r_ialdn (j := 4) C S a_77 (by decide) (by decide) dX11_findOne_8 ?_
  refine lv_icmp_ge (tgt := 101) C.1 C.2.1 dX11_findOne_9 (by decide) (fun q1 => ?_) (fun q1 => ?_)
  · replace h := (if_pos q1).symm.trans h
    exact (hX _ (Option.some.inj h).symm).1 _ rfl _ _ _ (lv_sub hl [] rfl) S
  · replace h := (if_neg q1).symm.trans h
    refine lv_iconst (v := 0) C.1 C.2.1 dX11_findOne_12 (by decide) ?_
    refine lv_istore (lv' := [(4, .int 0), (0, .ref (ad 76)), (1, .int v1), (2, .int v2), (3, .int z.1)]) C.1 C.2.1 dX11_findOne_13 hl (by decide) rfl (fun ls hl => ?_)
    obtain ⟨o17, e18, h⟩ := Option.bind_eq_some_iff.mp h
    refine k_X11_findOne_L15 C hr hlocks  FU _ _ e18 ⟨fun x19 hx ls H locs hl S => ?_, fun y20 hy => ?_⟩ ls H locs (lv_sub hl [1, 2, 3, 4, 0] rfl) S
    · subst hx
      rw [sm_inl] at h
      exact k_X11_findOne_J83 C hr hlocks  h hN hX (lv_sub hl [0, 1, 2, 3] rfl) S
    · subst hy
      rw [sm_inr] at h
      exact (hX _ (Option.some.inj h).symm).2 _ rfl
set_option maxHeartbeats 4000000 in
set_option maxRecDepth 100000 in
theorem k_X11_findOne {v1 : Int32} {v2 : Int32}  {w : Wd} {rv : Int32 × Wd} (h : f_X11_findOne v1 v2 w = some rv) : CI yX11_findOne cX11_findOne 5 .boolean 5 113 (fun ad => [.ref (ad 76), .int v1, .int v2]) w rv.1 rv.2 := by
  refine CI.of (by decide) ?_
  intro l D ad sx ca p e s m below meth c C S hr hlocks
  have hl := lv_entry ([.ref (ad 76), .int v1, .int v2]) (n := 5) (Nat.le_of_ble_eq_true rfl)
  rw [lg_entry_eq]
  generalize (lg_sl ([.ref (ad 76), .int v1, .int v2]) ++ List.replicate (5 - (lg_sl ([.ref (ad 76), .int v1, .int v2])).length) Slot.unset).toArray = ls at hl ⊢
  have hl : lv_has ls 5 [(0, .ref (ad 76)), (1, .int v1), (2, .int v2)] := hl
  generalize ha9 : ([.ref (ad 76), .int v1, .int v2] : List Value).toArray = args at C ⊢
  generalize s.heap = H at S ⊢
  generalize ([] : List Loc) = locs at S ⊢
  unfold f_X11_findOne at h
  refine lv_iconst (v := 0) C.1 C.2.1 dX11_findOne_0 (by decide) ?_
  refine lv_istore_n (lv' := [(3, .int 0), (0, .ref (ad 76)), (1, .int v1), (2, .int v2)]) C.1 C.2.1 dX11_findOne_1 rfl hl (by decide) rfl (fun ls hl => ?_)
  obtain ⟨o25, e26, h⟩ := Option.bind_eq_some_iff.mp h
  refine k_X11_findOne_L2 C hr hlocks  FU _ _ e26 ⟨fun x27 hx ls H locs hl S => ?_, fun y28 hy => ?_⟩ ls H locs (lv_sub hl [1, 2, 3, 0] rfl) S
  · subst hx
    rw [sm_inl] at h
    refine lv_iconst (v := 0) C.1 C.2.1 dX11_findOne_101 (by decide) ?_
    have h9 := Option.some.inj h
    subst h9
    exact r_zret C S hr hlocks (Or.inl rfl) dX11_findOne_102
  · subst hy
    rw [sm_inr] at h
    exact Option.some.inj h
set_option maxHeartbeats 4000000 in
set_option maxRecDepth 100000 in
theorem k_X11_areTurned_L13 {p : Program} {l : Launch} {e : Env} {s : State} {m : MethodId} {args : Array Value} {below : List Frame} {meth : Method} {c : Code} {D : va_G} {ad sx : Nat → Nat} {ca : Nat → ClassId} (C : Cx D ad sx ca p s m c args RX11 cX11_areTurned 7) (hr : meth.sig.returnType = (some .boolean)) (hlocks : meth.locks = false) {rv : Int32 × Wd} {v1 : Int32} {v2 : Int32} {v3 : Int32} {v4 : Int32} {v5 : Int32}  : ∀ (n9 : Nat) (z : Int32 × Wd) (o : (Int32 × Wd) ⊕ (Int32 × Wd)), lp (f_X11_areTurned_L13 v1 v2 v3 v4 v5) n9 z = some o → ((∀ x, o = .inl x → ∀ (ls : Array Slot) (H : Heap) (locs : List Loc), lv_has ls 7 [(0, .ref (ad 76)), (1, .int v1), (2, .int v2), (3, .int v3), (4, .int v4), (5, .int v5)] → St D ad ca s x.2 H locs → W p l e (RM 5 113) s m args below meth c H locs 0 0 (MQ below (Qi D ad ca rv.1 rv.2) args s 0 0 (Aad ad)) (F0 m 103 ls [])) ∧ ∀ y, o = .inr y → y = rv) → (∀ (ls : Array Slot) (H : Heap) (locs : List Loc), lv_has ls 7 [(0, .ref (ad 76)), (1, .int v1), (2, .int v2), (3, .int v3), (4, .int v4), (5, .int v5), (6, .int z.1)] → St D ad ca s z.2 H locs → W p l e (RM 5 113) s m args below meth c H locs 0 0 (MQ below (Qi D ad ca rv.1 rv.2) args s 0 0 (Aad ad)) (F0 m 13 ls [])) := by
  refine lp_W (HW := fun (z : Int32 × Wd) => ∀ (ls : Array Slot) (H : Heap) (locs : List Loc), lv_has ls 7 [(0, .ref (ad 76)), (1, .int v1), (2, .int v2), (3, .int v3), (4, .int v4), (5, .int v5), (6, .int z.1)] → St D ad ca s z.2 H locs → W p l e (RM 5 113) s m args below meth c H locs 0 0 (MQ below (Qi D ad ca rv.1 rv.2) args s 0 0 (Aad ad)) (F0 m 13 ls [])) (XW := fun (o : (Int32 × Wd) ⊕ (Int32 × Wd)) => (∀ x, o = .inl x → ∀ (ls : Array Slot) (H : Heap) (locs : List Loc), lv_has ls 7 [(0, .ref (ad 76)), (1, .int v1), (2, .int v2), (3, .int v3), (4, .int v4), (5, .int v5)] → St D ad ca s x.2 H locs → W p l e (RM 5 113) s m args below meth c H locs 0 0 (MQ below (Qi D ad ca rv.1 rv.2) args s 0 0 (Aad ad)) (F0 m 103 ls [])) ∧ ∀ y, o = .inr y → y = rv) ?_
  intro z x h hN hX ls H locs hl S
  unfold f_X11_areTurned_L13 at h
  refine lv_iload C.1 C.2.1 dX11_areTurned_13 (lv_at hl 6 rfl) ?_
  refine lv_bipush (v := 9) C.1 C.2.1 dX11_areTurned_15 (by decide) ?_
  refine lv_icmp_ge (tgt := 103) C.1 C.2.1 dX11_areTurned_17 (by decide) (fun q2 => ?_) (fun q2 => ?_)
  · replace h := (if_pos q2).symm.trans h
    exact (hX _ (Option.some.inj h).symm).1 _ rfl _ _ _ (lv_sub hl [0, 1, 2, 3, 4, 5] rfl) S
  · replace h := (if_neg q2).symm.trans h
    refine lv_aload_n C.1 C.2.1 dX11_areTurned_20 rfl (lv_at hl 0 rfl) ?_
    refine r_getr C S o_76 cf_11 10 rfl (by decide) b_fl_RX11_34 dX11_areTurned_21 ?_
    refine lv_iload_n C.1 C.2.1 dX11_areTurned_24 rfl (lv_at hl 1 rfl) ?_
    refine lv_iload C.1 C.2.1 dX11_areTurned_25 (lv_at hl 5 rfl) ?_
    obtain ⟨g3, h⟩ := gd_some h
    refine r_iast C S a_85 g3 dX11_areTurned_27 (fun H locs S => ?_)
    obtain ⟨w4, h, S⟩ := lw_S (P := fun y => St D ad ca s y H locs) h S
    refine lv_aload_n C.1 C.2.1 dX11_areTurned_28 rfl (lv_at hl 0 rfl) ?_
    refine r_getr C S o_76 cf_11 10 rfl (by decide) b_fl_RX11_34 dX11_areTurned_29 ?_
    refine lv_iload_n C.1 C.2.1 dX11_areTurned_32 rfl (lv_at hl 2 rfl) ?_
    refine lv_iload C.1 C.2.1 dX11_areTurned_33 (lv_at hl 6 rfl) ?_
    obtain ⟨g5, h⟩ := gd_some h
    refine r_iast C S a_85 g5 dX11_areTurned_35 (fun H locs S => ?_)
    obtain ⟨w6, h, S⟩ := lw_S (P := fun y => St D ad ca s y H locs) h S
    refine lv_iload C.1 C.2.1 dX11_areTurned_36 (lv_at hl 5 rfl) ?_
    refine lv_aload_n C.1 C.2.1 dX11_areTurned_38 rfl (lv_at hl 0 rfl) ?_
    refine lv_iload_n C.1 C.2.1 dX11_areTurned_39 rfl (lv_at hl 1 rfl) ?_
    refine lv_iconst (v := 3) C.1 C.2.1 dX11_areTurned_40 (by decide) ?_
    obtain ⟨o7, e8, h⟩ := Option.bind_eq_some_iff.mp h
    refine r_vi C S hl o_76 cf_11 (k_X11_get e8) b_vb_RX11_101 [.int v1, .int 3] rfl [.int v5] rfl rfl (Nat.le_of_ble_eq_true rfl) ⟨Nat.le_of_ble_eq_true rfl, Nat.le_of_ble_eq_true rfl⟩ dX11_areTurned_41 (fun H locs S => ?_)
    refine lv_icmp_eq (tgt := 97) C.1 C.2.1 dX11_areTurned_44 (by decide) (fun q9 => ?_) (fun q9 => ?_)
    · replace h := (if_pos q9).symm.trans h
      refine lv_iinc (v := z.1 + 1) (lv' := [(6, .int (z.1 + 1)), (0, .ref (ad 76)), (1, .int v1), (2, .int v2), (3, .int v3), (4, .int v4), (5, .int v5)]) C.1 C.2.1 dX11_areTurned_97 hl (k := 6) rfl rfl (by decide) rfl (fun ls hl => ?_)
      refine lv_goto (tgt := 13) C.1 C.2.1 dX11_areTurned_100 (by decide) ?_
      exact hN _ (Option.some.inj h).symm _ _ _ (lv_sub hl [1, 2, 3, 4, 5, 6, 0] rfl) S
    · replace h := (if_neg q9).symm.trans h
      refine lv_iload C.1 C.2.1 dX11_areTurned_47 (lv_at hl 6 rfl) ?_
      refine lv_aload_n C.1 C.2.1 dX11_areTurned_49 rfl (lv_at hl 0 rfl) ?_
      refine lv_iload_n C.1 C.2.1 dX11_areTurned_50 rfl (lv_at hl 2 rfl) ?_
      refine lv_iconst (v := 3) C.1 C.2.1 dX11_areTurned_51 (by decide) ?_
      obtain ⟨o10, e11, h⟩ := Option.bind_eq_some_iff.mp h
      refine r_vi C S hl o_76 cf_11 (k_X11_get e11) b_vb_RX11_101 [.int v2, .int 3] rfl [.int z.1] rfl rfl (Nat.le_of_ble_eq_true rfl) ⟨Nat.le_of_ble_eq_true rfl, Nat.le_of_ble_eq_true rfl⟩ dX11_areTurned_52 (fun H locs S => ?_)
      refine lv_icmp_eq (tgt := 97) C.1 C.2.1 dX11_areTurned_55 (by decide) (fun q12 => ?_) (fun q12 => ?_)
      · replace h := (if_pos q12).symm.trans h
        refine lv_iinc (v := z.1 + 1) (lv' := [(6, .int (z.1 + 1)), (0, .ref (ad 76)), (1, .int v1), (2, .int v2), (3, .int v3), (4, .int v4), (5, .int v5)]) C.1 C.2.1 dX11_areTurned_97 hl (k := 6) rfl rfl (by decide) rfl (fun ls hl => ?_)
        refine lv_goto (tgt := 13) C.1 C.2.1 dX11_areTurned_100 (by decide) ?_
        exact hN _ (Option.some.inj h).symm _ _ _ (lv_sub hl [1, 2, 3, 4, 5, 6, 0] rfl) S
      · replace h := (if_neg q12).symm.trans h
        refine lv_aload_n C.1 C.2.1 dX11_areTurned_58 rfl (lv_at hl 0 rfl) ?_
        refine lv_iload_n C.1 C.2.1 dX11_areTurned_59 rfl (lv_at hl 3 rfl) ?_
        refine lv_iload C.1 C.2.1 dX11_areTurned_60 (lv_at hl 4 rfl) ?_
        obtain ⟨o13, e14, h⟩ := Option.bind_eq_some_iff.mp h
        refine r_vi C S hl o_76 cf_11 (k_X11_areEven e14) b_vb_RX11_242 [.int v3, .int v4] rfl [] rfl rfl (Nat.le_of_ble_eq_true rfl) ⟨Nat.le_of_ble_eq_true rfl, Nat.le_of_ble_eq_true rfl⟩ dX11_areTurned_62 (fun H locs S => ?_)
        refine lv_if_eq (tgt := 97) C.1 C.2.1 dX11_areTurned_65 (by decide) (fun q15 => ?_) (fun q15 => ?_)
        · replace h := (if_pos q15).symm.trans h
          refine lv_iinc (v := z.1 + 1) (lv' := [(6, .int (z.1 + 1)), (0, .ref (ad 76)), (1, .int v1), (2, .int v2), (3, .int v3), (4, .int v4), (5, .int v5)]) C.1 C.2.1 dX11_areTurned_97 hl (k := 6) rfl rfl (by decide) rfl (fun ls hl => ?_)
          refine lv_goto (tgt := 13) C.1 C.2.1 dX11_areTurned_100 (by decide) ?_
          exact hN _ (Option.some.inj h).symm _ _ _ (lv_sub hl [1, 2, 3, 4, 5, 6, 0] rfl) S
        · replace h := (if_neg q15).symm.trans h
          refine lv_aload_n C.1 C.2.1 dX11_areTurned_68 rfl (lv_at hl 0 rfl) ?_
          refine lv_iconst (v := 2) C.1 C.2.1 dX11_areTurned_69 (by decide) ?_
          refine r_put C S o_76 cf_11 33 rfl (by decide) rfl (ni _) b_fl_RX11_245 dX11_areTurned_70 (fun H locs S => ?_)
          obtain ⟨w16, h, S⟩ := lw_S (P := fun y => St D ad ca s y H locs) h S
          refine lv_aload_n C.1 C.2.1 dX11_areTurned_73 rfl (lv_at hl 0 rfl) ?_
          refine lv_iload_n C.1 C.2.1 dX11_areTurned_74 rfl (lv_at hl 1 rfl) ?_
          refine r_put C S o_76 cf_11 34 rfl (by decide) rfl (ni _) b_fl_RX11_248 dX11_areTurned_75 (fun H locs S => ?_)
          obtain ⟨w17, h, S⟩ := lw_S (P := fun y => St D ad ca s y H locs) h S
          refine lv_aload_n C.1 C.2.1 dX11_areTurned_78 rfl (lv_at hl 0 rfl) ?_
          refine lv_iload_n C.1 C.2.1 dX11_areTurned_79 rfl (lv_at hl 2 rfl) ?_
          refine r_put C S o_76 cf_11 35 rfl (by decide) rfl (ni _) b_fl_RX11_254 dX11_areTurned_80 (fun H locs S => ?_)
          obtain ⟨w18, h, S⟩ := lw_S (P := fun y => St D ad ca s y H locs) h S
          refine lv_aload_n C.1 C.2.1 dX11_areTurned_83 rfl (lv_at hl 0 rfl) ?_
          refine lv_iload C.1 C.2.1 dX11_areTurned_84 (lv_at hl 5 rfl) ?_
          refine r_put C S o_76 cf_11 36 rfl (by decide) rfl (ni _) b_fl_RX11_251 dX11_areTurned_86 (fun H locs S => ?_)
          obtain ⟨w19, h, S⟩ := lw_S (P := fun y => St D ad ca s y H locs) h S
          refine lv_aload_n C.1 C.2.1 dX11_areTurned_89 rfl (lv_at hl 0 rfl) ?_
          refine lv_iload C.1 C.2.1 dX11_areTurned_90 (lv_at hl 6 rfl) ?_
          refine r_put C S o_76 cf_11 37 rfl (by decide) rfl (ni _) b_fl_RX11_257 dX11_areTurned_92 (fun H locs S => ?_)
          obtain ⟨w20, h, S⟩ := lw_S (P := fun y => St D ad ca s y H locs) h S
          refine lv_iconst (v := 1) C.1 C.2.1 dX11_areTurned_95 (by decide) ?_
          have h9 := (hX _ (Option.some.inj h).symm).2 _ rfl
          subst h9
          exact r_zret C S hr hlocks (Or.inr rfl) dX11_areTurned_96
set_option maxHeartbeats 4000000 in
set_option maxRecDepth 100000 in
theorem k_X11_areTurned_L3 {p : Program} {l : Launch} {e : Env} {s : State} {m : MethodId} {args : Array Value} {below : List Frame} {meth : Method} {c : Code} {D : va_G} {ad sx : Nat → Nat} {ca : Nat → ClassId} (C : Cx D ad sx ca p s m c args RX11 cX11_areTurned 7) (hr : meth.sig.returnType = (some .boolean)) (hlocks : meth.locks = false) {rv : Int32 × Wd} {v1 : Int32} {v2 : Int32} {v3 : Int32} {v4 : Int32}  : ∀ (n9 : Nat) (z : Int32 × Wd) (o : (Int32 × Wd) ⊕ (Int32 × Wd)), lp (f_X11_areTurned_L3 v1 v2 v3 v4) n9 z = some o → ((∀ x, o = .inl x → ∀ (ls : Array Slot) (H : Heap) (locs : List Loc), lv_has ls 7 [(0, .ref (ad 76)), (1, .int v1), (2, .int v2)] → St D ad ca s x.2 H locs → W p l e (RM 5 113) s m args below meth c H locs 0 0 (MQ below (Qi D ad ca rv.1 rv.2) args s 0 0 (Aad ad)) (F0 m 109 ls [])) ∧ ∀ y, o = .inr y → y = rv) → (∀ (ls : Array Slot) (H : Heap) (locs : List Loc), lv_has ls 7 [(0, .ref (ad 76)), (1, .int v1), (2, .int v2), (3, .int v3), (4, .int v4), (5, .int z.1)] → St D ad ca s z.2 H locs → W p l e (RM 5 113) s m args below meth c H locs 0 0 (MQ below (Qi D ad ca rv.1 rv.2) args s 0 0 (Aad ad)) (F0 m 3 ls [])) := by
  refine lp_W (HW := fun (z : Int32 × Wd) => ∀ (ls : Array Slot) (H : Heap) (locs : List Loc), lv_has ls 7 [(0, .ref (ad 76)), (1, .int v1), (2, .int v2), (3, .int v3), (4, .int v4), (5, .int z.1)] → St D ad ca s z.2 H locs → W p l e (RM 5 113) s m args below meth c H locs 0 0 (MQ below (Qi D ad ca rv.1 rv.2) args s 0 0 (Aad ad)) (F0 m 3 ls [])) (XW := fun (o : (Int32 × Wd) ⊕ (Int32 × Wd)) => (∀ x, o = .inl x → ∀ (ls : Array Slot) (H : Heap) (locs : List Loc), lv_has ls 7 [(0, .ref (ad 76)), (1, .int v1), (2, .int v2)] → St D ad ca s x.2 H locs → W p l e (RM 5 113) s m args below meth c H locs 0 0 (MQ below (Qi D ad ca rv.1 rv.2) args s 0 0 (Aad ad)) (F0 m 109 ls [])) ∧ ∀ y, o = .inr y → y = rv) ?_
  intro z x h hN hX ls H locs hl S
  unfold f_X11_areTurned_L3 at h
  refine lv_iload C.1 C.2.1 dX11_areTurned_3 (lv_at hl 5 rfl) ?_
  refine lv_bipush (v := 9) C.1 C.2.1 dX11_areTurned_5 (by decide) ?_
  refine lv_icmp_ge (tgt := 109) C.1 C.2.1 dX11_areTurned_7 (by decide) (fun q1 => ?_) (fun q1 => ?_)
  · replace h := (if_pos q1).symm.trans h
    exact (hX _ (Option.some.inj h).symm).1 _ rfl _ _ _ (lv_sub hl [0, 1, 2] rfl) S
  · replace h := (if_neg q1).symm.trans h
    refine lv_iconst (v := 0) C.1 C.2.1 dX11_areTurned_10 (by decide) ?_
    refine lv_istore (lv' := [(6, .int 0), (0, .ref (ad 76)), (1, .int v1), (2, .int v2), (3, .int v3), (4, .int v4), (5, .int z.1)]) C.1 C.2.1 dX11_areTurned_11 hl (by decide) rfl (fun ls hl => ?_)
    obtain ⟨o21, e22, h⟩ := Option.bind_eq_some_iff.mp h
    refine k_X11_areTurned_L13 C hr hlocks  FU _ _ e22 ⟨fun x23 hx ls H locs hl S => ?_, fun y24 hy => ?_⟩ ls H locs (lv_sub hl [1, 2, 3, 4, 5, 6, 0] rfl) S
    · subst hx
      rw [sm_inl] at h
      refine lv_iinc (v := z.1 + 1) (lv' := [(5, .int (z.1 + 1)), (0, .ref (ad 76)), (1, .int v1), (2, .int v2), (3, .int v3), (4, .int v4)]) C.1 C.2.1 dX11_areTurned_103 hl (k := 5) rfl rfl (by decide) rfl (fun ls hl => ?_)
      refine lv_goto (tgt := 3) C.1 C.2.1 dX11_areTurned_106 (by decide) ?_
      exact hN _ (Option.some.inj h).symm _ _ _ (lv_sub hl [1, 2, 3, 4, 5, 0] rfl) S
    · subst hy
      rw [sm_inr] at h
      exact (hX _ (Option.some.inj h).symm).2 _ rfl
set_option maxHeartbeats 4000000 in
set_option maxRecDepth 100000 in
theorem k_X11_areTurned {v1 : Int32} {v2 : Int32} {v3 : Int32} {v4 : Int32}  {w : Wd} {rv : Int32 × Wd} (h : f_X11_areTurned v1 v2 v3 v4 w = some rv) : CI yX11_areTurned cX11_areTurned 7 .boolean 5 113 (fun ad => [.ref (ad 76), .int v1, .int v2, .int v3, .int v4]) w rv.1 rv.2 := by
  refine CI.of (by decide) ?_
  intro l D ad sx ca p e s m below meth c C S hr hlocks
  have hl := lv_entry ([.ref (ad 76), .int v1, .int v2, .int v3, .int v4]) (n := 7) (Nat.le_of_ble_eq_true rfl)
  rw [lg_entry_eq]
  generalize (lg_sl ([.ref (ad 76), .int v1, .int v2, .int v3, .int v4]) ++ List.replicate (7 - (lg_sl ([.ref (ad 76), .int v1, .int v2, .int v3, .int v4])).length) Slot.unset).toArray = ls at hl ⊢
  have hl : lv_has ls 7 [(0, .ref (ad 76)), (1, .int v1), (2, .int v2), (3, .int v3), (4, .int v4)] := hl
  generalize ha9 : ([.ref (ad 76), .int v1, .int v2, .int v3, .int v4] : List Value).toArray = args at C ⊢
  generalize s.heap = H at S ⊢
  generalize ([] : List Loc) = locs at S ⊢
  unfold f_X11_areTurned at h
  refine lv_iconst (v := 0) C.1 C.2.1 dX11_areTurned_0 (by decide) ?_
  refine lv_istore (lv' := [(5, .int 0), (0, .ref (ad 76)), (1, .int v1), (2, .int v2), (3, .int v3), (4, .int v4)]) C.1 C.2.1 dX11_areTurned_1 hl (by decide) rfl (fun ls hl => ?_)
  obtain ⟨o25, e26, h⟩ := Option.bind_eq_some_iff.mp h
  refine k_X11_areTurned_L3 C hr hlocks  FU _ _ e26 ⟨fun x27 hx ls H locs hl S => ?_, fun y28 hy => ?_⟩ ls H locs (lv_sub hl [1, 2, 3, 4, 5, 0] rfl) S
  · subst hx
    rw [sm_inl] at h
    refine lv_aload_n C.1 C.2.1 dX11_areTurned_109 rfl (lv_at hl 0 rfl) ?_
    refine r_getr C S o_76 cf_11 10 rfl (by decide) b_fl_RX11_34 dX11_areTurned_110 ?_
    refine lv_iload_n C.1 C.2.1 dX11_areTurned_113 rfl (lv_at hl 1 rfl) ?_
    refine lv_aload_n C.1 C.2.1 dX11_areTurned_114 rfl (lv_at hl 0 rfl) ?_
    refine lv_iload_n C.1 C.2.1 dX11_areTurned_115 rfl (lv_at hl 1 rfl) ?_
    refine lv_iconst (v := 3) C.1 C.2.1 dX11_areTurned_116 (by decide) ?_
    obtain ⟨o29, e30, h⟩ := Option.bind_eq_some_iff.mp h
    refine r_vi C S hl o_76 cf_11 (k_X11_get e30) b_vb_RX11_101 [.int v1, .int 3] rfl [.int v1, .ref (ad 85)] rfl rfl (Nat.le_of_ble_eq_true rfl) ⟨Nat.le_of_ble_eq_true rfl, Nat.le_of_ble_eq_true rfl⟩ dX11_areTurned_117 (fun H locs S => ?_)
    obtain ⟨g31, h⟩ := gd_some h
    refine r_iast C S a_85 g31 dX11_areTurned_120 (fun H locs S => ?_)
    obtain ⟨w32, h, S⟩ := lw_S (P := fun y => St D ad ca s y H locs) h S
    refine lv_aload_n C.1 C.2.1 dX11_areTurned_121 rfl (lv_at hl 0 rfl) ?_
    refine r_getr C S o_76 cf_11 10 rfl (by decide) b_fl_RX11_34 dX11_areTurned_122 ?_
    refine lv_iload_n C.1 C.2.1 dX11_areTurned_125 rfl (lv_at hl 2 rfl) ?_
    refine lv_aload_n C.1 C.2.1 dX11_areTurned_126 rfl (lv_at hl 0 rfl) ?_
    refine lv_iload_n C.1 C.2.1 dX11_areTurned_127 rfl (lv_at hl 2 rfl) ?_
    refine lv_iconst (v := 3) C.1 C.2.1 dX11_areTurned_128 (by decide) ?_
    obtain ⟨o33, e34, h⟩ := Option.bind_eq_some_iff.mp h
    refine r_vi C S hl o_76 cf_11 (k_X11_get e34) b_vb_RX11_101 [.int v2, .int 3] rfl [.int v2, .ref (ad 85)] rfl rfl (Nat.le_of_ble_eq_true rfl) ⟨Nat.le_of_ble_eq_true rfl, Nat.le_of_ble_eq_true rfl⟩ dX11_areTurned_129 (fun H locs S => ?_)
    obtain ⟨g35, h⟩ := gd_some h
    refine r_iast C S a_85 g35 dX11_areTurned_132 (fun H locs S => ?_)
    obtain ⟨w36, h, S⟩ := lw_S (P := fun y => St D ad ca s y H locs) h S
    refine lv_iconst (v := 0) C.1 C.2.1 dX11_areTurned_133 (by decide) ?_
    have h9 := Option.some.inj h
    subst h9
    exact r_zret C S hr hlocks (Or.inl rfl) dX11_areTurned_134
  · subst hy
    rw [sm_inr] at h
    exact Option.some.inj h

set_option maxHeartbeats 4000000 in
set_option maxRecDepth 100000 in
theorem k_J1_indexOf_4cfef {v1 : Int32} {v2 : Int32} {v3 : Int32}  {w : Wd} {rv : Int32} (h : f_J1_indexOf_4cfef v1 v2 v3 w = some rv) : CI yJ1_indexOf_4cfef cJ1_indexOf_4cfef 4 .int 1 25 (fun ad => [.ref (ad 106), .int v1, .int v2, .int v3]) w rv w := by
  refine CI.of (by decide) ?_
  intro l D ad sx ca p e s m below meth c C S hr hlocks
  have hl := lv_entry ([.ref (ad 106), .int v1, .int v2, .int v3]) (n := 4) (Nat.le_of_ble_eq_true rfl)
  rw [lg_entry_eq]
  generalize (lg_sl ([.ref (ad 106), .int v1, .int v2, .int v3]) ++ List.replicate (4 - (lg_sl ([.ref (ad 106), .int v1, .int v2, .int v3])).length) Slot.unset).toArray = ls at hl ⊢
  have hl : lv_has ls 4 [(0, .ref (ad 106)), (1, .int v1), (2, .int v2), (3, .int v3)] := hl
  generalize ha9 : ([.ref (ad 106), .int v1, .int v2, .int v3] : List Value).toArray = args at C ⊢
  generalize s.heap = H at S ⊢
  generalize ([] : List Loc) = locs at S ⊢
  unfold f_J1_indexOf_4cfef at h
  refine lv_iload_n C.1 C.2.1 dJ1_indexOf_4cfef_0 rfl (lv_at hl 1 rfl) ?_
  obtain ⟨o1, e2, h⟩ := Option.bind_eq_some_iff.mp h
  refine r_si C S hl (k_J1_canEncode_9a6ad e2) b_sb_RJ1_88 [.int v1] rfl [] rfl rfl (Nat.le_of_ble_eq_true rfl) ⟨Nat.le_of_ble_eq_true rfl, Nat.le_of_ble_eq_true rfl⟩ dJ1_indexOf_4cfef_1 (fun H locs S => ?_)
  refine lv_if_ne (tgt := 9) C.1 C.2.1 dJ1_indexOf_4cfef_4 (by decide) (fun q3 => ?_) (fun q3 => ?_)
  · replace h := (if_neg q3).symm.trans h
    refine lv_iload_n C.1 C.2.1 dJ1_indexOf_4cfef_9 rfl (lv_at hl 2 rfl) ?_
    refine lv_iconst (v := 0) C.1 C.2.1 dJ1_indexOf_4cfef_10 (by decide) ?_
    refine r_mmax C hl b_ma_RJ1_92 dJ1_indexOf_4cfef_11 (by decide) (Nat.le_of_ble_eq_true rfl) ?_
    refine lv_istore_n (lv' := [(2, .int (if v2 < 0 then 0 else v2)), (0, .ref (ad 106)), (1, .int v1), (3, .int v3)]) C.1 C.2.1 dJ1_indexOf_4cfef_14 rfl hl (by decide) rfl (fun ls hl => ?_)
    refine lv_iload_n C.1 C.2.1 dJ1_indexOf_4cfef_15 rfl (lv_at hl 3 rfl) ?_
    refine lv_aload_n C.1 C.2.1 dJ1_indexOf_4cfef_16 rfl (lv_at hl 1 rfl) ?_
    refine r_blen C S dJ1_indexOf_4cfef_17 ?_
    refine r_mmin C hl b_ma_RJ1_38 dJ1_indexOf_4cfef_18 (by decide) (Nat.le_of_ble_eq_true rfl) ?_
    refine lv_istore_n (lv' := [(3, .int (if (8 : Int32) < v3 then (8 : Int32) else v3)), (2, .int (if v2 < 0 then 0 else v2)), (0, .ref (ad 106)), (1, .int v1)]) C.1 C.2.1 dJ1_indexOf_4cfef_21 rfl hl (by decide) rfl (fun ls hl => ?_)
    refine lv_iload_n C.1 C.2.1 dJ1_indexOf_4cfef_22 rfl (lv_at hl 1 rfl) ?_
    refine lv_iload_n C.1 C.2.1 dJ1_indexOf_4cfef_23 rfl (lv_at hl 0 rfl) ?_
    refine lv_icmp_lt (tgt := 29) C.1 C.2.1 dJ1_indexOf_4cfef_24 (by decide) (fun q4 => ?_) (fun q4 => ?_)
    · replace h := (if_pos q4).symm.trans h
      refine lv_aload_n C.1 C.2.1 dJ1_indexOf_4cfef_29 rfl (lv_at hl 2 rfl) ?_
      refine lv_iload_n C.1 C.2.1 dJ1_indexOf_4cfef_30 rfl (lv_at hl 3 rfl) ?_
      refine lv_iload_n C.1 C.2.1 dJ1_indexOf_4cfef_31 rfl (lv_at hl 1 rfl) ?_
      refine lv_iload_n C.1 C.2.1 dJ1_indexOf_4cfef_32 rfl (lv_at hl 0 rfl) ?_
      obtain ⟨o5, e6, h⟩ := Option.bind_eq_some_iff.mp h
      refine r_si C S hl (k_J1_indexOfChar_4cfef e6) b_sb_RJ1_95 [.ref (ad 106), .int v1, .int (if v2 < 0 then 0 else v2), .int (if (8 : Int32) < v3 then (8 : Int32) else v3)] rfl [] rfl rfl (Nat.le_of_ble_eq_true rfl) ⟨Nat.le_of_ble_eq_true rfl, Nat.le_of_ble_eq_true rfl⟩ dJ1_indexOf_4cfef_33 (fun H locs S => ?_)
      have h9 := Option.some.inj h
      subst h9
      exact r_iret C S hr hlocks dJ1_indexOf_4cfef_36
    · replace h := (if_neg q4).symm.trans h
      refine lv_iconst (v := (-1)) C.1 C.2.1 dJ1_indexOf_4cfef_27 (by decide) ?_
      have h9 := Option.some.inj h
      subst h9
      exact r_iret C S hr hlocks dJ1_indexOf_4cfef_28
  · replace h := (if_pos q3).symm.trans h
    refine lv_iconst (v := (-1)) C.1 C.2.1 dJ1_indexOf_4cfef_7 (by decide) ?_
    have h9 := Option.some.inj h
    subst h9
    exact r_iret C S hr hlocks dJ1_indexOf_4cfef_8
set_option maxHeartbeats 4000000 in
set_option maxRecDepth 100000 in
theorem k_J0_indexOf_7cf53 {v1 : Int32} {v2 : Int32}  {w : Wd} {rv : Int32} (h : f_J0_indexOf_7cf53 v1 v2 w = some rv) : CI yJ0_indexOf_7cf53 cJ0_indexOf_7cf53 3 .int 2 48 (fun ad => [.ref (ad 105), .int v1, .int v2]) w rv w := by
  refine CI.of (by decide) ?_
  intro l D ad sx ca p e s m below meth c C S hr hlocks
  have hl := lv_entry ([.ref (ad 105), .int v1, .int v2]) (n := 3) (Nat.le_of_ble_eq_true rfl)
  rw [lg_entry_eq]
  generalize (lg_sl ([.ref (ad 105), .int v1, .int v2]) ++ List.replicate (3 - (lg_sl ([.ref (ad 105), .int v1, .int v2])).length) Slot.unset).toArray = ls at hl ⊢
  have hl : lv_has ls 3 [(0, .ref (ad 105)), (1, .int v1), (2, .int v2)] := hl
  generalize ha9 : ([.ref (ad 105), .int v1, .int v2] : List Value).toArray = args at C ⊢
  generalize s.heap = H at S ⊢
  generalize ([] : List Loc) = locs at S ⊢
  unfold f_J0_indexOf_7cf53 at h
  refine lv_aload_n C.1 C.2.1 dJ0_indexOf_7cf53_0 rfl (lv_at hl 0 rfl) ?_
  obtain ⟨o1, e2, h⟩ := Option.bind_eq_some_iff.mp h
  refine r_vsi C S hl (k_J0_isLatin1_aae02 e2) b_vb_RJ0_492 [] rfl [] rfl rfl (Nat.le_of_ble_eq_true rfl) ⟨Nat.le_of_ble_eq_true rfl, Nat.le_of_ble_eq_true rfl⟩ dJ0_indexOf_7cf53_1 (fun H locs S => ?_)
  refine lv_if_eq (tgt := 23) C.1 C.2.1 dJ0_indexOf_7cf53_4 (by decide) (fun q3 => ?_) (fun q3 => ?_)
  · replace h := (if_pos q3).symm.trans h
    cases h
  · replace h := (if_neg q3).symm.trans h
    refine lv_aload_n C.1 C.2.1 dJ0_indexOf_7cf53_7 rfl (lv_at hl 0 rfl) ?_
    refine r_value C S b_sf_RJ0_9 dJ0_indexOf_7cf53_8 ?_
    refine lv_iload_n C.1 C.2.1 dJ0_indexOf_7cf53_11 rfl (lv_at hl 1 rfl) ?_
    refine lv_iload_n C.1 C.2.1 dJ0_indexOf_7cf53_12 rfl (lv_at hl 2 rfl) ?_
    refine lv_aload_n C.1 C.2.1 dJ0_indexOf_7cf53_13 rfl (lv_at hl 0 rfl) ?_
    obtain ⟨o4, e5, h⟩ := Option.bind_eq_some_iff.mp h
    refine r_vsi C S hl (k_J0_length_8abf5 e5) b_vb_RJ0_505 [] rfl [.int v2, .int v1, .ref (ad 106)] rfl rfl (Nat.le_of_ble_eq_true rfl) ⟨Nat.le_of_ble_eq_true rfl, Nat.le_of_ble_eq_true rfl⟩ dJ0_indexOf_7cf53_14 (fun H locs S => ?_)
    obtain ⟨o6, e7, h⟩ := Option.bind_eq_some_iff.mp h
    refine r_si C S hl (k_J1_indexOf_4cfef e7) b_sb_RJ0_637 [.ref (ad 106), .int v1, .int v2, .int o4] rfl [] rfl rfl (Nat.le_of_ble_eq_true rfl) ⟨Nat.le_of_ble_eq_true rfl, Nat.le_of_ble_eq_true rfl⟩ dJ0_indexOf_7cf53_17 (fun H locs S => ?_)
    refine lv_goto (tgt := 36) C.1 C.2.1 dJ0_indexOf_7cf53_20 (by decide) ?_
    have h9 := Option.some.inj h
    subst h9
    exact r_iret C S hr hlocks dJ0_indexOf_7cf53_36
set_option maxHeartbeats 4000000 in
set_option maxRecDepth 100000 in
theorem k_J0_indexOf_0f7a4 {v1 : Int32}  {w : Wd} {rv : Int32} (h : f_J0_indexOf_0f7a4 v1 w = some rv) : CI yJ0_indexOf_0f7a4 cJ0_indexOf_0f7a4 2 .int 3 70 (fun ad => [.ref (ad 105), .int v1]) w rv w := by
  refine CI.of (by decide) ?_
  intro l D ad sx ca p e s m below meth c C S hr hlocks
  have hl := lv_entry ([.ref (ad 105), .int v1]) (n := 2) (Nat.le_of_ble_eq_true rfl)
  rw [lg_entry_eq]
  generalize (lg_sl ([.ref (ad 105), .int v1]) ++ List.replicate (2 - (lg_sl ([.ref (ad 105), .int v1])).length) Slot.unset).toArray = ls at hl ⊢
  have hl : lv_has ls 2 [(0, .ref (ad 105)), (1, .int v1)] := hl
  generalize ha9 : ([.ref (ad 105), .int v1] : List Value).toArray = args at C ⊢
  generalize s.heap = H at S ⊢
  generalize ([] : List Loc) = locs at S ⊢
  unfold f_J0_indexOf_0f7a4 at h
  refine lv_aload_n C.1 C.2.1 dJ0_indexOf_0f7a4_0 rfl (lv_at hl 0 rfl) ?_
  refine lv_iload_n C.1 C.2.1 dJ0_indexOf_0f7a4_1 rfl (lv_at hl 1 rfl) ?_
  refine lv_iconst (v := 0) C.1 C.2.1 dJ0_indexOf_0f7a4_2 (by decide) ?_
  obtain ⟨o1, e2, h⟩ := Option.bind_eq_some_iff.mp h
  refine r_vsi C S hl (k_J0_indexOf_7cf53 e2) b_vb_RJ0_633 [.int v1, .int 0] rfl [] rfl rfl (Nat.le_of_ble_eq_true rfl) ⟨Nat.le_of_ble_eq_true rfl, Nat.le_of_ble_eq_true rfl⟩ dJ0_indexOf_0f7a4_3 (fun H locs S => ?_)
  have h9 := Option.some.inj h
  subst h9
  exact r_iret C S hr hlocks dJ0_indexOf_0f7a4_6
set_option maxHeartbeats 4000000 in
set_option maxRecDepth 100000 in
theorem k_X5_readFactor_J70 {p : Program} {l : Launch} {e : Env} {s : State} {m : MethodId} {args : Array Value} {below : List Frame} {meth : Method} {c : Code} {D : va_G} {ad sx : Nat → Nat} {ca : Nat → ClassId} (C : Cx D ad sx ca p s m c args RX5 cX5_readFactor 4) {n : Nat} {S : Nat → Int32 → Wd → Option (Int32 × Wd)} (hS : ∀ {t : Nat} {d : Int32} {w : Wd} {rv : Int32 × Wd}, Rr t → S t d w = some rv → CI yX5_readSum cX5_readSum 6 .int (16 * n + 20) (400 * n + 600) (fun ad => [.ref (ad t), .int d]) w rv.1 rv.2)  (hr : meth.sig.returnType = (some .int)) (hlocks : meth.locks = false) {w : Wd} {t0 : Nat} {v100 : Int32} (ht0 : Rr t0) {rv : Int32 × Wd} (h : f_X5_readFactor_J70 S t0 v100 w = some rv) {ls : Array Slot} {H : Heap} {locs : List Loc} (hl : lv_has ls 4 [(0, .ref (ad t0))]) (S : St D ad ca s w H locs) : W p l e (RM (16 * n + 28) (400 * n + 800)) s m args below meth c H locs 0 0 (MQ below (Qi D ad ca rv.1 rv.2) args s 0 0 (Aad ad)) (F0 m 70 ls [.int v100]) := by
  unfold f_X5_readFactor_J70 at h
  refine lv_istore_n (lv' := [(3, .int v100), (0, .ref (ad t0))]) C.1 C.2.1 dX5_readFactor_70 rfl hl (by decide) rfl (fun ls hl => ?_)
  refine lv_iload_n C.1 C.2.1 dX5_readFactor_71 rfl (lv_at hl 0 rfl) ?_
  refine lv_iconst (v := 0) C.1 C.2.1 dX5_readFactor_72 (by decide) ?_
  refine lv_aload_n C.1 C.2.1 dX5_readFactor_73 rfl (lv_at hl 1 rfl) ?_
  refine r_getr C S ht0.1 cf_5 1 rfl (by decide) b_fl_RX5_9 dX5_readFactor_74 ?_
  refine r_alen C S ht0.2.2 (v := 8) (by decide) dX5_readFactor_77 ?_
  refine lv_iconst (v := 1) C.1 C.2.1 dX5_readFactor_78 (by decide) ?_
  refine lv_isub C.1 C.2.1 dX5_readFactor_79 ?_
  obtain ⟨o11, e12, h⟩ := Option.bind_eq_some_iff.mp h
  refine r_ni C S hl (k_X10_within e12) b_nb_RX5_104 [.int v100, .int 0, .int (8 - 1)] rfl [] rfl rfl (Nat.le_of_ble_eq_true rfl) ⟨(by dsimp only [RM]; omega), (by dsimp only [RM]; omega)⟩ dX5_readFactor_80 (fun H locs S => ?_)
  refine lv_if_ne (tgt := 92) C.1 C.2.1 dX5_readFactor_83 (by decide) (fun q13 => ?_) (fun q13 => ?_)
  · replace h := (if_neg q13).symm.trans h
    refine lv_aload_n C.1 C.2.1 dX5_readFactor_92 rfl (lv_at hl 1 rfl) ?_
    refine lv_dup C.1 C.2.1 dX5_readFactor_93 rfl ?_
    refine r_geti C S ht0.1 cf_5 2 rfl (by decide) b_fl_RX5_19 dX5_readFactor_94 ?_
    refine lv_iconst (v := 1) C.1 C.2.1 dX5_readFactor_97 (by decide) ?_
    refine lv_iadd C.1 C.2.1 dX5_readFactor_98 ?_
    refine r_put C S ht0.1 cf_5 2 rfl (by decide) rfl (ni _) b_fl_RX5_19 dX5_readFactor_99 (fun H locs S => ?_)
    obtain ⟨w14, h, S⟩ := lw_S (P := fun y => St D ad ca s y H locs) h S
    refine lv_aload_n C.1 C.2.1 dX5_readFactor_102 rfl (lv_at hl 1 rfl) ?_
    refine r_getr C S ht0.1 cf_5 1 rfl (by decide) b_fl_RX5_9 dX5_readFactor_103 ?_
    refine lv_iload_n C.1 C.2.1 dX5_readFactor_106 rfl (lv_at hl 0 rfl) ?_
    obtain ⟨g15, h⟩ := gd_some h
    refine r_iald C S ht0.2.2 g15 dX5_readFactor_107 ?_
    have h9 := Option.some.inj h
    subst h9
    exact r_iret C S hr hlocks dX5_readFactor_108
  · replace h := (if_pos q13).symm.trans h
    refine lv_aload_n C.1 C.2.1 dX5_readFactor_86 rfl (lv_at hl 1 rfl) ?_
    obtain ⟨o16, e17, h⟩ := Option.bind_eq_some_iff.mp h
    refine r_vv C S hl ht0.1 cf_5 (k_X5_fail ht0 e17) b_vb_RX5_35 [] rfl [] rfl rfl (Nat.le_of_ble_eq_true rfl) ⟨(by dsimp only [RM]; omega), (by dsimp only [RM]; omega)⟩ dX5_readFactor_87 (fun H locs S => ?_)
    refine lv_iconst (v := 0) C.1 C.2.1 dX5_readFactor_90 (by decide) ?_
    have h9 := Option.some.inj h
    subst h9
    exact r_iret C S hr hlocks dX5_readFactor_91
set_option maxHeartbeats 4000000 in
set_option maxRecDepth 100000 in
theorem k_X5_readFactor_J55 {p : Program} {l : Launch} {e : Env} {s : State} {m : MethodId} {args : Array Value} {below : List Frame} {meth : Method} {c : Code} {D : va_G} {ad sx : Nat → Nat} {ca : Nat → ClassId} (C : Cx D ad sx ca p s m c args RX5 cX5_readFactor 4) {n : Nat} {S : Nat → Int32 → Wd → Option (Int32 × Wd)} (hS : ∀ {t : Nat} {d : Int32} {w : Wd} {rv : Int32 × Wd}, Rr t → S t d w = some rv → CI yX5_readSum cX5_readSum 6 .int (16 * n + 20) (400 * n + 600) (fun ad => [.ref (ad t), .int d]) w rv.1 rv.2)  (hr : meth.sig.returnType = (some .int)) (hlocks : meth.locks = false) {w : Wd} {t0 : Nat} {v2 : Int32} (ht0 : Rr t0) {rv : Int32 × Wd} (h : f_X5_readFactor_J55 S t0 v2 w = some rv) {ls : Array Slot} {H : Heap} {locs : List Loc} (hl : lv_has ls 4 [(0, .ref (ad t0)), (2, .int v2)]) (S : St D ad ca s w H locs) : W p l e (RM (16 * n + 28) (400 * n + 800)) s m args below meth c H locs 0 0 (MQ below (Qi D ad ca rv.1 rv.2) args s 0 0 (Aad ad)) (F0 m 55 ls []) := by
  unfold f_X5_readFactor_J55 at h
  refine lv_iload_n C.1 C.2.1 dX5_readFactor_55 rfl (lv_at hl 1 rfl) ?_
  refine lv_if_ge (tgt := 63) C.1 C.2.1 dX5_readFactor_56 (by decide) (fun q8 => ?_) (fun q8 => ?_)
  · replace h := (if_pos q8).symm.trans h
    refine r_ldcs C dX5_readFactor_63 ?_
    refine lv_iload_n C.1 C.2.1 dX5_readFactor_65 rfl (lv_at hl 1 rfl) ?_
    refine lv_i2c C.1 C.2.1 dX5_readFactor_66 rfl ?_
    obtain ⟨o9, e10, h⟩ := Option.bind_eq_some_iff.mp h
    refine r_vsi C S hl (k_J0_indexOf_0f7a4 e10) b_vb_RX5_99 [.int ((v2.toUInt32 % 65536).toInt32)] rfl [] rfl rfl (Nat.le_of_ble_eq_true rfl) ⟨(by dsimp only [RM]; omega), (by dsimp only [RM]; omega)⟩ dX5_readFactor_67 (fun H locs S => ?_)
    exact k_X5_readFactor_J70 C hS hr hlocks ht0 h (lv_sub hl [0] rfl) S
  · replace h := (if_neg q8).symm.trans h
    refine lv_iconst (v := (-1)) C.1 C.2.1 dX5_readFactor_59 (by decide) ?_
    refine lv_goto (tgt := 70) C.1 C.2.1 dX5_readFactor_60 (by decide) ?_
    exact k_X5_readFactor_J70 C hS hr hlocks ht0 h (lv_sub hl [0] rfl) S
set_option maxHeartbeats 4000000 in
set_option maxRecDepth 100000 in
theorem k_X5_readFactor_J36 {p : Program} {l : Launch} {e : Env} {s : State} {m : MethodId} {args : Array Value} {below : List Frame} {meth : Method} {c : Code} {D : va_G} {ad sx : Nat → Nat} {ca : Nat → ClassId} (C : Cx D ad sx ca p s m c args RX5 cX5_readFactor 4) {n : Nat} {S : Nat → Int32 → Wd → Option (Int32 × Wd)} (hS : ∀ {t : Nat} {d : Int32} {w : Wd} {rv : Int32 × Wd}, Rr t → S t d w = some rv → CI yX5_readSum cX5_readSum 6 .int (16 * n + 20) (400 * n + 600) (fun ad => [.ref (ad t), .int d]) w rv.1 rv.2)  (hr : meth.sig.returnType = (some .int)) (hlocks : meth.locks = false) {w : Wd} {t0 : Nat} {v1 : Int32} {v2 : Int32} (ht0 : Rr t0) {rv : Int32 × Wd} (h : f_X5_readFactor_J36 S t0 v1 v2 w = some rv) {ls : Array Slot} {H : Heap} {locs : List Loc} (hl : lv_has ls 4 [(0, .ref (ad t0)), (1, .int v1), (2, .int v2)]) (S : St D ad ca s w H locs) : W p l e (RM (16 * n + 28) (400 * n + 800)) s m args below meth c H locs 0 0 (MQ below (Qi D ad ca rv.1 rv.2) args s 0 0 (Aad ad)) (F0 m 36 ls []) := by
  unfold f_X5_readFactor_J36 at h
  refine lv_iload_n C.1 C.2.1 dX5_readFactor_36 rfl (lv_at hl 2 rfl) ?_
  refine lv_bipush (v := 91) C.1 C.2.1 dX5_readFactor_37 (by decide) ?_
  refine lv_icmp_ne (tgt := 55) C.1 C.2.1 dX5_readFactor_39 (by decide) (fun q7 => ?_) (fun q7 => ?_)
  · replace h := (if_neg q7).symm.trans h
    exact k_X5_readFactor_J55 C hS hr hlocks ht0 h (lv_sub hl [0, 2] rfl) S
  · replace h := (if_pos q7).symm.trans h
    refine lv_iload_n C.1 C.2.1 dX5_readFactor_42 rfl (lv_at hl 1 rfl) ?_
    refine lv_iconst (v := 4) C.1 C.2.1 dX5_readFactor_43 (by decide) ?_
    refine lv_icmp_ge (tgt := 55) C.1 C.2.1 dX5_readFactor_44 (by decide) (fun q18 => ?_) (fun q18 => ?_)
    · replace h := (if_pos q18).symm.trans h
      exact k_X5_readFactor_J55 C hS hr hlocks ht0 h (lv_sub hl [0, 2] rfl) S
    · replace h := (if_neg q18).symm.trans h
      refine lv_aload_n C.1 C.2.1 dX5_readFactor_47 rfl (lv_at hl 0 rfl) ?_
      refine lv_iload_n C.1 C.2.1 dX5_readFactor_48 rfl (lv_at hl 1 rfl) ?_
      refine lv_iconst (v := 1) C.1 C.2.1 dX5_readFactor_49 (by decide) ?_
      refine lv_iadd C.1 C.2.1 dX5_readFactor_50 ?_
      obtain ⟨o19, e20, h⟩ := Option.bind_eq_some_iff.mp h
      refine r_vi C S hl ht0.1 cf_5 (k_X5_readChoice hS ht0 e20) b_vb_RX5_94 [.int (v1 + 1)] rfl [] rfl rfl (Nat.le_of_ble_eq_true rfl) ⟨(by dsimp only [RM]; omega), (by dsimp only [RM]; omega)⟩ dX5_readFactor_51 (fun H locs S => ?_)
      have h9 := Option.some.inj h
      subst h9
      exact r_iret C S hr hlocks dX5_readFactor_54
set_option maxHeartbeats 4000000 in
set_option maxRecDepth 100000 in
theorem k_X5_readFactor {n : Nat} {S : Nat → Int32 → Wd → Option (Int32 × Wd)} (hS : ∀ {t : Nat} {d : Int32} {w : Wd} {rv : Int32 × Wd}, Rr t → S t d w = some rv → CI yX5_readSum cX5_readSum 6 .int (16 * n + 20) (400 * n + 600) (fun ad => [.ref (ad t), .int d]) w rv.1 rv.2) {t0 : Nat} {v1 : Int32} (ht0 : Rr t0) {w : Wd} {rv : Int32 × Wd} (h : f_X5_readFactor S t0 v1 w = some rv) : CI yX5_readFactor cX5_readFactor 4 .int (16 * n + 28) (400 * n + 800) (fun ad => [.ref (ad t0), .int v1]) w rv.1 rv.2 := by
  refine CI.of (by decide) ?_
  intro l D ad sx ca p e s m below meth c C S hr hlocks
  have hl := lv_entry ([.ref (ad t0), .int v1]) (n := 4) (Nat.le_of_ble_eq_true rfl)
  rw [lg_entry_eq]
  generalize (lg_sl ([.ref (ad t0), .int v1]) ++ List.replicate (4 - (lg_sl ([.ref (ad t0), .int v1])).length) Slot.unset).toArray = ls at hl ⊢
  have hl : lv_has ls 4 [(0, .ref (ad t0)), (1, .int v1)] := hl
  generalize ha9 : ([.ref (ad t0), .int v1] : List Value).toArray = args at C ⊢
  generalize s.heap = H at S ⊢
  generalize ([] : List Loc) = locs at S ⊢
  unfold f_X5_readFactor at h
  refine lv_aload_n C.1 C.2.1 dX5_readFactor_0 rfl (lv_at hl 0 rfl) ?_
  obtain ⟨o1, e2, h⟩ := Option.bind_eq_some_iff.mp h
  refine r_vi C S hl ht0.1 cf_5 (k_X5_next ht0 e2) b_vb_RX5_70 [] rfl [] rfl rfl (Nat.le_of_ble_eq_true rfl) ⟨(by dsimp only [RM]; omega), (by dsimp only [RM]; omega)⟩ dX5_readFactor_1 (fun H locs S => ?_)
  refine lv_istore_n (lv' := [(2, .int o1), (0, .ref (ad t0)), (1, .int v1)]) C.1 C.2.1 dX5_readFactor_4 rfl hl (by decide) rfl (fun ls hl => ?_)
  refine lv_iload_n C.1 C.2.1 dX5_readFactor_5 rfl (lv_at hl 0 rfl) ?_
  obtain ⟨o3, e4, h⟩ := Option.bind_eq_some_iff.mp h
  refine r_si C S hl (k_X5_isDigit e4) b_sb_RX5_84 [.int o1] rfl [] rfl rfl (Nat.le_of_ble_eq_true rfl) ⟨(by dsimp only [RM]; omega), (by dsimp only [RM]; omega)⟩ dX5_readFactor_6 (fun H locs S => ?_)
  refine lv_if_eq (tgt := 17) C.1 C.2.1 dX5_readFactor_9 (by decide) (fun q5 => ?_) (fun q5 => ?_)
  · replace h := (if_pos q5).symm.trans h
    refine lv_iload_n C.1 C.2.1 dX5_readFactor_17 rfl (lv_at hl 0 rfl) ?_
    refine lv_bipush (v := 40) C.1 C.2.1 dX5_readFactor_18 (by decide) ?_
    refine lv_icmp_ne (tgt := 36) C.1 C.2.1 dX5_readFactor_20 (by decide) (fun q6 => ?_) (fun q6 => ?_)
    · replace h := (if_neg q6).symm.trans h
      exact k_X5_readFactor_J36 C hS hr hlocks ht0 h (lv_sub hl [1, 2, 0] rfl) S
    · replace h := (if_pos q6).symm.trans h
      refine lv_iload_n C.1 C.2.1 dX5_readFactor_23 rfl (lv_at hl 2 rfl) ?_
      refine lv_iconst (v := 4) C.1 C.2.1 dX5_readFactor_24 (by decide) ?_
      refine lv_icmp_ge (tgt := 36) C.1 C.2.1 dX5_readFactor_25 (by decide) (fun q21 => ?_) (fun q21 => ?_)
      · replace h := (if_pos q21).symm.trans h
        exact k_X5_readFactor_J36 C hS hr hlocks ht0 h (lv_sub hl [1, 2, 0] rfl) S
      · replace h := (if_neg q21).symm.trans h
        refine lv_aload_n C.1 C.2.1 dX5_readFactor_28 rfl (lv_at hl 1 rfl) ?_
        refine lv_iload_n C.1 C.2.1 dX5_readFactor_29 rfl (lv_at hl 2 rfl) ?_
        refine lv_iconst (v := 1) C.1 C.2.1 dX5_readFactor_30 (by decide) ?_
        refine lv_iadd C.1 C.2.1 dX5_readFactor_31 ?_
        obtain ⟨o22, e23, h⟩ := Option.bind_eq_some_iff.mp h
        refine r_vi C S hl ht0.1 cf_5 (k_X5_readBracket hS ht0 e23) b_vb_RX5_91 [.int (v1 + 1)] rfl [] rfl rfl (Nat.le_of_ble_eq_true rfl) ⟨(by dsimp only [RM]; omega), (by dsimp only [RM]; omega)⟩ dX5_readFactor_32 (fun H locs S => ?_)
        have h9 := Option.some.inj h
        subst h9
        exact r_iret C S hr hlocks dX5_readFactor_35
  · replace h := (if_neg q5).symm.trans h
    refine lv_aload_n C.1 C.2.1 dX5_readFactor_12 rfl (lv_at hl 1 rfl) ?_
    obtain ⟨o24, e25, h⟩ := Option.bind_eq_some_iff.mp h
    refine r_vi C S hl ht0.1 cf_5 (k_X5_readNumber ht0 e25) b_vb_RX5_88 [] rfl [] rfl rfl (Nat.le_of_ble_eq_true rfl) ⟨(by dsimp only [RM]; omega), (by dsimp only [RM]; omega)⟩ dX5_readFactor_13 (fun H locs S => ?_)
    have h9 := Option.some.inj h
    subst h9
    exact r_iret C S hr hlocks dX5_readFactor_16
set_option maxHeartbeats 4000000 in
set_option maxRecDepth 100000 in
theorem k_X5_quotient {v0 : Int32} {v1 : Int32}  {w : Wd} {rv : Int32} (h : f_X5_quotient v0 v1 = some rv) : CI yX5_quotient cX5_quotient 2 .int 0 0 (fun ad => [.int v0, .int v1]) w rv w := by
  refine CI.of (by decide) ?_
  intro l D ad sx ca p e s m below meth c C S hr hlocks
  have hl := lv_entry ([.int v0, .int v1]) (n := 2) (Nat.le_of_ble_eq_true rfl)
  rw [lg_entry_eq]
  generalize (lg_sl ([.int v0, .int v1]) ++ List.replicate (2 - (lg_sl ([.int v0, .int v1])).length) Slot.unset).toArray = ls at hl ⊢
  have hl : lv_has ls 2 [(0, .int v0), (1, .int v1)] := hl
  generalize ha9 : ([.int v0, .int v1] : List Value).toArray = args at C ⊢
  generalize s.heap = H at S ⊢
  generalize ([] : List Loc) = locs at S ⊢
  unfold f_X5_quotient at h
  refine lv_iload_n C.1 C.2.1 dX5_quotient_0 rfl (lv_at hl 1 rfl) ?_
  refine lv_if_ne (tgt := 8) C.1 C.2.1 dX5_quotient_1 (by decide) (fun q1 => ?_) (fun q1 => ?_)
  · replace h := (if_neg q1).symm.trans h
    refine lv_iload_n C.1 C.2.1 dX5_quotient_8 rfl (lv_at hl 0 rfl) ?_
    refine lv_iload_n C.1 C.2.1 dX5_quotient_9 rfl (lv_at hl 1 rfl) ?_
    obtain ⟨g2, h⟩ := gd_some h
    refine lv_idiv C.1 C.2.1 dX5_quotient_10 (nz_ne g2) ?_
    have h9 := Option.some.inj h
    subst h9
    exact r_iret C S hr hlocks dX5_quotient_11
  · replace h := (if_pos q1).symm.trans h
    refine lv_iconst (v := 0) C.1 C.2.1 dX5_quotient_4 (by decide) ?_
    refine lv_goto (tgt := 11) C.1 C.2.1 dX5_quotient_5 (by decide) ?_
    have h9 := Option.some.inj h
    subst h9
    exact r_iret C S hr hlocks dX5_quotient_11
set_option maxHeartbeats 4000000 in
set_option maxRecDepth 100000 in
theorem k_X5_readProduct_J37 {p : Program} {l : Launch} {e : Env} {s : State} {m : MethodId} {args : Array Value} {below : List Frame} {meth : Method} {c : Code} {D : va_G} {ad sx : Nat → Nat} {ca : Nat → ClassId} (C : Cx D ad sx ca p s m c args RX5 cX5_readProduct 6) {n : Nat} {S : Nat → Int32 → Wd → Option (Int32 × Wd)} (hS : ∀ {t : Nat} {d : Int32} {w : Wd} {rv : Int32 × Wd}, Rr t → S t d w = some rv → CI yX5_readSum cX5_readSum 6 .int (16 * n + 20) (400 * n + 600) (fun ad => [.ref (ad t), .int d]) w rv.1 rv.2)  {Q : State → Prop} {w : Wd} {t0 : Nat} {v1 : Int32} {v2 : Int32} {v3 : Int32} {v4 : Int32} (ht0 : Rr t0) {x : (Int32 × Int32 × Wd) ⊕ (Int32 × Int32 × Wd)} (h : f_X5_readProduct_J37 S t0 v1 v2 v3 v4 w = some x) (hN : ∀ z, x = .inl z → ∀ (ls : Array Slot) (H : Heap) (locs : List Loc), lv_has ls 6 [(0, .ref (ad t0)), (1, .int v1), (2, .int z.1), (3, .int z.2.1)] → St D ad ca s z.2.2 H locs → W p l e (RM (16 * n + 32) (400 * n + 900)) s m args below meth c H locs 0 0 Q (F0 m 8 ls [])) (hX : ∀ o, x = .inr o → ∀ (ls : Array Slot) (H : Heap) (locs : List Loc), lv_has ls 6 [(2, .int o.1)] → St D ad ca s o.2.2 H locs → W p l e (RM (16 * n + 32) (400 * n + 900)) s m args below meth c H locs 0 0 Q (F0 m 81 ls [])) {ls : Array Slot} {H : Heap} {locs : List Loc} (hl : lv_has ls 6 [(0, .ref (ad t0)), (1, .int v1), (2, .int v2), (3, .int v3), (4, .int v4)]) (S : St D ad ca s w H locs) : W p l e (RM (16 * n + 32) (400 * n + 900)) s m args below meth c H locs 0 0 Q (F0 m 37 ls []) := by
  unfold f_X5_readProduct_J37 at h
  refine lv_aload_n C.1 C.2.1 dX5_readProduct_37 rfl (lv_at hl 0 rfl) ?_
  refine lv_dup C.1 C.2.1 dX5_readProduct_38 rfl ?_
  refine r_geti C S ht0.1 cf_5 2 rfl (by decide) b_fl_RX5_19 dX5_readProduct_39 ?_
  refine lv_iconst (v := 1) C.1 C.2.1 dX5_readProduct_42 (by decide) ?_
  refine lv_iadd C.1 C.2.1 dX5_readProduct_43 ?_
  refine r_put C S ht0.1 cf_5 2 rfl (by decide) rfl (ni _) b_fl_RX5_19 dX5_readProduct_44 (fun H locs S => ?_)
  obtain ⟨w7, h, S⟩ := lw_S (P := fun y => St D ad ca s y H locs) h S
  refine lv_aload_n C.1 C.2.1 dX5_readProduct_47 rfl (lv_at hl 0 rfl) ?_
  refine lv_iload_n C.1 C.2.1 dX5_readProduct_48 rfl (lv_at hl 1 rfl) ?_
  obtain ⟨o8, e9, h⟩ := Option.bind_eq_some_iff.mp h
  refine r_vi C S hl ht0.1 cf_5 (k_X5_readFactor hS ht0 e9) b_vb_RX5_77 [.int v1] rfl [] rfl rfl (Nat.le_of_ble_eq_true rfl) ⟨(by dsimp only [RM]; omega), (by dsimp only [RM]; omega)⟩ dX5_readProduct_49 (fun H locs S => ?_)
  refine lv_istore (lv' := [(5, .int o8.1), (0, .ref (ad t0)), (1, .int v1), (2, .int v2), (3, .int v3), (4, .int v4)]) C.1 C.2.1 dX5_readProduct_52 hl (by decide) rfl (fun ls hl => ?_)
  refine lv_iload C.1 C.2.1 dX5_readProduct_54 (lv_at hl 5 rfl) ?_
  refine lv_bipush (v := 42) C.1 C.2.1 dX5_readProduct_56 (by decide) ?_
  refine lv_icmp_ne (tgt := 68) C.1 C.2.1 dX5_readProduct_58 (by decide) (fun q10 => ?_) (fun q10 => ?_)
  · replace h := (if_neg q10).symm.trans h
    refine lv_iload_n C.1 C.2.1 dX5_readProduct_68 rfl (lv_at hl 3 rfl) ?_
    refine lv_iload C.1 C.2.1 dX5_readProduct_69 (lv_at hl 0 rfl) ?_
    obtain ⟨o11, e12, h⟩ := Option.bind_eq_some_iff.mp h
    refine r_si C S hl (k_X5_quotient e12) b_sb_RX5_80 [.int v2, .int o8.1] rfl [] rfl rfl (Nat.le_of_ble_eq_true rfl) ⟨(by dsimp only [RM]; omega), (by dsimp only [RM]; omega)⟩ dX5_readProduct_71 (fun H locs S => ?_)
    refine lv_istore_n (lv' := [(2, .int o11), (5, .int o8.1), (0, .ref (ad t0)), (1, .int v1), (3, .int v3), (4, .int v4)]) C.1 C.2.1 dX5_readProduct_74 rfl hl (by decide) rfl (fun ls hl => ?_)
    refine lv_iinc (v := v3 + 1) (lv' := [(3, .int (v3 + 1)), (2, .int o11), (5, .int o8.1), (0, .ref (ad t0)), (1, .int v1), (4, .int v4)]) C.1 C.2.1 dX5_readProduct_75 hl (k := 4) rfl rfl (by decide) rfl (fun ls hl => ?_)
    refine lv_goto (tgt := 8) C.1 C.2.1 dX5_readProduct_78 (by decide) ?_
    exact hN _ (Option.some.inj h).symm _ _ _ (lv_sub hl [3, 4, 1, 0] rfl) S
  · replace h := (if_pos q10).symm.trans h
    refine lv_iload_n C.1 C.2.1 dX5_readProduct_61 rfl (lv_at hl 3 rfl) ?_
    refine lv_iload C.1 C.2.1 dX5_readProduct_62 (lv_at hl 0 rfl) ?_
    refine lv_imul C.1 C.2.1 dX5_readProduct_64 ?_
    refine lv_goto (tgt := 74) C.1 C.2.1 dX5_readProduct_65 (by decide) ?_
    refine lv_istore_n (lv' := [(2, .int (v2 * o8.1)), (5, .int o8.1), (0, .ref (ad t0)), (1, .int v1), (3, .int v3), (4, .int v4)]) C.1 C.2.1 dX5_readProduct_74 rfl hl (by decide) rfl (fun ls hl => ?_)
    refine lv_iinc (v := v3 + 1) (lv' := [(3, .int (v3 + 1)), (2, .int (v2 * o8.1)), (5, .int o8.1), (0, .ref (ad t0)), (1, .int v1), (4, .int v4)]) C.1 C.2.1 dX5_readProduct_75 hl (k := 4) rfl rfl (by decide) rfl (fun ls hl => ?_)
    refine lv_goto (tgt := 8) C.1 C.2.1 dX5_readProduct_78 (by decide) ?_
    exact hN _ (Option.some.inj h).symm _ _ _ (lv_sub hl [3, 4, 1, 0] rfl) S
set_option maxHeartbeats 4000000 in
set_option maxRecDepth 100000 in
theorem k_X5_readProduct_L8 {p : Program} {l : Launch} {e : Env} {s : State} {m : MethodId} {args : Array Value} {below : List Frame} {meth : Method} {c : Code} {D : va_G} {ad sx : Nat → Nat} {ca : Nat → ClassId} (C : Cx D ad sx ca p s m c args RX5 cX5_readProduct 6) {n : Nat} {S : Nat → Int32 → Wd → Option (Int32 × Wd)} (hS : ∀ {t : Nat} {d : Int32} {w : Wd} {rv : Int32 × Wd}, Rr t → S t d w = some rv → CI yX5_readSum cX5_readSum 6 .int (16 * n + 20) (400 * n + 600) (fun ad => [.ref (ad t), .int d]) w rv.1 rv.2)  {Q : State → Prop} {t0 : Nat} {v1 : Int32} (ht0 : Rr t0) : ∀ (n9 : Nat) (z : Int32 × Int32 × Wd) (o : Int32 × Int32 × Wd), lp (f_X5_readProduct_L8 S t0 v1) n9 z = some o → (∀ (ls : Array Slot) (H : Heap) (locs : List Loc), lv_has ls 6 [(2, .int o.1)] → St D ad ca s o.2.2 H locs → W p l e (RM (16 * n + 32) (400 * n + 900)) s m args below meth c H locs 0 0 Q (F0 m 81 ls [])) → (∀ (ls : Array Slot) (H : Heap) (locs : List Loc), lv_has ls 6 [(0, .ref (ad t0)), (1, .int v1), (2, .int z.1), (3, .int z.2.1)] → St D ad ca s z.2.2 H locs → W p l e (RM (16 * n + 32) (400 * n + 900)) s m args below meth c H locs 0 0 Q (F0 m 8 ls [])) := by
  refine lp_W (HW := fun (z : Int32 × Int32 × Wd) => ∀ (ls : Array Slot) (H : Heap) (locs : List Loc), lv_has ls 6 [(0, .ref (ad t0)), (1, .int v1), (2, .int z.1), (3, .int z.2.1)] → St D ad ca s z.2.2 H locs → W p l e (RM (16 * n + 32) (400 * n + 900)) s m args below meth c H locs 0 0 Q (F0 m 8 ls [])) (XW := fun (o : Int32 × Int32 × Wd) => ∀ (ls : Array Slot) (H : Heap) (locs : List Loc), lv_has ls 6 [(2, .int o.1)] → St D ad ca s o.2.2 H locs → W p l e (RM (16 * n + 32) (400 * n + 900)) s m args below meth c H locs 0 0 Q (F0 m 81 ls [])) ?_
  intro z x h hN hX ls H locs hl S
  unfold f_X5_readProduct_L8 at h
  refine lv_iload_n C.1 C.2.1 dX5_readProduct_8 rfl (lv_at hl 3 rfl) ?_
  refine lv_bipush (v := 80) C.1 C.2.1 dX5_readProduct_9 (by decide) ?_
  refine lv_icmp_ge (tgt := 81) C.1 C.2.1 dX5_readProduct_11 (by decide) (fun q3 => ?_) (fun q3 => ?_)
  · replace h := (if_pos q3).symm.trans h
    exact hX _ (Option.some.inj h).symm _ _ _ (lv_sub hl [2] rfl) S
  · replace h := (if_neg q3).symm.trans h
    refine lv_aload_n C.1 C.2.1 dX5_readProduct_14 rfl (lv_at hl 0 rfl) ?_
    obtain ⟨o4, e5, h⟩ := Option.bind_eq_some_iff.mp h
    refine r_vi C S hl ht0.1 cf_5 (k_X5_next ht0 e5) b_vb_RX5_70 [] rfl [] rfl rfl (Nat.le_of_ble_eq_true rfl) ⟨(by dsimp only [RM]; omega), (by dsimp only [RM]; omega)⟩ dX5_readProduct_15 (fun H locs S => ?_)
    refine lv_istore (lv' := [(4, .int o4), (0, .ref (ad t0)), (1, .int v1), (2, .int z.1), (3, .int z.2.1)]) C.1 C.2.1 dX5_readProduct_18 hl (by decide) rfl (fun ls hl => ?_)
    refine lv_iload C.1 C.2.1 dX5_readProduct_20 (lv_at hl 0 rfl) ?_
    refine lv_bipush (v := 42) C.1 C.2.1 dX5_readProduct_22 (by decide) ?_
    refine lv_icmp_eq (tgt := 37) C.1 C.2.1 dX5_readProduct_24 (by decide) (fun q6 => ?_) (fun q6 => ?_)
    · replace h := (if_pos q6).symm.trans h
      exact k_X5_readProduct_J37 C hS ht0 h hN hX (lv_sub hl [1, 2, 3, 4, 0] rfl) S
    · replace h := (if_neg q6).symm.trans h
      refine lv_iload C.1 C.2.1 dX5_readProduct_27 (lv_at hl 0 rfl) ?_
      refine lv_bipush (v := 47) C.1 C.2.1 dX5_readProduct_29 (by decide) ?_
      refine lv_icmp_eq (tgt := 37) C.1 C.2.1 dX5_readProduct_31 (by decide) (fun q13 => ?_) (fun q13 => ?_)
      · replace h := (if_pos q13).symm.trans h
        exact k_X5_readProduct_J37 C hS ht0 h hN hX (lv_sub hl [1, 2, 3, 4, 0] rfl) S
      · replace h := (if_neg q13).symm.trans h
        refine lv_goto (tgt := 81) C.1 C.2.1 dX5_readProduct_34 (by decide) ?_
        exact hX _ (Option.some.inj h).symm _ _ _ (lv_sub hl [3] rfl) S
set_option maxHeartbeats 4000000 in
set_option maxRecDepth 100000 in
theorem k_X5_readProduct {n : Nat} {S : Nat → Int32 → Wd → Option (Int32 × Wd)} (hS : ∀ {t : Nat} {d : Int32} {w : Wd} {rv : Int32 × Wd}, Rr t → S t d w = some rv → CI yX5_readSum cX5_readSum 6 .int (16 * n + 20) (400 * n + 600) (fun ad => [.ref (ad t), .int d]) w rv.1 rv.2) {t0 : Nat} {v1 : Int32} (ht0 : Rr t0) {w : Wd} {rv : Int32 × Wd} (h : f_X5_readProduct S t0 v1 w = some rv) : CI yX5_readProduct cX5_readProduct 6 .int (16 * n + 32) (400 * n + 900) (fun ad => [.ref (ad t0), .int v1]) w rv.1 rv.2 := by
  refine CI.of (by decide) ?_
  intro l D ad sx ca p e s m below meth c C S hr hlocks
  have hl := lv_entry ([.ref (ad t0), .int v1]) (n := 6) (Nat.le_of_ble_eq_true rfl)
  rw [lg_entry_eq]
  generalize (lg_sl ([.ref (ad t0), .int v1]) ++ List.replicate (6 - (lg_sl ([.ref (ad t0), .int v1])).length) Slot.unset).toArray = ls at hl ⊢
  have hl : lv_has ls 6 [(0, .ref (ad t0)), (1, .int v1)] := hl
  generalize ha9 : ([.ref (ad t0), .int v1] : List Value).toArray = args at C ⊢
  generalize s.heap = H at S ⊢
  generalize ([] : List Loc) = locs at S ⊢
  unfold f_X5_readProduct at h
  refine lv_aload_n C.1 C.2.1 dX5_readProduct_0 rfl (lv_at hl 0 rfl) ?_
  refine lv_iload_n C.1 C.2.1 dX5_readProduct_1 rfl (lv_at hl 1 rfl) ?_
  obtain ⟨o1, e2, h⟩ := Option.bind_eq_some_iff.mp h
  refine r_vi C S hl ht0.1 cf_5 (k_X5_readFactor hS ht0 e2) b_vb_RX5_77 [.int v1] rfl [] rfl rfl (Nat.le_of_ble_eq_true rfl) ⟨(by dsimp only [RM]; omega), (by dsimp only [RM]; omega)⟩ dX5_readProduct_2 (fun H locs S => ?_)
  refine lv_istore_n (lv' := [(2, .int o1.1), (0, .ref (ad t0)), (1, .int v1)]) C.1 C.2.1 dX5_readProduct_5 rfl hl (by decide) rfl (fun ls hl => ?_)
  refine lv_iconst (v := 0) C.1 C.2.1 dX5_readProduct_6 (by decide) ?_
  refine lv_istore_n (lv' := [(3, .int 0), (2, .int o1.1), (0, .ref (ad t0)), (1, .int v1)]) C.1 C.2.1 dX5_readProduct_7 rfl hl (by decide) rfl (fun ls hl => ?_)
  obtain ⟨o14, e15, h⟩ := Option.bind_eq_some_iff.mp h
  refine k_X5_readProduct_L8 C hS ht0 FU _ _ e15 (fun ls H locs hl S => ?_) ls H locs (lv_sub hl [2, 3, 1, 0] rfl) S
  refine lv_iload_n C.1 C.2.1 dX5_readProduct_81 rfl (lv_at hl 0 rfl) ?_
  have h9 := Option.some.inj h
  subst h9
  exact r_iret C S hr hlocks dX5_readProduct_82
set_option maxHeartbeats 4000000 in
set_option maxRecDepth 100000 in
theorem k_X5_readSum_J37 {p : Program} {l : Launch} {e : Env} {s : State} {m : MethodId} {args : Array Value} {below : List Frame} {meth : Method} {c : Code} {D : va_G} {ad sx : Nat → Nat} {ca : Nat → ClassId} (C : Cx D ad sx ca p s m c args RX5 cX5_readSum 6) {n : Nat} {S : Nat → Int32 → Wd → Option (Int32 × Wd)} (hS : ∀ {t : Nat} {d : Int32} {w : Wd} {rv : Int32 × Wd}, Rr t → S t d w = some rv → CI yX5_readSum cX5_readSum 6 .int (16 * n + 20) (400 * n + 600) (fun ad => [.ref (ad t), .int d]) w rv.1 rv.2)  {Q : State → Prop} {w : Wd} {t0 : Nat} {v1 : Int32} {v2 : Int32} {v3 : Int32} {v4 : Int32} (ht0 : Rr t0) {x : (Int32 × Int32 × Wd) ⊕ (Int32 × Int32 × Wd)} (h : f_X5_readSum_J37 S t0 v1 v2 v3 v4 w = some x) (hN : ∀ z, x = .inl z → ∀ (ls : Array Slot) (H : Heap) (locs : List Loc), lv_has ls 6 [(0, .ref (ad t0)), (1, .int v1), (2, .int z.1), (3, .int z.2.1)] → St D ad ca s z.2.2 H locs → W p l e (RM (16 * n + 36) (400 * n + 1000)) s m args below meth c H locs 0 0 Q (F0 m 8 ls [])) (hX : ∀ o, x = .inr o → ∀ (ls : Array Slot) (H : Heap) (locs : List Loc), lv_has ls 6 [(2, .int o.1)] → St D ad ca s o.2.2 H locs → W p l e (RM (16 * n + 36) (400 * n + 1000)) s m args below meth c H locs 0 0 Q (F0 m 79 ls [])) {ls : Array Slot} {H : Heap} {locs : List Loc} (hl : lv_has ls 6 [(0, .ref (ad t0)), (1, .int v1), (2, .int v2), (3, .int v3), (4, .int v4)]) (S : St D ad ca s w H locs) : W p l e (RM (16 * n + 36) (400 * n + 1000)) s m args below meth c H locs 0 0 Q (F0 m 37 ls []) := by
  unfold f_X5_readSum_J37 at h
  refine lv_aload_n C.1 C.2.1 dX5_readSum_37 rfl (lv_at hl 0 rfl) ?_
  refine lv_dup C.1 C.2.1 dX5_readSum_38 rfl ?_
  refine r_geti C S ht0.1 cf_5 2 rfl (by decide) b_fl_RX5_19 dX5_readSum_39 ?_
  refine lv_iconst (v := 1) C.1 C.2.1 dX5_readSum_42 (by decide) ?_
  refine lv_iadd C.1 C.2.1 dX5_readSum_43 ?_
  refine r_put C S ht0.1 cf_5 2 rfl (by decide) rfl (ni _) b_fl_RX5_19 dX5_readSum_44 (fun H locs S => ?_)
  obtain ⟨w7, h, S⟩ := lw_S (P := fun y => St D ad ca s y H locs) h S
  refine lv_aload_n C.1 C.2.1 dX5_readSum_47 rfl (lv_at hl 0 rfl) ?_
  refine lv_iload_n C.1 C.2.1 dX5_readSum_48 rfl (lv_at hl 1 rfl) ?_
  obtain ⟨o8, e9, h⟩ := Option.bind_eq_some_iff.mp h
  refine r_vi C S hl ht0.1 cf_5 (k_X5_readProduct hS ht0 e9) b_vb_RX5_74 [.int v1] rfl [] rfl rfl (Nat.le_of_ble_eq_true rfl) ⟨(by dsimp only [RM]; omega), (by dsimp only [RM]; omega)⟩ dX5_readSum_49 (fun H locs S => ?_)
  refine lv_istore (lv' := [(5, .int o8.1), (0, .ref (ad t0)), (1, .int v1), (2, .int v2), (3, .int v3), (4, .int v4)]) C.1 C.2.1 dX5_readSum_52 hl (by decide) rfl (fun ls hl => ?_)
  refine lv_iload C.1 C.2.1 dX5_readSum_54 (lv_at hl 5 rfl) ?_
  refine lv_bipush (v := 43) C.1 C.2.1 dX5_readSum_56 (by decide) ?_
  refine lv_icmp_ne (tgt := 68) C.1 C.2.1 dX5_readSum_58 (by decide) (fun q10 => ?_) (fun q10 => ?_)
  · replace h := (if_neg q10).symm.trans h
    refine lv_iload_n C.1 C.2.1 dX5_readSum_68 rfl (lv_at hl 3 rfl) ?_
    refine lv_iload C.1 C.2.1 dX5_readSum_69 (lv_at hl 0 rfl) ?_
    refine lv_isub C.1 C.2.1 dX5_readSum_71 ?_
    refine lv_istore_n (lv' := [(2, .int (v2 - o8.1)), (5, .int o8.1), (0, .ref (ad t0)), (1, .int v1), (3, .int v3), (4, .int v4)]) C.1 C.2.1 dX5_readSum_72 rfl hl (by decide) rfl (fun ls hl => ?_)
    refine lv_iinc (v := v3 + 1) (lv' := [(3, .int (v3 + 1)), (2, .int (v2 - o8.1)), (5, .int o8.1), (0, .ref (ad t0)), (1, .int v1), (4, .int v4)]) C.1 C.2.1 dX5_readSum_73 hl (k := 4) rfl rfl (by decide) rfl (fun ls hl => ?_)
    refine lv_goto (tgt := 8) C.1 C.2.1 dX5_readSum_76 (by decide) ?_
    exact hN _ (Option.some.inj h).symm _ _ _ (lv_sub hl [3, 4, 1, 0] rfl) S
  · replace h := (if_pos q10).symm.trans h
    refine lv_iload_n C.1 C.2.1 dX5_readSum_61 rfl (lv_at hl 3 rfl) ?_
    refine lv_iload C.1 C.2.1 dX5_readSum_62 (lv_at hl 0 rfl) ?_
    refine lv_iadd C.1 C.2.1 dX5_readSum_64 ?_
    refine lv_goto (tgt := 72) C.1 C.2.1 dX5_readSum_65 (by decide) ?_
    refine lv_istore_n (lv' := [(2, .int (v2 + o8.1)), (5, .int o8.1), (0, .ref (ad t0)), (1, .int v1), (3, .int v3), (4, .int v4)]) C.1 C.2.1 dX5_readSum_72 rfl hl (by decide) rfl (fun ls hl => ?_)
    refine lv_iinc (v := v3 + 1) (lv' := [(3, .int (v3 + 1)), (2, .int (v2 + o8.1)), (5, .int o8.1), (0, .ref (ad t0)), (1, .int v1), (4, .int v4)]) C.1 C.2.1 dX5_readSum_73 hl (k := 4) rfl rfl (by decide) rfl (fun ls hl => ?_)
    refine lv_goto (tgt := 8) C.1 C.2.1 dX5_readSum_76 (by decide) ?_
    exact hN _ (Option.some.inj h).symm _ _ _ (lv_sub hl [3, 4, 1, 0] rfl) S
set_option maxHeartbeats 4000000 in
set_option maxRecDepth 100000 in
theorem k_X5_readSum_L8 {p : Program} {l : Launch} {e : Env} {s : State} {m : MethodId} {args : Array Value} {below : List Frame} {meth : Method} {c : Code} {D : va_G} {ad sx : Nat → Nat} {ca : Nat → ClassId} (C : Cx D ad sx ca p s m c args RX5 cX5_readSum 6) {n : Nat} {S : Nat → Int32 → Wd → Option (Int32 × Wd)} (hS : ∀ {t : Nat} {d : Int32} {w : Wd} {rv : Int32 × Wd}, Rr t → S t d w = some rv → CI yX5_readSum cX5_readSum 6 .int (16 * n + 20) (400 * n + 600) (fun ad => [.ref (ad t), .int d]) w rv.1 rv.2)  {Q : State → Prop} {t0 : Nat} {v1 : Int32} (ht0 : Rr t0) : ∀ (n9 : Nat) (z : Int32 × Int32 × Wd) (o : Int32 × Int32 × Wd), lp (f_X5_readSum_L8 S t0 v1) n9 z = some o → (∀ (ls : Array Slot) (H : Heap) (locs : List Loc), lv_has ls 6 [(2, .int o.1)] → St D ad ca s o.2.2 H locs → W p l e (RM (16 * n + 36) (400 * n + 1000)) s m args below meth c H locs 0 0 Q (F0 m 79 ls [])) → (∀ (ls : Array Slot) (H : Heap) (locs : List Loc), lv_has ls 6 [(0, .ref (ad t0)), (1, .int v1), (2, .int z.1), (3, .int z.2.1)] → St D ad ca s z.2.2 H locs → W p l e (RM (16 * n + 36) (400 * n + 1000)) s m args below meth c H locs 0 0 Q (F0 m 8 ls [])) := by
  refine lp_W (HW := fun (z : Int32 × Int32 × Wd) => ∀ (ls : Array Slot) (H : Heap) (locs : List Loc), lv_has ls 6 [(0, .ref (ad t0)), (1, .int v1), (2, .int z.1), (3, .int z.2.1)] → St D ad ca s z.2.2 H locs → W p l e (RM (16 * n + 36) (400 * n + 1000)) s m args below meth c H locs 0 0 Q (F0 m 8 ls [])) (XW := fun (o : Int32 × Int32 × Wd) => ∀ (ls : Array Slot) (H : Heap) (locs : List Loc), lv_has ls 6 [(2, .int o.1)] → St D ad ca s o.2.2 H locs → W p l e (RM (16 * n + 36) (400 * n + 1000)) s m args below meth c H locs 0 0 Q (F0 m 79 ls [])) ?_
  intro z x h hN hX ls H locs hl S
  unfold f_X5_readSum_L8 at h
  refine lv_iload_n C.1 C.2.1 dX5_readSum_8 rfl (lv_at hl 3 rfl) ?_
  refine lv_bipush (v := 80) C.1 C.2.1 dX5_readSum_9 (by decide) ?_
  refine lv_icmp_ge (tgt := 79) C.1 C.2.1 dX5_readSum_11 (by decide) (fun q3 => ?_) (fun q3 => ?_)
  · replace h := (if_pos q3).symm.trans h
    exact hX _ (Option.some.inj h).symm _ _ _ (lv_sub hl [2] rfl) S
  · replace h := (if_neg q3).symm.trans h
    refine lv_aload_n C.1 C.2.1 dX5_readSum_14 rfl (lv_at hl 0 rfl) ?_
    obtain ⟨o4, e5, h⟩ := Option.bind_eq_some_iff.mp h
    refine r_vi C S hl ht0.1 cf_5 (k_X5_next ht0 e5) b_vb_RX5_70 [] rfl [] rfl rfl (Nat.le_of_ble_eq_true rfl) ⟨(by dsimp only [RM]; omega), (by dsimp only [RM]; omega)⟩ dX5_readSum_15 (fun H locs S => ?_)
    refine lv_istore (lv' := [(4, .int o4), (0, .ref (ad t0)), (1, .int v1), (2, .int z.1), (3, .int z.2.1)]) C.1 C.2.1 dX5_readSum_18 hl (by decide) rfl (fun ls hl => ?_)
    refine lv_iload C.1 C.2.1 dX5_readSum_20 (lv_at hl 0 rfl) ?_
    refine lv_bipush (v := 43) C.1 C.2.1 dX5_readSum_22 (by decide) ?_
    refine lv_icmp_eq (tgt := 37) C.1 C.2.1 dX5_readSum_24 (by decide) (fun q6 => ?_) (fun q6 => ?_)
    · replace h := (if_pos q6).symm.trans h
      exact k_X5_readSum_J37 C hS ht0 h hN hX (lv_sub hl [1, 2, 3, 4, 0] rfl) S
    · replace h := (if_neg q6).symm.trans h
      refine lv_iload C.1 C.2.1 dX5_readSum_27 (lv_at hl 0 rfl) ?_
      refine lv_bipush (v := 45) C.1 C.2.1 dX5_readSum_29 (by decide) ?_
      refine lv_icmp_eq (tgt := 37) C.1 C.2.1 dX5_readSum_31 (by decide) (fun q11 => ?_) (fun q11 => ?_)
      · replace h := (if_pos q11).symm.trans h
        exact k_X5_readSum_J37 C hS ht0 h hN hX (lv_sub hl [1, 2, 3, 4, 0] rfl) S
      · replace h := (if_neg q11).symm.trans h
        refine lv_goto (tgt := 79) C.1 C.2.1 dX5_readSum_34 (by decide) ?_
        exact hX _ (Option.some.inj h).symm _ _ _ (lv_sub hl [3] rfl) S
set_option maxHeartbeats 4000000 in
set_option maxRecDepth 100000 in
theorem k_X5_readSum_o {n : Nat} {S : Nat → Int32 → Wd → Option (Int32 × Wd)} (hS : ∀ {t : Nat} {d : Int32} {w : Wd} {rv : Int32 × Wd}, Rr t → S t d w = some rv → CI yX5_readSum cX5_readSum 6 .int (16 * n + 20) (400 * n + 600) (fun ad => [.ref (ad t), .int d]) w rv.1 rv.2) {t0 : Nat} {v1 : Int32} (ht0 : Rr t0) {w : Wd} {rv : Int32 × Wd} (h : f_X5_readSum_o S t0 v1 w = some rv) : CI yX5_readSum cX5_readSum 6 .int (16 * n + 36) (400 * n + 1000) (fun ad => [.ref (ad t0), .int v1]) w rv.1 rv.2 := by
  refine CI.of (by decide) ?_
  intro l D ad sx ca p e s m below meth c C S hr hlocks
  have hl := lv_entry ([.ref (ad t0), .int v1]) (n := 6) (Nat.le_of_ble_eq_true rfl)
  rw [lg_entry_eq]
  generalize (lg_sl ([.ref (ad t0), .int v1]) ++ List.replicate (6 - (lg_sl ([.ref (ad t0), .int v1])).length) Slot.unset).toArray = ls at hl ⊢
  have hl : lv_has ls 6 [(0, .ref (ad t0)), (1, .int v1)] := hl
  generalize ha9 : ([.ref (ad t0), .int v1] : List Value).toArray = args at C ⊢
  generalize s.heap = H at S ⊢
  generalize ([] : List Loc) = locs at S ⊢
  unfold f_X5_readSum_o at h
  refine lv_aload_n C.1 C.2.1 dX5_readSum_0 rfl (lv_at hl 0 rfl) ?_
  refine lv_iload_n C.1 C.2.1 dX5_readSum_1 rfl (lv_at hl 1 rfl) ?_
  obtain ⟨o1, e2, h⟩ := Option.bind_eq_some_iff.mp h
  refine r_vi C S hl ht0.1 cf_5 (k_X5_readProduct hS ht0 e2) b_vb_RX5_74 [.int v1] rfl [] rfl rfl (Nat.le_of_ble_eq_true rfl) ⟨(by dsimp only [RM]; omega), (by dsimp only [RM]; omega)⟩ dX5_readSum_2 (fun H locs S => ?_)
  refine lv_istore_n (lv' := [(2, .int o1.1), (0, .ref (ad t0)), (1, .int v1)]) C.1 C.2.1 dX5_readSum_5 rfl hl (by decide) rfl (fun ls hl => ?_)
  refine lv_iconst (v := 0) C.1 C.2.1 dX5_readSum_6 (by decide) ?_
  refine lv_istore_n (lv' := [(3, .int 0), (2, .int o1.1), (0, .ref (ad t0)), (1, .int v1)]) C.1 C.2.1 dX5_readSum_7 rfl hl (by decide) rfl (fun ls hl => ?_)
  obtain ⟨o12, e13, h⟩ := Option.bind_eq_some_iff.mp h
  refine k_X5_readSum_L8 C hS ht0 FU _ _ e13 (fun ls H locs hl S => ?_) ls H locs (lv_sub hl [2, 3, 1, 0] rfl) S
  refine lv_iload_n C.1 C.2.1 dX5_readSum_79 rfl (lv_at hl 0 rfl) ?_
  have h9 := Option.some.inj h
  subst h9
  exact r_iret C S hr hlocks dX5_readSum_80
theorem k_X5_readSum : ∀ {n : Nat}, ∀ {t : Nat} {d : Int32} {w : Wd} {rv : Int32 × Wd}, Rr t → f_X5_readSum n t d w = some rv → CI yX5_readSum cX5_readSum 6 .int (16 * n + 20) (400 * n + 600) (fun ad => [.ref (ad t), .int d]) w rv.1 rv.2 := by
  intro n
  induction n with
  | zero =>
    intros
    rename_i h
    cases h
  | succ n ih =>
    intro t d w rv ht h
    exact k_X5_readSum_o ih ht h
set_option maxHeartbeats 4000000 in
set_option maxRecDepth 100000 in
theorem k_X5_check {t0 : Nat} (ht0 : Rr t0) {w : Wd} {rv : Int32 × Wd} (h : f_X5_check t0 w = some rv) : CI yX5_check cX5_check 1 .int 101 2625 (fun ad => [.ref (ad t0)]) w rv.1 rv.2 := by
  refine CI.of (by decide) ?_
  intro l D ad sx ca p e s m below meth c C S hr hlocks
  have hl := lv_entry ([.ref (ad t0)]) (n := 1) (Nat.le_of_ble_eq_true rfl)
  rw [lg_entry_eq]
  generalize (lg_sl ([.ref (ad t0)]) ++ List.replicate (1 - (lg_sl ([.ref (ad t0)])).length) Slot.unset).toArray = ls at hl ⊢
  have hl : lv_has ls 1 [(0, .ref (ad t0))] := hl
  generalize ha9 : ([.ref (ad t0)] : List Value).toArray = args at C ⊢
  generalize s.heap = H at S ⊢
  generalize ([] : List Loc) = locs at S ⊢
  unfold f_X5_check at h
  refine lv_aload_n C.1 C.2.1 dX5_check_0 rfl (lv_at hl 0 rfl) ?_
  refine lv_iconst (v := 0) C.1 C.2.1 dX5_check_1 (by decide) ?_
  refine r_put C S ht0.1 cf_5 2 rfl (by decide) rfl (ni _) b_fl_RX5_19 dX5_check_2 (fun H locs S => ?_)
  obtain ⟨w1, h, S⟩ := lw_S (P := fun y => St D ad ca s y H locs) h S
  refine lv_aload_n C.1 C.2.1 dX5_check_5 rfl (lv_at hl 0 rfl) ?_
  refine lv_iconst (v := (-1)) C.1 C.2.1 dX5_check_6 (by decide) ?_
  refine r_put C S ht0.1 cf_5 3 rfl (by decide) rfl (ni _) b_fl_RX5_23 dX5_check_7 (fun H locs S => ?_)
  obtain ⟨w2, h, S⟩ := lw_S (P := fun y => St D ad ca s y H locs) h S
  refine lv_aload_n C.1 C.2.1 dX5_check_10 rfl (lv_at hl 0 rfl) ?_
  refine lv_iconst (v := 0) C.1 C.2.1 dX5_check_11 (by decide) ?_
  obtain ⟨o3, e4, h⟩ := Option.bind_eq_some_iff.mp h
  refine r_vi C S hl ht0.1 cf_5 (k_X5_readSum ht0 e4) b_vb_RX5_26 [.int 0] rfl [] rfl rfl (Nat.le_of_ble_eq_true rfl) ⟨Nat.le_of_ble_eq_true rfl, Nat.le_of_ble_eq_true rfl⟩ dX5_check_12 (fun H locs S => ?_)
  refine lv_pop C.1 C.2.1 dX5_check_15 rfl ?_
  refine lv_aload_n C.1 C.2.1 dX5_check_16 rfl (lv_at hl 0 rfl) ?_
  refine r_geti C S ht0.1 cf_5 2 rfl (by decide) b_fl_RX5_19 dX5_check_17 ?_
  refine lv_aload_n C.1 C.2.1 dX5_check_20 rfl (lv_at hl 0 rfl) ?_
  refine r_getr C S ht0.1 cf_5 0 rfl (by decide) b_fl_RX5_15 dX5_check_21 ?_
  refine r_geti C S ht0.2.1.1 cf_9 1 rfl (by decide) b_fl_RX5_30 dX5_check_24 ?_
  refine lv_icmp_ge (tgt := 34) C.1 C.2.1 dX5_check_27 (by decide) (fun q5 => ?_) (fun q5 => ?_)
  · replace h := (if_pos q5).symm.trans h
    refine lv_aload_n C.1 C.2.1 dX5_check_34 rfl (lv_at hl 0 rfl) ?_
    refine r_geti C S ht0.1 cf_5 3 rfl (by decide) b_fl_RX5_23 dX5_check_35 ?_
    have h9 := Option.some.inj h
    subst h9
    exact r_iret C S hr hlocks dX5_check_38
  · replace h := (if_neg q5).symm.trans h
    refine lv_aload_n C.1 C.2.1 dX5_check_30 rfl (lv_at hl 0 rfl) ?_
    obtain ⟨o6, e7, h⟩ := Option.bind_eq_some_iff.mp h
    refine r_vv C S hl ht0.1 cf_5 (k_X5_fail ht0 e7) b_vb_RX5_35 [] rfl [] rfl rfl (Nat.le_of_ble_eq_true rfl) ⟨Nat.le_of_ble_eq_true rfl, Nat.le_of_ble_eq_true rfl⟩ dX5_check_31 (fun H locs S => ?_)
    refine lv_aload_n C.1 C.2.1 dX5_check_34 rfl (lv_at hl 0 rfl) ?_
    refine r_geti C S ht0.1 cf_5 3 rfl (by decide) b_fl_RX5_23 dX5_check_35 ?_
    have h9 := Option.some.inj h
    subst h9
    exact r_iret C S hr hlocks dX5_check_38
set_option maxHeartbeats 4000000 in
set_option maxRecDepth 100000 in
theorem k_X9_become_L2 {p : Program} {l : Launch} {e : Env} {s : State} {m : MethodId} {args : Array Value} {below : List Frame} {meth : Method} {c : Code} {D : va_G} {ad sx : Nat → Nat} {ca : Nat → ClassId} (C : Cx D ad sx ca p s m c args RX9 cX9_become 3) {Q : State → Prop} {t0 : Nat} {t1 : Nat} (ht0 : Tx t0) (ht1 : Tx t1) : ∀ (n9 : Nat) (z : Int32 × Wd) (o : Int32 × Wd), lp (f_X9_become_L2 t0 t1) n9 z = some o → (∀ (ls : Array Slot) (H : Heap) (locs : List Loc), lv_has ls 3 [(0, .ref (ad t0)), (1, .ref (ad t1))] → St D ad ca s o.2 H locs → W p l e (RM 0 0) s m args below meth c H locs 0 0 Q (F0 m 28 ls [])) → (∀ (ls : Array Slot) (H : Heap) (locs : List Loc), lv_has ls 3 [(0, .ref (ad t0)), (1, .ref (ad t1)), (2, .int z.1)] → St D ad ca s z.2 H locs → W p l e (RM 0 0) s m args below meth c H locs 0 0 Q (F0 m 2 ls [])) := by
  refine lp_W (HW := fun (z : Int32 × Wd) => ∀ (ls : Array Slot) (H : Heap) (locs : List Loc), lv_has ls 3 [(0, .ref (ad t0)), (1, .ref (ad t1)), (2, .int z.1)] → St D ad ca s z.2 H locs → W p l e (RM 0 0) s m args below meth c H locs 0 0 Q (F0 m 2 ls [])) (XW := fun (o : Int32 × Wd) => ∀ (ls : Array Slot) (H : Heap) (locs : List Loc), lv_has ls 3 [(0, .ref (ad t0)), (1, .ref (ad t1))] → St D ad ca s o.2 H locs → W p l e (RM 0 0) s m args below meth c H locs 0 0 Q (F0 m 28 ls [])) ?_
  intro z x h hN hX ls H locs hl S
  unfold f_X9_become_L2 at h
  refine lv_iload_n C.1 C.2.1 dX9_become_2 rfl (lv_at hl 2 rfl) ?_
  refine lv_aload_n C.1 C.2.1 dX9_become_3 rfl (lv_at hl 1 rfl) ?_
  refine r_geti C S ht1.1 cf_9 1 rfl (by decide) b_fl_RX9_15 dX9_become_4 ?_
  refine lv_icmp_ge (tgt := 28) C.1 C.2.1 dX9_become_7 (by decide) (fun q1 => ?_) (fun q1 => ?_)
  · replace h := (if_pos q1).symm.trans h
    exact hX _ (Option.some.inj h).symm _ _ _ (lv_sub hl [0, 1] rfl) S
  · replace h := (if_neg q1).symm.trans h
    refine lv_aload_n C.1 C.2.1 dX9_become_10 rfl (lv_at hl 0 rfl) ?_
    refine r_getr C S ht0.1 cf_9 0 rfl (by decide) b_fl_RX9_9 dX9_become_11 ?_
    refine lv_iload_n C.1 C.2.1 dX9_become_14 rfl (lv_at hl 2 rfl) ?_
    refine lv_aload_n C.1 C.2.1 dX9_become_15 rfl (lv_at hl 1 rfl) ?_
    refine r_getr C S ht1.1 cf_9 0 rfl (by decide) b_fl_RX9_9 dX9_become_16 ?_
    refine lv_iload_n C.1 C.2.1 dX9_become_19 rfl (lv_at hl 2 rfl) ?_
    obtain ⟨g2, h⟩ := gd_some h
    refine r_iald C S ht1.2 g2 dX9_become_20 ?_
    obtain ⟨g3, h⟩ := gd_some h
    refine r_iast C S ht0.2 g3 dX9_become_21 (fun H locs S => ?_)
    obtain ⟨w4, h, S⟩ := lw_S (P := fun y => St D ad ca s y H locs) h S
    refine lv_iinc (v := z.1 + 1) (lv' := [(2, .int (z.1 + 1)), (0, .ref (ad t0)), (1, .ref (ad t1))]) C.1 C.2.1 dX9_become_22 hl (k := 2) rfl rfl (by decide) rfl (fun ls hl => ?_)
    refine lv_goto (tgt := 2) C.1 C.2.1 dX9_become_25 (by decide) ?_
    exact hN _ (Option.some.inj h).symm _ _ _ (lv_sub hl [1, 2, 0] rfl) S
set_option maxHeartbeats 4000000 in
set_option maxRecDepth 100000 in
theorem k_X9_become {t0 : Nat} {t1 : Nat} (ht0 : Tx t0) (ht1 : Tx t1) {w : Wd} {rv : Wd} (h : f_X9_become t0 t1 w = some rv) : CV yX9_become cX9_become 3 0 0 (fun ad => [.ref (ad t0), .ref (ad t1)]) w rv := by
  refine CV.of (by decide) ?_
  intro l D ad sx ca p e s m below meth c C S hr hlocks
  have hl := lv_entry ([.ref (ad t0), .ref (ad t1)]) (n := 3) (Nat.le_of_ble_eq_true rfl)
  rw [lg_entry_eq]
  generalize (lg_sl ([.ref (ad t0), .ref (ad t1)]) ++ List.replicate (3 - (lg_sl ([.ref (ad t0), .ref (ad t1)])).length) Slot.unset).toArray = ls at hl ⊢
  have hl : lv_has ls 3 [(0, .ref (ad t0)), (1, .ref (ad t1))] := hl
  generalize ha9 : ([.ref (ad t0), .ref (ad t1)] : List Value).toArray = args at C ⊢
  generalize s.heap = H at S ⊢
  generalize ([] : List Loc) = locs at S ⊢
  unfold f_X9_become at h
  refine lv_iconst (v := 0) C.1 C.2.1 dX9_become_0 (by decide) ?_
  refine lv_istore_n (lv' := [(2, .int 0), (0, .ref (ad t0)), (1, .ref (ad t1))]) C.1 C.2.1 dX9_become_1 rfl hl (by decide) rfl (fun ls hl => ?_)
  obtain ⟨o5, e6, h⟩ := Option.bind_eq_some_iff.mp h
  refine k_X9_become_L2 C ht0 ht1 FU _ _ e6 (fun ls H locs hl S => ?_) ls H locs (lv_sub hl [1, 2, 0] rfl) S
  refine lv_aload_n C.1 C.2.1 dX9_become_28 rfl (lv_at hl 0 rfl) ?_
  refine lv_aload_n C.1 C.2.1 dX9_become_29 rfl (lv_at hl 1 rfl) ?_
  refine r_geti C S ht1.1 cf_9 1 rfl (by decide) b_fl_RX9_15 dX9_become_30 ?_
  refine r_put C S ht0.1 cf_9 1 rfl (by decide) rfl (ni _) b_fl_RX9_15 dX9_become_33 (fun H locs S => ?_)
  obtain ⟨w7, h, S⟩ := lw_S (P := fun y => St D ad ca s y H locs) h S
  have h9 := Option.some.inj h
  subst h9
  exact r_vret C S hr hlocks dX9_become_36
set_option maxHeartbeats 4000000 in
set_option maxRecDepth 100000 in
theorem k_X10_rule   {w : Wd} {rv : Int32 × Wd} (h : f_X10_rule w = some rv) : CI yX10_rule cX10_rule 2 .int 102 2645 (fun ad => [.ref (ad 0)]) w rv.1 rv.2 := by
  refine CI.of (by decide) ?_
  intro l D ad sx ca p e s m below meth c C S hr hlocks
  have hl := lv_entry ([.ref (ad 0)]) (n := 2) (Nat.le_of_ble_eq_true rfl)
  rw [lg_entry_eq]
  generalize (lg_sl ([.ref (ad 0)]) ++ List.replicate (2 - (lg_sl ([.ref (ad 0)])).length) Slot.unset).toArray = ls at hl ⊢
  have hl : lv_has ls 2 [(0, .ref (ad 0))] := hl
  generalize ha9 : ([.ref (ad 0)] : List Value).toArray = args at C ⊢
  generalize s.heap = H at S ⊢
  generalize ([] : List Loc) = locs at S ⊢
  unfold f_X10_rule at h
  refine lv_aload_n C.1 C.2.1 dX10_rule_0 rfl (lv_at hl 0 rfl) ?_
  refine r_getr C S o_0 cf_10 8 rfl (by decide) b_fl_RX10_53 dX10_rule_1 ?_
  obtain ⟨o1, e2, h⟩ := Option.bind_eq_some_iff.mp h
  refine r_vi C S hl o_11 cf_5 (k_X5_check pRr_11 e2) b_vb_RX10_200 [] rfl [] rfl rfl (Nat.le_of_ble_eq_true rfl) ⟨Nat.le_of_ble_eq_true rfl, Nat.le_of_ble_eq_true rfl⟩ dX10_rule_4 (fun H locs S => ?_)
  refine lv_istore_n (lv' := [(1, .int o1.1), (0, .ref (ad 0))]) C.1 C.2.1 dX10_rule_7 rfl hl (by decide) rfl (fun ls hl => ?_)
  refine lv_iload_n C.1 C.2.1 dX10_rule_8 rfl (lv_at hl 0 rfl) ?_
  refine lv_if_lt (tgt := 16) C.1 C.2.1 dX10_rule_9 (by decide) (fun q3 => ?_) (fun q3 => ?_)
  · replace h := (if_pos q3).symm.trans h
    refine lv_aload_n C.1 C.2.1 dX10_rule_16 rfl (lv_at hl 1 rfl) ?_
    refine r_getr C S o_0 cf_10 5 rfl (by decide) b_fl_RX10_37 dX10_rule_17 ?_
    refine lv_aload_n C.1 C.2.1 dX10_rule_20 rfl (lv_at hl 1 rfl) ?_
    refine r_getr C S o_0 cf_10 6 rfl (by decide) b_fl_RX10_41 dX10_rule_21 ?_
    obtain ⟨o4, e5, h⟩ := Option.bind_eq_some_iff.mp h
    refine r_vv C S hl o_5 cf_9 (k_X9_become pTx_5 pTx_7 e5) b_vb_RX10_204 [.ref (ad 7)] rfl [] rfl rfl (Nat.le_of_ble_eq_true rfl) ⟨Nat.le_of_ble_eq_true rfl, Nat.le_of_ble_eq_true rfl⟩ dX10_rule_24 (fun H locs S => ?_)
    refine lv_aload_n C.1 C.2.1 dX10_rule_27 rfl (lv_at hl 1 rfl) ?_
    refine r_getr C S o_0 cf_10 6 rfl (by decide) b_fl_RX10_41 dX10_rule_28 ?_
    refine lv_iconst (v := 0) C.1 C.2.1 dX10_rule_31 (by decide) ?_
    refine r_put C S o_7 cf_9 1 rfl (by decide) rfl (ni _) b_fl_RX10_195 dX10_rule_32 (fun H locs S => ?_)
    obtain ⟨w6, h, S⟩ := lw_S (P := fun y => St D ad ca s y H locs) h S
    refine lv_iconst (v := 0) C.1 C.2.1 dX10_rule_35 (by decide) ?_
    have h9 := Option.some.inj h
    subst h9
    exact r_iret C S hr hlocks dX10_rule_36
  · replace h := (if_neg q3).symm.trans h
    refine lv_iconst (v := (-1)) C.1 C.2.1 dX10_rule_12 (by decide) ?_
    refine lv_iload_n C.1 C.2.1 dX10_rule_13 rfl (lv_at hl 0 rfl) ?_
    refine lv_isub C.1 C.2.1 dX10_rule_14 ?_
    have h9 := Option.some.inj h
    subst h9
    exact r_iret C S hr hlocks dX10_rule_15
set_option maxHeartbeats 4000000 in
set_option maxRecDepth 100000 in
theorem k_X10_isRuled   {w : Wd} {rv : Int32} (h : f_X10_isRuled w = some rv) : CI yX10_isRuled cX10_isRuled 1 .boolean 0 0 (fun ad => [.ref (ad 0)]) w rv w := by
  refine CI.of (by decide) ?_
  intro l D ad sx ca p e s m below meth c C S hr hlocks
  have hl := lv_entry ([.ref (ad 0)]) (n := 1) (Nat.le_of_ble_eq_true rfl)
  rw [lg_entry_eq]
  generalize (lg_sl ([.ref (ad 0)]) ++ List.replicate (1 - (lg_sl ([.ref (ad 0)])).length) Slot.unset).toArray = ls at hl ⊢
  have hl : lv_has ls 1 [(0, .ref (ad 0))] := hl
  generalize ha9 : ([.ref (ad 0)] : List Value).toArray = args at C ⊢
  generalize s.heap = H at S ⊢
  generalize ([] : List Loc) = locs at S ⊢
  unfold f_X10_isRuled at h
  refine lv_aload_n C.1 C.2.1 dX10_isRuled_0 rfl (lv_at hl 0 rfl) ?_
  refine r_getr C S o_0 cf_10 5 rfl (by decide) b_fl_RX10_37 dX10_isRuled_1 ?_
  refine r_geti C S o_5 cf_9 1 rfl (by decide) b_fl_RX10_195 dX10_isRuled_4 ?_
  refine lv_if_le (tgt := 14) C.1 C.2.1 dX10_isRuled_7 (by decide) (fun q1 => ?_) (fun q1 => ?_)
  · replace h := (if_pos q1).symm.trans h
    refine lv_iconst (v := 0) C.1 C.2.1 dX10_isRuled_14 (by decide) ?_
    have h9 := Option.some.inj h
    subst h9
    exact r_zret C S hr hlocks (Or.inl rfl) dX10_isRuled_15
  · replace h := (if_neg q1).symm.trans h
    refine lv_iconst (v := 1) C.1 C.2.1 dX10_isRuled_10 (by decide) ?_
    refine lv_goto (tgt := 15) C.1 C.2.1 dX10_isRuled_11 (by decide) ?_
    have h9 := Option.some.inj h
    subst h9
    exact r_zret C S hr hlocks (Or.inr rfl) dX10_isRuled_15
set_option maxHeartbeats 4000000 in
set_option maxRecDepth 100000 in
theorem k_X10_plain   {w : Wd} {rv : Int32 × Wd} (h : f_X10_plain w = some rv) : CI yX10_plain cX10_plain 2 .int 1 20 (fun ad => [.ref (ad 0)]) w rv.1 rv.2 := by
  refine CI.of (by decide) ?_
  intro l D ad sx ca p e s m below meth c C S hr hlocks
  have hl := lv_entry ([.ref (ad 0)]) (n := 2) (Nat.le_of_ble_eq_true rfl)
  rw [lg_entry_eq]
  generalize (lg_sl ([.ref (ad 0)]) ++ List.replicate (2 - (lg_sl ([.ref (ad 0)])).length) Slot.unset).toArray = ls at hl ⊢
  have hl : lv_has ls 2 [(0, .ref (ad 0))] := hl
  generalize ha9 : ([.ref (ad 0)] : List Value).toArray = args at C ⊢
  generalize s.heap = H at S ⊢
  generalize ([] : List Loc) = locs at S ⊢
  unfold f_X10_plain at h
  refine lv_aload_n C.1 C.2.1 dX10_plain_0 rfl (lv_at hl 0 rfl) ?_
  obtain ⟨o1, e2, h⟩ := Option.bind_eq_some_iff.mp h
  refine r_vi C S hl o_0 cf_10 (k_X10_isRuled e2) b_vb_RX10_207 [] rfl [] rfl rfl (Nat.le_of_ble_eq_true rfl) ⟨Nat.le_of_ble_eq_true rfl, Nat.le_of_ble_eq_true rfl⟩ dX10_plain_1 (fun H locs S => ?_)
  obtain ⟨o3, e4, h⟩ := Option.bind_eq_some_iff.mp h
  refine r_si C S hl (k_X10_bit e4) b_sb_RX10_138 [.int o1] rfl [] rfl rfl (Nat.le_of_ble_eq_true rfl) ⟨Nat.le_of_ble_eq_true rfl, Nat.le_of_ble_eq_true rfl⟩ dX10_plain_4 (fun H locs S => ?_)
  refine lv_istore_n (lv' := [(1, .int o3), (0, .ref (ad 0))]) C.1 C.2.1 dX10_plain_7 rfl hl (by decide) rfl (fun ls hl => ?_)
  refine lv_aload_n C.1 C.2.1 dX10_plain_8 rfl (lv_at hl 1 rfl) ?_
  refine r_getr C S o_0 cf_10 5 rfl (by decide) b_fl_RX10_37 dX10_plain_9 ?_
  refine lv_iconst (v := 0) C.1 C.2.1 dX10_plain_12 (by decide) ?_
  refine r_put C S o_5 cf_9 1 rfl (by decide) rfl (ni _) b_fl_RX10_195 dX10_plain_13 (fun H locs S => ?_)
  obtain ⟨w5, h, S⟩ := lw_S (P := fun y => St D ad ca s y H locs) h S
  refine lv_iload_n C.1 C.2.1 dX10_plain_16 rfl (lv_at hl 0 rfl) ?_
  have h9 := Option.some.inj h
  subst h9
  exact r_iret C S hr hlocks dX10_plain_17

set_option maxHeartbeats 4000000 in
set_option maxRecDepth 100000 in
theorem k_X3_tell_L16 {p : Program} {l : Launch} {e : Env} {s : State} {m : MethodId} {args : Array Value} {below : List Frame} {meth : Method} {c : Code} {D : va_G} {ad sx : Nat → Nat} {ca : Nat → ClassId} (C : Cx D ad sx ca p s m c args RX3 cX3_tell 8) {Q : State → Prop} {w : Wd} {v1 : Int32}  : ∀ (n9 : Nat) (z : Int32 × Int32 × Int32 × Int32 × Int32 × Int32) (o : Int32 × Int32 × Int32 × Int32 × Int32 × Int32), lp (f_X3_tell_L16 v1 w) n9 z = some o → (∀ (ls : Array Slot) (H : Heap) (locs : List Loc), lv_has ls 8 [(1, .int v1), (2, .int o.1), (3, .int o.2.1), (4, .int o.2.2.1), (5, .int o.2.2.2.1), (6, .int o.2.2.2.2.1)] → St D ad ca s w H locs → W p l e (RM 1 21) s m args below meth c H locs 0 0 Q (F0 m 109 ls [])) → (∀ (ls : Array Slot) (H : Heap) (locs : List Loc), lv_has ls 8 [(0, .ref (ad 14)), (1, .int v1), (2, .int z.1), (3, .int z.2.1), (4, .int z.2.2.1), (5, .int z.2.2.2.1), (6, .int z.2.2.2.2.1), (7, .int z.2.2.2.2.2)] → St D ad ca s w H locs → W p l e (RM 1 21) s m args below meth c H locs 0 0 Q (F0 m 16 ls [])) := by
  refine lp_W (HW := fun (z : Int32 × Int32 × Int32 × Int32 × Int32 × Int32) => ∀ (ls : Array Slot) (H : Heap) (locs : List Loc), lv_has ls 8 [(0, .ref (ad 14)), (1, .int v1), (2, .int z.1), (3, .int z.2.1), (4, .int z.2.2.1), (5, .int z.2.2.2.1), (6, .int z.2.2.2.2.1), (7, .int z.2.2.2.2.2)] → St D ad ca s w H locs → W p l e (RM 1 21) s m args below meth c H locs 0 0 Q (F0 m 16 ls [])) (XW := fun (o : Int32 × Int32 × Int32 × Int32 × Int32 × Int32) => ∀ (ls : Array Slot) (H : Heap) (locs : List Loc), lv_has ls 8 [(1, .int v1), (2, .int o.1), (3, .int o.2.1), (4, .int o.2.2.1), (5, .int o.2.2.2.1), (6, .int o.2.2.2.2.1)] → St D ad ca s w H locs → W p l e (RM 1 21) s m args below meth c H locs 0 0 Q (F0 m 109 ls [])) ?_
  intro z x h hN hX ls H locs hl S
  unfold f_X3_tell_L16 at h
  refine lv_iload C.1 C.2.1 dX3_tell_16 (lv_at hl 7 rfl) ?_
  refine lv_aload_n C.1 C.2.1 dX3_tell_18 rfl (lv_at hl 0 rfl) ?_
  refine r_getr C S o_14 cf_3 0 rfl (by decide) b_fl_RX3_15 dX3_tell_19 ?_
  refine r_geti C S o_3 cf_0 1 rfl (by decide) b_fl_RX3_46 dX3_tell_22 ?_
  refine lv_icmp_ge (tgt := 109) C.1 C.2.1 dX3_tell_25 (by decide) (fun q1 => ?_) (fun q1 => ?_)
  · replace h := (if_pos q1).symm.trans h
    exact hX _ (Option.some.inj h).symm _ _ _ (lv_sub hl [1, 2, 3, 4, 5, 6] rfl) S
  · replace h := (if_neg q1).symm.trans h
    refine lv_aload_n C.1 C.2.1 dX3_tell_28 rfl (lv_at hl 0 rfl) ?_
    refine r_getr C S o_14 cf_3 2 rfl (by decide) b_fl_RX3_9 dX3_tell_29 ?_
    refine lv_iload C.1 C.2.1 dX3_tell_32 (lv_at hl 7 rfl) ?_
    obtain ⟨g2, h⟩ := gd_some h
    refine r_iald C S a_68 g2 dX3_tell_34 ?_
    refine lv_if_lt (tgt := 103) C.1 C.2.1 dX3_tell_35 (by decide) (fun q3 => ?_) (fun q3 => ?_)
    · replace h := (if_pos q3).symm.trans h
      refine lv_iinc (v := z.2.2.2.2.2 + 1) (lv' := [(7, .int (z.2.2.2.2.2 + 1)), (0, .ref (ad 14)), (1, .int v1), (2, .int z.1), (3, .int z.2.1), (4, .int z.2.2.1), (5, .int z.2.2.2.1), (6, .int z.2.2.2.2.1)]) C.1 C.2.1 dX3_tell_103 hl (k := 7) rfl rfl (by decide) rfl (fun ls hl => ?_)
      refine lv_goto (tgt := 16) C.1 C.2.1 dX3_tell_106 (by decide) ?_
      exact hN _ (Option.some.inj h).symm _ _ _ (lv_sub hl [1, 2, 3, 4, 5, 6, 7, 0] rfl) S
    · replace h := (if_neg q3).symm.trans h
      refine lv_iinc (v := z.1 + 1) (lv' := [(2, .int (z.1 + 1)), (0, .ref (ad 14)), (1, .int v1), (3, .int z.2.1), (4, .int z.2.2.1), (5, .int z.2.2.2.1), (6, .int z.2.2.2.2.1), (7, .int z.2.2.2.2.2)]) C.1 C.2.1 dX3_tell_38 hl (k := 2) rfl rfl (by decide) rfl (fun ls hl => ?_)
      refine lv_iload_n C.1 C.2.1 dX3_tell_41 rfl (lv_at hl 3 rfl) ?_
      refine lv_iconst (v := 1) C.1 C.2.1 dX3_tell_42 (by decide) ?_
      refine lv_iload C.1 C.2.1 dX3_tell_43 (lv_at hl 7 rfl) ?_
      refine lv_ishl C.1 C.2.1 dX3_tell_45 ?_
      refine lv_ior C.1 C.2.1 dX3_tell_46 ?_
      refine lv_istore_n (lv' := [(3, .int (z.2.1 ||| (1 <<< (z.2.2.2.2.2 &&& 31)))), (2, .int (z.1 + 1)), (0, .ref (ad 14)), (1, .int v1), (4, .int z.2.2.1), (5, .int z.2.2.2.1), (6, .int z.2.2.2.2.1), (7, .int z.2.2.2.2.2)]) C.1 C.2.1 dX3_tell_47 rfl hl (by decide) rfl (fun ls hl => ?_)
      refine lv_iload C.1 C.2.1 dX3_tell_48 (lv_at hl 4 rfl) ?_
      refine lv_aload_n C.1 C.2.1 dX3_tell_50 rfl (lv_at hl 2 rfl) ?_
      refine r_getr C S o_14 cf_3 2 rfl (by decide) b_fl_RX3_9 dX3_tell_51 ?_
      refine lv_iload C.1 C.2.1 dX3_tell_54 (lv_at hl 7 rfl) ?_
      obtain ⟨g4, h⟩ := gd_some h
      refine r_iald C S a_68 g4 dX3_tell_56 ?_
      refine lv_aload_n C.1 C.2.1 dX3_tell_57 rfl (lv_at hl 2 rfl) ?_
      refine r_getr C S o_14 cf_3 0 rfl (by decide) b_fl_RX3_15 dX3_tell_58 ?_
      refine r_getr C S o_3 cf_0 0 rfl (by decide) b_fl_RX3_51 dX3_tell_61 ?_
      refine lv_iload C.1 C.2.1 dX3_tell_64 (lv_at hl 7 rfl) ?_
      obtain ⟨g5, h⟩ := gd_some h
      refine r_aald C S a_17 g5 dX3_tell_66 ?_
      refine r_geti C S (o_F1 (inB_lt g5)) cf_4 4 rfl (by decide) b_fl_RX3_69 dX3_tell_67 ?_
      refine lv_isub C.1 C.2.1 dX3_tell_70 ?_
      refine r_mabs C hl b_ma_RX3_87 dX3_tell_71 (by decide) (Nat.le_of_ble_eq_true rfl) ?_
      refine lv_iadd C.1 C.2.1 dX3_tell_74 ?_
      refine lv_istore (lv' := [(4, .int (z.2.2.1 + (if 0 ≤ ((w.1 68 z.2.2.2.2.2.toNatClampNeg) - (w.1 (35 + z.2.2.2.2.2.toNatClampNeg) 4)) then ((w.1 68 z.2.2.2.2.2.toNatClampNeg) - (w.1 (35 + z.2.2.2.2.2.toNatClampNeg) 4)) else 0 - ((w.1 68 z.2.2.2.2.2.toNatClampNeg) - (w.1 (35 + z.2.2.2.2.2.toNatClampNeg) 4))))), (3, .int (z.2.1 ||| (1 <<< (z.2.2.2.2.2 &&& 31)))), (2, .int (z.1 + 1)), (0, .ref (ad 14)), (1, .int v1), (5, .int z.2.2.2.1), (6, .int z.2.2.2.2.1), (7, .int z.2.2.2.2.2)]) C.1 C.2.1 dX3_tell_75 hl (by decide) rfl (fun ls hl => ?_)
      refine lv_iload_n C.1 C.2.1 dX3_tell_77 rfl (lv_at hl 2 rfl) ?_
      refine lv_iconst (v := 1) C.1 C.2.1 dX3_tell_78 (by decide) ?_
      refine lv_icmp_ne (tgt := 94) C.1 C.2.1 dX3_tell_79 (by decide) (fun q6 => ?_) (fun q6 => ?_)
      · replace h := (if_neg q6).symm.trans h
        refine lv_aload_n C.1 C.2.1 dX3_tell_94 rfl (lv_at hl 3 rfl) ?_
        refine r_getr C S o_14 cf_3 2 rfl (by decide) b_fl_RX3_9 dX3_tell_95 ?_
        refine lv_iload C.1 C.2.1 dX3_tell_98 (lv_at hl 7 rfl) ?_
        obtain ⟨g7, h⟩ := gd_some h
        refine r_iald C S a_68 g7 dX3_tell_100 ?_
        refine lv_istore (lv' := [(6, .int (w.1 68 z.2.2.2.2.2.toNatClampNeg)), (4, .int (z.2.2.1 + (if 0 ≤ ((w.1 68 z.2.2.2.2.2.toNatClampNeg) - (w.1 (35 + z.2.2.2.2.2.toNatClampNeg) 4)) then ((w.1 68 z.2.2.2.2.2.toNatClampNeg) - (w.1 (35 + z.2.2.2.2.2.toNatClampNeg) 4)) else 0 - ((w.1 68 z.2.2.2.2.2.toNatClampNeg) - (w.1 (35 + z.2.2.2.2.2.toNatClampNeg) 4))))), (3, .int (z.2.1 ||| (1 <<< (z.2.2.2.2.2 &&& 31)))), (2, .int (z.1 + 1)), (0, .ref (ad 14)), (1, .int v1), (5, .int z.2.2.2.1), (7, .int z.2.2.2.2.2)]) C.1 C.2.1 dX3_tell_101 hl (by decide) rfl (fun ls hl => ?_)
        refine lv_iinc (v := z.2.2.2.2.2 + 1) (lv' := [(7, .int (z.2.2.2.2.2 + 1)), (6, .int (w.1 68 z.2.2.2.2.2.toNatClampNeg)), (4, .int (z.2.2.1 + (if 0 ≤ ((w.1 68 z.2.2.2.2.2.toNatClampNeg) - (w.1 (35 + z.2.2.2.2.2.toNatClampNeg) 4)) then ((w.1 68 z.2.2.2.2.2.toNatClampNeg) - (w.1 (35 + z.2.2.2.2.2.toNatClampNeg) 4)) else 0 - ((w.1 68 z.2.2.2.2.2.toNatClampNeg) - (w.1 (35 + z.2.2.2.2.2.toNatClampNeg) 4))))), (3, .int (z.2.1 ||| (1 <<< (z.2.2.2.2.2 &&& 31)))), (2, .int (z.1 + 1)), (0, .ref (ad 14)), (1, .int v1), (5, .int z.2.2.2.1)]) C.1 C.2.1 dX3_tell_103 hl (k := 7) rfl rfl (by decide) rfl (fun ls hl => ?_)
        refine lv_goto (tgt := 16) C.1 C.2.1 dX3_tell_106 (by decide) ?_
        exact hN _ (Option.some.inj h).symm _ _ _ (lv_sub hl [5, 6, 4, 3, 2, 7, 1, 0] rfl) S
      · replace h := (if_pos q6).symm.trans h
        refine lv_aload_n C.1 C.2.1 dX3_tell_82 rfl (lv_at hl 3 rfl) ?_
        refine r_getr C S o_14 cf_3 2 rfl (by decide) b_fl_RX3_9 dX3_tell_83 ?_
        refine lv_iload C.1 C.2.1 dX3_tell_86 (lv_at hl 7 rfl) ?_
        obtain ⟨g8, h⟩ := gd_some h
        refine r_iald C S a_68 g8 dX3_tell_88 ?_
        refine lv_istore (lv' := [(5, .int (w.1 68 z.2.2.2.2.2.toNatClampNeg)), (4, .int (z.2.2.1 + (if 0 ≤ ((w.1 68 z.2.2.2.2.2.toNatClampNeg) - (w.1 (35 + z.2.2.2.2.2.toNatClampNeg) 4)) then ((w.1 68 z.2.2.2.2.2.toNatClampNeg) - (w.1 (35 + z.2.2.2.2.2.toNatClampNeg) 4)) else 0 - ((w.1 68 z.2.2.2.2.2.toNatClampNeg) - (w.1 (35 + z.2.2.2.2.2.toNatClampNeg) 4))))), (3, .int (z.2.1 ||| (1 <<< (z.2.2.2.2.2 &&& 31)))), (2, .int (z.1 + 1)), (0, .ref (ad 14)), (1, .int v1), (6, .int z.2.2.2.2.1), (7, .int z.2.2.2.2.2)]) C.1 C.2.1 dX3_tell_89 hl (by decide) rfl (fun ls hl => ?_)
        refine lv_goto (tgt := 103) C.1 C.2.1 dX3_tell_91 (by decide) ?_
        refine lv_iinc (v := z.2.2.2.2.2 + 1) (lv' := [(7, .int (z.2.2.2.2.2 + 1)), (5, .int (w.1 68 z.2.2.2.2.2.toNatClampNeg)), (4, .int (z.2.2.1 + (if 0 ≤ ((w.1 68 z.2.2.2.2.2.toNatClampNeg) - (w.1 (35 + z.2.2.2.2.2.toNatClampNeg) 4)) then ((w.1 68 z.2.2.2.2.2.toNatClampNeg) - (w.1 (35 + z.2.2.2.2.2.toNatClampNeg) 4)) else 0 - ((w.1 68 z.2.2.2.2.2.toNatClampNeg) - (w.1 (35 + z.2.2.2.2.2.toNatClampNeg) 4))))), (3, .int (z.2.1 ||| (1 <<< (z.2.2.2.2.2 &&& 31)))), (2, .int (z.1 + 1)), (0, .ref (ad 14)), (1, .int v1), (6, .int z.2.2.2.2.1)]) C.1 C.2.1 dX3_tell_103 hl (k := 7) rfl rfl (by decide) rfl (fun ls hl => ?_)
        refine lv_goto (tgt := 16) C.1 C.2.1 dX3_tell_106 (by decide) ?_
        exact hN _ (Option.some.inj h).symm _ _ _ (lv_sub hl [5, 6, 4, 3, 2, 1, 7, 0] rfl) S
set_option maxHeartbeats 4000000 in
set_option maxRecDepth 100000 in
theorem k_X3_tell {v1 : Int32}  {w : Wd} {rv : Int32} (h : f_X3_tell v1 w = some rv) : CI yX3_tell cX3_tell 8 .int 1 21 (fun ad => [.ref (ad 14), .int v1]) w rv w := by
  refine CI.of (by decide) ?_
  intro l D ad sx ca p e s m below meth c C S hr hlocks
  have hl := lv_entry ([.ref (ad 14), .int v1]) (n := 8) (Nat.le_of_ble_eq_true rfl)
  rw [lg_entry_eq]
  generalize (lg_sl ([.ref (ad 14), .int v1]) ++ List.replicate (8 - (lg_sl ([.ref (ad 14), .int v1])).length) Slot.unset).toArray = ls at hl ⊢
  have hl : lv_has ls 8 [(0, .ref (ad 14)), (1, .int v1)] := hl
  generalize ha9 : ([.ref (ad 14), .int v1] : List Value).toArray = args at C ⊢
  generalize s.heap = H at S ⊢
  generalize ([] : List Loc) = locs at S ⊢
  unfold f_X3_tell at h
  refine lv_iconst (v := 0) C.1 C.2.1 dX3_tell_0 (by decide) ?_
  refine lv_istore_n (lv' := [(2, .int 0), (0, .ref (ad 14)), (1, .int v1)]) C.1 C.2.1 dX3_tell_1 rfl hl (by decide) rfl (fun ls hl => ?_)
  refine lv_iconst (v := 0) C.1 C.2.1 dX3_tell_2 (by decide) ?_
  refine lv_istore_n (lv' := [(3, .int 0), (2, .int 0), (0, .ref (ad 14)), (1, .int v1)]) C.1 C.2.1 dX3_tell_3 rfl hl (by decide) rfl (fun ls hl => ?_)
  refine lv_iconst (v := 0) C.1 C.2.1 dX3_tell_4 (by decide) ?_
  refine lv_istore (lv' := [(4, .int 0), (3, .int 0), (2, .int 0), (0, .ref (ad 14)), (1, .int v1)]) C.1 C.2.1 dX3_tell_5 hl (by decide) rfl (fun ls hl => ?_)
  refine lv_iconst (v := (-1)) C.1 C.2.1 dX3_tell_7 (by decide) ?_
  refine lv_istore (lv' := [(5, .int (-1)), (4, .int 0), (3, .int 0), (2, .int 0), (0, .ref (ad 14)), (1, .int v1)]) C.1 C.2.1 dX3_tell_8 hl (by decide) rfl (fun ls hl => ?_)
  refine lv_iconst (v := (-1)) C.1 C.2.1 dX3_tell_10 (by decide) ?_
  refine lv_istore (lv' := [(6, .int (-1)), (5, .int (-1)), (4, .int 0), (3, .int 0), (2, .int 0), (0, .ref (ad 14)), (1, .int v1)]) C.1 C.2.1 dX3_tell_11 hl (by decide) rfl (fun ls hl => ?_)
  refine lv_iconst (v := 0) C.1 C.2.1 dX3_tell_13 (by decide) ?_
  refine lv_istore (lv' := [(7, .int 0), (6, .int (-1)), (5, .int (-1)), (4, .int 0), (3, .int 0), (2, .int 0), (0, .ref (ad 14)), (1, .int v1)]) C.1 C.2.1 dX3_tell_14 hl (by decide) rfl (fun ls hl => ?_)
  obtain ⟨o9, e10, h⟩ := Option.bind_eq_some_iff.mp h
  refine k_X3_tell_L16 C  FU _ _ e10 (fun ls H locs hl S => ?_) ls H locs (lv_sub hl [6, 7, 5, 4, 3, 2, 1, 0] rfl) S
  refine lv_iload_n C.1 C.2.1 dX3_tell_109 rfl (lv_at hl 0 rfl) ?_
  by_cases q11 : v1 = 0
  · replace h := (if_pos q11).symm.trans h
    refine lv_tableIn (off := 30) (tgt := 140) C.1 C.2.1 dX3_tell_110 (by rw [q11]; decide) (by rw [q11]; decide) (by rw [q11]; rfl) (by decide) ?_
    refine lv_iload_n C.1 C.2.1 dX3_tell_140 rfl (lv_at hl 1 rfl) ?_
    have h9 := Option.some.inj h
    subst h9
    exact r_iret C S hr hlocks dX3_tell_141
  · replace h := (if_neg q11).symm.trans h
    by_cases q12 : v1 = 1
    · replace h := (if_pos q12).symm.trans h
      refine lv_tableIn (off := 32) (tgt := 142) C.1 C.2.1 dX3_tell_110 (by rw [q12]; decide) (by rw [q12]; decide) (by rw [q12]; rfl) (by decide) ?_
      refine lv_iload_n C.1 C.2.1 dX3_tell_142 rfl (lv_at hl 2 rfl) ?_
      have h9 := Option.some.inj h
      subst h9
      exact r_iret C S hr hlocks dX3_tell_143
    · replace h := (if_neg q12).symm.trans h
      by_cases q13 : v1 = 2
      · replace h := (if_pos q13).symm.trans h
        refine lv_tableIn (off := 34) (tgt := 144) C.1 C.2.1 dX3_tell_110 (by rw [q13]; decide) (by rw [q13]; decide) (by rw [q13]; rfl) (by decide) ?_
        refine lv_iload C.1 C.2.1 dX3_tell_144 (lv_at hl 3 rfl) ?_
        have h9 := Option.some.inj h
        subst h9
        exact r_iret C S hr hlocks dX3_tell_146
      · replace h := (if_neg q13).symm.trans h
        by_cases q14 : v1 = 3
        · replace h := (if_pos q14).symm.trans h
          refine lv_tableIn (off := 37) (tgt := 147) C.1 C.2.1 dX3_tell_110 (by rw [q14]; decide) (by rw [q14]; decide) (by rw [q14]; rfl) (by decide) ?_
          refine lv_iload C.1 C.2.1 dX3_tell_147 (lv_at hl 4 rfl) ?_
          have h9 := Option.some.inj h
          subst h9
          exact r_iret C S hr hlocks dX3_tell_149
        · replace h := (if_neg q14).symm.trans h
          have hb9 : (v1).toInt < 0 ∨ 3 < (v1).toInt := by
            have zq11 := tb_ne q11
            have zq12 := tb_ne q12
            have zq13 := tb_ne q13
            have zq14 := tb_ne q14
            rw [show ((0 : Int32)).toInt = 0 from by decide] at zq11
            rw [show ((1 : Int32)).toInt = 1 from by decide] at zq12
            rw [show ((2 : Int32)).toInt = 2 from by decide] at zq13
            rw [show ((3 : Int32)).toInt = 3 from by decide] at zq14
            omega
          refine lv_tableOut (tgt := 150) C.1 C.2.1 dX3_tell_110 hb9 (by decide) ?_
          refine lv_iload C.1 C.2.1 dX3_tell_150 (lv_at hl 5 rfl) ?_
          have h9 := Option.some.inj h
          subst h9
          exact r_iret C S hr hlocks dX3_tell_152
set_option maxHeartbeats 4000000 in
set_option maxRecDepth 100000 in
theorem k_X10_few {v1 : Int32} {v2 : Int32} {v3 : Int32}  {w : Wd} {rv : Int32 × Wd} (h : f_X10_few v1 v2 v3 w = some rv) : CI yX10_few cX10_few 4 .int 7 160 (fun ad => [.ref (ad 0), .int v1, .int v2, .int v3]) w rv.1 rv.2 := by
  refine CI.of (by decide) ?_
  intro l D ad sx ca p e s m below meth c C S hr hlocks
  have hl := lv_entry ([.ref (ad 0), .int v1, .int v2, .int v3]) (n := 4) (Nat.le_of_ble_eq_true rfl)
  rw [lg_entry_eq]
  generalize (lg_sl ([.ref (ad 0), .int v1, .int v2, .int v3]) ++ List.replicate (4 - (lg_sl ([.ref (ad 0), .int v1, .int v2, .int v3])).length) Slot.unset).toArray = ls at hl ⊢
  have hl : lv_has ls 4 [(0, .ref (ad 0)), (1, .int v1), (2, .int v2), (3, .int v3)] := hl
  generalize ha9 : ([.ref (ad 0), .int v1, .int v2, .int v3] : List Value).toArray = args at C ⊢
  generalize s.heap = H at S ⊢
  generalize ([] : List Loc) = locs at S ⊢
  unfold f_X10_few at h
  refine lv_iload_n C.1 C.2.1 dX10_few_0 rfl (lv_at hl 1 rfl) ?_
  obtain ⟨o1, e2, h⟩ := Option.bind_eq_some_iff.mp h
  refine r_si C S hl (k_X10_areBounds e2) b_sb_RX10_237 [.int v1] rfl [] rfl rfl (Nat.le_of_ble_eq_true rfl) ⟨Nat.le_of_ble_eq_true rfl, Nat.le_of_ble_eq_true rfl⟩ dX10_few_1 (fun H locs S => ?_)
  refine lv_if_eq (tgt := 26) C.1 C.2.1 dX10_few_4 (by decide) (fun q3 => ?_) (fun q3 => ?_)
  · replace h := (if_pos q3).symm.trans h
    refine lv_aload_n C.1 C.2.1 dX10_few_26 rfl (lv_at hl 0 rfl) ?_
    refine r_ldc C (-1000000001) b_cn_RX10_94 dX10_few_27 ?_
    obtain ⟨o4, e5, h⟩ := Option.bind_eq_some_iff.mp h
    refine r_vi C S hl o_0 cf_10 (k_X10_finding e5) b_vb_RX10_95 [.int (-1000000001)] rfl [] rfl rfl (Nat.le_of_ble_eq_true rfl) ⟨Nat.le_of_ble_eq_true rfl, Nat.le_of_ble_eq_true rfl⟩ dX10_few_29 (fun H locs S => ?_)
    have h9 := Option.some.inj h
    subst h9
    exact r_iret C S hr hlocks dX10_few_32
  · replace h := (if_neg q3).symm.trans h
    refine lv_iload_n C.1 C.2.1 dX10_few_7 rfl (lv_at hl 2 rfl) ?_
    refine lv_iconst (v := 1) C.1 C.2.1 dX10_few_8 (by decide) ?_
    refine lv_bipush (v := 8) C.1 C.2.1 dX10_few_9 (by decide) ?_
    obtain ⟨o6, e7, h⟩ := Option.bind_eq_some_iff.mp h
    refine r_si C S hl (k_X10_within e7) b_sb_RX10_90 [.int v2, .int 1, .int 8] rfl [] rfl rfl (Nat.le_of_ble_eq_true rfl) ⟨Nat.le_of_ble_eq_true rfl, Nat.le_of_ble_eq_true rfl⟩ dX10_few_11 (fun H locs S => ?_)
    refine lv_if_eq (tgt := 26) C.1 C.2.1 dX10_few_14 (by decide) (fun q8 => ?_) (fun q8 => ?_)
    · replace h := (if_pos q8).symm.trans h
      refine lv_aload_n C.1 C.2.1 dX10_few_26 rfl (lv_at hl 0 rfl) ?_
      refine r_ldc C (-1000000001) b_cn_RX10_94 dX10_few_27 ?_
      obtain ⟨o9, e10, h⟩ := Option.bind_eq_some_iff.mp h
      refine r_vi C S hl o_0 cf_10 (k_X10_finding e10) b_vb_RX10_95 [.int (-1000000001)] rfl [] rfl rfl (Nat.le_of_ble_eq_true rfl) ⟨Nat.le_of_ble_eq_true rfl, Nat.le_of_ble_eq_true rfl⟩ dX10_few_29 (fun H locs S => ?_)
      have h9 := Option.some.inj h
      subst h9
      exact r_iret C S hr hlocks dX10_few_32
    · replace h := (if_neg q8).symm.trans h
      refine lv_iload_n C.1 C.2.1 dX10_few_17 rfl (lv_at hl 3 rfl) ?_
      refine lv_iconst (v := 0) C.1 C.2.1 dX10_few_18 (by decide) ?_
      refine lv_iconst (v := 4) C.1 C.2.1 dX10_few_19 (by decide) ?_
      obtain ⟨o11, e12, h⟩ := Option.bind_eq_some_iff.mp h
      refine r_si C S hl (k_X10_within e12) b_sb_RX10_90 [.int v3, .int 0, .int 4] rfl [] rfl rfl (Nat.le_of_ble_eq_true rfl) ⟨Nat.le_of_ble_eq_true rfl, Nat.le_of_ble_eq_true rfl⟩ dX10_few_20 (fun H locs S => ?_)
      refine lv_if_ne (tgt := 33) C.1 C.2.1 dX10_few_23 (by decide) (fun q13 => ?_) (fun q13 => ?_)
      · replace h := (if_neg q13).symm.trans h
        refine lv_aload_n C.1 C.2.1 dX10_few_33 rfl (lv_at hl 0 rfl) ?_
        refine r_getr C S o_0 cf_10 11 rfl (by decide) b_fl_RX10_75 dX10_few_34 ?_
        refine lv_iload_n C.1 C.2.1 dX10_few_37 rfl (lv_at hl 1 rfl) ?_
        refine lv_iload_n C.1 C.2.1 dX10_few_38 rfl (lv_at hl 2 rfl) ?_
        obtain ⟨o14, e15, h⟩ := Option.bind_eq_some_iff.mp h
        refine r_vi C S hl o_14 cf_3 (k_X3_seek e15) b_vb_RX10_249 [.int v1, .int v2] rfl [] rfl rfl (Nat.le_of_ble_eq_true rfl) ⟨Nat.le_of_ble_eq_true rfl, Nat.le_of_ble_eq_true rfl⟩ dX10_few_39 (fun H locs S => ?_)
        refine lv_if_ne (tgt := 52) C.1 C.2.1 dX10_few_42 (by decide) (fun q16 => ?_) (fun q16 => ?_)
        · replace h := (if_neg q16).symm.trans h
          refine lv_aload_n C.1 C.2.1 dX10_few_52 rfl (lv_at hl 0 rfl) ?_
          refine r_getr C S o_0 cf_10 11 rfl (by decide) b_fl_RX10_75 dX10_few_53 ?_
          refine lv_iload_n C.1 C.2.1 dX10_few_56 rfl (lv_at hl 3 rfl) ?_
          obtain ⟨o17, e18, h⟩ := Option.bind_eq_some_iff.mp h
          refine r_vi C S hl o_14 cf_3 (k_X3_tell e18) b_vb_RX10_252 [.int v3] rfl [] rfl rfl (Nat.le_of_ble_eq_true rfl) ⟨Nat.le_of_ble_eq_true rfl, Nat.le_of_ble_eq_true rfl⟩ dX10_few_57 (fun H locs S => ?_)
          have h9 := Option.some.inj h
          subst h9
          exact r_iret C S hr hlocks dX10_few_60
        · replace h := (if_pos q16).symm.trans h
          refine lv_aload_n C.1 C.2.1 dX10_few_45 rfl (lv_at hl 0 rfl) ?_
          refine r_ldc C (-1000000004) b_cn_RX10_224 dX10_few_46 ?_
          obtain ⟨o19, e20, h⟩ := Option.bind_eq_some_iff.mp h
          refine r_vi C S hl o_0 cf_10 (k_X10_finding e20) b_vb_RX10_95 [.int (-1000000004)] rfl [] rfl rfl (Nat.le_of_ble_eq_true rfl) ⟨Nat.le_of_ble_eq_true rfl, Nat.le_of_ble_eq_true rfl⟩ dX10_few_48 (fun H locs S => ?_)
          have h9 := Option.some.inj h
          subst h9
          exact r_iret C S hr hlocks dX10_few_51
      · replace h := (if_pos q13).symm.trans h
        refine lv_aload_n C.1 C.2.1 dX10_few_26 rfl (lv_at hl 0 rfl) ?_
        refine r_ldc C (-1000000001) b_cn_RX10_94 dX10_few_27 ?_
        obtain ⟨o21, e22, h⟩ := Option.bind_eq_some_iff.mp h
        refine r_vi C S hl o_0 cf_10 (k_X10_finding e22) b_vb_RX10_95 [.int (-1000000001)] rfl [] rfl rfl (Nat.le_of_ble_eq_true rfl) ⟨Nat.le_of_ble_eq_true rfl, Nat.le_of_ble_eq_true rfl⟩ dX10_few_29 (fun H locs S => ?_)
        have h9 := Option.some.inj h
        subst h9
        exact r_iret C S hr hlocks dX10_few_32
set_option maxHeartbeats 4000000 in
set_option maxRecDepth 100000 in
theorem k_X10_setback {v1 : Int32} {v2 : Int32}  {w : Wd} {rv : Int32 × Wd} (h : f_X10_setback v1 v2 w = some rv) : CI yX10_setback cX10_setback 4 .int 4 91 (fun ad => [.ref (ad 0), .int v1, .int v2]) w rv.1 rv.2 := by
  refine CI.of (by decide) ?_
  intro l D ad sx ca p e s m below meth c C S hr hlocks
  have hl := lv_entry ([.ref (ad 0), .int v1, .int v2]) (n := 4) (Nat.le_of_ble_eq_true rfl)
  rw [lg_entry_eq]
  generalize (lg_sl ([.ref (ad 0), .int v1, .int v2]) ++ List.replicate (4 - (lg_sl ([.ref (ad 0), .int v1, .int v2])).length) Slot.unset).toArray = ls at hl ⊢
  have hl : lv_has ls 4 [(0, .ref (ad 0)), (1, .int v1), (2, .int v2)] := hl
  generalize ha9 : ([.ref (ad 0), .int v1, .int v2] : List Value).toArray = args at C ⊢
  generalize s.heap = H at S ⊢
  generalize ([] : List Loc) = locs at S ⊢
  unfold f_X10_setback at h
  refine lv_iload_n C.1 C.2.1 dX10_setback_0 rfl (lv_at hl 1 rfl) ?_
  refine lv_iconst (v := 0) C.1 C.2.1 dX10_setback_1 (by decide) ?_
  refine lv_sipush (v := 900) C.1 C.2.1 dX10_setback_2 (by decide) ?_
  obtain ⟨o1, e2, h⟩ := Option.bind_eq_some_iff.mp h
  refine r_si C S hl (k_X10_within e2) b_sb_RX10_90 [.int v1, .int 0, .int 900] rfl [] rfl rfl (Nat.le_of_ble_eq_true rfl) ⟨Nat.le_of_ble_eq_true rfl, Nat.le_of_ble_eq_true rfl⟩ dX10_setback_5 (fun H locs S => ?_)
  refine lv_if_eq (tgt := 21) C.1 C.2.1 dX10_setback_8 (by decide) (fun q3 => ?_) (fun q3 => ?_)
  · replace h := (if_pos q3).symm.trans h
    refine lv_aload_n C.1 C.2.1 dX10_setback_21 rfl (lv_at hl 0 rfl) ?_
    refine r_ldc C (-1000000001) b_cn_RX10_94 dX10_setback_22 ?_
    obtain ⟨o4, e5, h⟩ := Option.bind_eq_some_iff.mp h
    refine r_vi C S hl o_0 cf_10 (k_X10_finding e5) b_vb_RX10_95 [.int (-1000000001)] rfl [] rfl rfl (Nat.le_of_ble_eq_true rfl) ⟨Nat.le_of_ble_eq_true rfl, Nat.le_of_ble_eq_true rfl⟩ dX10_setback_24 (fun H locs S => ?_)
    have h9 := Option.some.inj h
    subst h9
    exact r_iret C S hr hlocks dX10_setback_27
  · replace h := (if_neg q3).symm.trans h
    refine lv_iload_n C.1 C.2.1 dX10_setback_11 rfl (lv_at hl 2 rfl) ?_
    refine lv_iconst (v := 1) C.1 C.2.1 dX10_setback_12 (by decide) ?_
    refine lv_bipush (v := 50) C.1 C.2.1 dX10_setback_13 (by decide) ?_
    obtain ⟨o6, e7, h⟩ := Option.bind_eq_some_iff.mp h
    refine r_si C S hl (k_X10_within e7) b_sb_RX10_90 [.int v2, .int 1, .int 50] rfl [] rfl rfl (Nat.le_of_ble_eq_true rfl) ⟨Nat.le_of_ble_eq_true rfl, Nat.le_of_ble_eq_true rfl⟩ dX10_setback_15 (fun H locs S => ?_)
    refine lv_if_ne (tgt := 28) C.1 C.2.1 dX10_setback_18 (by decide) (fun q8 => ?_) (fun q8 => ?_)
    · replace h := (if_neg q8).symm.trans h
      refine lv_aload_n C.1 C.2.1 dX10_setback_28 rfl (lv_at hl 0 rfl) ?_
      refine r_getr C S o_0 cf_10 10 rfl (by decide) b_fl_RX10_66 dX10_setback_29 ?_
      refine lv_aload_n C.1 C.2.1 dX10_setback_32 rfl (lv_at hl 0 rfl) ?_
      refine r_getr C S o_0 cf_10 3 rfl (by decide) b_fl_RX10_27 dX10_setback_33 ?_
      obtain ⟨o9, e10, h⟩ := Option.bind_eq_some_iff.mp h
      refine r_vv C S hl o_13 cf_2 (k_X2_begin e10) b_vb_RX10_187 [.ref (ad 3)] rfl [] rfl rfl (Nat.le_of_ble_eq_true rfl) ⟨Nat.le_of_ble_eq_true rfl, Nat.le_of_ble_eq_true rfl⟩ dX10_setback_36 (fun H locs S => ?_)
      refine lv_aload_n C.1 C.2.1 dX10_setback_39 rfl (lv_at hl 0 rfl) ?_
      refine r_getr C S o_0 cf_10 10 rfl (by decide) b_fl_RX10_66 dX10_setback_40 ?_
      refine lv_iload_n C.1 C.2.1 dX10_setback_43 rfl (lv_at hl 2 rfl) ?_
      obtain ⟨o11, e12, h⟩ := Option.bind_eq_some_iff.mp h
      refine r_vi C S hl o_13 cf_2 (k_X2_go e12) b_vb_RX10_244 [.int v2] rfl [] rfl rfl (Nat.le_of_ble_eq_true rfl) ⟨Nat.le_of_ble_eq_true rfl, Nat.le_of_ble_eq_true rfl⟩ dX10_setback_44 (fun H locs S => ?_)
      refine lv_istore_n (lv' := [(3, .int o11.1), (0, .ref (ad 0)), (1, .int v1), (2, .int v2)]) C.1 C.2.1 dX10_setback_47 rfl hl (by decide) rfl (fun ls hl => ?_)
      refine lv_aload_n C.1 C.2.1 dX10_setback_48 rfl (lv_at hl 1 rfl) ?_
      refine r_getr C S o_0 cf_10 10 rfl (by decide) b_fl_RX10_66 dX10_setback_49 ?_
      refine lv_iload_n C.1 C.2.1 dX10_setback_52 rfl (lv_at hl 2 rfl) ?_
      refine r_put C S o_13 cf_2 1 rfl (by decide) rfl (ni _) b_fl_RX10_255 dX10_setback_53 (fun H locs S => ?_)
      obtain ⟨w13, h, S⟩ := lw_S (P := fun y => St D ad ca s y H locs) h S
      refine lv_iload_n C.1 C.2.1 dX10_setback_56 rfl (lv_at hl 0 rfl) ?_
      refine lv_aload_n C.1 C.2.1 dX10_setback_57 rfl (lv_at hl 1 rfl) ?_
      refine r_getr C S o_0 cf_10 10 rfl (by decide) b_fl_RX10_66 dX10_setback_58 ?_
      refine lv_iload_n C.1 C.2.1 dX10_setback_61 rfl (lv_at hl 3 rfl) ?_
      obtain ⟨o14, e15, h⟩ := Option.bind_eq_some_iff.mp h
      refine r_vi C S hl o_13 cf_2 (k_X2_go e15) b_vb_RX10_244 [.int v2] rfl [.int o11.1] rfl rfl (Nat.le_of_ble_eq_true rfl) ⟨Nat.le_of_ble_eq_true rfl, Nat.le_of_ble_eq_true rfl⟩ dX10_setback_62 (fun H locs S => ?_)
      refine lv_isub C.1 C.2.1 dX10_setback_65 ?_
      have h9 := Option.some.inj h
      subst h9
      exact r_iret C S hr hlocks dX10_setback_66
    · replace h := (if_pos q8).symm.trans h
      refine lv_aload_n C.1 C.2.1 dX10_setback_21 rfl (lv_at hl 0 rfl) ?_
      refine r_ldc C (-1000000001) b_cn_RX10_94 dX10_setback_22 ?_
      obtain ⟨o16, e17, h⟩ := Option.bind_eq_some_iff.mp h
      refine r_vi C S hl o_0 cf_10 (k_X10_finding e17) b_vb_RX10_95 [.int (-1000000001)] rfl [] rfl rfl (Nat.le_of_ble_eq_true rfl) ⟨Nat.le_of_ble_eq_true rfl, Nat.le_of_ble_eq_true rfl⟩ dX10_setback_24 (fun H locs S => ?_)
      have h9 := Option.some.inj h
      subst h9
      exact r_iret C S hr hlocks dX10_setback_27
set_option maxHeartbeats 4000000 in
set_option maxRecDepth 100000 in
theorem k_X10_works {v1 : Int32} {v2 : Int32} {v3 : Int32}  {w : Wd} {rv : Int32 × Wd} (h : f_X10_works v1 v2 v3 w = some rv) : CI yX10_works cX10_works 5 .int 4 91 (fun ad => [.ref (ad 0), .int v1, .int v2, .int v3]) w rv.1 rv.2 := by
  refine CI.of (by decide) ?_
  intro l D ad sx ca p e s m below meth c C S hr hlocks
  have hl := lv_entry ([.ref (ad 0), .int v1, .int v2, .int v3]) (n := 5) (Nat.le_of_ble_eq_true rfl)
  rw [lg_entry_eq]
  generalize (lg_sl ([.ref (ad 0), .int v1, .int v2, .int v3]) ++ List.replicate (5 - (lg_sl ([.ref (ad 0), .int v1, .int v2, .int v3])).length) Slot.unset).toArray = ls at hl ⊢
  have hl : lv_has ls 5 [(0, .ref (ad 0)), (1, .int v1), (2, .int v2), (3, .int v3)] := hl
  generalize ha9 : ([.ref (ad 0), .int v1, .int v2, .int v3] : List Value).toArray = args at C ⊢
  generalize s.heap = H at S ⊢
  generalize ([] : List Loc) = locs at S ⊢
  unfold f_X10_works at h
  refine lv_aload_n C.1 C.2.1 dX10_works_0 rfl (lv_at hl 0 rfl) ?_
  refine r_getr C S o_0 cf_10 3 rfl (by decide) b_fl_RX10_27 dX10_works_1 ?_
  refine lv_iload_n C.1 C.2.1 dX10_works_4 rfl (lv_at hl 1 rfl) ?_
  obtain ⟨o1, e2, h⟩ := Option.bind_eq_some_iff.mp h
  refine r_vi C S hl o_3 cf_0 (k_X0_has e2) b_vb_RX10_110 [.int v1] rfl [] rfl rfl (Nat.le_of_ble_eq_true rfl) ⟨Nat.le_of_ble_eq_true rfl, Nat.le_of_ble_eq_true rfl⟩ dX10_works_5 (fun H locs S => ?_)
  refine lv_if_eq (tgt := 31) C.1 C.2.1 dX10_works_8 (by decide) (fun q3 => ?_) (fun q3 => ?_)
  · replace h := (if_pos q3).symm.trans h
    refine lv_aload_n C.1 C.2.1 dX10_works_31 rfl (lv_at hl 0 rfl) ?_
    refine r_ldc C (-1000000001) b_cn_RX10_94 dX10_works_32 ?_
    obtain ⟨o4, e5, h⟩ := Option.bind_eq_some_iff.mp h
    refine r_vi C S hl o_0 cf_10 (k_X10_finding e5) b_vb_RX10_95 [.int (-1000000001)] rfl [] rfl rfl (Nat.le_of_ble_eq_true rfl) ⟨Nat.le_of_ble_eq_true rfl, Nat.le_of_ble_eq_true rfl⟩ dX10_works_34 (fun H locs S => ?_)
    have h9 := Option.some.inj h
    subst h9
    exact r_iret C S hr hlocks dX10_works_37
  · replace h := (if_neg q3).symm.trans h
    refine lv_iload_n C.1 C.2.1 dX10_works_11 rfl (lv_at hl 2 rfl) ?_
    refine lv_iconst (v := 1) C.1 C.2.1 dX10_works_12 (by decide) ?_
    refine lv_bipush (v := 99) C.1 C.2.1 dX10_works_13 (by decide) ?_
    obtain ⟨o6, e7, h⟩ := Option.bind_eq_some_iff.mp h
    refine r_si C S hl (k_X10_within e7) b_sb_RX10_90 [.int v2, .int 1, .int 99] rfl [] rfl rfl (Nat.le_of_ble_eq_true rfl) ⟨Nat.le_of_ble_eq_true rfl, Nat.le_of_ble_eq_true rfl⟩ dX10_works_15 (fun H locs S => ?_)
    refine lv_if_eq (tgt := 31) C.1 C.2.1 dX10_works_18 (by decide) (fun q8 => ?_) (fun q8 => ?_)
    · replace h := (if_pos q8).symm.trans h
      refine lv_aload_n C.1 C.2.1 dX10_works_31 rfl (lv_at hl 0 rfl) ?_
      refine r_ldc C (-1000000001) b_cn_RX10_94 dX10_works_32 ?_
      obtain ⟨o9, e10, h⟩ := Option.bind_eq_some_iff.mp h
      refine r_vi C S hl o_0 cf_10 (k_X10_finding e10) b_vb_RX10_95 [.int (-1000000001)] rfl [] rfl rfl (Nat.le_of_ble_eq_true rfl) ⟨Nat.le_of_ble_eq_true rfl, Nat.le_of_ble_eq_true rfl⟩ dX10_works_34 (fun H locs S => ?_)
      have h9 := Option.some.inj h
      subst h9
      exact r_iret C S hr hlocks dX10_works_37
    · replace h := (if_neg q8).symm.trans h
      refine lv_iload_n C.1 C.2.1 dX10_works_21 rfl (lv_at hl 3 rfl) ?_
      refine lv_iconst (v := 1) C.1 C.2.1 dX10_works_22 (by decide) ?_
      refine lv_bipush (v := 50) C.1 C.2.1 dX10_works_23 (by decide) ?_
      obtain ⟨o11, e12, h⟩ := Option.bind_eq_some_iff.mp h
      refine r_si C S hl (k_X10_within e12) b_sb_RX10_90 [.int v3, .int 1, .int 50] rfl [] rfl rfl (Nat.le_of_ble_eq_true rfl) ⟨Nat.le_of_ble_eq_true rfl, Nat.le_of_ble_eq_true rfl⟩ dX10_works_25 (fun H locs S => ?_)
      refine lv_if_ne (tgt := 38) C.1 C.2.1 dX10_works_28 (by decide) (fun q13 => ?_) (fun q13 => ?_)
      · replace h := (if_neg q13).symm.trans h
        refine lv_aload_n C.1 C.2.1 dX10_works_38 rfl (lv_at hl 0 rfl) ?_
        refine r_getr C S o_0 cf_10 10 rfl (by decide) b_fl_RX10_66 dX10_works_39 ?_
        refine lv_aload_n C.1 C.2.1 dX10_works_42 rfl (lv_at hl 0 rfl) ?_
        refine r_getr C S o_0 cf_10 3 rfl (by decide) b_fl_RX10_27 dX10_works_43 ?_
        obtain ⟨o14, e15, h⟩ := Option.bind_eq_some_iff.mp h
        refine r_vv C S hl o_13 cf_2 (k_X2_begin e15) b_vb_RX10_187 [.ref (ad 3)] rfl [] rfl rfl (Nat.le_of_ble_eq_true rfl) ⟨Nat.le_of_ble_eq_true rfl, Nat.le_of_ble_eq_true rfl⟩ dX10_works_46 (fun H locs S => ?_)
        refine lv_aload_n C.1 C.2.1 dX10_works_49 rfl (lv_at hl 0 rfl) ?_
        refine r_getr C S o_0 cf_10 10 rfl (by decide) b_fl_RX10_66 dX10_works_50 ?_
        refine lv_iload_n C.1 C.2.1 dX10_works_53 rfl (lv_at hl 3 rfl) ?_
        obtain ⟨o16, e17, h⟩ := Option.bind_eq_some_iff.mp h
        refine r_vi C S hl o_13 cf_2 (k_X2_go e17) b_vb_RX10_244 [.int v3] rfl [] rfl rfl (Nat.le_of_ble_eq_true rfl) ⟨Nat.le_of_ble_eq_true rfl, Nat.le_of_ble_eq_true rfl⟩ dX10_works_54 (fun H locs S => ?_)
        refine lv_istore (lv' := [(4, .int o16.1), (0, .ref (ad 0)), (1, .int v1), (2, .int v2), (3, .int v3)]) C.1 C.2.1 dX10_works_57 hl (by decide) rfl (fun ls hl => ?_)
        refine lv_aload_n C.1 C.2.1 dX10_works_59 rfl (lv_at hl 1 rfl) ?_
        refine r_getr C S o_0 cf_10 10 rfl (by decide) b_fl_RX10_66 dX10_works_60 ?_
        refine r_getr C S o_13 cf_2 6 rfl (by decide) b_fl_RX10_256 dX10_works_63 ?_
        refine lv_iload_n C.1 C.2.1 dX10_works_66 rfl (lv_at hl 2 rfl) ?_
        refine lv_aload_n C.1 C.2.1 dX10_works_67 rfl (lv_at hl 1 rfl) ?_
        refine r_getr C S o_0 cf_10 3 rfl (by decide) b_fl_RX10_27 dX10_works_68 ?_
        refine r_getr C S o_3 cf_0 0 rfl (by decide) b_fl_RX10_114 dX10_works_71 ?_
        refine lv_iload_n C.1 C.2.1 dX10_works_74 rfl (lv_at hl 2 rfl) ?_
        obtain ⟨g18, h⟩ := gd_some h
        refine r_aald C S a_17 g18 dX10_works_75 ?_
        refine lv_iload_n C.1 C.2.1 dX10_works_76 rfl (lv_at hl 3 rfl) ?_
        obtain ⟨o19, e20, h⟩ := Option.bind_eq_some_iff.mp h
        refine r_vi C S hl (o_F1 (inB_lt g18)) cf_4 (k_X4_leaks (o_F1 (inB_lt g18)) e20) b_vb_RX10_148 [.int v2] rfl [.int v1, .ref (ad 61)] rfl rfl (Nat.le_of_ble_eq_true rfl) ⟨Nat.le_of_ble_eq_true rfl, Nat.le_of_ble_eq_true rfl⟩ dX10_works_77 (fun H locs S => ?_)
        obtain ⟨g21, h⟩ := gd_some h
        refine r_iast C S a_61 g21 dX10_works_80 (fun H locs S => ?_)
        obtain ⟨w22, h, S⟩ := lw_S (P := fun y => St D ad ca s y H locs) h S
        refine lv_iload C.1 C.2.1 dX10_works_81 (lv_at hl 0 rfl) ?_
        refine lv_aload_n C.1 C.2.1 dX10_works_83 rfl (lv_at hl 1 rfl) ?_
        refine r_getr C S o_0 cf_10 10 rfl (by decide) b_fl_RX10_66 dX10_works_84 ?_
        refine lv_iload_n C.1 C.2.1 dX10_works_87 rfl (lv_at hl 4 rfl) ?_
        obtain ⟨o23, e24, h⟩ := Option.bind_eq_some_iff.mp h
        refine r_vi C S hl o_13 cf_2 (k_X2_go e24) b_vb_RX10_244 [.int v3] rfl [.int o16.1] rfl rfl (Nat.le_of_ble_eq_true rfl) ⟨Nat.le_of_ble_eq_true rfl, Nat.le_of_ble_eq_true rfl⟩ dX10_works_88 (fun H locs S => ?_)
        refine lv_isub C.1 C.2.1 dX10_works_91 ?_
        have h9 := Option.some.inj h
        subst h9
        exact r_iret C S hr hlocks dX10_works_92
      · replace h := (if_pos q13).symm.trans h
        refine lv_aload_n C.1 C.2.1 dX10_works_31 rfl (lv_at hl 0 rfl) ?_
        refine r_ldc C (-1000000001) b_cn_RX10_94 dX10_works_32 ?_
        obtain ⟨o25, e26, h⟩ := Option.bind_eq_some_iff.mp h
        refine r_vi C S hl o_0 cf_10 (k_X10_finding e26) b_vb_RX10_95 [.int (-1000000001)] rfl [] rfl rfl (Nat.le_of_ble_eq_true rfl) ⟨Nat.le_of_ble_eq_true rfl, Nat.le_of_ble_eq_true rfl⟩ dX10_works_34 (fun H locs S => ?_)
        have h9 := Option.some.inj h
        subst h9
        exact r_iret C S hr hlocks dX10_works_37
set_option maxHeartbeats 4000000 in
set_option maxRecDepth 100000 in
theorem k_X1_isNear {v2 : Int32} {v3 : Int32}  {w : Wd} {rv : Int32} (h : f_X1_isNear v2 v3 w = some rv) : CI yX1_isNear cX1_isNear 4 .boolean 2 42 (fun ad => [.ref (ad 8), .ref (ad 3), .int v2, .int v3]) w rv w := by
  refine CI.of (by decide) ?_
  intro l D ad sx ca p e s m below meth c C S hr hlocks
  have hl := lv_entry ([.ref (ad 8), .ref (ad 3), .int v2, .int v3]) (n := 4) (Nat.le_of_ble_eq_true rfl)
  rw [lg_entry_eq]
  generalize (lg_sl ([.ref (ad 8), .ref (ad 3), .int v2, .int v3]) ++ List.replicate (4 - (lg_sl ([.ref (ad 8), .ref (ad 3), .int v2, .int v3])).length) Slot.unset).toArray = ls at hl ⊢
  have hl : lv_has ls 4 [(0, .ref (ad 8)), (1, .ref (ad 3)), (2, .int v2), (3, .int v3)] := hl
  generalize ha9 : ([.ref (ad 8), .ref (ad 3), .int v2, .int v3] : List Value).toArray = args at C ⊢
  generalize s.heap = H at S ⊢
  generalize ([] : List Loc) = locs at S ⊢
  unfold f_X1_isNear at h
  refine lv_aload_n C.1 C.2.1 dX1_isNear_0 rfl (lv_at hl 0 rfl) ?_
  refine r_getr C S o_8 cf_1 1 rfl (by decide) b_fl_RX1_15 dX1_isNear_1 ?_
  refine lv_iload_n C.1 C.2.1 dX1_isNear_4 rfl (lv_at hl 2 rfl) ?_
  obtain ⟨g1, h⟩ := gd_some h
  refine r_iald C S a_25 g1 dX1_isNear_5 ?_
  refine lv_aload_n C.1 C.2.1 dX1_isNear_6 rfl (lv_at hl 0 rfl) ?_
  refine r_getr C S o_8 cf_1 1 rfl (by decide) b_fl_RX1_15 dX1_isNear_7 ?_
  refine lv_iload_n C.1 C.2.1 dX1_isNear_10 rfl (lv_at hl 3 rfl) ?_
  obtain ⟨g2, h⟩ := gd_some h
  refine r_iald C S a_25 g2 dX1_isNear_11 ?_
  refine lv_icmp_ne (tgt := 35) C.1 C.2.1 dX1_isNear_12 (by decide) (fun q3 => ?_) (fun q3 => ?_)
  · replace h := (if_neg q3).symm.trans h
    refine lv_iconst (v := 0) C.1 C.2.1 dX1_isNear_35 (by decide) ?_
    have h9 := Option.some.inj h
    subst h9
    exact r_zret C S hr hlocks (Or.inl rfl) dX1_isNear_36
  · replace h := (if_pos q3).symm.trans h
    refine lv_aload_n C.1 C.2.1 dX1_isNear_15 rfl (lv_at hl 0 rfl) ?_
    refine r_getr C S o_8 cf_1 2 rfl (by decide) b_fl_RX1_18 dX1_isNear_16 ?_
    refine lv_iload_n C.1 C.2.1 dX1_isNear_19 rfl (lv_at hl 2 rfl) ?_
    obtain ⟨g4, h⟩ := gd_some h
    refine r_iald C S a_26 g4 dX1_isNear_20 ?_
    refine lv_aload_n C.1 C.2.1 dX1_isNear_21 rfl (lv_at hl 0 rfl) ?_
    refine r_getr C S o_8 cf_1 2 rfl (by decide) b_fl_RX1_18 dX1_isNear_22 ?_
    refine lv_iload_n C.1 C.2.1 dX1_isNear_25 rfl (lv_at hl 3 rfl) ?_
    obtain ⟨g5, h⟩ := gd_some h
    refine r_iald C S a_26 g5 dX1_isNear_26 ?_
    refine lv_isub C.1 C.2.1 dX1_isNear_27 ?_
    refine r_mabs C hl b_ma_RX1_41 dX1_isNear_28 (by decide) (Nat.le_of_ble_eq_true rfl) ?_
    refine lv_iconst (v := 3) C.1 C.2.1 dX1_isNear_31 (by decide) ?_
    refine lv_icmp_le (tgt := 37) C.1 C.2.1 dX1_isNear_32 (by decide) (fun q6 => ?_) (fun q6 => ?_)
    · replace h := (if_pos q6).symm.trans h
      refine lv_aload_n C.1 C.2.1 dX1_isNear_37 rfl (lv_at hl 0 rfl) ?_
      refine r_getr C S o_8 cf_1 0 rfl (by decide) b_fl_RX1_9 dX1_isNear_38 ?_
      refine lv_iload_n C.1 C.2.1 dX1_isNear_41 rfl (lv_at hl 2 rfl) ?_
      obtain ⟨g7, h⟩ := gd_some h
      refine r_iald C S a_24 g7 dX1_isNear_42 ?_
      refine lv_aload_n C.1 C.2.1 dX1_isNear_43 rfl (lv_at hl 0 rfl) ?_
      refine r_getr C S o_8 cf_1 0 rfl (by decide) b_fl_RX1_9 dX1_isNear_44 ?_
      refine lv_iload_n C.1 C.2.1 dX1_isNear_47 rfl (lv_at hl 3 rfl) ?_
      obtain ⟨g8, h⟩ := gd_some h
      refine r_iald C S a_24 g8 dX1_isNear_48 ?_
      refine lv_icmp_eq (tgt := 80) C.1 C.2.1 dX1_isNear_49 (by decide) (fun q9 => ?_) (fun q9 => ?_)
      · replace h := (if_pos q9).symm.trans h
        refine lv_iconst (v := 1) C.1 C.2.1 dX1_isNear_80 (by decide) ?_
        refine lv_goto (tgt := 85) C.1 C.2.1 dX1_isNear_81 (by decide) ?_
        have h9 := Option.some.inj h
        subst h9
        exact r_zret C S hr hlocks (Or.inr rfl) dX1_isNear_85
      · replace h := (if_neg q9).symm.trans h
        refine lv_aload_n C.1 C.2.1 dX1_isNear_52 rfl (lv_at hl 1 rfl) ?_
        refine r_getr C S o_3 cf_0 0 rfl (by decide) b_fl_RX1_47 dX1_isNear_53 ?_
        refine lv_aload_n C.1 C.2.1 dX1_isNear_56 rfl (lv_at hl 0 rfl) ?_
        refine r_getr C S o_8 cf_1 0 rfl (by decide) b_fl_RX1_9 dX1_isNear_57 ?_
        refine lv_iload_n C.1 C.2.1 dX1_isNear_60 rfl (lv_at hl 2 rfl) ?_
        obtain ⟨g10, h⟩ := gd_some h
        refine r_iald C S a_24 g10 dX1_isNear_61 ?_
        obtain ⟨g11, h⟩ := gd_some h
        refine r_aald C S a_17 g11 dX1_isNear_62 ?_
        refine lv_aload_n C.1 C.2.1 dX1_isNear_63 rfl (lv_at hl 1 rfl) ?_
        refine r_getr C S o_3 cf_0 0 rfl (by decide) b_fl_RX1_47 dX1_isNear_64 ?_
        refine lv_aload_n C.1 C.2.1 dX1_isNear_67 rfl (lv_at hl 0 rfl) ?_
        refine r_getr C S o_8 cf_1 0 rfl (by decide) b_fl_RX1_9 dX1_isNear_68 ?_
        refine lv_iload_n C.1 C.2.1 dX1_isNear_71 rfl (lv_at hl 3 rfl) ?_
        obtain ⟨g12, h⟩ := gd_some h
        refine r_iald C S a_24 g12 dX1_isNear_72 ?_
        obtain ⟨g13, h⟩ := gd_some h
        refine r_aald C S a_17 g13 dX1_isNear_73 ?_
        obtain ⟨o14, e15, h⟩ := Option.bind_eq_some_iff.mp h
        refine r_vi C S hl (o_F1 (inB_lt g11)) cf_4 (k_X4_isRightAboveOrBelow (o_F1 (inB_lt g11)) (o_F1 (inB_lt g13)) e15) b_vb_RX1_51 [.ref (ad (35 + (w.1 24 v3.toNatClampNeg).toNatClampNeg))] rfl [] rfl rfl (Nat.le_of_ble_eq_true rfl) ⟨Nat.le_of_ble_eq_true rfl, Nat.le_of_ble_eq_true rfl⟩ dX1_isNear_74 (fun H locs S => ?_)
        refine lv_if_eq (tgt := 84) C.1 C.2.1 dX1_isNear_77 (by decide) (fun q16 => ?_) (fun q16 => ?_)
        · replace h := (if_pos q16).symm.trans h
          refine lv_iconst (v := 0) C.1 C.2.1 dX1_isNear_84 (by decide) ?_
          have h9 := Option.some.inj h
          subst h9
          exact r_zret C S hr hlocks (Or.inl rfl) dX1_isNear_85
        · replace h := (if_neg q16).symm.trans h
          refine lv_iconst (v := 1) C.1 C.2.1 dX1_isNear_80 (by decide) ?_
          refine lv_goto (tgt := 85) C.1 C.2.1 dX1_isNear_81 (by decide) ?_
          have h9 := Option.some.inj h
          subst h9
          exact r_zret C S hr hlocks (Or.inr rfl) dX1_isNear_85
    · replace h := (if_neg q6).symm.trans h
      refine lv_iconst (v := 0) C.1 C.2.1 dX1_isNear_35 (by decide) ?_
      have h9 := Option.some.inj h
      subst h9
      exact r_zret C S hr hlocks (Or.inl rfl) dX1_isNear_36
set_option maxHeartbeats 4000000 in
set_option maxRecDepth 100000 in
theorem k_X1_merge_J40 {p : Program} {l : Launch} {e : Env} {s : State} {m : MethodId} {args : Array Value} {below : List Frame} {meth : Method} {c : Code} {D : va_G} {ad sx : Nat → Nat} {ca : Nat → ClassId} (C : Cx D ad sx ca p s m c args RX1 cX1_merge 5) {Q : State → Prop} {w : Wd} {v1 : Int32} {v2 : Int32} {v3 : Int32} {v4 : Int32}  {x : (Int32 × Wd) ⊕ (Int32 × Wd)} (h : f_X1_merge_J40 v1 v2 v3 v4 w = some x) (hN : ∀ z, x = .inl z → ∀ (ls : Array Slot) (H : Heap) (locs : List Loc), lv_has ls 5 [(0, .ref (ad 8)), (1, .int v1), (2, .int v2), (3, .int v3), (4, .int z.1)] → St D ad ca s z.2 H locs → W p l e (RM 1 21) s m args below meth c H locs 0 0 Q (F0 m 9 ls [])) (hX : ∀ o, x = .inr o → ∀ (ls : Array Slot) (H : Heap) (locs : List Loc), lv_has ls 5 [] → St D ad ca s o.2 H locs → W p l e (RM 1 21) s m args below meth c H locs 0 0 Q (F0 m 54 ls [])) {ls : Array Slot} {H : Heap} {locs : List Loc} (hl : lv_has ls 5 [(0, .ref (ad 8)), (1, .int v1), (2, .int v2), (3, .int v3), (4, .int v4)]) (S : St D ad ca s w H locs) : W p l e (RM 1 21) s m args below meth c H locs 0 0 Q (F0 m 40 ls []) := by
  unfold f_X1_merge_J40 at h
  refine lv_aload_n C.1 C.2.1 dX1_merge_40 rfl (lv_at hl 0 rfl) ?_
  refine r_getr C S o_8 cf_1 3 rfl (by decide) b_fl_RX1_21 dX1_merge_41 ?_
  refine lv_iload C.1 C.2.1 dX1_merge_44 (lv_at hl 4 rfl) ?_
  refine lv_iload_n C.1 C.2.1 dX1_merge_46 rfl (lv_at hl 3 rfl) ?_
  obtain ⟨g4, h⟩ := gd_some h
  refine r_iast C S a_27 g4 dX1_merge_47 (fun H locs S => ?_)
  obtain ⟨w5, h, S⟩ := lw_S (P := fun y => St D ad ca s y H locs) h S
  refine lv_iinc (v := v4 + 1) (lv' := [(4, .int (v4 + 1)), (0, .ref (ad 8)), (1, .int v1), (2, .int v2), (3, .int v3)]) C.1 C.2.1 dX1_merge_48 hl (k := 4) rfl rfl (by decide) rfl (fun ls hl => ?_)
  refine lv_goto (tgt := 9) C.1 C.2.1 dX1_merge_51 (by decide) ?_
  exact hN _ (Option.some.inj h).symm _ _ _ (lv_sub hl [1, 2, 3, 4, 0] rfl) S
set_option maxHeartbeats 4000000 in
set_option maxRecDepth 100000 in
theorem k_X1_merge_L9 {p : Program} {l : Launch} {e : Env} {s : State} {m : MethodId} {args : Array Value} {below : List Frame} {meth : Method} {c : Code} {D : va_G} {ad sx : Nat → Nat} {ca : Nat → ClassId} (C : Cx D ad sx ca p s m c args RX1 cX1_merge 5) {Q : State → Prop} {v1 : Int32} {v2 : Int32} {v3 : Int32}  : ∀ (n9 : Nat) (z : Int32 × Wd) (o : Int32 × Wd), lp (f_X1_merge_L9 v1 v2 v3) n9 z = some o → (∀ (ls : Array Slot) (H : Heap) (locs : List Loc), lv_has ls 5 [] → St D ad ca s o.2 H locs → W p l e (RM 1 21) s m args below meth c H locs 0 0 Q (F0 m 54 ls [])) → (∀ (ls : Array Slot) (H : Heap) (locs : List Loc), lv_has ls 5 [(0, .ref (ad 8)), (1, .int v1), (2, .int v2), (3, .int v3), (4, .int z.1)] → St D ad ca s z.2 H locs → W p l e (RM 1 21) s m args below meth c H locs 0 0 Q (F0 m 9 ls [])) := by
  refine lp_W (HW := fun (z : Int32 × Wd) => ∀ (ls : Array Slot) (H : Heap) (locs : List Loc), lv_has ls 5 [(0, .ref (ad 8)), (1, .int v1), (2, .int v2), (3, .int v3), (4, .int z.1)] → St D ad ca s z.2 H locs → W p l e (RM 1 21) s m args below meth c H locs 0 0 Q (F0 m 9 ls [])) (XW := fun (o : Int32 × Wd) => ∀ (ls : Array Slot) (H : Heap) (locs : List Loc), lv_has ls 5 [] → St D ad ca s o.2 H locs → W p l e (RM 1 21) s m args below meth c H locs 0 0 Q (F0 m 54 ls [])) ?_
  intro z x h hN hX ls H locs hl S
  unfold f_X1_merge_L9 at h
  refine lv_iload C.1 C.2.1 dX1_merge_9 (lv_at hl 4 rfl) ?_
  refine lv_aload_n C.1 C.2.1 dX1_merge_11 rfl (lv_at hl 0 rfl) ?_
  refine r_geti C S o_8 cf_1 4 rfl (by decide) b_fl_RX1_24 dX1_merge_12 ?_
  refine lv_icmp_ge (tgt := 54) C.1 C.2.1 dX1_merge_15 (by decide) (fun q1 => ?_) (fun q1 => ?_)
  · replace h := (if_pos q1).symm.trans h
    exact hX _ (Option.some.inj h).symm _ _ _ (lv_sub hl [] rfl) S
  · replace h := (if_neg q1).symm.trans h
    refine lv_aload_n C.1 C.2.1 dX1_merge_18 rfl (lv_at hl 0 rfl) ?_
    refine r_getr C S o_8 cf_1 3 rfl (by decide) b_fl_RX1_21 dX1_merge_19 ?_
    refine lv_iload C.1 C.2.1 dX1_merge_22 (lv_at hl 4 rfl) ?_
    obtain ⟨g2, h⟩ := gd_some h
    refine r_iald C S a_27 g2 dX1_merge_24 ?_
    refine lv_iload_n C.1 C.2.1 dX1_merge_25 rfl (lv_at hl 1 rfl) ?_
    refine lv_icmp_eq (tgt := 40) C.1 C.2.1 dX1_merge_26 (by decide) (fun q3 => ?_) (fun q3 => ?_)
    · replace h := (if_pos q3).symm.trans h
      exact k_X1_merge_J40 C  h hN hX (lv_sub hl [0, 1, 2, 3, 4] rfl) S
    · replace h := (if_neg q3).symm.trans h
      refine lv_aload_n C.1 C.2.1 dX1_merge_29 rfl (lv_at hl 0 rfl) ?_
      refine r_getr C S o_8 cf_1 3 rfl (by decide) b_fl_RX1_21 dX1_merge_30 ?_
      refine lv_iload C.1 C.2.1 dX1_merge_33 (lv_at hl 4 rfl) ?_
      obtain ⟨g6, h⟩ := gd_some h
      refine r_iald C S a_27 g6 dX1_merge_35 ?_
      refine lv_iload_n C.1 C.2.1 dX1_merge_36 rfl (lv_at hl 2 rfl) ?_
      refine lv_icmp_ne (tgt := 48) C.1 C.2.1 dX1_merge_37 (by decide) (fun q7 => ?_) (fun q7 => ?_)
      · replace h := (if_neg q7).symm.trans h
        refine lv_iinc (v := z.1 + 1) (lv' := [(4, .int (z.1 + 1)), (0, .ref (ad 8)), (1, .int v1), (2, .int v2), (3, .int v3)]) C.1 C.2.1 dX1_merge_48 hl (k := 4) rfl rfl (by decide) rfl (fun ls hl => ?_)
        refine lv_goto (tgt := 9) C.1 C.2.1 dX1_merge_51 (by decide) ?_
        exact hN _ (Option.some.inj h).symm _ _ _ (lv_sub hl [1, 2, 3, 4, 0] rfl) S
      · replace h := (if_pos q7).symm.trans h
        exact k_X1_merge_J40 C  h hN hX (lv_sub hl [0, 1, 2, 3, 4] rfl) S
set_option maxHeartbeats 4000000 in
set_option maxRecDepth 100000 in
theorem k_X1_merge {v1 : Int32} {v2 : Int32}  {w : Wd} {rv : Wd} (h : f_X1_merge v1 v2 w = some rv) : CV yX1_merge cX1_merge 5 1 21 (fun ad => [.ref (ad 8), .int v1, .int v2]) w rv := by
  refine CV.of (by decide) ?_
  intro l D ad sx ca p e s m below meth c C S hr hlocks
  have hl := lv_entry ([.ref (ad 8), .int v1, .int v2]) (n := 5) (Nat.le_of_ble_eq_true rfl)
  rw [lg_entry_eq]
  generalize (lg_sl ([.ref (ad 8), .int v1, .int v2]) ++ List.replicate (5 - (lg_sl ([.ref (ad 8), .int v1, .int v2])).length) Slot.unset).toArray = ls at hl ⊢
  have hl : lv_has ls 5 [(0, .ref (ad 8)), (1, .int v1), (2, .int v2)] := hl
  generalize ha9 : ([.ref (ad 8), .int v1, .int v2] : List Value).toArray = args at C ⊢
  generalize s.heap = H at S ⊢
  generalize ([] : List Loc) = locs at S ⊢
  unfold f_X1_merge at h
  refine lv_iload_n C.1 C.2.1 dX1_merge_0 rfl (lv_at hl 1 rfl) ?_
  refine lv_iload_n C.1 C.2.1 dX1_merge_1 rfl (lv_at hl 2 rfl) ?_
  refine r_mmin C hl b_ma_RX1_57 dX1_merge_2 (by decide) (Nat.le_of_ble_eq_true rfl) ?_
  refine lv_istore_n (lv' := [(3, .int (if v2 < v1 then v2 else v1)), (0, .ref (ad 8)), (1, .int v1), (2, .int v2)]) C.1 C.2.1 dX1_merge_5 rfl hl (by decide) rfl (fun ls hl => ?_)
  refine lv_iconst (v := 0) C.1 C.2.1 dX1_merge_6 (by decide) ?_
  refine lv_istore (lv' := [(4, .int 0), (3, .int (if v2 < v1 then v2 else v1)), (0, .ref (ad 8)), (1, .int v1), (2, .int v2)]) C.1 C.2.1 dX1_merge_7 hl (by decide) rfl (fun ls hl => ?_)
  obtain ⟨o8, e9, h⟩ := Option.bind_eq_some_iff.mp h
  refine k_X1_merge_L9 C  FU _ _ e9 (fun ls H locs hl S => ?_) ls H locs (lv_sub hl [2, 3, 4, 1, 0] rfl) S
  have h9 := Option.some.inj h
  subst h9
  exact r_vret C S hr hlocks dX1_merge_54
set_option maxHeartbeats 4000000 in
set_option maxRecDepth 100000 in
theorem k_X1_add_L55 {p : Program} {l : Launch} {e : Env} {s : State} {m : MethodId} {args : Array Value} {below : List Frame} {meth : Method} {c : Code} {D : va_G} {ad sx : Nat → Nat} {ca : Nat → ClassId} (C : Cx D ad sx ca p s m c args RX1 cX1_add 6) {Q : State → Prop} {v4 : Int32}  : ∀ (n9 : Nat) (z : Int32 × Wd) (o : Int32 × Wd), lp (f_X1_add_L55 v4) n9 z = some o → (∀ (ls : Array Slot) (H : Heap) (locs : List Loc), lv_has ls 6 [(4, .int v4)] → St D ad ca s o.2 H locs → W p l e (RM 3 65) s m args below meth c H locs 0 0 Q (F0 m 98 ls [])) → (∀ (ls : Array Slot) (H : Heap) (locs : List Loc), lv_has ls 6 [(0, .ref (ad 8)), (1, .ref (ad 3)), (4, .int v4), (5, .int z.1)] → St D ad ca s z.2 H locs → W p l e (RM 3 65) s m args below meth c H locs 0 0 Q (F0 m 55 ls [])) := by
  refine lp_W (HW := fun (z : Int32 × Wd) => ∀ (ls : Array Slot) (H : Heap) (locs : List Loc), lv_has ls 6 [(0, .ref (ad 8)), (1, .ref (ad 3)), (4, .int v4), (5, .int z.1)] → St D ad ca s z.2 H locs → W p l e (RM 3 65) s m args below meth c H locs 0 0 Q (F0 m 55 ls [])) (XW := fun (o : Int32 × Wd) => ∀ (ls : Array Slot) (H : Heap) (locs : List Loc), lv_has ls 6 [(4, .int v4)] → St D ad ca s o.2 H locs → W p l e (RM 3 65) s m args below meth c H locs 0 0 Q (F0 m 98 ls [])) ?_
  intro z x h hN hX ls H locs hl S
  unfold f_X1_add_L55 at h
  refine lv_iload C.1 C.2.1 dX1_add_55 (lv_at hl 3 rfl) ?_
  refine lv_iload C.1 C.2.1 dX1_add_57 (lv_at hl 2 rfl) ?_
  refine lv_icmp_ge (tgt := 98) C.1 C.2.1 dX1_add_59 (by decide) (fun q10 => ?_) (fun q10 => ?_)
  · replace h := (if_pos q10).symm.trans h
    exact hX _ (Option.some.inj h).symm _ _ _ (lv_sub hl [2] rfl) S
  · replace h := (if_neg q10).symm.trans h
    refine lv_aload_n C.1 C.2.1 dX1_add_62 rfl (lv_at hl 0 rfl) ?_
    refine lv_aload_n C.1 C.2.1 dX1_add_63 rfl (lv_at hl 1 rfl) ?_
    refine lv_iload C.1 C.2.1 dX1_add_64 (lv_at hl 3 rfl) ?_
    refine lv_iload C.1 C.2.1 dX1_add_66 (lv_at hl 2 rfl) ?_
    obtain ⟨o11, e12, h⟩ := Option.bind_eq_some_iff.mp h
    refine r_vi C S hl o_8 cf_1 (k_X1_isNear e12) b_vb_RX1_33 [.ref (ad 3), .int z.1, .int v4] rfl [] rfl rfl (Nat.le_of_ble_eq_true rfl) ⟨Nat.le_of_ble_eq_true rfl, Nat.le_of_ble_eq_true rfl⟩ dX1_add_68 (fun H locs S => ?_)
    refine lv_if_eq (tgt := 92) C.1 C.2.1 dX1_add_71 (by decide) (fun q13 => ?_) (fun q13 => ?_)
    · replace h := (if_pos q13).symm.trans h
      refine lv_iinc (v := z.1 + 1) (lv' := [(5, .int (z.1 + 1)), (0, .ref (ad 8)), (1, .ref (ad 3)), (4, .int v4)]) C.1 C.2.1 dX1_add_92 hl (k := 3) rfl rfl (by decide) rfl (fun ls hl => ?_)
      refine lv_goto (tgt := 55) C.1 C.2.1 dX1_add_95 (by decide) ?_
      exact hN _ (Option.some.inj h).symm _ _ _ (lv_sub hl [1, 2, 3, 0] rfl) S
    · replace h := (if_neg q13).symm.trans h
      refine lv_aload_n C.1 C.2.1 dX1_add_74 rfl (lv_at hl 0 rfl) ?_
      refine lv_aload_n C.1 C.2.1 dX1_add_75 rfl (lv_at hl 0 rfl) ?_
      refine r_getr C S o_8 cf_1 3 rfl (by decide) b_fl_RX1_21 dX1_add_76 ?_
      refine lv_iload C.1 C.2.1 dX1_add_79 (lv_at hl 3 rfl) ?_
      obtain ⟨g14, h⟩ := gd_some h
      refine r_iald C S a_27 g14 dX1_add_81 ?_
      refine lv_aload_n C.1 C.2.1 dX1_add_82 rfl (lv_at hl 0 rfl) ?_
      refine r_getr C S o_8 cf_1 3 rfl (by decide) b_fl_RX1_21 dX1_add_83 ?_
      refine lv_iload C.1 C.2.1 dX1_add_86 (lv_at hl 2 rfl) ?_
      obtain ⟨g15, h⟩ := gd_some h
      refine r_iald C S a_27 g15 dX1_add_88 ?_
      obtain ⟨o16, e17, h⟩ := Option.bind_eq_some_iff.mp h
      refine r_vv C S hl o_8 cf_1 (k_X1_merge e17) b_vb_RX1_37 [.int (z.2.1 27 z.1.toNatClampNeg), .int (z.2.1 27 v4.toNatClampNeg)] rfl [] rfl rfl (Nat.le_of_ble_eq_true rfl) ⟨Nat.le_of_ble_eq_true rfl, Nat.le_of_ble_eq_true rfl⟩ dX1_add_89 (fun H locs S => ?_)
      refine lv_iinc (v := z.1 + 1) (lv' := [(5, .int (z.1 + 1)), (0, .ref (ad 8)), (1, .ref (ad 3)), (4, .int v4)]) C.1 C.2.1 dX1_add_92 hl (k := 3) rfl rfl (by decide) rfl (fun ls hl => ?_)
      refine lv_goto (tgt := 55) C.1 C.2.1 dX1_add_95 (by decide) ?_
      exact hN _ (Option.some.inj h).symm _ _ _ (lv_sub hl [1, 2, 3, 0] rfl) S
set_option maxHeartbeats 4000000 in
set_option maxRecDepth 100000 in
theorem k_X1_add {v2 : Int32} {v3 : Int32}  {w : Wd} {rv : Int32 × Wd} (h : f_X1_add v2 v3 w = some rv) : CI yX1_add cX1_add 6 .int 3 65 (fun ad => [.ref (ad 8), .ref (ad 3), .int v2, .int v3]) w rv.1 rv.2 := by
  refine CI.of (by decide) ?_
  intro l D ad sx ca p e s m below meth c C S hr hlocks
  have hl := lv_entry ([.ref (ad 8), .ref (ad 3), .int v2, .int v3]) (n := 6) (Nat.le_of_ble_eq_true rfl)
  rw [lg_entry_eq]
  generalize (lg_sl ([.ref (ad 8), .ref (ad 3), .int v2, .int v3]) ++ List.replicate (6 - (lg_sl ([.ref (ad 8), .ref (ad 3), .int v2, .int v3])).length) Slot.unset).toArray = ls at hl ⊢
  have hl : lv_has ls 6 [(0, .ref (ad 8)), (1, .ref (ad 3)), (2, .int v2), (3, .int v3)] := hl
  generalize ha9 : ([.ref (ad 8), .ref (ad 3), .int v2, .int v3] : List Value).toArray = args at C ⊢
  generalize s.heap = H at S ⊢
  generalize ([] : List Loc) = locs at S ⊢
  unfold f_X1_add at h
  refine lv_aload_n C.1 C.2.1 dX1_add_0 rfl (lv_at hl 0 rfl) ?_
  refine r_geti C S o_8 cf_1 4 rfl (by decide) b_fl_RX1_24 dX1_add_1 ?_
  refine lv_istore (lv' := [(4, .int (w.1 8 4)), (0, .ref (ad 8)), (1, .ref (ad 3)), (2, .int v2), (3, .int v3)]) C.1 C.2.1 dX1_add_4 hl (by decide) rfl (fun ls hl => ?_)
  refine lv_aload_n C.1 C.2.1 dX1_add_6 rfl (lv_at hl 1 rfl) ?_
  refine r_getr C S o_8 cf_1 0 rfl (by decide) b_fl_RX1_9 dX1_add_7 ?_
  refine lv_iload C.1 C.2.1 dX1_add_10 (lv_at hl 0 rfl) ?_
  refine lv_iload_n C.1 C.2.1 dX1_add_12 rfl (lv_at hl 3 rfl) ?_
  obtain ⟨g1, h⟩ := gd_some h
  refine r_iast C S a_24 g1 dX1_add_13 (fun H locs S => ?_)
  obtain ⟨w2, h, S⟩ := lw_S (P := fun y => St D ad ca s y H locs) h S
  refine lv_aload_n C.1 C.2.1 dX1_add_14 rfl (lv_at hl 1 rfl) ?_
  refine r_getr C S o_8 cf_1 1 rfl (by decide) b_fl_RX1_15 dX1_add_15 ?_
  refine lv_iload C.1 C.2.1 dX1_add_18 (lv_at hl 0 rfl) ?_
  refine lv_iload_n C.1 C.2.1 dX1_add_20 rfl (lv_at hl 4 rfl) ?_
  obtain ⟨g3, h⟩ := gd_some h
  refine r_iast C S a_25 g3 dX1_add_21 (fun H locs S => ?_)
  obtain ⟨w4, h, S⟩ := lw_S (P := fun y => St D ad ca s y H locs) h S
  refine lv_aload_n C.1 C.2.1 dX1_add_22 rfl (lv_at hl 1 rfl) ?_
  refine r_getr C S o_8 cf_1 2 rfl (by decide) b_fl_RX1_18 dX1_add_23 ?_
  refine lv_iload C.1 C.2.1 dX1_add_26 (lv_at hl 0 rfl) ?_
  refine lv_aload_n C.1 C.2.1 dX1_add_28 rfl (lv_at hl 2 rfl) ?_
  refine r_geti C S o_3 cf_0 3 rfl (by decide) b_fl_RX1_28 dX1_add_29 ?_
  obtain ⟨g5, h⟩ := gd_some h
  refine r_iast C S a_26 g5 dX1_add_32 (fun H locs S => ?_)
  obtain ⟨w6, h, S⟩ := lw_S (P := fun y => St D ad ca s y H locs) h S
  refine lv_aload_n C.1 C.2.1 dX1_add_33 rfl (lv_at hl 1 rfl) ?_
  refine r_getr C S o_8 cf_1 3 rfl (by decide) b_fl_RX1_21 dX1_add_34 ?_
  refine lv_iload C.1 C.2.1 dX1_add_37 (lv_at hl 0 rfl) ?_
  refine lv_iload C.1 C.2.1 dX1_add_39 (lv_at hl 0 rfl) ?_
  obtain ⟨g7, h⟩ := gd_some h
  refine r_iast C S a_27 g7 dX1_add_41 (fun H locs S => ?_)
  obtain ⟨w8, h, S⟩ := lw_S (P := fun y => St D ad ca s y H locs) h S
  refine lv_aload_n C.1 C.2.1 dX1_add_42 rfl (lv_at hl 1 rfl) ?_
  refine lv_dup C.1 C.2.1 dX1_add_43 rfl ?_
  refine r_geti C S o_8 cf_1 4 rfl (by decide) b_fl_RX1_24 dX1_add_44 ?_
  refine lv_iconst (v := 1) C.1 C.2.1 dX1_add_47 (by decide) ?_
  refine lv_iadd C.1 C.2.1 dX1_add_48 ?_
  refine r_put C S o_8 cf_1 4 rfl (by decide) rfl (ni _) b_fl_RX1_24 dX1_add_49 (fun H locs S => ?_)
  obtain ⟨w9, h, S⟩ := lw_S (P := fun y => St D ad ca s y H locs) h S
  refine lv_iconst (v := 0) C.1 C.2.1 dX1_add_52 (by decide) ?_
  refine lv_istore (lv' := [(5, .int 0), (4, .int (w.1 8 4)), (0, .ref (ad 8)), (1, .ref (ad 3)), (2, .int v2), (3, .int v3)]) C.1 C.2.1 dX1_add_53 hl (by decide) rfl (fun ls hl => ?_)
  obtain ⟨o18, e19, h⟩ := Option.bind_eq_some_iff.mp h
  refine k_X1_add_L55 C  FU _ _ e19 (fun ls H locs hl S => ?_) ls H locs (lv_sub hl [2, 3, 1, 0] rfl) S
  refine lv_iload C.1 C.2.1 dX1_add_98 (lv_at hl 0 rfl) ?_
  have h9 := Option.some.inj h
  subst h9
  exact r_iret C S hr hlocks dX1_add_100

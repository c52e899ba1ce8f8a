set_option maxHeartbeats 4000000 in
set_option maxRecDepth 100000 in
theorem k_X0_init : MK yX0_init cX0_init 2 2 32 14 160 [] 0 [.null, .int 0, .null, .int 0, .int 0, .int 0, .int 0] (pX0) := by
  refine MK.of (by decide) ?_
  intro l D ca h0 A p e s m below meth c C S hr hlocks hin
  have hl := lv_entry ([.ref h0]) (n := 2) (Nat.le_of_ble_eq_true rfl)
  rw [lg_entry_eq]
  generalize (lg_sl ([.ref h0]) ++ List.replicate (2 - (lg_sl ([.ref h0])).length) Slot.unset).toArray = ls at hl ⊢
  have hl : lv_has ls 2 [(0, .ref h0)] := hl
  generalize ha9 : ([.ref h0] : List Value).toArray = args at C ⊢
  have C : Cn D ca A p s m c args RX0 cX0_init 2 := C
  have hin : meth.name = "<init>" := hin
  generalize s.heap = H at S ⊢
  generalize ([] : List Loc) = locs at S ⊢
  refine lv_aload_n C.1 C.2.1 dX0_init_0 rfl (lv_at hl 0 rfl) ?_
  refine W.objInit C.1 C.2.1 C.2.2.2.1 (C.2.2.2.2.1 _ w_0_39) (C.2.2.2.2.1 _ oi1) (C.2.2.2.2.1 _ oi2) rfl (by rw [C.2.2.1]; exact hl.1) rfl dX0_init_1 (Nat.le_of_ble_eq_true rfl) (Nat.le_of_ble_eq_true rfl) ?_
  refine W.eq (g2 := F0 m 4 ls []) rfl ?_
  refine lv_aload_n C.1 C.2.1 dX0_init_4 rfl (lv_at hl 0 rfl) ?_
  refine lv_bipush (v := 12) C.1 C.2.1 dX0_init_5 (by decide) ?_
  refine n_newq C S 12 w_0_40 (by decide) (by decide) (Nat.le_of_ble_eq_true rfl) (Nat.le_of_ble_eq_true rfl) (Nat.le_of_ble_eq_true rfl) dX0_init_7 (fun q7 H S => ?_)
  have S : Sn D A s ((h0, .inr (0, [.null, .int 0, .null, .int 0, .int 0, .int 0, .int 0])) :: ([] ++ [(q7, .inl (ca 2, 12, .inr (.inr (.inr (.inr (fun _ => none))))))])) H locs := S
  refine n_putF C cf_0 S hin 0 (by decide) w_0_118 ⟨rfl, rfl⟩ ⟨rfl, rfl⟩ (Nat.le_of_ble_eq_true rfl) dX0_init_10 (fun H locs S => ?_)
  have S : Sn D A s ((h0, .inr (0, [.ref q7, .int 0, .null, .int 0, .int 0, .int 0, .int 0])) :: ([] ++ [(q7, .inl (ca 2, 12, .inr (.inr (.inr (.inr (fun _ => none))))))])) H locs := S
  refine lv_aload_n C.1 C.2.1 dX0_init_13 rfl (lv_at hl 0 rfl) ?_
  refine lv_iconst (v := 0) C.1 C.2.1 dX0_init_14 (by decide) ?_
  refine n_put C cf_0 S 1 (by decide) w_0_124 ⟨rfl, rfl⟩ ⟨rfl, rfl⟩ (Nat.le_of_ble_eq_true rfl) dX0_init_15 (fun H locs S => ?_)
  have S : Sn D A s ((h0, .inr (0, [.ref q7, .int 0, .null, .int 0, .int 0, .int 0, .int 0])) :: ([] ++ [(q7, .inl (ca 2, 12, .inr (.inr (.inr (.inr (fun _ => none))))))])) H locs := S
  refine lv_aload_n C.1 C.2.1 dX0_init_18 rfl (lv_at hl 0 rfl) ?_
  refine lv_iconst (v := 4) C.1 C.2.1 dX0_init_19 (by decide) ?_
  refine n_newi C S 4 (by decide) (by decide) (Nat.le_of_ble_eq_true rfl) (Nat.le_of_ble_eq_true rfl) (Nat.le_of_ble_eq_true rfl) dX0_init_20 (fun q20 H S => ?_)
  have S : Sn D A s ((h0, .inr (0, [.ref q7, .int 0, .null, .int 0, .int 0, .int 0, .int 0])) :: ([] ++ [(q7, .inl (ca 2, 12, .inr (.inr (.inr (.inr (fun _ => none))))))] ++ [(q20, .inl (ca 0, 4, .inl (fun _ => 0)))])) H locs := S
  refine n_putF C cf_0 S hin 2 (by decide) w_0_128 ⟨rfl, rfl⟩ ⟨rfl, rfl⟩ (Nat.le_of_ble_eq_true rfl) dX0_init_22 (fun H locs S => ?_)
  have S : Sn D A s ((h0, .inr (0, [.ref q7, .int 0, .ref q20, .int 0, .int 0, .int 0, .int 0])) :: ([] ++ [(q7, .inl (ca 2, 12, .inr (.inr (.inr (.inr (fun _ => none))))))] ++ [(q20, .inl (ca 0, 4, .inl (fun _ => 0)))])) H locs := S
  refine lv_aload_n C.1 C.2.1 dX0_init_25 rfl (lv_at hl 0 rfl) ?_
  refine lv_iconst (v := 0) C.1 C.2.1 dX0_init_26 (by decide) ?_
  refine n_put C cf_0 S 3 (by decide) w_0_129 ⟨rfl, rfl⟩ ⟨rfl, rfl⟩ (Nat.le_of_ble_eq_true rfl) dX0_init_27 (fun H locs S => ?_)
  have S : Sn D A s ((h0, .inr (0, [.ref q7, .int 0, .ref q20, .int 0, .int 0, .int 0, .int 0])) :: ([] ++ [(q7, .inl (ca 2, 12, .inr (.inr (.inr (.inr (fun _ => none))))))] ++ [(q20, .inl (ca 0, 4, .inl (fun _ => 0)))])) H locs := S
  refine lv_aload_n C.1 C.2.1 dX0_init_30 rfl (lv_at hl 0 rfl) ?_
  refine lv_bipush (v := 50) C.1 C.2.1 dX0_init_31 (by decide) ?_
  refine n_put C cf_0 S 4 (by decide) w_0_132 ⟨rfl, rfl⟩ ⟨rfl, rfl⟩ (Nat.le_of_ble_eq_true rfl) dX0_init_33 (fun H locs S => ?_)
  have S : Sn D A s ((h0, .inr (0, [.ref q7, .int 0, .ref q20, .int 0, .int 50, .int 0, .int 0])) :: ([] ++ [(q7, .inl (ca 2, 12, .inr (.inr (.inr (.inr (fun _ => none))))))] ++ [(q20, .inl (ca 0, 4, .inl (fun _ => 0)))])) H locs := S
  refine lv_aload_n C.1 C.2.1 dX0_init_36 rfl (lv_at hl 0 rfl) ?_
  refine lv_bipush (v := 100) C.1 C.2.1 dX0_init_37 (by decide) ?_
  refine n_put C cf_0 S 5 (by decide) w_0_135 ⟨rfl, rfl⟩ ⟨rfl, rfl⟩ (Nat.le_of_ble_eq_true rfl) dX0_init_39 (fun H locs S => ?_)
  have S : Sn D A s ((h0, .inr (0, [.ref q7, .int 0, .ref q20, .int 0, .int 50, .int 100, .int 0])) :: ([] ++ [(q7, .inl (ca 2, 12, .inr (.inr (.inr (.inr (fun _ => none))))))] ++ [(q20, .inl (ca 0, 4, .inl (fun _ => 0)))])) H locs := S
  refine lv_aload_n C.1 C.2.1 dX0_init_42 rfl (lv_at hl 0 rfl) ?_
  refine lv_sipush (v := 600) C.1 C.2.1 dX0_init_43 (by decide) ?_
  refine n_put C cf_0 S 6 (by decide) w_0_138 ⟨rfl, rfl⟩ ⟨rfl, rfl⟩ (Nat.le_of_ble_eq_true rfl) dX0_init_46 (fun H locs S => ?_)
  have S : Sn D A s ((h0, .inr (0, [.ref q7, .int 0, .ref q20, .int 0, .int 50, .int 100, .int 600])) :: ([] ++ [(q7, .inl (ca 2, 12, .inr (.inr (.inr (.inr (fun _ => none))))))] ++ [(q20, .inl (ca 0, 4, .inl (fun _ => 0)))])) H locs := S
  refine lv_iconst (v := 0) C.1 C.2.1 dX0_init_49 (by decide) ?_
  refine lv_istore_n (lv' := [(1, .int 0), (0, .ref h0)]) C.1 C.2.1 dX0_init_50 rfl hl (by decide) rfl (fun ls hl => ?_)
  refine lv_iload_n C.1 C.2.1 dX0_init_51 rfl (lv_at hl 0 rfl) ?_
  refine lv_bipush (v := 12) C.1 C.2.1 dX0_init_52 (by decide) ?_
  refine lv_icmp_ge (tgt := 76) C.1 C.2.1 dX0_init_54 (by decide) (fun z => absurd z (by decide)) (fun _ => ?_)
  refine lv_aload_n C.1 C.2.1 dX0_init_57 rfl (lv_at hl 1 rfl) ?_
  refine n_get (q0 := 0) (v := .ref q7) C cf_0 S rfl 0 (by decide) w_0_118 rfl rfl dX0_init_58 ?_
  refine lv_iload_n C.1 C.2.1 dX0_init_61 rfl (lv_at hl 0 rfl) ?_
  refine n_new [.int 0, .int 0, .int 0, .int 0, .int 0, .int 0, .int 0, .int 0, .int 0, .int 0, .int 0, .int 0] C S cf_4 w_0_40 w_0_42 w_0_4 fs_4 (Nat.le_of_ble_eq_true rfl) (Nat.le_of_ble_eq_true rfl) dX0_init_62 (fun q62_0 H S => ?_)
  refine lv_dup C.1 C.2.1 dX0_init_65 rfl ?_
  refine n_mkN (host := "WarmthShared") C S hl k_X4_init (by decide +kernel) ⟨w_0_4, w_0_44, w_0_45⟩ rfl ds_4 [.ref q62_0, .int 0, .ref q7] rfl rfl (Nat.le_of_ble_eq_true rfl) ⟨(Nat.le_of_ble_eq_true rfl), (Nat.le_of_ble_eq_true rfl)⟩ ⟨(Nat.le_of_ble_eq_true rfl), (Nat.le_of_ble_eq_true rfl)⟩ dX0_init_66 (fun u66_0 H locs S => ?_)
  have S : Sn D A s ((h0, .inr (0, [.ref q7, .int 0, .ref q20, .int 0, .int 50, .int 100, .int 600])) :: ([] ++ [(q7, .inl (ca 2, 12, .inr (.inr (.inr (.inr (fun _ => none))))))] ++ [(q20, .inl (ca 0, 4, .inl (fun _ => 0)))] ++ pX4 ca q62_0 u66_0)) H locs := S
  refine n_astq C S (q0 := 1) (qk := 3) rfl rfl (inB_in (by decide)) dX0_init_69 (fun H locs S => ?_)
  have S : Sn D A s ((h0, .inr (0, [.ref q7, .int 0, .ref q20, .int 0, .int 50, .int 100, .int 600])) :: ([] ++ [(q7, .inl (ca 2, 12, .inr (.inr (.inr (.inr (va_up (fun _ => none) 0 (some q62_0)))))))] ++ [(q20, .inl (ca 0, 4, .inl (fun _ => 0)))] ++ pX4 ca q62_0 u66_0)) H locs := S
  refine lv_iinc (v := 1) (lv' := [(1, .int 1), (0, .ref h0)]) C.1 C.2.1 dX0_init_70 hl (k := 0) rfl (by decide) (by decide) rfl (fun ls hl => ?_)
  refine lv_goto (tgt := 51) C.1 C.2.1 dX0_init_73 (by decide) ?_
  refine lv_iload_n C.1 C.2.1 dX0_init_51 rfl (lv_at hl 0 rfl) ?_
  refine lv_bipush (v := 12) C.1 C.2.1 dX0_init_52 (by decide) ?_
  refine lv_icmp_ge (tgt := 76) C.1 C.2.1 dX0_init_54 (by decide) (fun z => absurd z (by decide)) (fun _ => ?_)
  refine lv_aload_n C.1 C.2.1 dX0_init_57 rfl (lv_at hl 1 rfl) ?_
  refine n_get (q0 := 0) (v := .ref q7) C cf_0 S rfl 0 (by decide) w_0_118 rfl rfl dX0_init_58 ?_
  refine lv_iload_n C.1 C.2.1 dX0_init_61 rfl (lv_at hl 0 rfl) ?_
  refine n_new [.int 0, .int 0, .int 0, .int 0, .int 0, .int 0, .int 0, .int 0, .int 0, .int 0, .int 0, .int 0] C S cf_4 w_0_40 w_0_42 w_0_4 fs_4 (Nat.le_of_ble_eq_true rfl) (Nat.le_of_ble_eq_true rfl) dX0_init_62 (fun q62_1 H S => ?_)
  refine lv_dup C.1 C.2.1 dX0_init_65 rfl ?_
  refine n_mkN (host := "WarmthShared") C S hl k_X4_init (by decide +kernel) ⟨w_0_4, w_0_44, w_0_45⟩ rfl ds_4 [.ref q62_1, .int 1, .ref q7] rfl rfl (Nat.le_of_ble_eq_true rfl) ⟨(Nat.le_of_ble_eq_true rfl), (Nat.le_of_ble_eq_true rfl)⟩ ⟨(Nat.le_of_ble_eq_true rfl), (Nat.le_of_ble_eq_true rfl)⟩ dX0_init_66 (fun u66_1 H locs S => ?_)
  have S : Sn D A s ((h0, .inr (0, [.ref q7, .int 0, .ref q20, .int 0, .int 50, .int 100, .int 600])) :: ([] ++ [(q7, .inl (ca 2, 12, .inr (.inr (.inr (.inr (va_up (fun _ => none) 0 (some q62_0)))))))] ++ [(q20, .inl (ca 0, 4, .inl (fun _ => 0)))] ++ pX4 ca q62_0 u66_0 ++ pX4 ca q62_1 u66_1)) H locs := S
  refine n_astq C S (q0 := 1) (qk := 4) rfl rfl (inB_in (by decide)) dX0_init_69 (fun H locs S => ?_)
  have S : Sn D A s ((h0, .inr (0, [.ref q7, .int 0, .ref q20, .int 0, .int 50, .int 100, .int 600])) :: ([] ++ [(q7, .inl (ca 2, 12, .inr (.inr (.inr (.inr (va_up (va_up (fun _ => none) 0 (some q62_0)) 1 (some q62_1)))))))] ++ [(q20, .inl (ca 0, 4, .inl (fun _ => 0)))] ++ pX4 ca q62_0 u66_0 ++ pX4 ca q62_1 u66_1)) H locs := S
  refine lv_iinc (v := 2) (lv' := [(1, .int 2), (0, .ref h0)]) C.1 C.2.1 dX0_init_70 hl (k := 0) rfl (by decide) (by decide) rfl (fun ls hl => ?_)
  refine lv_goto (tgt := 51) C.1 C.2.1 dX0_init_73 (by decide) ?_
  refine lv_iload_n C.1 C.2.1 dX0_init_51 rfl (lv_at hl 0 rfl) ?_
  refine lv_bipush (v := 12) C.1 C.2.1 dX0_init_52 (by decide) ?_
  refine lv_icmp_ge (tgt := 76) C.1 C.2.1 dX0_init_54 (by decide) (fun z => absurd z (by decide)) (fun _ => ?_)
  refine lv_aload_n C.1 C.2.1 dX0_init_57 rfl (lv_at hl 1 rfl) ?_
  refine n_get (q0 := 0) (v := .ref q7) C cf_0 S rfl 0 (by decide) w_0_118 rfl rfl dX0_init_58 ?_
  refine lv_iload_n C.1 C.2.1 dX0_init_61 rfl (lv_at hl 0 rfl) ?_
  refine n_new [.int 0, .int 0, .int 0, .int 0, .int 0, .int 0, .int 0, .int 0, .int 0, .int 0, .int 0, .int 0] C S cf_4 w_0_40 w_0_42 w_0_4 fs_4 (Nat.le_of_ble_eq_true rfl) (Nat.le_of_ble_eq_true rfl) dX0_init_62 (fun q62_2 H S => ?_)
  refine lv_dup C.1 C.2.1 dX0_init_65 rfl ?_
  refine n_mkN (host := "WarmthShared") C S hl k_X4_init (by decide +kernel) ⟨w_0_4, w_0_44, w_0_45⟩ rfl ds_4 [.ref q62_2, .int 2, .ref q7] rfl rfl (Nat.le_of_ble_eq_true rfl) ⟨(Nat.le_of_ble_eq_true rfl), (Nat.le_of_ble_eq_true rfl)⟩ ⟨(Nat.le_of_ble_eq_true rfl), (Nat.le_of_ble_eq_true rfl)⟩ dX0_init_66 (fun u66_2 H locs S => ?_)
  have S : Sn D A s ((h0, .inr (0, [.ref q7, .int 0, .ref q20, .int 0, .int 50, .int 100, .int 600])) :: ([] ++ [(q7, .inl (ca 2, 12, .inr (.inr (.inr (.inr (va_up (va_up (fun _ => none) 0 (some q62_0)) 1 (some q62_1)))))))] ++ [(q20, .inl (ca 0, 4, .inl (fun _ => 0)))] ++ pX4 ca q62_0 u66_0 ++ pX4 ca q62_1 u66_1 ++ pX4 ca q62_2 u66_2)) H locs := S
  refine n_astq C S (q0 := 1) (qk := 5) rfl rfl (inB_in (by decide)) dX0_init_69 (fun H locs S => ?_)
  have S : Sn D A s ((h0, .inr (0, [.ref q7, .int 0, .ref q20, .int 0, .int 50, .int 100, .int 600])) :: ([] ++ [(q7, .inl (ca 2, 12, .inr (.inr (.inr (.inr (va_up (va_up (va_up (fun _ => none) 0 (some q62_0)) 1 (some q62_1)) 2 (some q62_2)))))))] ++ [(q20, .inl (ca 0, 4, .inl (fun _ => 0)))] ++ pX4 ca q62_0 u66_0 ++ pX4 ca q62_1 u66_1 ++ pX4 ca q62_2 u66_2)) H locs := S
  refine lv_iinc (v := 3) (lv' := [(1, .int 3), (0, .ref h0)]) C.1 C.2.1 dX0_init_70 hl (k := 0) rfl (by decide) (by decide) rfl (fun ls hl => ?_)
  refine lv_goto (tgt := 51) C.1 C.2.1 dX0_init_73 (by decide) ?_
  refine lv_iload_n C.1 C.2.1 dX0_init_51 rfl (lv_at hl 0 rfl) ?_
  refine lv_bipush (v := 12) C.1 C.2.1 dX0_init_52 (by decide) ?_
  refine lv_icmp_ge (tgt := 76) C.1 C.2.1 dX0_init_54 (by decide) (fun z => absurd z (by decide)) (fun _ => ?_)
  refine lv_aload_n C.1 C.2.1 dX0_init_57 rfl (lv_at hl 1 rfl) ?_
  refine n_get (q0 := 0) (v := .ref q7) C cf_0 S rfl 0 (by decide) w_0_118 rfl rfl dX0_init_58 ?_
  refine lv_iload_n C.1 C.2.1 dX0_init_61 rfl (lv_at hl 0 rfl) ?_
  refine n_new [.int 0, .int 0, .int 0, .int 0, .int 0, .int 0, .int 0, .int 0, .int 0, .int 0, .int 0, .int 0] C S cf_4 w_0_40 w_0_42 w_0_4 fs_4 (Nat.le_of_ble_eq_true rfl) (Nat.le_of_ble_eq_true rfl) dX0_init_62 (fun q62_3 H S => ?_)
  refine lv_dup C.1 C.2.1 dX0_init_65 rfl ?_
  refine n_mkN (host := "WarmthShared") C S hl k_X4_init (by decide +kernel) ⟨w_0_4, w_0_44, w_0_45⟩ rfl ds_4 [.ref q62_3, .int 3, .ref q7] rfl rfl (Nat.le_of_ble_eq_true rfl) ⟨(Nat.le_of_ble_eq_true rfl), (Nat.le_of_ble_eq_true rfl)⟩ ⟨(Nat.le_of_ble_eq_true rfl), (Nat.le_of_ble_eq_true rfl)⟩ dX0_init_66 (fun u66_3 H locs S => ?_)
  have S : Sn D A s ((h0, .inr (0, [.ref q7, .int 0, .ref q20, .int 0, .int 50, .int 100, .int 600])) :: ([] ++ [(q7, .inl (ca 2, 12, .inr (.inr (.inr (.inr (va_up (va_up (va_up (fun _ => none) 0 (some q62_0)) 1 (some q62_1)) 2 (some q62_2)))))))] ++ [(q20, .inl (ca 0, 4, .inl (fun _ => 0)))] ++ pX4 ca q62_0 u66_0 ++ pX4 ca q62_1 u66_1 ++ pX4 ca q62_2 u66_2 ++ pX4 ca q62_3 u66_3)) H locs := S
  refine n_astq C S (q0 := 1) (qk := 6) rfl rfl (inB_in (by decide)) dX0_init_69 (fun H locs S => ?_)
  have S : Sn D A s ((h0, .inr (0, [.ref q7, .int 0, .ref q20, .int 0, .int 50, .int 100, .int 600])) :: ([] ++ [(q7, .inl (ca 2, 12, .inr (.inr (.inr (.inr (va_up (va_up (va_up (va_up (fun _ => none) 0 (some q62_0)) 1 (some q62_1)) 2 (some q62_2)) 3 (some q62_3)))))))] ++ [(q20, .inl (ca 0, 4, .inl (fun _ => 0)))] ++ pX4 ca q62_0 u66_0 ++ pX4 ca q62_1 u66_1 ++ pX4 ca q62_2 u66_2 ++ pX4 ca q62_3 u66_3)) H locs := S
  refine lv_iinc (v := 4) (lv' := [(1, .int 4), (0, .ref h0)]) C.1 C.2.1 dX0_init_70 hl (k := 0) rfl (by decide) (by decide) rfl (fun ls hl => ?_)
  refine lv_goto (tgt := 51) C.1 C.2.1 dX0_init_73 (by decide) ?_
  refine lv_iload_n C.1 C.2.1 dX0_init_51 rfl (lv_at hl 0 rfl) ?_
  refine lv_bipush (v := 12) C.1 C.2.1 dX0_init_52 (by decide) ?_
  refine lv_icmp_ge (tgt := 76) C.1 C.2.1 dX0_init_54 (by decide) (fun z => absurd z (by decide)) (fun _ => ?_)
  refine lv_aload_n C.1 C.2.1 dX0_init_57 rfl (lv_at hl 1 rfl) ?_
  refine n_get (q0 := 0) (v := .ref q7) C cf_0 S rfl 0 (by decide) w_0_118 rfl rfl dX0_init_58 ?_
  refine lv_iload_n C.1 C.2.1 dX0_init_61 rfl (lv_at hl 0 rfl) ?_
  refine n_new [.int 0, .int 0, .int 0, .int 0, .int 0, .int 0, .int 0, .int 0, .int 0, .int 0, .int 0, .int 0] C S cf_4 w_0_40 w_0_42 w_0_4 fs_4 (Nat.le_of_ble_eq_true rfl) (Nat.le_of_ble_eq_true rfl) dX0_init_62 (fun q62_4 H S => ?_)
  refine lv_dup C.1 C.2.1 dX0_init_65 rfl ?_
  refine n_mkN (host := "WarmthShared") C S hl k_X4_init (by decide +kernel) ⟨w_0_4, w_0_44, w_0_45⟩ rfl ds_4 [.ref q62_4, .int 4, .ref q7] rfl rfl (Nat.le_of_ble_eq_true rfl) ⟨(Nat.le_of_ble_eq_true rfl), (Nat.le_of_ble_eq_true rfl)⟩ ⟨(Nat.le_of_ble_eq_true rfl), (Nat.le_of_ble_eq_true rfl)⟩ dX0_init_66 (fun u66_4 H locs S => ?_)
  have S : Sn D A s ((h0, .inr (0, [.ref q7, .int 0, .ref q20, .int 0, .int 50, .int 100, .int 600])) :: ([] ++ [(q7, .inl (ca 2, 12, .inr (.inr (.inr (.inr (va_up (va_up (va_up (va_up (fun _ => none) 0 (some q62_0)) 1 (some q62_1)) 2 (some q62_2)) 3 (some q62_3)))))))] ++ [(q20, .inl (ca 0, 4, .inl (fun _ => 0)))] ++ pX4 ca q62_0 u66_0 ++ pX4 ca q62_1 u66_1 ++ pX4 ca q62_2 u66_2 ++ pX4 ca q62_3 u66_3 ++ pX4 ca q62_4 u66_4)) H locs := S
  refine n_astq C S (q0 := 1) (qk := 7) rfl rfl (inB_in (by decide)) dX0_init_69 (fun H locs S => ?_)
  have S : Sn D A s ((h0, .inr (0, [.ref q7, .int 0, .ref q20, .int 0, .int 50, .int 100, .int 600])) :: ([] ++ [(q7, .inl (ca 2, 12, .inr (.inr (.inr (.inr (va_up (va_up (va_up (va_up (va_up (fun _ => none) 0 (some q62_0)) 1 (some q62_1)) 2 (some q62_2)) 3 (some q62_3)) 4 (some q62_4)))))))] ++ [(q20, .inl (ca 0, 4, .inl (fun _ => 0)))] ++ pX4 ca q62_0 u66_0 ++ pX4 ca q62_1 u66_1 ++ pX4 ca q62_2 u66_2 ++ pX4 ca q62_3 u66_3 ++ pX4 ca q62_4 u66_4)) H locs := S
  refine lv_iinc (v := 5) (lv' := [(1, .int 5), (0, .ref h0)]) C.1 C.2.1 dX0_init_70 hl (k := 0) rfl (by decide) (by decide) rfl (fun ls hl => ?_)
  refine lv_goto (tgt := 51) C.1 C.2.1 dX0_init_73 (by decide) ?_
  refine lv_iload_n C.1 C.2.1 dX0_init_51 rfl (lv_at hl 0 rfl) ?_
  refine lv_bipush (v := 12) C.1 C.2.1 dX0_init_52 (by decide) ?_
  refine lv_icmp_ge (tgt := 76) C.1 C.2.1 dX0_init_54 (by decide) (fun z => absurd z (by decide)) (fun _ => ?_)
  refine lv_aload_n C.1 C.2.1 dX0_init_57 rfl (lv_at hl 1 rfl) ?_
  refine n_get (q0 := 0) (v := .ref q7) C cf_0 S rfl 0 (by decide) w_0_118 rfl rfl dX0_init_58 ?_
  refine lv_iload_n C.1 C.2.1 dX0_init_61 rfl (lv_at hl 0 rfl) ?_
  refine n_new [.int 0, .int 0, .int 0, .int 0, .int 0, .int 0, .int 0, .int 0, .int 0, .int 0, .int 0, .int 0] C S cf_4 w_0_40 w_0_42 w_0_4 fs_4 (Nat.le_of_ble_eq_true rfl) (Nat.le_of_ble_eq_true rfl) dX0_init_62 (fun q62_5 H S => ?_)
  refine lv_dup C.1 C.2.1 dX0_init_65 rfl ?_
  refine n_mkN (host := "WarmthShared") C S hl k_X4_init (by decide +kernel) ⟨w_0_4, w_0_44, w_0_45⟩ rfl ds_4 [.ref q62_5, .int 5, .ref q7] rfl rfl (Nat.le_of_ble_eq_true rfl) ⟨(Nat.le_of_ble_eq_true rfl), (Nat.le_of_ble_eq_true rfl)⟩ ⟨(Nat.le_of_ble_eq_true rfl), (Nat.le_of_ble_eq_true rfl)⟩ dX0_init_66 (fun u66_5 H locs S => ?_)
  have S : Sn D A s ((h0, .inr (0, [.ref q7, .int 0, .ref q20, .int 0, .int 50, .int 100, .int 600])) :: ([] ++ [(q7, .inl (ca 2, 12, .inr (.inr (.inr (.inr (va_up (va_up (va_up (va_up (va_up (fun _ => none) 0 (some q62_0)) 1 (some q62_1)) 2 (some q62_2)) 3 (some q62_3)) 4 (some q62_4)))))))] ++ [(q20, .inl (ca 0, 4, .inl (fun _ => 0)))] ++ pX4 ca q62_0 u66_0 ++ pX4 ca q62_1 u66_1 ++ pX4 ca q62_2 u66_2 ++ pX4 ca q62_3 u66_3 ++ pX4 ca q62_4 u66_4 ++ pX4 ca q62_5 u66_5)) H locs := S
  refine n_astq C S (q0 := 1) (qk := 8) rfl rfl (inB_in (by decide)) dX0_init_69 (fun H locs S => ?_)
  have S : Sn D A s ((h0, .inr (0, [.ref q7, .int 0, .ref q20, .int 0, .int 50, .int 100, .int 600])) :: ([] ++ [(q7, .inl (ca 2, 12, .inr (.inr (.inr (.inr (va_up (va_up (va_up (va_up (va_up (va_up (fun _ => none) 0 (some q62_0)) 1 (some q62_1)) 2 (some q62_2)) 3 (some q62_3)) 4 (some q62_4)) 5 (some q62_5)))))))] ++ [(q20, .inl (ca 0, 4, .inl (fun _ => 0)))] ++ pX4 ca q62_0 u66_0 ++ pX4 ca q62_1 u66_1 ++ pX4 ca q62_2 u66_2 ++ pX4 ca q62_3 u66_3 ++ pX4 ca q62_4 u66_4 ++ pX4 ca q62_5 u66_5)) H locs := S
  refine lv_iinc (v := 6) (lv' := [(1, .int 6), (0, .ref h0)]) C.1 C.2.1 dX0_init_70 hl (k := 0) rfl (by decide) (by decide) rfl (fun ls hl => ?_)
  refine lv_goto (tgt := 51) C.1 C.2.1 dX0_init_73 (by decide) ?_
  refine lv_iload_n C.1 C.2.1 dX0_init_51 rfl (lv_at hl 0 rfl) ?_
  refine lv_bipush (v := 12) C.1 C.2.1 dX0_init_52 (by decide) ?_
  refine lv_icmp_ge (tgt := 76) C.1 C.2.1 dX0_init_54 (by decide) (fun z => absurd z (by decide)) (fun _ => ?_)
  refine lv_aload_n C.1 C.2.1 dX0_init_57 rfl (lv_at hl 1 rfl) ?_
  refine n_get (q0 := 0) (v := .ref q7) C cf_0 S rfl 0 (by decide) w_0_118 rfl rfl dX0_init_58 ?_
  refine lv_iload_n C.1 C.2.1 dX0_init_61 rfl (lv_at hl 0 rfl) ?_
  refine n_new [.int 0, .int 0, .int 0, .int 0, .int 0, .int 0, .int 0, .int 0, .int 0, .int 0, .int 0, .int 0] C S cf_4 w_0_40 w_0_42 w_0_4 fs_4 (Nat.le_of_ble_eq_true rfl) (Nat.le_of_ble_eq_true rfl) dX0_init_62 (fun q62_6 H S => ?_)
  refine lv_dup C.1 C.2.1 dX0_init_65 rfl ?_
  refine n_mkN (host := "WarmthShared") C S hl k_X4_init (by decide +kernel) ⟨w_0_4, w_0_44, w_0_45⟩ rfl ds_4 [.ref q62_6, .int 6, .ref q7] rfl rfl (Nat.le_of_ble_eq_true rfl) ⟨(Nat.le_of_ble_eq_true rfl), (Nat.le_of_ble_eq_true rfl)⟩ ⟨(Nat.le_of_ble_eq_true rfl), (Nat.le_of_ble_eq_true rfl)⟩ dX0_init_66 (fun u66_6 H locs S => ?_)
  have S : Sn D A s ((h0, .inr (0, [.ref q7, .int 0, .ref q20, .int 0, .int 50, .int 100, .int 600])) :: ([] ++ [(q7, .inl (ca 2, 12, .inr (.inr (.inr (.inr (va_up (va_up (va_up (va_up (va_up (va_up (fun _ => none) 0 (some q62_0)) 1 (some q62_1)) 2 (some q62_2)) 3 (some q62_3)) 4 (some q62_4)) 5 (some q62_5)))))))] ++ [(q20, .inl (ca 0, 4, .inl (fun _ => 0)))] ++ pX4 ca q62_0 u66_0 ++ pX4 ca q62_1 u66_1 ++ pX4 ca q62_2 u66_2 ++ pX4 ca q62_3 u66_3 ++ pX4 ca q62_4 u66_4 ++ pX4 ca q62_5 u66_5 ++ pX4 ca q62_6 u66_6)) H locs := S
  refine n_astq C S (q0 := 1) (qk := 9) rfl rfl (inB_in (by decide)) dX0_init_69 (fun H locs S => ?_)
  have S : Sn D A s ((h0, .inr (0, [.ref q7, .int 0, .ref q20, .int 0, .int 50, .int 100, .int 600])) :: ([] ++ [(q7, .inl (ca 2, 12, .inr (.inr (.inr (.inr (va_up (va_up (va_up (va_up (va_up (va_up (va_up (fun _ => none) 0 (some q62_0)) 1 (some q62_1)) 2 (some q62_2)) 3 (some q62_3)) 4 (some q62_4)) 5 (some q62_5)) 6 (some q62_6)))))))] ++ [(q20, .inl (ca 0, 4, .inl (fun _ => 0)))] ++ pX4 ca q62_0 u66_0 ++ pX4 ca q62_1 u66_1 ++ pX4 ca q62_2 u66_2 ++ pX4 ca q62_3 u66_3 ++ pX4 ca q62_4 u66_4 ++ pX4 ca q62_5 u66_5 ++ pX4 ca q62_6 u66_6)) H locs := S
  refine lv_iinc (v := 7) (lv' := [(1, .int 7), (0, .ref h0)]) C.1 C.2.1 dX0_init_70 hl (k := 0) rfl (by decide) (by decide) rfl (fun ls hl => ?_)
  refine lv_goto (tgt := 51) C.1 C.2.1 dX0_init_73 (by decide) ?_
  refine lv_iload_n C.1 C.2.1 dX0_init_51 rfl (lv_at hl 0 rfl) ?_
  refine lv_bipush (v := 12) C.1 C.2.1 dX0_init_52 (by decide) ?_
  refine lv_icmp_ge (tgt := 76) C.1 C.2.1 dX0_init_54 (by decide) (fun z => absurd z (by decide)) (fun _ => ?_)
  refine lv_aload_n C.1 C.2.1 dX0_init_57 rfl (lv_at hl 1 rfl) ?_
  refine n_get (q0 := 0) (v := .ref q7) C cf_0 S rfl 0 (by decide) w_0_118 rfl rfl dX0_init_58 ?_
  refine lv_iload_n C.1 C.2.1 dX0_init_61 rfl (lv_at hl 0 rfl) ?_
  refine n_new [.int 0, .int 0, .int 0, .int 0, .int 0, .int 0, .int 0, .int 0, .int 0, .int 0, .int 0, .int 0] C S cf_4 w_0_40 w_0_42 w_0_4 fs_4 (Nat.le_of_ble_eq_true rfl) (Nat.le_of_ble_eq_true rfl) dX0_init_62 (fun q62_7 H S => ?_)
  refine lv_dup C.1 C.2.1 dX0_init_65 rfl ?_
  refine n_mkN (host := "WarmthShared") C S hl k_X4_init (by decide +kernel) ⟨w_0_4, w_0_44, w_0_45⟩ rfl ds_4 [.ref q62_7, .int 7, .ref q7] rfl rfl (Nat.le_of_ble_eq_true rfl) ⟨(Nat.le_of_ble_eq_true rfl), (Nat.le_of_ble_eq_true rfl)⟩ ⟨(Nat.le_of_ble_eq_true rfl), (Nat.le_of_ble_eq_true rfl)⟩ dX0_init_66 (fun u66_7 H locs S => ?_)
  have S : Sn D A s ((h0, .inr (0, [.ref q7, .int 0, .ref q20, .int 0, .int 50, .int 100, .int 600])) :: ([] ++ [(q7, .inl (ca 2, 12, .inr (.inr (.inr (.inr (va_up (va_up (va_up (va_up (va_up (va_up (va_up (fun _ => none) 0 (some q62_0)) 1 (some q62_1)) 2 (some q62_2)) 3 (some q62_3)) 4 (some q62_4)) 5 (some q62_5)) 6 (some q62_6)))))))] ++ [(q20, .inl (ca 0, 4, .inl (fun _ => 0)))] ++ pX4 ca q62_0 u66_0 ++ pX4 ca q62_1 u66_1 ++ pX4 ca q62_2 u66_2 ++ pX4 ca q62_3 u66_3 ++ pX4 ca q62_4 u66_4 ++ pX4 ca q62_5 u66_5 ++ pX4 ca q62_6 u66_6 ++ pX4 ca q62_7 u66_7)) H locs := S
  refine n_astq C S (q0 := 1) (qk := 10) rfl rfl (inB_in (by decide)) dX0_init_69 (fun H locs S => ?_)
  have S : Sn D A s ((h0, .inr (0, [.ref q7, .int 0, .ref q20, .int 0, .int 50, .int 100, .int 600])) :: ([] ++ [(q7, .inl (ca 2, 12, .inr (.inr (.inr (.inr (va_up (va_up (va_up (va_up (va_up (va_up (va_up (va_up (fun _ => none) 0 (some q62_0)) 1 (some q62_1)) 2 (some q62_2)) 3 (some q62_3)) 4 (some q62_4)) 5 (some q62_5)) 6 (some q62_6)) 7 (some q62_7)))))))] ++ [(q20, .inl (ca 0, 4, .inl (fun _ => 0)))] ++ pX4 ca q62_0 u66_0 ++ pX4 ca q62_1 u66_1 ++ pX4 ca q62_2 u66_2 ++ pX4 ca q62_3 u66_3 ++ pX4 ca q62_4 u66_4 ++ pX4 ca q62_5 u66_5 ++ pX4 ca q62_6 u66_6 ++ pX4 ca q62_7 u66_7)) H locs := S
  refine lv_iinc (v := 8) (lv' := [(1, .int 8), (0, .ref h0)]) C.1 C.2.1 dX0_init_70 hl (k := 0) rfl (by decide) (by decide) rfl (fun ls hl => ?_)
  refine lv_goto (tgt := 51) C.1 C.2.1 dX0_init_73 (by decide) ?_
  refine lv_iload_n C.1 C.2.1 dX0_init_51 rfl (lv_at hl 0 rfl) ?_
  refine lv_bipush (v := 12) C.1 C.2.1 dX0_init_52 (by decide) ?_
  refine lv_icmp_ge (tgt := 76) C.1 C.2.1 dX0_init_54 (by decide) (fun z => absurd z (by decide)) (fun _ => ?_)
  refine lv_aload_n C.1 C.2.1 dX0_init_57 rfl (lv_at hl 1 rfl) ?_
  refine n_get (q0 := 0) (v := .ref q7) C cf_0 S rfl 0 (by decide) w_0_118 rfl rfl dX0_init_58 ?_
  refine lv_iload_n C.1 C.2.1 dX0_init_61 rfl (lv_at hl 0 rfl) ?_
  refine n_new [.int 0, .int 0, .int 0, .int 0, .int 0, .int 0, .int 0, .int 0, .int 0, .int 0, .int 0, .int 0] C S cf_4 w_0_40 w_0_42 w_0_4 fs_4 (Nat.le_of_ble_eq_true rfl) (Nat.le_of_ble_eq_true rfl) dX0_init_62 (fun q62_8 H S => ?_)
  refine lv_dup C.1 C.2.1 dX0_init_65 rfl ?_
  refine n_mkN (host := "WarmthShared") C S hl k_X4_init (by decide +kernel) ⟨w_0_4, w_0_44, w_0_45⟩ rfl ds_4 [.ref q62_8, .int 8, .ref q7] rfl rfl (Nat.le_of_ble_eq_true rfl) ⟨(Nat.le_of_ble_eq_true rfl), (Nat.le_of_ble_eq_true rfl)⟩ ⟨(Nat.le_of_ble_eq_true rfl), (Nat.le_of_ble_eq_true rfl)⟩ dX0_init_66 (fun u66_8 H locs S => ?_)
  have S : Sn D A s ((h0, .inr (0, [.ref q7, .int 0, .ref q20, .int 0, .int 50, .int 100, .int 600])) :: ([] ++ [(q7, .inl (ca 2, 12, .inr (.inr (.inr (.inr (va_up (va_up (va_up (va_up (va_up (va_up (va_up (va_up (fun _ => none) 0 (some q62_0)) 1 (some q62_1)) 2 (some q62_2)) 3 (some q62_3)) 4 (some q62_4)) 5 (some q62_5)) 6 (some q62_6)) 7 (some q62_7)))))))] ++ [(q20, .inl (ca 0, 4, .inl (fun _ => 0)))] ++ pX4 ca q62_0 u66_0 ++ pX4 ca q62_1 u66_1 ++ pX4 ca q62_2 u66_2 ++ pX4 ca q62_3 u66_3 ++ pX4 ca q62_4 u66_4 ++ pX4 ca q62_5 u66_5 ++ pX4 ca q62_6 u66_6 ++ pX4 ca q62_7 u66_7 ++ pX4 ca q62_8 u66_8)) H locs := S
  refine n_astq C S (q0 := 1) (qk := 11) rfl rfl (inB_in (by decide)) dX0_init_69 (fun H locs S => ?_)
  have S : Sn D A s ((h0, .inr (0, [.ref q7, .int 0, .ref q20, .int 0, .int 50, .int 100, .int 600])) :: ([] ++ [(q7, .inl (ca 2, 12, .inr (.inr (.inr (.inr (va_up (va_up (va_up (va_up (va_up (va_up (va_up (va_up (va_up (fun _ => none) 0 (some q62_0)) 1 (some q62_1)) 2 (some q62_2)) 3 (some q62_3)) 4 (some q62_4)) 5 (some q62_5)) 6 (some q62_6)) 7 (some q62_7)) 8 (some q62_8)))))))] ++ [(q20, .inl (ca 0, 4, .inl (fun _ => 0)))] ++ pX4 ca q62_0 u66_0 ++ pX4 ca q62_1 u66_1 ++ pX4 ca q62_2 u66_2 ++ pX4 ca q62_3 u66_3 ++ pX4 ca q62_4 u66_4 ++ pX4 ca q62_5 u66_5 ++ pX4 ca q62_6 u66_6 ++ pX4 ca q62_7 u66_7 ++ pX4 ca q62_8 u66_8)) H locs := S
  refine lv_iinc (v := 9) (lv' := [(1, .int 9), (0, .ref h0)]) C.1 C.2.1 dX0_init_70 hl (k := 0) rfl (by decide) (by decide) rfl (fun ls hl => ?_)
  refine lv_goto (tgt := 51) C.1 C.2.1 dX0_init_73 (by decide) ?_
  refine lv_iload_n C.1 C.2.1 dX0_init_51 rfl (lv_at hl 0 rfl) ?_
  refine lv_bipush (v := 12) C.1 C.2.1 dX0_init_52 (by decide) ?_
  refine lv_icmp_ge (tgt := 76) C.1 C.2.1 dX0_init_54 (by decide) (fun z => absurd z (by decide)) (fun _ => ?_)
  refine lv_aload_n C.1 C.2.1 dX0_init_57 rfl (lv_at hl 1 rfl) ?_
  refine n_get (q0 := 0) (v := .ref q7) C cf_0 S rfl 0 (by decide) w_0_118 rfl rfl dX0_init_58 ?_
  refine lv_iload_n C.1 C.2.1 dX0_init_61 rfl (lv_at hl 0 rfl) ?_
  refine n_new [.int 0, .int 0, .int 0, .int 0, .int 0, .int 0, .int 0, .int 0, .int 0, .int 0, .int 0, .int 0] C S cf_4 w_0_40 w_0_42 w_0_4 fs_4 (Nat.le_of_ble_eq_true rfl) (Nat.le_of_ble_eq_true rfl) dX0_init_62 (fun q62_9 H S => ?_)
  refine lv_dup C.1 C.2.1 dX0_init_65 rfl ?_
  refine n_mkN (host := "WarmthShared") C S hl k_X4_init (by decide +kernel) ⟨w_0_4, w_0_44, w_0_45⟩ rfl ds_4 [.ref q62_9, .int 9, .ref q7] rfl rfl (Nat.le_of_ble_eq_true rfl) ⟨(Nat.le_of_ble_eq_true rfl), (Nat.le_of_ble_eq_true rfl)⟩ ⟨(Nat.le_of_ble_eq_true rfl), (Nat.le_of_ble_eq_true rfl)⟩ dX0_init_66 (fun u66_9 H locs S => ?_)
  have S : Sn D A s ((h0, .inr (0, [.ref q7, .int 0, .ref q20, .int 0, .int 50, .int 100, .int 600])) :: ([] ++ [(q7, .inl (ca 2, 12, .inr (.inr (.inr (.inr (va_up (va_up (va_up (va_up (va_up (va_up (va_up (va_up (va_up (fun _ => none) 0 (some q62_0)) 1 (some q62_1)) 2 (some q62_2)) 3 (some q62_3)) 4 (some q62_4)) 5 (some q62_5)) 6 (some q62_6)) 7 (some q62_7)) 8 (some q62_8)))))))] ++ [(q20, .inl (ca 0, 4, .inl (fun _ => 0)))] ++ pX4 ca q62_0 u66_0 ++ pX4 ca q62_1 u66_1 ++ pX4 ca q62_2 u66_2 ++ pX4 ca q62_3 u66_3 ++ pX4 ca q62_4 u66_4 ++ pX4 ca q62_5 u66_5 ++ pX4 ca q62_6 u66_6 ++ pX4 ca q62_7 u66_7 ++ pX4 ca q62_8 u66_8 ++ pX4 ca q62_9 u66_9)) H locs := S
  refine n_astq C S (q0 := 1) (qk := 12) rfl rfl (inB_in (by decide)) dX0_init_69 (fun H locs S => ?_)
  have S : Sn D A s ((h0, .inr (0, [.ref q7, .int 0, .ref q20, .int 0, .int 50, .int 100, .int 600])) :: ([] ++ [(q7, .inl (ca 2, 12, .inr (.inr (.inr (.inr (va_up (va_up (va_up (va_up (va_up (va_up (va_up (va_up (va_up (va_up (fun _ => none) 0 (some q62_0)) 1 (some q62_1)) 2 (some q62_2)) 3 (some q62_3)) 4 (some q62_4)) 5 (some q62_5)) 6 (some q62_6)) 7 (some q62_7)) 8 (some q62_8)) 9 (some q62_9)))))))] ++ [(q20, .inl (ca 0, 4, .inl (fun _ => 0)))] ++ pX4 ca q62_0 u66_0 ++ pX4 ca q62_1 u66_1 ++ pX4 ca q62_2 u66_2 ++ pX4 ca q62_3 u66_3 ++ pX4 ca q62_4 u66_4 ++ pX4 ca q62_5 u66_5 ++ pX4 ca q62_6 u66_6 ++ pX4 ca q62_7 u66_7 ++ pX4 ca q62_8 u66_8 ++ pX4 ca q62_9 u66_9)) H locs := S
  refine lv_iinc (v := 10) (lv' := [(1, .int 10), (0, .ref h0)]) C.1 C.2.1 dX0_init_70 hl (k := 0) rfl (by decide) (by decide) rfl (fun ls hl => ?_)
  refine lv_goto (tgt := 51) C.1 C.2.1 dX0_init_73 (by decide) ?_
  refine lv_iload_n C.1 C.2.1 dX0_init_51 rfl (lv_at hl 0 rfl) ?_
  refine lv_bipush (v := 12) C.1 C.2.1 dX0_init_52 (by decide) ?_
  refine lv_icmp_ge (tgt := 76) C.1 C.2.1 dX0_init_54 (by decide) (fun z => absurd z (by decide)) (fun _ => ?_)
  refine lv_aload_n C.1 C.2.1 dX0_init_57 rfl (lv_at hl 1 rfl) ?_
  refine n_get (q0 := 0) (v := .ref q7) C cf_0 S rfl 0 (by decide) w_0_118 rfl rfl dX0_init_58 ?_
  refine lv_iload_n C.1 C.2.1 dX0_init_61 rfl (lv_at hl 0 rfl) ?_
  refine n_new [.int 0, .int 0, .int 0, .int 0, .int 0, .int 0, .int 0, .int 0, .int 0, .int 0, .int 0, .int 0] C S cf_4 w_0_40 w_0_42 w_0_4 fs_4 (Nat.le_of_ble_eq_true rfl) (Nat.le_of_ble_eq_true rfl) dX0_init_62 (fun q62_10 H S => ?_)
  refine lv_dup C.1 C.2.1 dX0_init_65 rfl ?_
  refine n_mkN (host := "WarmthShared") C S hl k_X4_init (by decide +kernel) ⟨w_0_4, w_0_44, w_0_45⟩ rfl ds_4 [.ref q62_10, .int 10, .ref q7] rfl rfl (Nat.le_of_ble_eq_true rfl) ⟨(Nat.le_of_ble_eq_true rfl), (Nat.le_of_ble_eq_true rfl)⟩ ⟨(Nat.le_of_ble_eq_true rfl), (Nat.le_of_ble_eq_true rfl)⟩ dX0_init_66 (fun u66_10 H locs S => ?_)
  have S : Sn D A s ((h0, .inr (0, [.ref q7, .int 0, .ref q20, .int 0, .int 50, .int 100, .int 600])) :: ([] ++ [(q7, .inl (ca 2, 12, .inr (.inr (.inr (.inr (va_up (va_up (va_up (va_up (va_up (va_up (va_up (va_up (va_up (va_up (fun _ => none) 0 (some q62_0)) 1 (some q62_1)) 2 (some q62_2)) 3 (some q62_3)) 4 (some q62_4)) 5 (some q62_5)) 6 (some q62_6)) 7 (some q62_7)) 8 (some q62_8)) 9 (some q62_9)))))))] ++ [(q20, .inl (ca 0, 4, .inl (fun _ => 0)))] ++ pX4 ca q62_0 u66_0 ++ pX4 ca q62_1 u66_1 ++ pX4 ca q62_2 u66_2 ++ pX4 ca q62_3 u66_3 ++ pX4 ca q62_4 u66_4 ++ pX4 ca q62_5 u66_5 ++ pX4 ca q62_6 u66_6 ++ pX4 ca q62_7 u66_7 ++ pX4 ca q62_8 u66_8 ++ pX4 ca q62_9 u66_9 ++ pX4 ca q62_10 u66_10)) H locs := S
  refine n_astq C S (q0 := 1) (qk := 13) rfl rfl (inB_in (by decide)) dX0_init_69 (fun H locs S => ?_)
  have S : Sn D A s ((h0, .inr (0, [.ref q7, .int 0, .ref q20, .int 0, .int 50, .int 100, .int 600])) :: ([] ++ [(q7, .inl (ca 2, 12, .inr (.inr (.inr (.inr (va_up (va_up (va_up (va_up (va_up (va_up (va_up (va_up (va_up (va_up (va_up (fun _ => none) 0 (some q62_0)) 1 (some q62_1)) 2 (some q62_2)) 3 (some q62_3)) 4 (some q62_4)) 5 (some q62_5)) 6 (some q62_6)) 7 (some q62_7)) 8 (some q62_8)) 9 (some q62_9)) 10 (some q62_10)))))))] ++ [(q20, .inl (ca 0, 4, .inl (fun _ => 0)))] ++ pX4 ca q62_0 u66_0 ++ pX4 ca q62_1 u66_1 ++ pX4 ca q62_2 u66_2 ++ pX4 ca q62_3 u66_3 ++ pX4 ca q62_4 u66_4 ++ pX4 ca q62_5 u66_5 ++ pX4 ca q62_6 u66_6 ++ pX4 ca q62_7 u66_7 ++ pX4 ca q62_8 u66_8 ++ pX4 ca q62_9 u66_9 ++ pX4 ca q62_10 u66_10)) H locs := S
  refine lv_iinc (v := 11) (lv' := [(1, .int 11), (0, .ref h0)]) C.1 C.2.1 dX0_init_70 hl (k := 0) rfl (by decide) (by decide) rfl (fun ls hl => ?_)
  refine lv_goto (tgt := 51) C.1 C.2.1 dX0_init_73 (by decide) ?_
  refine lv_iload_n C.1 C.2.1 dX0_init_51 rfl (lv_at hl 0 rfl) ?_
  refine lv_bipush (v := 12) C.1 C.2.1 dX0_init_52 (by decide) ?_
  refine lv_icmp_ge (tgt := 76) C.1 C.2.1 dX0_init_54 (by decide) (fun z => absurd z (by decide)) (fun _ => ?_)
  refine lv_aload_n C.1 C.2.1 dX0_init_57 rfl (lv_at hl 1 rfl) ?_
  refine n_get (q0 := 0) (v := .ref q7) C cf_0 S rfl 0 (by decide) w_0_118 rfl rfl dX0_init_58 ?_
  refine lv_iload_n C.1 C.2.1 dX0_init_61 rfl (lv_at hl 0 rfl) ?_
  refine n_new [.int 0, .int 0, .int 0, .int 0, .int 0, .int 0, .int 0, .int 0, .int 0, .int 0, .int 0, .int 0] C S cf_4 w_0_40 w_0_42 w_0_4 fs_4 (Nat.le_of_ble_eq_true rfl) (Nat.le_of_ble_eq_true rfl) dX0_init_62 (fun q62_11 H S => ?_)
  refine lv_dup C.1 C.2.1 dX0_init_65 rfl ?_
  refine n_mkN (host := "WarmthShared") C S hl k_X4_init (by decide +kernel) ⟨w_0_4, w_0_44, w_0_45⟩ rfl ds_4 [.ref q62_11, .int 11, .ref q7] rfl rfl (Nat.le_of_ble_eq_true rfl) ⟨(Nat.le_of_ble_eq_true rfl), (Nat.le_of_ble_eq_true rfl)⟩ ⟨(Nat.le_of_ble_eq_true rfl), (Nat.le_of_ble_eq_true rfl)⟩ dX0_init_66 (fun u66_11 H locs S => ?_)
  have S : Sn D A s ((h0, .inr (0, [.ref q7, .int 0, .ref q20, .int 0, .int 50, .int 100, .int 600])) :: ([] ++ [(q7, .inl (ca 2, 12, .inr (.inr (.inr (.inr (va_up (va_up (va_up (va_up (va_up (va_up (va_up (va_up (va_up (va_up (va_up (fun _ => none) 0 (some q62_0)) 1 (some q62_1)) 2 (some q62_2)) 3 (some q62_3)) 4 (some q62_4)) 5 (some q62_5)) 6 (some q62_6)) 7 (some q62_7)) 8 (some q62_8)) 9 (some q62_9)) 10 (some q62_10)))))))] ++ [(q20, .inl (ca 0, 4, .inl (fun _ => 0)))] ++ pX4 ca q62_0 u66_0 ++ pX4 ca q62_1 u66_1 ++ pX4 ca q62_2 u66_2 ++ pX4 ca q62_3 u66_3 ++ pX4 ca q62_4 u66_4 ++ pX4 ca q62_5 u66_5 ++ pX4 ca q62_6 u66_6 ++ pX4 ca q62_7 u66_7 ++ pX4 ca q62_8 u66_8 ++ pX4 ca q62_9 u66_9 ++ pX4 ca q62_10 u66_10 ++ pX4 ca q62_11 u66_11)) H locs := S
  refine n_astq C S (q0 := 1) (qk := 14) rfl rfl (inB_in (by decide)) dX0_init_69 (fun H locs S => ?_)
  have S : Sn D A s ((h0, .inr (0, [.ref q7, .int 0, .ref q20, .int 0, .int 50, .int 100, .int 600])) :: ([] ++ [(q7, .inl (ca 2, 12, .inr (.inr (.inr (.inr (va_up (va_up (va_up (va_up (va_up (va_up (va_up (va_up (va_up (va_up (va_up (va_up (fun _ => none) 0 (some q62_0)) 1 (some q62_1)) 2 (some q62_2)) 3 (some q62_3)) 4 (some q62_4)) 5 (some q62_5)) 6 (some q62_6)) 7 (some q62_7)) 8 (some q62_8)) 9 (some q62_9)) 10 (some q62_10)) 11 (some q62_11)))))))] ++ [(q20, .inl (ca 0, 4, .inl (fun _ => 0)))] ++ pX4 ca q62_0 u66_0 ++ pX4 ca q62_1 u66_1 ++ pX4 ca q62_2 u66_2 ++ pX4 ca q62_3 u66_3 ++ pX4 ca q62_4 u66_4 ++ pX4 ca q62_5 u66_5 ++ pX4 ca q62_6 u66_6 ++ pX4 ca q62_7 u66_7 ++ pX4 ca q62_8 u66_8 ++ pX4 ca q62_9 u66_9 ++ pX4 ca q62_10 u66_10 ++ pX4 ca q62_11 u66_11)) H locs := S
  refine lv_iinc (v := 12) (lv' := [(1, .int 12), (0, .ref h0)]) C.1 C.2.1 dX0_init_70 hl (k := 0) rfl (by decide) (by decide) rfl (fun ls hl => ?_)
  refine lv_goto (tgt := 51) C.1 C.2.1 dX0_init_73 (by decide) ?_
  refine lv_iload_n C.1 C.2.1 dX0_init_51 rfl (lv_at hl 0 rfl) ?_
  refine lv_bipush (v := 12) C.1 C.2.1 dX0_init_52 (by decide) ?_
  refine lv_icmp_ge (tgt := 76) C.1 C.2.1 dX0_init_54 (by decide) (fun _ => ?_) (fun z => absurd (by decide) z)
  have eF : (va_up (va_up (va_up (va_up (va_up (va_up (va_up (va_up (va_up (va_up (va_up (va_up (fun _ => none) 0 (some q62_0)) 1 (some q62_1)) 2 (some q62_2)) 3 (some q62_3)) 4 (some q62_4)) 5 (some q62_5)) 6 (some q62_6)) 7 (some q62_7)) 8 (some q62_8)) 9 (some q62_9)) 10 (some q62_10)) 11 (some q62_11)) = (fun j => if j < 12 then some ((fun k => ([q7, q20, q62_0, q62_1, q62_2, q62_3, q62_4, q62_5, q62_6, q62_7, q62_8, q62_9, q62_10, q62_11] : List Nat).getD k 0) (2 + j)) else none) := by
    funext j
    rcases Nat.lt_or_ge j 12 with z | z
    · rcases (by omega : j = 0 ∨ j = 1 ∨ j = 2 ∨ j = 3 ∨ j = 4 ∨ j = 5 ∨ j = 6 ∨ j = 7 ∨ j = 8 ∨ j = 9 ∨ j = 10 ∨ j = 11) with q | q | q | q | q | q | q | q | q | q | q | q <;> subst q <;> rfl
    · rw [if_neg (by omega)]
      simp [va_up, show j ≠ 0 by omega, show j ≠ 1 by omega, show j ≠ 2 by omega, show j ≠ 3 by omega, show j ≠ 4 by omega, show j ≠ 5 by omega, show j ≠ 6 by omega, show j ≠ 7 by omega, show j ≠ 8 by omega, show j ≠ 9 by omega, show j ≠ 10 by omega, show j ≠ 11 by omega]
  rw [eF] at S
  have eW : ((h0, .inr (0, [.ref q7, .int 0, .ref q20, .int 0, .int 50, .int 100, .int 600])) :: ([] ++ [(q7, .inl (ca 2, 12, .inr (.inr (.inr (.inr (fun j => if j < 12 then some ((fun k => ([q7, q20, q62_0, q62_1, q62_2, q62_3, q62_4, q62_5, q62_6, q62_7, q62_8, q62_9, q62_10, q62_11] : List Nat).getD k 0) (2 + j)) else none))))))] ++ [(q20, .inl (ca 0, 4, .inl (fun _ => 0)))] ++ pX4 ca q62_0 u66_0 ++ pX4 ca q62_1 u66_1 ++ pX4 ca q62_2 u66_2 ++ pX4 ca q62_3 u66_3 ++ pX4 ca q62_4 u66_4 ++ pX4 ca q62_5 u66_5 ++ pX4 ca q62_6 u66_6 ++ pX4 ca q62_7 u66_7 ++ pX4 ca q62_8 u66_8 ++ pX4 ca q62_9 u66_9 ++ pX4 ca q62_10 u66_10 ++ pX4 ca q62_11 u66_11)) = pX0 ca h0 (fun k => ([q7, q20, q62_0, q62_1, q62_2, q62_3, q62_4, q62_5, q62_6, q62_7, q62_8, q62_9, q62_10, q62_11] : List Nat).getD k 0) := by
    simp only [List.append_assoc, List.cons_append, List.nil_append, pX4]
    rfl
  rw [eW] at S
  refine W.widen (k := 14) (n := 160) (Nat.le_of_ble_eq_true rfl) (Nat.le_of_ble_eq_true rfl) ?_
  exact W.vret C.1 C.2.1 hr (fun t ht hW => ⟨⟨(), rfl, trivial, (fun k => ([q7, q20, q62_0, q62_1, q62_2, q62_3, q62_4, q62_5, q62_6, q62_7, q62_8, q62_9, q62_10, q62_11] : List Nat).getD k 0), by rw [ht]; exact S.1, S.2.1⟩, S.2.2.F ht⟩) S.2.2.2.2 dX0_init_76 hlocks

set_option maxHeartbeats 4000000 in
set_option maxRecDepth 100000 in
theorem k_X10_init : MK yX10_init cX10_init 1 4 73 75 1221 [] 10 [.null, .null, .int 0, .null, .null, .null, .null, .null, .null, .null, .null, .null, .null, .null] (pX10) := by
  refine MK.of (by decide) ?_
  intro l D ca h0 A p e s m below meth c C S hr hlocks hin
  have hl := lv_entry ([.ref h0]) (n := 1) (Nat.le_of_ble_eq_true rfl)
  rw [lg_entry_eq]
  generalize (lg_sl ([.ref h0]) ++ List.replicate (1 - (lg_sl ([.ref h0])).length) Slot.unset).toArray = ls at hl ⊢
  have hl : lv_has ls 1 [(0, .ref h0)] := hl
  generalize ha9 : ([.ref h0] : List Value).toArray = args at C ⊢
  have C : Cn D ca A p s m c args RX10 cX10_init 1 := C
  have hin : meth.name = "<init>" := hin
  generalize s.heap = H at S ⊢
  generalize ([] : List Loc) = locs at S ⊢
  refine lv_aload_n C.1 C.2.1 dX10_init_0 rfl (lv_at hl 0 rfl) ?_
  refine W.objInit C.1 C.2.1 C.2.2.2.1 (C.2.2.2.2.1 _ w_0_25) (C.2.2.2.2.1 _ oi1) (C.2.2.2.2.1 _ oi2) rfl (by rw [C.2.2.1]; exact hl.1) rfl dX10_init_1 (Nat.le_of_ble_eq_true rfl) (Nat.le_of_ble_eq_true rfl) ?_
  refine W.eq (g2 := F0 m 4 ls []) rfl ?_
  refine lv_aload_n C.1 C.2.1 dX10_init_4 rfl (lv_at hl 0 rfl) ?_
  refine n_new [.null, .null, .null] C S cf_8 w_0_28 w_0_29 w_0_2 fs_8 (Nat.le_of_ble_eq_true rfl) (Nat.le_of_ble_eq_true rfl) dX10_init_5 (fun q5 H S => ?_)
  refine lv_dup C.1 C.2.1 dX10_init_8 rfl ?_
  refine n_mkN (host := "WarmthShared") C S hl k_X8_init (by decide +kernel) ⟨w_0_2, w_0_31, w_0_32⟩ rfl ds_8 [.ref q5, .ref h0] rfl rfl (Nat.le_of_ble_eq_true rfl) ⟨(Nat.le_of_ble_eq_true rfl), (Nat.le_of_ble_eq_true rfl)⟩ ⟨(Nat.le_of_ble_eq_true rfl), (Nat.le_of_ble_eq_true rfl)⟩ dX10_init_9 (fun u9 H locs S => ?_)
  have S : Sn D A s ((h0, .inr (10, [.null, .null, .int 0, .null, .null, .null, .null, .null, .null, .null, .null, .null, .null, .null])) :: ([] ++ pX8 ca q5 u9)) H locs := S
  refine n_putF C cf_10 S hin 0 (by decide) w_1_112 ⟨rfl, rfl⟩ ⟨rfl, rfl⟩ (Nat.le_of_ble_eq_true rfl) dX10_init_12 (fun H locs S => ?_)
  have S : Sn D A s ((h0, .inr (10, [.ref q5, .null, .int 0, .null, .null, .null, .null, .null, .null, .null, .null, .null, .null, .null])) :: ([] ++ pX8 ca q5 u9)) H locs := S
  refine lv_aload_n C.1 C.2.1 dX10_init_15 rfl (lv_at hl 0 rfl) ?_
  refine n_new [.null, .null, .null] C S cf_8 w_0_28 w_0_29 w_0_2 fs_8 (Nat.le_of_ble_eq_true rfl) (Nat.le_of_ble_eq_true rfl) dX10_init_16 (fun q16 H S => ?_)
  refine lv_dup C.1 C.2.1 dX10_init_19 rfl ?_
  refine n_mkN (host := "WarmthShared") C S hl k_X8_init (by decide +kernel) ⟨w_0_2, w_0_31, w_0_32⟩ rfl ds_8 [.ref q16, .ref h0] rfl rfl (Nat.le_of_ble_eq_true rfl) ⟨(Nat.le_of_ble_eq_true rfl), (Nat.le_of_ble_eq_true rfl)⟩ ⟨(Nat.le_of_ble_eq_true rfl), (Nat.le_of_ble_eq_true rfl)⟩ dX10_init_20 (fun u20 H locs S => ?_)
  have S : Sn D A s ((h0, .inr (10, [.ref q5, .null, .int 0, .null, .null, .null, .null, .null, .null, .null, .null, .null, .null, .null])) :: ([] ++ pX8 ca q5 u9 ++ pX8 ca q16 u20)) H locs := S
  refine n_putF C cf_10 S hin 1 (by decide) w_1_113 ⟨rfl, rfl⟩ ⟨rfl, rfl⟩ (Nat.le_of_ble_eq_true rfl) dX10_init_23 (fun H locs S => ?_)
  have S : Sn D A s ((h0, .inr (10, [.ref q5, .ref q16, .int 0, .null, .null, .null, .null, .null, .null, .null, .null, .null, .null, .null])) :: ([] ++ pX8 ca q5 u9 ++ pX8 ca q16 u20)) H locs := S
  refine lv_aload_n C.1 C.2.1 dX10_init_26 rfl (lv_at hl 0 rfl) ?_
  refine lv_iconst (v := 0) C.1 C.2.1 dX10_init_27 (by decide) ?_
  refine n_put C cf_10 S 2 (by decide) w_1_114 ⟨rfl, rfl⟩ ⟨rfl, rfl⟩ (Nat.le_of_ble_eq_true rfl) dX10_init_28 (fun H locs S => ?_)
  have S : Sn D A s ((h0, .inr (10, [.ref q5, .ref q16, .int 0, .null, .null, .null, .null, .null, .null, .null, .null, .null, .null, .null])) :: ([] ++ pX8 ca q5 u9 ++ pX8 ca q16 u20)) H locs := S
  refine lv_aload_n C.1 C.2.1 dX10_init_31 rfl (lv_at hl 0 rfl) ?_
  refine lv_aload_n C.1 C.2.1 dX10_init_32 rfl (lv_at hl 0 rfl) ?_
  refine n_get (q0 := 0) (v := .ref q5) C cf_10 S rfl 0 (by decide) w_1_112 rfl rfl dX10_init_33 ?_
  refine n_get (q0 := 1) (v := .ref u9.1.1) C cf_8 S rfl 0 (by decide) w_0_200 rfl rfl dX10_init_36 ?_
  refine n_putF C cf_10 S hin 3 (by decide) w_1_115 ⟨rfl, rfl⟩ ⟨rfl, rfl⟩ (Nat.le_of_ble_eq_true rfl) dX10_init_39 (fun H locs S => ?_)
  have S : Sn D A s ((h0, .inr (10, [.ref q5, .ref q16, .int 0, .ref u9.1.1, .null, .null, .null, .null, .null, .null, .null, .null, .null, .null])) :: ([] ++ pX8 ca q5 u9 ++ pX8 ca q16 u20)) H locs := S
  refine lv_aload_n C.1 C.2.1 dX10_init_42 rfl (lv_at hl 0 rfl) ?_
  refine lv_aload_n C.1 C.2.1 dX10_init_43 rfl (lv_at hl 0 rfl) ?_
  refine n_get (q0 := 0) (v := .ref q5) C cf_10 S rfl 0 (by decide) w_1_112 rfl rfl dX10_init_44 ?_
  refine n_get (q0 := 1) (v := .ref u9.2.2.1) C cf_8 S rfl 2 (by decide) w_0_204 rfl rfl dX10_init_47 ?_
  refine n_putF C cf_10 S hin 4 (by decide) w_1_116 ⟨rfl, rfl⟩ ⟨rfl, rfl⟩ (Nat.le_of_ble_eq_true rfl) dX10_init_50 (fun H locs S => ?_)
  have S : Sn D A s ((h0, .inr (10, [.ref q5, .ref q16, .int 0, .ref u9.1.1, .ref u9.2.2.1, .null, .null, .null, .null, .null, .null, .null, .null, .null])) :: ([] ++ pX8 ca q5 u9 ++ pX8 ca q16 u20)) H locs := S
  refine lv_aload_n C.1 C.2.1 dX10_init_53 rfl (lv_at hl 0 rfl) ?_
  refine lv_aload_n C.1 C.2.1 dX10_init_54 rfl (lv_at hl 0 rfl) ?_
  refine n_get (q0 := 0) (v := .ref q5) C cf_10 S rfl 0 (by decide) w_1_112 rfl rfl dX10_init_55 ?_
  refine n_get (q0 := 1) (v := .ref u9.2.1.1) C cf_8 S rfl 1 (by decide) w_0_202 rfl rfl dX10_init_58 ?_
  refine n_putF C cf_10 S hin 5 (by decide) w_1_117 ⟨rfl, rfl⟩ ⟨rfl, rfl⟩ (Nat.le_of_ble_eq_true rfl) dX10_init_61 (fun H locs S => ?_)
  have S : Sn D A s ((h0, .inr (10, [.ref q5, .ref q16, .int 0, .ref u9.1.1, .ref u9.2.2.1, .ref u9.2.1.1, .null, .null, .null, .null, .null, .null, .null, .null])) :: ([] ++ pX8 ca q5 u9 ++ pX8 ca q16 u20)) H locs := S
  refine lv_aload_n C.1 C.2.1 dX10_init_64 rfl (lv_at hl 0 rfl) ?_
  refine n_new [.null, .int 0] C S cf_9 w_0_212 w_0_157 w_0_5 fs_9 (Nat.le_of_ble_eq_true rfl) (Nat.le_of_ble_eq_true rfl) dX10_init_65 (fun q65 H S => ?_)
  refine lv_dup C.1 C.2.1 dX10_init_68 rfl ?_
  refine n_mkN (host := "WarmthShared") C S hl k_X9_init (by decide +kernel) ⟨w_0_5, w_0_159, w_0_160⟩ rfl ds_9 [.ref q65, .ref h0] rfl rfl (Nat.le_of_ble_eq_true rfl) ⟨(Nat.le_of_ble_eq_true rfl), (Nat.le_of_ble_eq_true rfl)⟩ ⟨(Nat.le_of_ble_eq_true rfl), (Nat.le_of_ble_eq_true rfl)⟩ dX10_init_69 (fun u69 H locs S => ?_)
  have S : Sn D A s ((h0, .inr (10, [.ref q5, .ref q16, .int 0, .ref u9.1.1, .ref u9.2.2.1, .ref u9.2.1.1, .null, .null, .null, .null, .null, .null, .null, .null])) :: ([] ++ pX8 ca q5 u9 ++ pX8 ca q16 u20 ++ pX9 ca q65 u69)) H locs := S
  refine n_putF C cf_10 S hin 6 (by decide) w_1_118 ⟨rfl, rfl⟩ ⟨rfl, rfl⟩ (Nat.le_of_ble_eq_true rfl) dX10_init_72 (fun H locs S => ?_)
  have S : Sn D A s ((h0, .inr (10, [.ref q5, .ref q16, .int 0, .ref u9.1.1, .ref u9.2.2.1, .ref u9.2.1.1, .ref q65, .null, .null, .null, .null, .null, .null, .null])) :: ([] ++ pX8 ca q5 u9 ++ pX8 ca q16 u20 ++ pX9 ca q65 u69)) H locs := S
  refine lv_aload_n C.1 C.2.1 dX10_init_75 rfl (lv_at hl 0 rfl) ?_
  refine n_new [.null, .null, .int 0, .int 0] C S cf_5 w_0_214 w_0_215 w_0_7 fs_5 (Nat.le_of_ble_eq_true rfl) (Nat.le_of_ble_eq_true rfl) dX10_init_76 (fun q76 H S => ?_)
  refine lv_dup C.1 C.2.1 dX10_init_79 rfl ?_
  refine lv_aload_n C.1 C.2.1 dX10_init_80 rfl (lv_at hl 0 rfl) ?_
  refine n_get (q0 := 0) (v := .ref u9.2.1.1) C cf_10 S rfl 5 (by decide) w_1_117 rfl rfl dX10_init_81 ?_
  refine n_mkP C S hl (k_X5_init (a1 := u9.2.1.1)) w_0_216 ⟨w_0_7, w_0_217, w_0_218⟩ rfl ds_5 [.ref q76, .ref h0] rfl rfl (Nat.le_of_ble_eq_true rfl) ⟨(Nat.le_of_ble_eq_true rfl), (Nat.le_of_ble_eq_true rfl)⟩ ⟨(Nat.le_of_ble_eq_true rfl), (Nat.le_of_ble_eq_true rfl)⟩ dX10_init_84 (fun u84 H locs S => ?_)
  have S : Sn D A s ((h0, .inr (10, [.ref q5, .ref q16, .int 0, .ref u9.1.1, .ref u9.2.2.1, .ref u9.2.1.1, .ref q65, .null, .null, .null, .null, .null, .null, .null])) :: ([] ++ pX8 ca q5 u9 ++ pX8 ca q16 u20 ++ pX9 ca q65 u69 ++ pX5 (u9.2.1.1) ca q76 u84)) H locs := S
  refine n_putF C cf_10 S hin 7 (by decide) w_1_119 ⟨rfl, rfl⟩ ⟨rfl, rfl⟩ (Nat.le_of_ble_eq_true rfl) dX10_init_87 (fun H locs S => ?_)
  have S : Sn D A s ((h0, .inr (10, [.ref q5, .ref q16, .int 0, .ref u9.1.1, .ref u9.2.2.1, .ref u9.2.1.1, .ref q65, .ref q76, .null, .null, .null, .null, .null, .null])) :: ([] ++ pX8 ca q5 u9 ++ pX8 ca q16 u20 ++ pX9 ca q65 u69 ++ pX5 (u9.2.1.1) ca q76 u84)) H locs := S
  refine lv_aload_n C.1 C.2.1 dX10_init_90 rfl (lv_at hl 0 rfl) ?_
  refine n_new [.null, .null, .int 0, .int 0] C S cf_5 w_0_214 w_0_215 w_0_7 fs_5 (Nat.le_of_ble_eq_true rfl) (Nat.le_of_ble_eq_true rfl) dX10_init_91 (fun q91 H S => ?_)
  refine lv_dup C.1 C.2.1 dX10_init_94 rfl ?_
  refine lv_aload_n C.1 C.2.1 dX10_init_95 rfl (lv_at hl 0 rfl) ?_
  refine n_get (q0 := 0) (v := .ref q65) C cf_10 S rfl 6 (by decide) w_1_118 rfl rfl dX10_init_96 ?_
  refine n_mkP C S hl (k_X5_init (a1 := q65)) w_0_216 ⟨w_0_7, w_0_217, w_0_218⟩ rfl ds_5 [.ref q91, .ref h0] rfl rfl (Nat.le_of_ble_eq_true rfl) ⟨(Nat.le_of_ble_eq_true rfl), (Nat.le_of_ble_eq_true rfl)⟩ ⟨(Nat.le_of_ble_eq_true rfl), (Nat.le_of_ble_eq_true rfl)⟩ dX10_init_99 (fun u99 H locs S => ?_)
  have S : Sn D A s ((h0, .inr (10, [.ref q5, .ref q16, .int 0, .ref u9.1.1, .ref u9.2.2.1, .ref u9.2.1.1, .ref q65, .ref q76, .null, .null, .null, .null, .null, .null])) :: ([] ++ pX8 ca q5 u9 ++ pX8 ca q16 u20 ++ pX9 ca q65 u69 ++ pX5 (u9.2.1.1) ca q76 u84 ++ pX5 (q65) ca q91 u99)) H locs := S
  refine n_putF C cf_10 S hin 8 (by decide) w_1_120 ⟨rfl, rfl⟩ ⟨rfl, rfl⟩ (Nat.le_of_ble_eq_true rfl) dX10_init_102 (fun H locs S => ?_)
  have S : Sn D A s ((h0, .inr (10, [.ref q5, .ref q16, .int 0, .ref u9.1.1, .ref u9.2.2.1, .ref u9.2.1.1, .ref q65, .ref q76, .ref q91, .null, .null, .null, .null, .null])) :: ([] ++ pX8 ca q5 u9 ++ pX8 ca q16 u20 ++ pX9 ca q65 u69 ++ pX5 (u9.2.1.1) ca q76 u84 ++ pX5 (q65) ca q91 u99)) H locs := S
  refine lv_aload_n C.1 C.2.1 dX10_init_105 rfl (lv_at hl 0 rfl) ?_
  refine n_new [.null, .int 0, .int 0, .int 0] C S cf_7 w_0_233 w_0_234 w_0_8 fs_7 (Nat.le_of_ble_eq_true rfl) (Nat.le_of_ble_eq_true rfl) dX10_init_106 (fun q106 H S => ?_)
  refine lv_dup C.1 C.2.1 dX10_init_109 rfl ?_
  refine n_mkN (host := "WarmthShared") C S hl k_X7_init (by decide +kernel) ⟨w_0_8, w_0_236, w_0_237⟩ rfl ds_7 [.ref q106, .ref h0] rfl rfl (Nat.le_of_ble_eq_true rfl) ⟨(Nat.le_of_ble_eq_true rfl), (Nat.le_of_ble_eq_true rfl)⟩ ⟨(Nat.le_of_ble_eq_true rfl), (Nat.le_of_ble_eq_true rfl)⟩ dX10_init_110 (fun u110 H locs S => ?_)
  have S : Sn D A s ((h0, .inr (10, [.ref q5, .ref q16, .int 0, .ref u9.1.1, .ref u9.2.2.1, .ref u9.2.1.1, .ref q65, .ref q76, .ref q91, .null, .null, .null, .null, .null])) :: ([] ++ pX8 ca q5 u9 ++ pX8 ca q16 u20 ++ pX9 ca q65 u69 ++ pX5 (u9.2.1.1) ca q76 u84 ++ pX5 (q65) ca q91 u99 ++ pX7 ca q106 u110)) H locs := S
  refine n_putF C cf_10 S hin 9 (by decide) w_1_121 ⟨rfl, rfl⟩ ⟨rfl, rfl⟩ (Nat.le_of_ble_eq_true rfl) dX10_init_113 (fun H locs S => ?_)
  have S : Sn D A s ((h0, .inr (10, [.ref q5, .ref q16, .int 0, .ref u9.1.1, .ref u9.2.2.1, .ref u9.2.1.1, .ref q65, .ref q76, .ref q91, .ref q106, .null, .null, .null, .null])) :: ([] ++ pX8 ca q5 u9 ++ pX8 ca q16 u20 ++ pX9 ca q65 u69 ++ pX5 (u9.2.1.1) ca q76 u84 ++ pX5 (q65) ca q91 u99 ++ pX7 ca q106 u110)) H locs := S
  refine lv_aload_n C.1 C.2.1 dX10_init_116 rfl (lv_at hl 0 rfl) ?_
  refine n_new [.int 0, .int 0, .int 0, .int 0, .null, .null, .null, .null, .null, .null, .null, .null, .null, .int 0] C S cf_2 w_1_12 w_1_13 w_0_9 fs_2 (Nat.le_of_ble_eq_true rfl) (Nat.le_of_ble_eq_true rfl) dX10_init_117 (fun q117 H S => ?_)
  refine lv_dup C.1 C.2.1 dX10_init_120 rfl ?_
  refine n_mkN (host := "WarmthShared") C S hl k_X2_init (by decide +kernel) ⟨w_0_9, w_1_15, w_1_16⟩ rfl ds_2 [.ref q117, .ref h0] rfl rfl (Nat.le_of_ble_eq_true rfl) ⟨(Nat.le_of_ble_eq_true rfl), (Nat.le_of_ble_eq_true rfl)⟩ ⟨(Nat.le_of_ble_eq_true rfl), (Nat.le_of_ble_eq_true rfl)⟩ dX10_init_121 (fun u121 H locs S => ?_)
  have S : Sn D A s ((h0, .inr (10, [.ref q5, .ref q16, .int 0, .ref u9.1.1, .ref u9.2.2.1, .ref u9.2.1.1, .ref q65, .ref q76, .ref q91, .ref q106, .null, .null, .null, .null])) :: ([] ++ pX8 ca q5 u9 ++ pX8 ca q16 u20 ++ pX9 ca q65 u69 ++ pX5 (u9.2.1.1) ca q76 u84 ++ pX5 (q65) ca q91 u99 ++ pX7 ca q106 u110 ++ pX2 ca q117 u121)) H locs := S
  refine n_putF C cf_10 S hin 10 (by decide) w_1_122 ⟨rfl, rfl⟩ ⟨rfl, rfl⟩ (Nat.le_of_ble_eq_true rfl) dX10_init_124 (fun H locs S => ?_)
  have S : Sn D A s ((h0, .inr (10, [.ref q5, .ref q16, .int 0, .ref u9.1.1, .ref u9.2.2.1, .ref u9.2.1.1, .ref q65, .ref q76, .ref q91, .ref q106, .ref q117, .null, .null, .null])) :: ([] ++ pX8 ca q5 u9 ++ pX8 ca q16 u20 ++ pX9 ca q65 u69 ++ pX5 (u9.2.1.1) ca q76 u84 ++ pX5 (q65) ca q91 u99 ++ pX7 ca q106 u110 ++ pX2 ca q117 u121)) H locs := S
  refine lv_aload_n C.1 C.2.1 dX10_init_127 rfl (lv_at hl 0 rfl) ?_
  refine n_new [.null, .null, .null, .int 0, .int 0] C S cf_3 w_1_68 w_1_69 w_0_10 fs_3 (Nat.le_of_ble_eq_true rfl) (Nat.le_of_ble_eq_true rfl) dX10_init_128 (fun q128 H S => ?_)
  refine lv_dup C.1 C.2.1 dX10_init_131 rfl ?_
  refine lv_aload_n C.1 C.2.1 dX10_init_132 rfl (lv_at hl 0 rfl) ?_
  refine n_get (q0 := 0) (v := .ref u9.1.1) C cf_10 S rfl 3 (by decide) w_1_115 rfl rfl dX10_init_133 ?_
  refine lv_aload_n C.1 C.2.1 dX10_init_136 rfl (lv_at hl 0 rfl) ?_
  refine n_get (q0 := 0) (v := .ref q117) C cf_10 S rfl 10 (by decide) w_1_122 rfl rfl dX10_init_137 ?_
  refine n_mkP C S hl (k_X3_init (a1 := u9.1.1) (a2 := q117)) w_1_70 ⟨w_0_10, w_1_71, w_1_72⟩ rfl ds_3 [.ref q128, .ref h0] rfl rfl (Nat.le_of_ble_eq_true rfl) ⟨(Nat.le_of_ble_eq_true rfl), (Nat.le_of_ble_eq_true rfl)⟩ ⟨(Nat.le_of_ble_eq_true rfl), (Nat.le_of_ble_eq_true rfl)⟩ dX10_init_140 (fun u140 H locs S => ?_)
  have S : Sn D A s ((h0, .inr (10, [.ref q5, .ref q16, .int 0, .ref u9.1.1, .ref u9.2.2.1, .ref u9.2.1.1, .ref q65, .ref q76, .ref q91, .ref q106, .ref q117, .null, .null, .null])) :: ([] ++ pX8 ca q5 u9 ++ pX8 ca q16 u20 ++ pX9 ca q65 u69 ++ pX5 (u9.2.1.1) ca q76 u84 ++ pX5 (q65) ca q91 u99 ++ pX7 ca q106 u110 ++ pX2 ca q117 u121 ++ pX3 (u9.1.1) (q117) ca q128 u140)) H locs := S
  refine n_putF C cf_10 S hin 11 (by decide) w_1_123 ⟨rfl, rfl⟩ ⟨rfl, rfl⟩ (Nat.le_of_ble_eq_true rfl) dX10_init_143 (fun H locs S => ?_)
  have S : Sn D A s ((h0, .inr (10, [.ref q5, .ref q16, .int 0, .ref u9.1.1, .ref u9.2.2.1, .ref u9.2.1.1, .ref q65, .ref q76, .ref q91, .ref q106, .ref q117, .ref q128, .null, .null])) :: ([] ++ pX8 ca q5 u9 ++ pX8 ca q16 u20 ++ pX9 ca q65 u69 ++ pX5 (u9.2.1.1) ca q76 u84 ++ pX5 (q65) ca q91 u99 ++ pX7 ca q106 u110 ++ pX2 ca q117 u121 ++ pX3 (u9.1.1) (q117) ca q128 u140)) H locs := S
  refine lv_aload_n C.1 C.2.1 dX10_init_146 rfl (lv_at hl 0 rfl) ?_
  refine n_new [.null, .null, .null] C S cf_6 w_1_90 w_1_91 w_0_11 fs_6 (Nat.le_of_ble_eq_true rfl) (Nat.le_of_ble_eq_true rfl) dX10_init_147 (fun q147 H S => ?_)
  refine lv_dup C.1 C.2.1 dX10_init_150 rfl ?_
  refine n_mkN (host := "WarmthShared") C S hl k_X6_init (by decide +kernel) ⟨w_0_11, w_1_93, w_1_94⟩ rfl ds_6 [.ref q147, .ref h0] rfl rfl (Nat.le_of_ble_eq_true rfl) ⟨(Nat.le_of_ble_eq_true rfl), (Nat.le_of_ble_eq_true rfl)⟩ ⟨(Nat.le_of_ble_eq_true rfl), (Nat.le_of_ble_eq_true rfl)⟩ dX10_init_151 (fun u151 H locs S => ?_)
  have S : Sn D A s ((h0, .inr (10, [.ref q5, .ref q16, .int 0, .ref u9.1.1, .ref u9.2.2.1, .ref u9.2.1.1, .ref q65, .ref q76, .ref q91, .ref q106, .ref q117, .ref q128, .null, .null])) :: ([] ++ pX8 ca q5 u9 ++ pX8 ca q16 u20 ++ pX9 ca q65 u69 ++ pX5 (u9.2.1.1) ca q76 u84 ++ pX5 (q65) ca q91 u99 ++ pX7 ca q106 u110 ++ pX2 ca q117 u121 ++ pX3 (u9.1.1) (q117) ca q128 u140 ++ pX6 ca q147 u151)) H locs := S
  refine n_putF C cf_10 S hin 12 (by decide) w_1_124 ⟨rfl, rfl⟩ ⟨rfl, rfl⟩ (Nat.le_of_ble_eq_true rfl) dX10_init_154 (fun H locs S => ?_)
  have S : Sn D A s ((h0, .inr (10, [.ref q5, .ref q16, .int 0, .ref u9.1.1, .ref u9.2.2.1, .ref u9.2.1.1, .ref q65, .ref q76, .ref q91, .ref q106, .ref q117, .ref q128, .ref q147, .null])) :: ([] ++ pX8 ca q5 u9 ++ pX8 ca q16 u20 ++ pX9 ca q65 u69 ++ pX5 (u9.2.1.1) ca q76 u84 ++ pX5 (q65) ca q91 u99 ++ pX7 ca q106 u110 ++ pX2 ca q117 u121 ++ pX3 (u9.1.1) (q117) ca q128 u140 ++ pX6 ca q147 u151)) H locs := S
  refine lv_aload_n C.1 C.2.1 dX10_init_157 rfl (lv_at hl 0 rfl) ?_
  refine lv_bipush (v := 7) C.1 C.2.1 dX10_init_158 (by decide) ?_
  refine n_newi C S 7 (by decide) (by decide) (Nat.le_of_ble_eq_true rfl) (Nat.le_of_ble_eq_true rfl) (Nat.le_of_ble_eq_true rfl) dX10_init_160 (fun q160 H S => ?_)
  have S : Sn D A s ((h0, .inr (10, [.ref q5, .ref q16, .int 0, .ref u9.1.1, .ref u9.2.2.1, .ref u9.2.1.1, .ref q65, .ref q76, .ref q91, .ref q106, .ref q117, .ref q128, .ref q147, .null])) :: ([] ++ pX8 ca q5 u9 ++ pX8 ca q16 u20 ++ pX9 ca q65 u69 ++ pX5 (u9.2.1.1) ca q76 u84 ++ pX5 (q65) ca q91 u99 ++ pX7 ca q106 u110 ++ pX2 ca q117 u121 ++ pX3 (u9.1.1) (q117) ca q128 u140 ++ pX6 ca q147 u151 ++ [(q160, .inl (ca 0, 7, .inl (fun _ => 0)))])) H locs := S
  refine n_putF C cf_10 S hin 13 (by decide) w_1_125 ⟨rfl, rfl⟩ ⟨rfl, rfl⟩ (Nat.le_of_ble_eq_true rfl) dX10_init_162 (fun H locs S => ?_)
  have S : Sn D A s ((h0, .inr (10, [.ref q5, .ref q16, .int 0, .ref u9.1.1, .ref u9.2.2.1, .ref u9.2.1.1, .ref q65, .ref q76, .ref q91, .ref q106, .ref q117, .ref q128, .ref q147, .ref q160])) :: ([] ++ pX8 ca q5 u9 ++ pX8 ca q16 u20 ++ pX9 ca q65 u69 ++ pX5 (u9.2.1.1) ca q76 u84 ++ pX5 (q65) ca q91 u99 ++ pX7 ca q106 u110 ++ pX2 ca q117 u121 ++ pX3 (u9.1.1) (q117) ca q128 u140 ++ pX6 ca q147 u151 ++ [(q160, .inl (ca 0, 7, .inl (fun _ => 0)))])) H locs := S
  have eW : ((h0, .inr (10, [.ref q5, .ref q16, .int 0, .ref u9.1.1, .ref u9.2.2.1, .ref u9.2.1.1, .ref q65, .ref q76, .ref q91, .ref q106, .ref q117, .ref q128, .ref q147, .ref q160])) :: ([] ++ pX8 ca q5 u9 ++ pX8 ca q16 u20 ++ pX9 ca q65 u69 ++ pX5 (u9.2.1.1) ca q76 u84 ++ pX5 (q65) ca q91 u99 ++ pX7 ca q106 u110 ++ pX2 ca q117 u121 ++ pX3 (u9.1.1) (q117) ca q128 u140 ++ pX6 ca q147 u151 ++ [(q160, .inl (ca 0, 7, .inl (fun _ => 0)))])) = pX10 ca h0 (((q5, u9), (q16, u20), (q65, u69), (q76, u84), (q91, u99), (q106, u110), (q117, u121), (q128, u140), (q147, u151), q160)) := by
    simp only [List.append_assoc, List.cons_append, List.nil_append]
    rfl
  rw [eW] at S
  refine W.widen (k := 75) (n := 1221) (Nat.le_of_ble_eq_true rfl) (Nat.le_of_ble_eq_true rfl) ?_
  exact W.vret C.1 C.2.1 hr (fun t ht hW => ⟨⟨(), rfl, trivial, (((q5, u9), (q16, u20), (q65, u69), (q76, u84), (q91, u99), (q106, u110), (q117, u121), (q128, u140), (q147, u151), q160)), by rw [ht]; exact S.1, S.2.1⟩, S.2.2.F ht⟩) S.2.2.2.2 dX10_init_165 hlocks

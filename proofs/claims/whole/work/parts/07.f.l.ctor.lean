set_option maxHeartbeats 4000000 in
set_option maxRecDepth 100000 in
theorem k_X11_init : MK yX11_init cX11_init 1 1 12 27 1321 [] 11 (.null :: .null :: .int 0 :: .null :: .int 0 :: .null :: .null :: .null :: .null :: .null :: .null :: .null :: .null :: .null :: .null :: .null :: .null :: .null :: .int 0 :: .null :: .int 0 :: .null :: .int 0 :: .int 0 :: .int 0 :: .int 0 :: .null :: .null :: .null :: .null :: .int 0 :: .int 0 :: .int 0 :: .int 0 :: .int 0 :: .int 0 :: .int 0 :: .int 0 :: .null :: .null :: .null :: .null :: .null :: []) (pX11) := by
  refine MK.of (by decide) ?_
  intro l D ca h0 A p e s m below meth c C S hr hlocks hin
  have hl := lv_entry ([.ref h0]) (n := 1) (Nat.le_of_ble_eq_true rfl)
  rw [lg_entry_eq]
  generalize (lg_sl ([.ref h0]) ++ List.replicate (1 - (lg_sl ([.ref h0])).length) Slot.unset).toArray = ls at hl ⊢
  have hl : lv_has ls 1 [(0, .ref h0)] := hl
  generalize ha9 : ([.ref h0] : List Value).toArray = args at C ⊢
  have C : Cn D ca A p s m c args RX11 cX11_init 1 := C
  have hin : meth.name = "<init>" := hin
  generalize s.heap = H at S ⊢
  generalize ([] : List Loc) = locs at S ⊢
  refine lv_aload_n C.1 C.2.1 dX11_init_0 rfl (lv_at hl 0 rfl) ?_
  refine W.objInit C.1 C.2.1 C.2.2.2.1 (C.2.2.2.2.1 _ w_4_9) (C.2.2.2.2.1 _ oi1) (C.2.2.2.2.1 _ oi2) rfl (by rw [C.2.2.1]; exact hl.1) rfl dX11_init_1 (Nat.le_of_ble_eq_true rfl) (Nat.le_of_ble_eq_true rfl) ?_
  refine W.eq (g2 := F0 m 4 ls []) rfl ?_
  refine lv_aload_n C.1 C.2.1 dX11_init_4 rfl (lv_at hl 0 rfl) ?_
  refine lv_sipush (v := 291) C.1 C.2.1 dX11_init_5 (by decide) ?_
  have hfl : ((.null :: .null :: vz0 :: .null :: vz0 :: .null :: .null :: .null :: .null :: .null :: .null :: .null :: .null :: .null :: .null :: .null :: .null :: .null :: vz0 :: .null :: vz0 :: .null :: vz0 :: vz0 :: vz0 :: vz0 :: .null :: .null :: .null :: .null :: vz0 :: vz0 :: vz0 :: vz0 :: vz0 :: vz0 :: vz0 :: vz0 :: .null :: .null :: .null :: .null :: .null :: []) : List Value).length = 43 := rfl
  have S : Sn D A s ((h0, .inr (11, (.null :: .null :: vz0 :: .null :: vz0 :: .null :: .null :: .null :: .null :: .null :: .null :: .null :: .null :: .null :: .null :: .null :: .null :: .null :: vz0 :: .null :: vz0 :: .null :: vz0 :: vz0 :: vz0 :: vz0 :: .null :: .null :: .null :: .null :: vz0 :: vz0 :: vz0 :: vz0 :: vz0 :: vz0 :: vz0 :: vz0 :: .null :: .null :: .null :: .null :: .null :: []))) :: []) H locs := S
  refine n_arri C cf_11 S hfl hin 0 (by decide) w_4_10 ⟨rfl, rfl⟩ rfl 291 (by decide) (by decide) (Nat.le_of_ble_eq_true rfl) (Nat.le_of_ble_eq_true rfl) (Nat.le_of_ble_eq_true rfl) dX11_init_8 dX11_init_10 (fun q8 fs1 B1 H locs ef1 eB1 hfl S => ?_)
  have ef1 : fs1 = (.ref q8 :: .null :: vz0 :: .null :: vz0 :: .null :: .null :: .null :: .null :: .null :: .null :: .null :: .null :: .null :: .null :: .null :: .null :: .null :: vz0 :: .null :: vz0 :: .null :: vz0 :: vz0 :: vz0 :: vz0 :: .null :: .null :: .null :: .null :: vz0 :: vz0 :: vz0 :: vz0 :: vz0 :: vz0 :: vz0 :: vz0 :: .null :: .null :: .null :: .null :: .null :: []) := ef1
  rw [ef1] at S hfl
  have eB1 : B1 = [(q8, ia ca 291)] := eB1
  rw [eB1] at S
  obtain ⟨T1, eT1⟩ : ∃ x : va_W, x = [] := ⟨_, rfl⟩
  rw [← eT1] at S
  refine lv_aload_n C.1 C.2.1 dX11_init_13 rfl (lv_at hl 0 rfl) ?_
  refine lv_sipush (v := 291) C.1 C.2.1 dX11_init_14 (by decide) ?_
  refine n_arri C cf_11 S hfl hin 1 (by decide) w_4_11 ⟨rfl, rfl⟩ rfl 291 (by decide) (by decide) (Nat.le_of_ble_eq_true rfl) (Nat.le_of_ble_eq_true rfl) (Nat.le_of_ble_eq_true rfl) dX11_init_17 dX11_init_19 (fun q17 fs2 B2 H locs ef2 eB2 hfl S => ?_)
  have ef2 : fs2 = (.ref q8 :: .ref q17 :: vz0 :: .null :: vz0 :: .null :: .null :: .null :: .null :: .null :: .null :: .null :: .null :: .null :: .null :: .null :: .null :: .null :: vz0 :: .null :: vz0 :: .null :: vz0 :: vz0 :: vz0 :: vz0 :: .null :: .null :: .null :: .null :: vz0 :: vz0 :: vz0 :: vz0 :: vz0 :: vz0 :: vz0 :: vz0 :: .null :: .null :: .null :: .null :: .null :: []) := ef2
  rw [ef2] at S hfl
  obtain ⟨T2, eT2⟩ : ∃ x : va_W, x = T1 ++ [(q17, ia ca 291)] := ⟨_, rfl⟩
  have eB2 : B2 = (q8, ia ca 291) :: T2 := eB2.trans (app_1 eT2)
  rw [eB2] at S
  refine lv_aload_n C.1 C.2.1 dX11_init_22 rfl (lv_at hl 0 rfl) ?_
  refine lv_bipush (v := 7) C.1 C.2.1 dX11_init_23 (by decide) ?_
  refine n_arri C cf_11 S hfl hin 3 (by decide) w_4_13 ⟨rfl, rfl⟩ rfl 7 (by decide) (by decide) (Nat.le_of_ble_eq_true rfl) (Nat.le_of_ble_eq_true rfl) (Nat.le_of_ble_eq_true rfl) dX11_init_25 dX11_init_27 (fun q25 fs3 B3 H locs ef3 eB3 hfl S => ?_)
  have ef3 : fs3 = (.ref q8 :: .ref q17 :: vz0 :: .ref q25 :: vz0 :: .null :: .null :: .null :: .null :: .null :: .null :: .null :: .null :: .null :: .null :: .null :: .null :: .null :: vz0 :: .null :: vz0 :: .null :: vz0 :: vz0 :: vz0 :: vz0 :: .null :: .null :: .null :: .null :: vz0 :: vz0 :: vz0 :: vz0 :: vz0 :: vz0 :: vz0 :: vz0 :: .null :: .null :: .null :: .null :: .null :: []) := ef3
  rw [ef3] at S hfl
  obtain ⟨T3, eT3⟩ : ∃ x : va_W, x = T2 ++ [(q25, ia ca 7)] := ⟨_, rfl⟩
  have eB3 : B3 = (q8, ia ca 291) :: T3 := eB3.trans (app_1 eT3)
  rw [eB3] at S
  refine lv_aload_n C.1 C.2.1 dX11_init_30 rfl (lv_at hl 0 rfl) ?_
  refine lv_bipush (v := 12) C.1 C.2.1 dX11_init_31 (by decide) ?_
  refine n_arri C cf_11 S hfl hin 5 (by decide) w_4_15 ⟨rfl, rfl⟩ rfl 12 (by decide) (by decide) (Nat.le_of_ble_eq_true rfl) (Nat.le_of_ble_eq_true rfl) (Nat.le_of_ble_eq_true rfl) dX11_init_33 dX11_init_35 (fun q33 fs4 B4 H locs ef4 eB4 hfl S => ?_)
  have ef4 : fs4 = (.ref q8 :: .ref q17 :: vz0 :: .ref q25 :: vz0 :: .ref q33 :: .null :: .null :: .null :: .null :: .null :: .null :: .null :: .null :: .null :: .null :: .null :: .null :: vz0 :: .null :: vz0 :: .null :: vz0 :: vz0 :: vz0 :: vz0 :: .null :: .null :: .null :: .null :: vz0 :: vz0 :: vz0 :: vz0 :: vz0 :: vz0 :: vz0 :: vz0 :: .null :: .null :: .null :: .null :: .null :: []) := ef4
  rw [ef4] at S hfl
  obtain ⟨T4, eT4⟩ : ∃ x : va_W, x = T3 ++ [(q33, ia ca 12)] := ⟨_, rfl⟩
  have eB4 : B4 = (q8, ia ca 291) :: T4 := eB4.trans (app_1 eT4)
  rw [eB4] at S
  refine lv_aload_n C.1 C.2.1 dX11_init_38 rfl (lv_at hl 0 rfl) ?_
  refine lv_bipush (v := 12) C.1 C.2.1 dX11_init_39 (by decide) ?_
  refine n_arri C cf_11 S hfl hin 6 (by decide) w_4_16 ⟨rfl, rfl⟩ rfl 12 (by decide) (by decide) (Nat.le_of_ble_eq_true rfl) (Nat.le_of_ble_eq_true rfl) (Nat.le_of_ble_eq_true rfl) dX11_init_41 dX11_init_43 (fun q41 fs5 B5 H locs ef5 eB5 hfl S => ?_)
  have ef5 : fs5 = (.ref q8 :: .ref q17 :: vz0 :: .ref q25 :: vz0 :: .ref q33 :: .ref q41 :: .null :: .null :: .null :: .null :: .null :: .null :: .null :: .null :: .null :: .null :: .null :: vz0 :: .null :: vz0 :: .null :: vz0 :: vz0 :: vz0 :: vz0 :: .null :: .null :: .null :: .null :: vz0 :: vz0 :: vz0 :: vz0 :: vz0 :: vz0 :: vz0 :: vz0 :: .null :: .null :: .null :: .null :: .null :: []) := ef5
  rw [ef5] at S hfl
  obtain ⟨T5, eT5⟩ : ∃ x : va_W, x = T4 ++ [(q41, ia ca 12)] := ⟨_, rfl⟩
  have eB5 : B5 = (q8, ia ca 291) :: T5 := eB5.trans (app_1 eT5)
  rw [eB5] at S
  refine lv_aload_n C.1 C.2.1 dX11_init_46 rfl (lv_at hl 0 rfl) ?_
  refine lv_bipush (v := 12) C.1 C.2.1 dX11_init_47 (by decide) ?_
  refine n_arri C cf_11 S hfl hin 7 (by decide) w_4_17 ⟨rfl, rfl⟩ rfl 12 (by decide) (by decide) (Nat.le_of_ble_eq_true rfl) (Nat.le_of_ble_eq_true rfl) (Nat.le_of_ble_eq_true rfl) dX11_init_49 dX11_init_51 (fun q49 fs6 B6 H locs ef6 eB6 hfl S => ?_)
  have ef6 : fs6 = (.ref q8 :: .ref q17 :: vz0 :: .ref q25 :: vz0 :: .ref q33 :: .ref q41 :: .ref q49 :: .null :: .null :: .null :: .null :: .null :: .null :: .null :: .null :: .null :: .null :: vz0 :: .null :: vz0 :: .null :: vz0 :: vz0 :: vz0 :: vz0 :: .null :: .null :: .null :: .null :: vz0 :: vz0 :: vz0 :: vz0 :: vz0 :: vz0 :: vz0 :: vz0 :: .null :: .null :: .null :: .null :: .null :: []) := ef6
  rw [ef6] at S hfl
  obtain ⟨T6, eT6⟩ : ∃ x : va_W, x = T5 ++ [(q49, ia ca 12)] := ⟨_, rfl⟩
  have eB6 : B6 = (q8, ia ca 291) :: T6 := eB6.trans (app_1 eT6)
  rw [eB6] at S
  refine lv_aload_n C.1 C.2.1 dX11_init_54 rfl (lv_at hl 0 rfl) ?_
  refine lv_bipush (v := 12) C.1 C.2.1 dX11_init_55 (by decide) ?_
  refine n_arri C cf_11 S hfl hin 8 (by decide) w_4_18 ⟨rfl, rfl⟩ rfl 12 (by decide) (by decide) (Nat.le_of_ble_eq_true rfl) (Nat.le_of_ble_eq_true rfl) (Nat.le_of_ble_eq_true rfl) dX11_init_57 dX11_init_59 (fun q57 fs7 B7 H locs ef7 eB7 hfl S => ?_)
  have ef7 : fs7 = (.ref q8 :: .ref q17 :: vz0 :: .ref q25 :: vz0 :: .ref q33 :: .ref q41 :: .ref q49 :: .ref q57 :: .null :: .null :: .null :: .null :: .null :: .null :: .null :: .null :: .null :: vz0 :: .null :: vz0 :: .null :: vz0 :: vz0 :: vz0 :: vz0 :: .null :: .null :: .null :: .null :: vz0 :: vz0 :: vz0 :: vz0 :: vz0 :: vz0 :: vz0 :: vz0 :: .null :: .null :: .null :: .null :: .null :: []) := ef7
  rw [ef7] at S hfl
  obtain ⟨T7, eT7⟩ : ∃ x : va_W, x = T6 ++ [(q57, ia ca 12)] := ⟨_, rfl⟩
  have eB7 : B7 = (q8, ia ca 291) :: T7 := eB7.trans (app_1 eT7)
  rw [eB7] at S
  refine lv_aload_n C.1 C.2.1 dX11_init_62 rfl (lv_at hl 0 rfl) ?_
  refine lv_bipush (v := 12) C.1 C.2.1 dX11_init_63 (by decide) ?_
  refine n_arri C cf_11 S hfl hin 9 (by decide) w_4_19 ⟨rfl, rfl⟩ rfl 12 (by decide) (by decide) (Nat.le_of_ble_eq_true rfl) (Nat.le_of_ble_eq_true rfl) (Nat.le_of_ble_eq_true rfl) dX11_init_65 dX11_init_67 (fun q65 fs8 B8 H locs ef8 eB8 hfl S => ?_)
  have ef8 : fs8 = (.ref q8 :: .ref q17 :: vz0 :: .ref q25 :: vz0 :: .ref q33 :: .ref q41 :: .ref q49 :: .ref q57 :: .ref q65 :: .null :: .null :: .null :: .null :: .null :: .null :: .null :: .null :: vz0 :: .null :: vz0 :: .null :: vz0 :: vz0 :: vz0 :: vz0 :: .null :: .null :: .null :: .null :: vz0 :: vz0 :: vz0 :: vz0 :: vz0 :: vz0 :: vz0 :: vz0 :: .null :: .null :: .null :: .null :: .null :: []) := ef8
  rw [ef8] at S hfl
  obtain ⟨T8, eT8⟩ : ∃ x : va_W, x = T7 ++ [(q65, ia ca 12)] := ⟨_, rfl⟩
  have eB8 : B8 = (q8, ia ca 291) :: T8 := eB8.trans (app_1 eT8)
  rw [eB8] at S
  refine lv_aload_n C.1 C.2.1 dX11_init_70 rfl (lv_at hl 0 rfl) ?_
  refine lv_bipush (v := 12) C.1 C.2.1 dX11_init_71 (by decide) ?_
  refine n_arri C cf_11 S hfl hin 10 (by decide) w_4_20 ⟨rfl, rfl⟩ rfl 12 (by decide) (by decide) (Nat.le_of_ble_eq_true rfl) (Nat.le_of_ble_eq_true rfl) (Nat.le_of_ble_eq_true rfl) dX11_init_73 dX11_init_75 (fun q73 fs9 B9 H locs ef9 eB9 hfl S => ?_)
  have ef9 : fs9 = (.ref q8 :: .ref q17 :: vz0 :: .ref q25 :: vz0 :: .ref q33 :: .ref q41 :: .ref q49 :: .ref q57 :: .ref q65 :: .ref q73 :: .null :: .null :: .null :: .null :: .null :: .null :: .null :: vz0 :: .null :: vz0 :: .null :: vz0 :: vz0 :: vz0 :: vz0 :: .null :: .null :: .null :: .null :: vz0 :: vz0 :: vz0 :: vz0 :: vz0 :: vz0 :: vz0 :: vz0 :: .null :: .null :: .null :: .null :: .null :: []) := ef9
  rw [ef9] at S hfl
  obtain ⟨T9, eT9⟩ : ∃ x : va_W, x = T8 ++ [(q73, ia ca 12)] := ⟨_, rfl⟩
  have eB9 : B9 = (q8, ia ca 291) :: T9 := eB9.trans (app_1 eT9)
  rw [eB9] at S
  refine lv_aload_n C.1 C.2.1 dX11_init_78 rfl (lv_at hl 0 rfl) ?_
  refine lv_bipush (v := 12) C.1 C.2.1 dX11_init_79 (by decide) ?_
  refine n_arri C cf_11 S hfl hin 11 (by decide) w_4_21 ⟨rfl, rfl⟩ rfl 12 (by decide) (by decide) (Nat.le_of_ble_eq_true rfl) (Nat.le_of_ble_eq_true rfl) (Nat.le_of_ble_eq_true rfl) dX11_init_81 dX11_init_83 (fun q81 fs10 B10 H locs ef10 eB10 hfl S => ?_)
  have ef10 : fs10 = (.ref q8 :: .ref q17 :: vz0 :: .ref q25 :: vz0 :: .ref q33 :: .ref q41 :: .ref q49 :: .ref q57 :: .ref q65 :: .ref q73 :: .ref q81 :: .null :: .null :: .null :: .null :: .null :: .null :: vz0 :: .null :: vz0 :: .null :: vz0 :: vz0 :: vz0 :: vz0 :: .null :: .null :: .null :: .null :: vz0 :: vz0 :: vz0 :: vz0 :: vz0 :: vz0 :: vz0 :: vz0 :: .null :: .null :: .null :: .null :: .null :: []) := ef10
  rw [ef10] at S hfl
  obtain ⟨T10, eT10⟩ : ∃ x : va_W, x = T9 ++ [(q81, ia ca 12)] := ⟨_, rfl⟩
  have eB10 : B10 = (q8, ia ca 291) :: T10 := eB10.trans (app_1 eT10)
  rw [eB10] at S
  refine lv_aload_n C.1 C.2.1 dX11_init_86 rfl (lv_at hl 0 rfl) ?_
  refine lv_bipush (v := 12) C.1 C.2.1 dX11_init_87 (by decide) ?_
  refine n_arri C cf_11 S hfl hin 12 (by decide) w_4_22 ⟨rfl, rfl⟩ rfl 12 (by decide) (by decide) (Nat.le_of_ble_eq_true rfl) (Nat.le_of_ble_eq_true rfl) (Nat.le_of_ble_eq_true rfl) dX11_init_89 dX11_init_91 (fun q89 fs11 B11 H locs ef11 eB11 hfl S => ?_)
  have ef11 : fs11 = (.ref q8 :: .ref q17 :: vz0 :: .ref q25 :: vz0 :: .ref q33 :: .ref q41 :: .ref q49 :: .ref q57 :: .ref q65 :: .ref q73 :: .ref q81 :: .ref q89 :: .null :: .null :: .null :: .null :: .null :: vz0 :: .null :: vz0 :: .null :: vz0 :: vz0 :: vz0 :: vz0 :: .null :: .null :: .null :: .null :: vz0 :: vz0 :: vz0 :: vz0 :: vz0 :: vz0 :: vz0 :: vz0 :: .null :: .null :: .null :: .null :: .null :: []) := ef11
  rw [ef11] at S hfl
  obtain ⟨T11, eT11⟩ : ∃ x : va_W, x = T10 ++ [(q89, ia ca 12)] := ⟨_, rfl⟩
  have eB11 : B11 = (q8, ia ca 291) :: T11 := eB11.trans (app_1 eT11)
  rw [eB11] at S
  refine lv_aload_n C.1 C.2.1 dX11_init_94 rfl (lv_at hl 0 rfl) ?_
  refine lv_bipush (v := 12) C.1 C.2.1 dX11_init_95 (by decide) ?_
  refine n_arri C cf_11 S hfl hin 13 (by decide) w_4_23 ⟨rfl, rfl⟩ rfl 12 (by decide) (by decide) (Nat.le_of_ble_eq_true rfl) (Nat.le_of_ble_eq_true rfl) (Nat.le_of_ble_eq_true rfl) dX11_init_97 dX11_init_99 (fun q97 fs12 B12 H locs ef12 eB12 hfl S => ?_)
  have ef12 : fs12 = (.ref q8 :: .ref q17 :: vz0 :: .ref q25 :: vz0 :: .ref q33 :: .ref q41 :: .ref q49 :: .ref q57 :: .ref q65 :: .ref q73 :: .ref q81 :: .ref q89 :: .ref q97 :: .null :: .null :: .null :: .null :: vz0 :: .null :: vz0 :: .null :: vz0 :: vz0 :: vz0 :: vz0 :: .null :: .null :: .null :: .null :: vz0 :: vz0 :: vz0 :: vz0 :: vz0 :: vz0 :: vz0 :: vz0 :: .null :: .null :: .null :: .null :: .null :: []) := ef12
  rw [ef12] at S hfl
  obtain ⟨T12, eT12⟩ : ∃ x : va_W, x = T11 ++ [(q97, ia ca 12)] := ⟨_, rfl⟩
  have eB12 : B12 = (q8, ia ca 291) :: T12 := eB12.trans (app_1 eT12)
  rw [eB12] at S
  refine lv_aload_n C.1 C.2.1 dX11_init_102 rfl (lv_at hl 0 rfl) ?_
  refine lv_bipush (v := 12) C.1 C.2.1 dX11_init_103 (by decide) ?_
  refine n_arri C cf_11 S hfl hin 14 (by decide) w_4_24 ⟨rfl, rfl⟩ rfl 12 (by decide) (by decide) (Nat.le_of_ble_eq_true rfl) (Nat.le_of_ble_eq_true rfl) (Nat.le_of_ble_eq_true rfl) dX11_init_105 dX11_init_107 (fun q105 fs13 B13 H locs ef13 eB13 hfl S => ?_)
  have ef13 : fs13 = (.ref q8 :: .ref q17 :: vz0 :: .ref q25 :: vz0 :: .ref q33 :: .ref q41 :: .ref q49 :: .ref q57 :: .ref q65 :: .ref q73 :: .ref q81 :: .ref q89 :: .ref q97 :: .ref q105 :: .null :: .null :: .null :: vz0 :: .null :: vz0 :: .null :: vz0 :: vz0 :: vz0 :: vz0 :: .null :: .null :: .null :: .null :: vz0 :: vz0 :: vz0 :: vz0 :: vz0 :: vz0 :: vz0 :: vz0 :: .null :: .null :: .null :: .null :: .null :: []) := ef13
  rw [ef13] at S hfl
  obtain ⟨T13, eT13⟩ : ∃ x : va_W, x = T12 ++ [(q105, ia ca 12)] := ⟨_, rfl⟩
  have eB13 : B13 = (q8, ia ca 291) :: T13 := eB13.trans (app_1 eT13)
  rw [eB13] at S
  refine lv_aload_n C.1 C.2.1 dX11_init_110 rfl (lv_at hl 0 rfl) ?_
  refine lv_bipush (v := 12) C.1 C.2.1 dX11_init_111 (by decide) ?_
  refine n_arri C cf_11 S hfl hin 15 (by decide) w_4_25 ⟨rfl, rfl⟩ rfl 12 (by decide) (by decide) (Nat.le_of_ble_eq_true rfl) (Nat.le_of_ble_eq_true rfl) (Nat.le_of_ble_eq_true rfl) dX11_init_113 dX11_init_115 (fun q113 fs14 B14 H locs ef14 eB14 hfl S => ?_)
  have ef14 : fs14 = (.ref q8 :: .ref q17 :: vz0 :: .ref q25 :: vz0 :: .ref q33 :: .ref q41 :: .ref q49 :: .ref q57 :: .ref q65 :: .ref q73 :: .ref q81 :: .ref q89 :: .ref q97 :: .ref q105 :: .ref q113 :: .null :: .null :: vz0 :: .null :: vz0 :: .null :: vz0 :: vz0 :: vz0 :: vz0 :: .null :: .null :: .null :: .null :: vz0 :: vz0 :: vz0 :: vz0 :: vz0 :: vz0 :: vz0 :: vz0 :: .null :: .null :: .null :: .null :: .null :: []) := ef14
  rw [ef14] at S hfl
  obtain ⟨T14, eT14⟩ : ∃ x : va_W, x = T13 ++ [(q113, ia ca 12)] := ⟨_, rfl⟩
  have eB14 : B14 = (q8, ia ca 291) :: T14 := eB14.trans (app_1 eT14)
  rw [eB14] at S
  refine lv_aload_n C.1 C.2.1 dX11_init_118 rfl (lv_at hl 0 rfl) ?_
  refine lv_bipush (v := 12) C.1 C.2.1 dX11_init_119 (by decide) ?_
  refine n_arri C cf_11 S hfl hin 16 (by decide) w_4_26 ⟨rfl, rfl⟩ rfl 12 (by decide) (by decide) (Nat.le_of_ble_eq_true rfl) (Nat.le_of_ble_eq_true rfl) (Nat.le_of_ble_eq_true rfl) dX11_init_121 dX11_init_123 (fun q121 fs15 B15 H locs ef15 eB15 hfl S => ?_)
  have ef15 : fs15 = (.ref q8 :: .ref q17 :: vz0 :: .ref q25 :: vz0 :: .ref q33 :: .ref q41 :: .ref q49 :: .ref q57 :: .ref q65 :: .ref q73 :: .ref q81 :: .ref q89 :: .ref q97 :: .ref q105 :: .ref q113 :: .ref q121 :: .null :: vz0 :: .null :: vz0 :: .null :: vz0 :: vz0 :: vz0 :: vz0 :: .null :: .null :: .null :: .null :: vz0 :: vz0 :: vz0 :: vz0 :: vz0 :: vz0 :: vz0 :: vz0 :: .null :: .null :: .null :: .null :: .null :: []) := ef15
  rw [ef15] at S hfl
  obtain ⟨T15, eT15⟩ : ∃ x : va_W, x = T14 ++ [(q121, ia ca 12)] := ⟨_, rfl⟩
  have eB15 : B15 = (q8, ia ca 291) :: T15 := eB15.trans (app_1 eT15)
  rw [eB15] at S
  refine lv_aload_n C.1 C.2.1 dX11_init_126 rfl (lv_at hl 0 rfl) ?_
  refine lv_bipush (v := 80) C.1 C.2.1 dX11_init_127 (by decide) ?_
  refine n_arri C cf_11 S hfl hin 17 (by decide) w_4_27 ⟨rfl, rfl⟩ rfl 80 (by decide) (by decide) (Nat.le_of_ble_eq_true rfl) (Nat.le_of_ble_eq_true rfl) (Nat.le_of_ble_eq_true rfl) dX11_init_129 dX11_init_131 (fun q129 fs16 B16 H locs ef16 eB16 hfl S => ?_)
  have ef16 : fs16 = (.ref q8 :: .ref q17 :: vz0 :: .ref q25 :: vz0 :: .ref q33 :: .ref q41 :: .ref q49 :: .ref q57 :: .ref q65 :: .ref q73 :: .ref q81 :: .ref q89 :: .ref q97 :: .ref q105 :: .ref q113 :: .ref q121 :: .ref q129 :: vz0 :: .null :: vz0 :: .null :: vz0 :: vz0 :: vz0 :: vz0 :: .null :: .null :: .null :: .null :: vz0 :: vz0 :: vz0 :: vz0 :: vz0 :: vz0 :: vz0 :: vz0 :: .null :: .null :: .null :: .null :: .null :: []) := ef16
  rw [ef16] at S hfl
  obtain ⟨T16, eT16⟩ : ∃ x : va_W, x = T15 ++ [(q129, ia ca 80)] := ⟨_, rfl⟩
  have eB16 : B16 = (q8, ia ca 291) :: T16 := eB16.trans (app_1 eT16)
  rw [eB16] at S
  refine lv_aload_n C.1 C.2.1 dX11_init_134 rfl (lv_at hl 0 rfl) ?_
  refine lv_bipush (v := 80) C.1 C.2.1 dX11_init_135 (by decide) ?_
  refine n_arri C cf_11 S hfl hin 19 (by decide) w_4_29 ⟨rfl, rfl⟩ rfl 80 (by decide) (by decide) (Nat.le_of_ble_eq_true rfl) (Nat.le_of_ble_eq_true rfl) (Nat.le_of_ble_eq_true rfl) dX11_init_137 dX11_init_139 (fun q137 fs17 B17 H locs ef17 eB17 hfl S => ?_)
  have ef17 : fs17 = (.ref q8 :: .ref q17 :: vz0 :: .ref q25 :: vz0 :: .ref q33 :: .ref q41 :: .ref q49 :: .ref q57 :: .ref q65 :: .ref q73 :: .ref q81 :: .ref q89 :: .ref q97 :: .ref q105 :: .ref q113 :: .ref q121 :: .ref q129 :: vz0 :: .ref q137 :: vz0 :: .null :: vz0 :: vz0 :: vz0 :: vz0 :: .null :: .null :: .null :: .null :: vz0 :: vz0 :: vz0 :: vz0 :: vz0 :: vz0 :: vz0 :: vz0 :: .null :: .null :: .null :: .null :: .null :: []) := ef17
  rw [ef17] at S hfl
  obtain ⟨T17, eT17⟩ : ∃ x : va_W, x = T16 ++ [(q137, ia ca 80)] := ⟨_, rfl⟩
  have eB17 : B17 = (q8, ia ca 291) :: T17 := eB17.trans (app_1 eT17)
  rw [eB17] at S
  refine lv_aload_n C.1 C.2.1 dX11_init_142 rfl (lv_at hl 0 rfl) ?_
  refine lv_bipush (v := 80) C.1 C.2.1 dX11_init_143 (by decide) ?_
  refine n_arri C cf_11 S hfl hin 21 (by decide) w_4_31 ⟨rfl, rfl⟩ rfl 80 (by decide) (by decide) (Nat.le_of_ble_eq_true rfl) (Nat.le_of_ble_eq_true rfl) (Nat.le_of_ble_eq_true rfl) dX11_init_145 dX11_init_147 (fun q145 fs18 B18 H locs ef18 eB18 hfl S => ?_)
  have ef18 : fs18 = (.ref q8 :: .ref q17 :: vz0 :: .ref q25 :: vz0 :: .ref q33 :: .ref q41 :: .ref q49 :: .ref q57 :: .ref q65 :: .ref q73 :: .ref q81 :: .ref q89 :: .ref q97 :: .ref q105 :: .ref q113 :: .ref q121 :: .ref q129 :: vz0 :: .ref q137 :: vz0 :: .ref q145 :: vz0 :: vz0 :: vz0 :: vz0 :: .null :: .null :: .null :: .null :: vz0 :: vz0 :: vz0 :: vz0 :: vz0 :: vz0 :: vz0 :: vz0 :: .null :: .null :: .null :: .null :: .null :: []) := ef18
  rw [ef18] at S hfl
  obtain ⟨T18, eT18⟩ : ∃ x : va_W, x = T17 ++ [(q145, ia ca 80)] := ⟨_, rfl⟩
  have eB18 : B18 = (q8, ia ca 291) :: T18 := eB18.trans (app_1 eT18)
  rw [eB18] at S
  refine lv_aload_n C.1 C.2.1 dX11_init_150 rfl (lv_at hl 0 rfl) ?_
  refine lv_bipush (v := 80) C.1 C.2.1 dX11_init_151 (by decide) ?_
  refine n_arri C cf_11 S hfl hin 26 (by decide) w_4_36 ⟨rfl, rfl⟩ rfl 80 (by decide) (by decide) (Nat.le_of_ble_eq_true rfl) (Nat.le_of_ble_eq_true rfl) (Nat.le_of_ble_eq_true rfl) dX11_init_153 dX11_init_155 (fun q153 fs19 B19 H locs ef19 eB19 hfl S => ?_)
  have ef19 : fs19 = (.ref q8 :: .ref q17 :: vz0 :: .ref q25 :: vz0 :: .ref q33 :: .ref q41 :: .ref q49 :: .ref q57 :: .ref q65 :: .ref q73 :: .ref q81 :: .ref q89 :: .ref q97 :: .ref q105 :: .ref q113 :: .ref q121 :: .ref q129 :: vz0 :: .ref q137 :: vz0 :: .ref q145 :: vz0 :: vz0 :: vz0 :: vz0 :: .ref q153 :: .null :: .null :: .null :: vz0 :: vz0 :: vz0 :: vz0 :: vz0 :: vz0 :: vz0 :: vz0 :: .null :: .null :: .null :: .null :: .null :: []) := ef19
  rw [ef19] at S hfl
  obtain ⟨T19, eT19⟩ : ∃ x : va_W, x = T18 ++ [(q153, ia ca 80)] := ⟨_, rfl⟩
  have eB19 : B19 = (q8, ia ca 291) :: T19 := eB19.trans (app_1 eT19)
  rw [eB19] at S
  refine lv_aload_n C.1 C.2.1 dX11_init_158 rfl (lv_at hl 0 rfl) ?_
  refine lv_bipush (v := 12) C.1 C.2.1 dX11_init_159 (by decide) ?_
  refine n_arri C cf_11 S hfl hin 27 (by decide) w_4_37 ⟨rfl, rfl⟩ rfl 12 (by decide) (by decide) (Nat.le_of_ble_eq_true rfl) (Nat.le_of_ble_eq_true rfl) (Nat.le_of_ble_eq_true rfl) dX11_init_161 dX11_init_163 (fun q161 fs20 B20 H locs ef20 eB20 hfl S => ?_)
  have ef20 : fs20 = (.ref q8 :: .ref q17 :: vz0 :: .ref q25 :: vz0 :: .ref q33 :: .ref q41 :: .ref q49 :: .ref q57 :: .ref q65 :: .ref q73 :: .ref q81 :: .ref q89 :: .ref q97 :: .ref q105 :: .ref q113 :: .ref q121 :: .ref q129 :: vz0 :: .ref q137 :: vz0 :: .ref q145 :: vz0 :: vz0 :: vz0 :: vz0 :: .ref q153 :: .ref q161 :: .null :: .null :: vz0 :: vz0 :: vz0 :: vz0 :: vz0 :: vz0 :: vz0 :: vz0 :: .null :: .null :: .null :: .null :: .null :: []) := ef20
  rw [ef20] at S hfl
  obtain ⟨T20, eT20⟩ : ∃ x : va_W, x = T19 ++ [(q161, ia ca 12)] := ⟨_, rfl⟩
  have eB20 : B20 = (q8, ia ca 291) :: T20 := eB20.trans (app_1 eT20)
  rw [eB20] at S
  refine lv_aload_n C.1 C.2.1 dX11_init_166 rfl (lv_at hl 0 rfl) ?_
  refine lv_bipush (v := 12) C.1 C.2.1 dX11_init_167 (by decide) ?_
  refine n_arri C cf_11 S hfl hin 28 (by decide) w_4_38 ⟨rfl, rfl⟩ rfl 12 (by decide) (by decide) (Nat.le_of_ble_eq_true rfl) (Nat.le_of_ble_eq_true rfl) (Nat.le_of_ble_eq_true rfl) dX11_init_169 dX11_init_171 (fun q169 fs21 B21 H locs ef21 eB21 hfl S => ?_)
  have ef21 : fs21 = (.ref q8 :: .ref q17 :: vz0 :: .ref q25 :: vz0 :: .ref q33 :: .ref q41 :: .ref q49 :: .ref q57 :: .ref q65 :: .ref q73 :: .ref q81 :: .ref q89 :: .ref q97 :: .ref q105 :: .ref q113 :: .ref q121 :: .ref q129 :: vz0 :: .ref q137 :: vz0 :: .ref q145 :: vz0 :: vz0 :: vz0 :: vz0 :: .ref q153 :: .ref q161 :: .ref q169 :: .null :: vz0 :: vz0 :: vz0 :: vz0 :: vz0 :: vz0 :: vz0 :: vz0 :: .null :: .null :: .null :: .null :: .null :: []) := ef21
  rw [ef21] at S hfl
  obtain ⟨T21, eT21⟩ : ∃ x : va_W, x = T20 ++ [(q169, ia ca 12)] := ⟨_, rfl⟩
  have eB21 : B21 = (q8, ia ca 291) :: T21 := eB21.trans (app_1 eT21)
  rw [eB21] at S
  refine lv_aload_n C.1 C.2.1 dX11_init_174 rfl (lv_at hl 0 rfl) ?_
  refine lv_bipush (v := 12) C.1 C.2.1 dX11_init_175 (by decide) ?_
  refine n_arri C cf_11 S hfl hin 29 (by decide) w_4_39 ⟨rfl, rfl⟩ rfl 12 (by decide) (by decide) (Nat.le_of_ble_eq_true rfl) (Nat.le_of_ble_eq_true rfl) (Nat.le_of_ble_eq_true rfl) dX11_init_177 dX11_init_179 (fun q177 fs22 B22 H locs ef22 eB22 hfl S => ?_)
  have ef22 : fs22 = (.ref q8 :: .ref q17 :: vz0 :: .ref q25 :: vz0 :: .ref q33 :: .ref q41 :: .ref q49 :: .ref q57 :: .ref q65 :: .ref q73 :: .ref q81 :: .ref q89 :: .ref q97 :: .ref q105 :: .ref q113 :: .ref q121 :: .ref q129 :: vz0 :: .ref q137 :: vz0 :: .ref q145 :: vz0 :: vz0 :: vz0 :: vz0 :: .ref q153 :: .ref q161 :: .ref q169 :: .ref q177 :: vz0 :: vz0 :: vz0 :: vz0 :: vz0 :: vz0 :: vz0 :: vz0 :: .null :: .null :: .null :: .null :: .null :: []) := ef22
  rw [ef22] at S hfl
  obtain ⟨T22, eT22⟩ : ∃ x : va_W, x = T21 ++ [(q177, ia ca 12)] := ⟨_, rfl⟩
  have eB22 : B22 = (q8, ia ca 291) :: T22 := eB22.trans (app_1 eT22)
  rw [eB22] at S
  refine lv_aload_n C.1 C.2.1 dX11_init_182 rfl (lv_at hl 0 rfl) ?_
  refine lv_bipush (v := 24) C.1 C.2.1 dX11_init_183 (by decide) ?_
  refine n_arri C cf_11 S hfl hin 38 (by decide) w_4_48 ⟨rfl, rfl⟩ rfl 24 (by decide) (by decide) (Nat.le_of_ble_eq_true rfl) (Nat.le_of_ble_eq_true rfl) (Nat.le_of_ble_eq_true rfl) dX11_init_185 dX11_init_187 (fun q185 fs23 B23 H locs ef23 eB23 hfl S => ?_)
  have ef23 : fs23 = (.ref q8 :: .ref q17 :: vz0 :: .ref q25 :: vz0 :: .ref q33 :: .ref q41 :: .ref q49 :: .ref q57 :: .ref q65 :: .ref q73 :: .ref q81 :: .ref q89 :: .ref q97 :: .ref q105 :: .ref q113 :: .ref q121 :: .ref q129 :: vz0 :: .ref q137 :: vz0 :: .ref q145 :: vz0 :: vz0 :: vz0 :: vz0 :: .ref q153 :: .ref q161 :: .ref q169 :: .ref q177 :: vz0 :: vz0 :: vz0 :: vz0 :: vz0 :: vz0 :: vz0 :: vz0 :: .ref q185 :: .null :: .null :: .null :: .null :: []) := ef23
  rw [ef23] at S hfl
  obtain ⟨T23, eT23⟩ : ∃ x : va_W, x = T22 ++ [(q185, ia ca 24)] := ⟨_, rfl⟩
  have eB23 : B23 = (q8, ia ca 291) :: T23 := eB23.trans (app_1 eT23)
  rw [eB23] at S
  refine lv_aload_n C.1 C.2.1 dX11_init_190 rfl (lv_at hl 0 rfl) ?_
  refine lv_iconst (v := 4) C.1 C.2.1 dX11_init_191 (by decide) ?_
  refine n_arri C cf_11 S hfl hin 39 (by decide) w_4_49 ⟨rfl, rfl⟩ rfl 4 (by decide) (by decide) (Nat.le_of_ble_eq_true rfl) (Nat.le_of_ble_eq_true rfl) (Nat.le_of_ble_eq_true rfl) dX11_init_192 dX11_init_194 (fun q192 fs24 B24 H locs ef24 eB24 hfl S => ?_)
  have ef24 : fs24 = (.ref q8 :: .ref q17 :: vz0 :: .ref q25 :: vz0 :: .ref q33 :: .ref q41 :: .ref q49 :: .ref q57 :: .ref q65 :: .ref q73 :: .ref q81 :: .ref q89 :: .ref q97 :: .ref q105 :: .ref q113 :: .ref q121 :: .ref q129 :: vz0 :: .ref q137 :: vz0 :: .ref q145 :: vz0 :: vz0 :: vz0 :: vz0 :: .ref q153 :: .ref q161 :: .ref q169 :: .ref q177 :: vz0 :: vz0 :: vz0 :: vz0 :: vz0 :: vz0 :: vz0 :: vz0 :: .ref q185 :: .ref q192 :: .null :: .null :: .null :: []) := ef24
  rw [ef24] at S hfl
  obtain ⟨T24, eT24⟩ : ∃ x : va_W, x = T23 ++ [(q192, ia ca 4)] := ⟨_, rfl⟩
  have eB24 : B24 = (q8, ia ca 291) :: T24 := eB24.trans (app_1 eT24)
  rw [eB24] at S
  refine lv_aload_n C.1 C.2.1 dX11_init_197 rfl (lv_at hl 0 rfl) ?_
  refine lv_iconst (v := 4) C.1 C.2.1 dX11_init_198 (by decide) ?_
  refine n_arri C cf_11 S hfl hin 40 (by decide) w_4_50 ⟨rfl, rfl⟩ rfl 4 (by decide) (by decide) (Nat.le_of_ble_eq_true rfl) (Nat.le_of_ble_eq_true rfl) (Nat.le_of_ble_eq_true rfl) dX11_init_199 dX11_init_201 (fun q199 fs25 B25 H locs ef25 eB25 hfl S => ?_)
  have ef25 : fs25 = (.ref q8 :: .ref q17 :: vz0 :: .ref q25 :: vz0 :: .ref q33 :: .ref q41 :: .ref q49 :: .ref q57 :: .ref q65 :: .ref q73 :: .ref q81 :: .ref q89 :: .ref q97 :: .ref q105 :: .ref q113 :: .ref q121 :: .ref q129 :: vz0 :: .ref q137 :: vz0 :: .ref q145 :: vz0 :: vz0 :: vz0 :: vz0 :: .ref q153 :: .ref q161 :: .ref q169 :: .ref q177 :: vz0 :: vz0 :: vz0 :: vz0 :: vz0 :: vz0 :: vz0 :: vz0 :: .ref q185 :: .ref q192 :: .ref q199 :: .null :: .null :: []) := ef25
  rw [ef25] at S hfl
  obtain ⟨T25, eT25⟩ : ∃ x : va_W, x = T24 ++ [(q199, ia ca 4)] := ⟨_, rfl⟩
  have eB25 : B25 = (q8, ia ca 291) :: T25 := eB25.trans (app_1 eT25)
  rw [eB25] at S
  refine lv_aload_n C.1 C.2.1 dX11_init_204 rfl (lv_at hl 0 rfl) ?_
  refine lv_sipush (v := 160) C.1 C.2.1 dX11_init_205 (by decide) ?_
  refine n_arrl C cf_11 S hfl hin 41 (by decide) w_4_51 ⟨rfl, rfl⟩ rfl 160 (by decide) (by decide) (Nat.le_of_ble_eq_true rfl) (Nat.le_of_ble_eq_true rfl) (Nat.le_of_ble_eq_true rfl) dX11_init_208 dX11_init_210 (fun q208 fs26 B26 H locs ef26 eB26 hfl S => ?_)
  have ef26 : fs26 = (.ref q8 :: .ref q17 :: vz0 :: .ref q25 :: vz0 :: .ref q33 :: .ref q41 :: .ref q49 :: .ref q57 :: .ref q65 :: .ref q73 :: .ref q81 :: .ref q89 :: .ref q97 :: .ref q105 :: .ref q113 :: .ref q121 :: .ref q129 :: vz0 :: .ref q137 :: vz0 :: .ref q145 :: vz0 :: vz0 :: vz0 :: vz0 :: .ref q153 :: .ref q161 :: .ref q169 :: .ref q177 :: vz0 :: vz0 :: vz0 :: vz0 :: vz0 :: vz0 :: vz0 :: vz0 :: .ref q185 :: .ref q192 :: .ref q199 :: .ref q208 :: .null :: []) := ef26
  rw [ef26] at S hfl
  obtain ⟨T26, eT26⟩ : ∃ x : va_W, x = T25 ++ [(q208, la ca 160)] := ⟨_, rfl⟩
  have eB26 : B26 = (q8, ia ca 291) :: T26 := eB26.trans (app_1 eT26)
  rw [eB26] at S
  refine lv_aload_n C.1 C.2.1 dX11_init_213 rfl (lv_at hl 0 rfl) ?_
  refine lv_bipush (v := 40) C.1 C.2.1 dX11_init_214 (by decide) ?_
  refine n_arrl C cf_11 S hfl hin 42 (by decide) w_4_52 ⟨rfl, rfl⟩ rfl 40 (by decide) (by decide) (Nat.le_of_ble_eq_true rfl) (Nat.le_of_ble_eq_true rfl) (Nat.le_of_ble_eq_true rfl) dX11_init_216 dX11_init_218 (fun q216 fs27 B27 H locs ef27 eB27 hfl S => ?_)
  have ef27 : fs27 = (.ref q8 :: .ref q17 :: vz0 :: .ref q25 :: vz0 :: .ref q33 :: .ref q41 :: .ref q49 :: .ref q57 :: .ref q65 :: .ref q73 :: .ref q81 :: .ref q89 :: .ref q97 :: .ref q105 :: .ref q113 :: .ref q121 :: .ref q129 :: vz0 :: .ref q137 :: vz0 :: .ref q145 :: vz0 :: vz0 :: vz0 :: vz0 :: .ref q153 :: .ref q161 :: .ref q169 :: .ref q177 :: vz0 :: vz0 :: vz0 :: vz0 :: vz0 :: vz0 :: vz0 :: vz0 :: .ref q185 :: .ref q192 :: .ref q199 :: .ref q208 :: .ref q216 :: []) := ef27
  rw [ef27] at S hfl
  obtain ⟨T27, eT27⟩ : ∃ x : va_W, x = T26 ++ [(q216, la ca 40)] := ⟨_, rfl⟩
  have eB27 : B27 = (q8, ia ca 291) :: T27 := eB27.trans (app_1 eT27)
  rw [eB27] at S
  refine lv_aload_n C.1 C.2.1 dX11_init_221 rfl (lv_at hl 0 rfl) ?_
  refine n_get (q0 := 0) (v := .ref q8) C cf_11 S rfl 0 (by decide) w_4_10 rfl rfl dX11_init_222 ?_
  refine lv_iconst (v := 1) C.1 C.2.1 dX11_init_225 (by decide) ?_
  refine lv_bipush (v := 50) C.1 C.2.1 dX11_init_226 (by decide) ?_
  refine n_iast C S (q0 := 1) rfl (inB_in (by decide)) dX11_init_228 (fun H locs S => ?_)
  have S : Sn D A s ((h0, .inr (11, (.ref q8 :: .ref q17 :: vz0 :: .ref q25 :: vz0 :: .ref q33 :: .ref q41 :: .ref q49 :: .ref q57 :: .ref q65 :: .ref q73 :: .ref q81 :: .ref q89 :: .ref q97 :: .ref q105 :: .ref q113 :: .ref q121 :: .ref q129 :: vz0 :: .ref q137 :: vz0 :: .ref q145 :: vz0 :: vz0 :: vz0 :: vz0 :: .ref q153 :: .ref q161 :: .ref q169 :: .ref q177 :: vz0 :: vz0 :: vz0 :: vz0 :: vz0 :: vz0 :: vz0 :: vz0 :: .ref q185 :: .ref q192 :: .ref q199 :: .ref q208 :: .ref q216 :: []))) :: (q8, .inl (ca 0, 291, .inl (upd (fun _ => 0) 1 50))) :: T27) H locs := S
  refine lv_aload_n C.1 C.2.1 dX11_init_229 rfl (lv_at hl 0 rfl) ?_
  refine n_get (q0 := 0) (v := .ref q8) C cf_11 S rfl 0 (by decide) w_4_10 rfl rfl dX11_init_230 ?_
  refine lv_iconst (v := 2) C.1 C.2.1 dX11_init_233 (by decide) ?_
  refine lv_bipush (v := 100) C.1 C.2.1 dX11_init_234 (by decide) ?_
  refine n_iast C S (q0 := 1) rfl (inB_in (by decide)) dX11_init_236 (fun H locs S => ?_)
  have S : Sn D A s ((h0, .inr (11, (.ref q8 :: .ref q17 :: vz0 :: .ref q25 :: vz0 :: .ref q33 :: .ref q41 :: .ref q49 :: .ref q57 :: .ref q65 :: .ref q73 :: .ref q81 :: .ref q89 :: .ref q97 :: .ref q105 :: .ref q113 :: .ref q121 :: .ref q129 :: vz0 :: .ref q137 :: vz0 :: .ref q145 :: vz0 :: vz0 :: vz0 :: vz0 :: .ref q153 :: .ref q161 :: .ref q169 :: .ref q177 :: vz0 :: vz0 :: vz0 :: vz0 :: vz0 :: vz0 :: vz0 :: vz0 :: .ref q185 :: .ref q192 :: .ref q199 :: .ref q208 :: .ref q216 :: []))) :: (q8, .inl (ca 0, 291, .inl (upd (upd (fun _ => 0) 1 50) 2 100))) :: T27) H locs := S
  refine lv_aload_n C.1 C.2.1 dX11_init_237 rfl (lv_at hl 0 rfl) ?_
  refine n_get (q0 := 0) (v := .ref q8) C cf_11 S rfl 0 (by decide) w_4_10 rfl rfl dX11_init_238 ?_
  refine lv_iconst (v := 3) C.1 C.2.1 dX11_init_241 (by decide) ?_
  refine lv_sipush (v := 600) C.1 C.2.1 dX11_init_242 (by decide) ?_
  refine n_iast C S (q0 := 1) rfl (inB_in (by decide)) dX11_init_245 (fun H locs S => ?_)
  have S : Sn D A s ((h0, .inr (11, (.ref q8 :: .ref q17 :: vz0 :: .ref q25 :: vz0 :: .ref q33 :: .ref q41 :: .ref q49 :: .ref q57 :: .ref q65 :: .ref q73 :: .ref q81 :: .ref q89 :: .ref q97 :: .ref q105 :: .ref q113 :: .ref q121 :: .ref q129 :: vz0 :: .ref q137 :: vz0 :: .ref q145 :: vz0 :: vz0 :: vz0 :: vz0 :: .ref q153 :: .ref q161 :: .ref q169 :: .ref q177 :: vz0 :: vz0 :: vz0 :: vz0 :: vz0 :: vz0 :: vz0 :: vz0 :: .ref q185 :: .ref q192 :: .ref q199 :: .ref q208 :: .ref q216 :: []))) :: (q8, .inl (ca 0, 291, .inl (upd (upd (upd (fun _ => 0) 1 50) 2 100) 3 600))) :: T27) H locs := S
  have eT : T27 = ((q17, ia ca 291) :: (q25, ia ca 7) :: (q33, ia ca 12) :: (q41, ia ca 12) :: (q49, ia ca 12) :: (q57, ia ca 12) :: (q65, ia ca 12) :: (q73, ia ca 12) :: (q81, ia ca 12) :: (q89, ia ca 12) :: (q97, ia ca 12) :: (q105, ia ca 12) :: (q113, ia ca 12) :: (q121, ia ca 12) :: (q129, ia ca 80) :: (q137, ia ca 80) :: (q145, ia ca 80) :: (q153, ia ca 80) :: (q161, ia ca 12) :: (q169, ia ca 12) :: (q177, ia ca 12) :: (q185, ia ca 24) :: (q192, ia ca 4) :: (q199, ia ca 4) :: (q208, la ca 160) :: (q216, la ca 40) :: []) := by
    rw [eT27, eT26, eT25, eT24, eT23, eT22, eT21, eT20, eT19, eT18, eT17, eT16, eT15, eT14, eT13, eT12, eT11, eT10, eT9, eT8, eT7, eT6, eT5, eT4, eT3, eT2, eT1]
    simp only [List.append_assoc, List.cons_append, List.nil_append]
  rw [eT] at S
  refine W.widen (k := 27) (n := 1321) (Nat.le_of_ble_eq_true rfl) (Nat.le_of_ble_eq_true rfl) ?_
  exact W.vret C.1 C.2.1 hr (fun t ht hW => ⟨⟨(), rfl, trivial, (fun k => ((q8 :: q17 :: q25 :: q33 :: q41 :: q49 :: q57 :: q65 :: q73 :: q81 :: q89 :: q97 :: q105 :: q113 :: q121 :: q129 :: q137 :: q145 :: q153 :: q161 :: q169 :: q177 :: q185 :: q192 :: q199 :: q208 :: q216 :: []) : List Nat).getD k 0), by rw [ht]; exact S.1, S.2.1⟩, S.2.2.F ht⟩) S.2.2.2.2 dX11_init_246 hlocks

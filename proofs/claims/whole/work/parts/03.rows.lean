def sm {α β γ : Type} (o : α ⊕ β) (f : α → γ) (g : β → γ) : γ := match o with
  | .inl a => f a
  | .inr b => g b
theorem sm_inl {α β γ : Type} {a : α} {f : α → γ} {g : β → γ} : sm (.inl a) f g = f a := rfl
theorem sm_inr {α β γ : Type} {b : β} {f : α → γ} {g : β → γ} : sm (.inr b) f g = g b := rfl
theorem tb_ne {x y : Int32} (h : ¬ x = y) : ¬ x.toInt = y.toInt := fun q => h (Int32.toInt_inj.mp q)
/-- any object of its class -/
def Fl (t : Nat) : Prop := IsO t 4 slF
def Tx (t : Nat) : Prop := IsO t 9 [some (rf t 0), none] ∧ IsA (rf t 0) 0 80 0
def Rr (t : Nat) : Prop := IsO t 5 [some (rf t 0), some (rf t 1), none, none] ∧ Tx (rf t 0) ∧ IsA (rf t 1) 0 8 0
def Bk (t : Nat) : Prop := IsO t 0 [some (rf t 0), none, some (rf t 2), none, none, none, none] ∧ IsA (rf t 0) 2 12 (rf (rf t 0) 0) ∧ (∀ j, j < 12 → Fl (rf (rf t 0) 0 + j)) ∧ IsA (rf t 2) 0 4 0
def Cp (t : Nat) : Prop := IsO t 1 [some (rf t 0), some (rf t 1), some (rf t 2), some (rf t 3), none] ∧ IsA (rf t 0) 0 24 0 ∧ IsA (rf t 1) 0 24 0 ∧ IsA (rf t 2) 0 24 0 ∧ IsA (rf t 3) 0 24 0
def Sta (t : Nat) : Prop := IsO t 8 [some (rf t 0), some (rf t 1), some (rf t 2)] ∧ Bk (rf t 0) ∧ Tx (rf t 1) ∧ Cp (rf t 2)
theorem pTx_5 : Tx 5 := ⟨o_5, a_21⟩
theorem pTx_6 : Tx 6 := ⟨o_6, a_22⟩
theorem pTx_7 : Tx 7 := ⟨o_7, a_23⟩
theorem pRr_10 : Rr 10 := ⟨o_10, pTx_5, a_32⟩
theorem pRr_11 : Rr 11 := ⟨o_11, pTx_7, a_33⟩
theorem pBk_3 : Bk 3 := ⟨o_3, a_17, fun _ h => o_F1 h, a_19⟩
theorem pBk_4 : Bk 4 := ⟨o_4, a_18, fun _ h => o_F2 h, a_20⟩
theorem pCp_8 : Cp 8 := ⟨o_8, a_24, a_25, a_26, a_27⟩
theorem pCp_9 : Cp 9 := ⟨o_9, a_28, a_29, a_30, a_31⟩
theorem pSta_1 : Sta 1 := ⟨o_1, pBk_3, pTx_5, pCp_8⟩
theorem pSta_2 : Sta 2 := ⟨o_2, pBk_4, pTx_6, pCp_9⟩
abbrev MB (own : String) (index : Nat) (x : MethodName) (cd : Cond) : Prop := Cond.methodLink own index x ∈ BIG ∧ Cond.static x ∈ BIG ∧ Cond.initialized "java/lang/Math" ∈ BIG ∧ cd ∈ BIG
abbrev AB (own : String) (index : Nat) : Prop := Cond.methodLink own index arraycopyName ∈ BIG ∧ Cond.native arraycopyName ∈ BIG ∧ Cond.static arraycopyName ∈ BIG ∧ Cond.initialized "java/lang/System" ∈ BIG
section ROWS2
variable {p : Program} {l : Launch} {e : Env} {R : Room} {s : State} {m : MethodId} {args : Array Value} {below : List Frame} {meth : Method} {c : Code} {H : Heap} {locs : List Loc} {Q : State → Prop} {D : va_G} {ad sx : Nat → Nat} {ca : Nat → ClassId} {cc : ByteArray} {own : String} {nL : Nat} {w : Wd} {pc : Nat} {ls : Array Slot} {rest : List Value} {lv : List (Nat × Value)}
theorem r_mmax (C : Cx D ad sx ca p s m c args own cc nL) (hl : lv_has ls nL lv) {index : Nat} {x y : Int32} (mb : MB own index Lib.Math.max.name (.code Lib.Math.max.name Lib.Math.max.code 2 (some .int))) (hdg : decode cc pc = .ok (.invokestatic index, 3)) (h1 : 1 ≤ R.frames) (h2 : (rest.map fun v => v.category).sum + 13 ≤ R.locals) (kk : W p l e R s m args below meth c H locs 0 0 Q (F0 m (pc + 3) ls (.int (if x < y then y else x) :: rest))) : W p l e R s m args below meth c H locs 0 0 Q (F0 m pc ls (.int y :: .int x :: rest)) :=
  have hB := C.2.2.2.2.1
  va_mmax C.1 C.2.1 (C.2.2.1.trans hl.1.symm) C.2.2.2.1 (hB _ mb.1) (hB _ mb.2.1) (hB _ mb.2.2.1) (hB _ mb.2.2.2) h1 h2 (Nat.zero_le _) (Nat.zero_le _) hdg kk
theorem r_mmin (C : Cx D ad sx ca p s m c args own cc nL) (hl : lv_has ls nL lv) {index : Nat} {x y : Int32} (mb : MB own index Lib.Math.min.name (.code Lib.Math.min.name Lib.Math.min.code 2 (some .int))) (hdg : decode cc pc = .ok (.invokestatic index, 3)) (h1 : 1 ≤ R.frames) (h2 : (rest.map fun v => v.category).sum + 13 ≤ R.locals) (kk : W p l e R s m args below meth c H locs 0 0 Q (F0 m (pc + 3) ls (.int (if y < x then y else x) :: rest))) : W p l e R s m args below meth c H locs 0 0 Q (F0 m pc ls (.int y :: .int x :: rest)) :=
  have hB := C.2.2.2.2.1
  va_mmin C.1 C.2.1 (C.2.2.1.trans hl.1.symm) C.2.2.2.1 (hB _ mb.1) (hB _ mb.2.1) (hB _ mb.2.2.1) (hB _ mb.2.2.2) h1 h2 (Nat.zero_le _) (Nat.zero_le _) hdg kk
theorem r_mabs (C : Cx D ad sx ca p s m c args own cc nL) (hl : lv_has ls nL lv) {index : Nat} {x : Int32} (mb : MB own index Lib.Math.abs.name (.code Lib.Math.abs.name Lib.Math.abs.code 1 (some .int))) (hdg : decode cc pc = .ok (.invokestatic index, 3)) (h1 : 1 ≤ R.frames) (h2 : (rest.map fun v => v.category).sum + 13 ≤ R.locals) (kk : W p l e R s m args below meth c H locs 0 0 Q (F0 m (pc + 3) ls (.int (if 0 ≤ x then x else 0 - x) :: rest))) : W p l e R s m args below meth c H locs 0 0 Q (F0 m pc ls (.int x :: rest)) :=
  have hB := C.2.2.2.2.1
  va_mabs C.1 C.2.1 (C.2.2.1.trans hl.1.symm) C.2.2.2.1 (hB _ mb.1) (hB _ mb.2.1) (hB _ mb.2.2.1) (hB _ mb.2.2.2) h1 (Nat.le_trans (by omega) h2) (Nat.zero_le _) (Nat.zero_le _) hdg kk
theorem r_ldcw (C : Cx D ad sx ca p s m c args own cc nL) {index : Nat} (v : Int32) (hc : Cond.constant own index v ∈ BIG) (hdg : decode cc pc = .ok (.ldc_w index, 3)) (kk : W p l e R s m args below meth c H locs 0 0 Q (F0 m (pc + 3) ls (.int v :: rest))) : W p l e R s m args below meth c H locs 0 0 Q (F0 m pc ls rest) := lv_ldcw C.1 C.2.1 C.2.2.2.1 (C.2.2.2.2.1 _ hc) hdg kk
theorem r_acopy (C : Cx D ad sx ca p s m c args own cc nL) (S : St D ad ca s w H locs) (hl : lv_has ls nL lv) {k0 n0 b0 k1 n1 b1 index : Nat} {sp dp z : Int32} (h0 : IsA k0 1 n0 b0) (h1 : IsA k1 1 n1 b1) (hg : cpB sp dp z n0 n1 = true) (ab : AB own index) (hf : 1 ≤ R.frames) (hlo : (rest.map fun v => v.category).sum + (nativeFrameWords "java/lang/System" "arraycopy" 5 + 11) ≤ R.locals) (hdg : decode cc pc = .ok (.invokestatic index, 3))
    (kk : ∀ (H1 : Heap) (locs1 : List Loc), St D ad ca s (sc w k0 sp.toNatClampNeg k1 dp.toNatClampNeg z.toNatClampNeg) H1 locs1 → W p l e R s m args below meth c H1 locs1 0 0 Q (F0 m (pc + 3) ls rest)) : W p l e R s m args below meth c H locs 0 0 Q (F0 m pc ls (.int z :: .int dp :: .ref (ad k1) :: .int sp :: .ref (ad k0) :: rest)) := by
  have hB := C.2.2.2.2.1
  have g : ¬ sp < 0 ∧ ¬ dp < 0 ∧ ¬ z < 0 ∧ sp.toNatClampNeg + z.toNatClampNeg ≤ n0 ∧ dp.toNatClampNeg + z.toNatClampNeg ≤ n1 := of_decide_eq_true hg
  refine va_copyl C.1 C.2.1 (C.2.2.1.trans hl.1.symm) C.2.2.2.1 (hB _ ab.1) (hB _ ab.2.1) (hB _ ab.2.2.1) (hB _ ab.2.2.2) C.2.2.2.2.2.1 S.1 (wl_D C.inj) S.2 k0 k1 1 1 (S.atl h0) (S.atl h1) rfl rfl rfl g.1 g.2.1 g.2.2.1 g.2.2.2.1 g.2.2.2.2 (fun _ _ => rfl) hf hlo hdg (fun H1 locs1 hP _ hS => kk H1 locs1 ⟨?_, hS⟩)
  rw [← wl_ca h1]
  exact hP
variable {y : MethodName} {cy : ByteArray} {ny n fr lo index : Nat} {ret : FieldType} {av : (Nat → Nat) → List Value} {w' : Wd} {st : List Value}
theorem r_sl (C : Cx D ad sx ca p s m c args own cc nL) (S : St D ad ca s w H locs) (hl : lv_has ls nL lv) {r : Int64} (hM : CL y cy ny fr lo av w r w') (sb : SB own index y (.code y cy ny (some .long)) n) (As : List Value) (hav : av ad = As) (rest : List Value) (hst : st = As.reverse ++ rest) (hn : As.length = n) (hw : (rest.map fun v => v.category).sum ≤ 8) (hR : fr + 1 ≤ R.frames ∧ 8 + (ny + 11) + lo ≤ R.locals) (hdg : decode cc pc = .ok (.invokestatic index, 3))
    (kk : ∀ (H1 : Heap) (locs1 : List Loc), St D ad ca s w' H1 locs1 → W p l e R s m args below meth c H1 locs1 0 0 Q (F0 m (pc + 3) ls (.long r :: rest))) : W p l e R s m args below meth c H locs 0 0 Q (F0 m pc ls st) := by
  subst hst
  have hB := C.2.2.2.2.1
  refine va_calll (va_runS (As := As) (rest := rest) ⟨C.1, C.2.1, C.2.2.1, C.2.2.2.1, hB⟩ (hM l D ad sx ca) ⟨callB_of n hB (big_good _ sb.1.2) rfl rfl rfl (hB _ (sb.1.1 _ (by simp))) (hB _ (sb.1.1 _ (by simp))) sb.2 hR, hB _ (sb.1.1 _ (by simp))⟩ ⟨PreW.blind, fun U hU hW => ⟨by rw [hav], St.pre C S hU hW⟩⟩ rfl hn hl.1 rfl (lv_room hw) hdg ⟨Nat.zero_le _, Nat.zero_le _⟩) S.2 (fun q _ h => h) (fun q h => h) (fun r1 u t H1 locs1 ht _ hw hB _ _ hS => ?_)
  subst hw
  exact kk H1 locs1 ⟨by rw [← ht]; exact hB, hS⟩
end ROWS2
def nmB (j : Nat) : Int32 := namesB.getD j 0
section ROWS3
variable {p : Program} {l : Launch} {e : Env} {R : Room} {s : State} {m : MethodId} {args : Array Value} {below : List Frame} {meth : Method} {c : Code} {H : Heap} {locs : List Loc} {Q : State → Prop} {D : va_G} {ad sx : Nat → Nat} {ca : Nat → ClassId} {cc : ByteArray} {own : String} {nL : Nat} {w : Wd} {pc : Nat} {ls : Array Slot} {rest : List Value} {lv : List (Nat × Value)}
theorem r_under (C : Cx D ad sx ca p s m c args own cc nL) (S : St D ad ca s w H locs) {index : Nat} (hlk : Cond.fieldLink own index RX10 "UNDER" "[I" ∈ BIG) (hdg : decode cc pc = .ok (.getstatic index, 3)) (kk : W p l e R s m args below meth c H locs 0 0 Q (F0 m (pc + 3) ls (.ref (ad 104) :: rest))) : W p l e R s m args below meth c H locs 0 0 Q (F0 m pc ls rest) :=
  va_gets C.1 C.2.1 C.2.2.2.2.2.2.2.1 S.2 C.2.2.2.1 (C.2.2.2.2.1 _ hlk) (fun _ h => h) hdg kk
theorem r_compact (C : Cx D ad sx ca p s m c args own cc nL) (S : St D ad ca s w H locs) {index : Nat} (hlk : Cond.fieldLink own index "java/lang/String" "COMPACT_STRINGS" "Z" ∈ BIG) (hdg : decode cc pc = .ok (.getstatic index, 3)) (kk : W p l e R s m args below meth c H locs 0 0 Q (F0 m (pc + 3) ls (.int 1 :: rest))) : W p l e R s m args below meth c H locs 0 0 Q (F0 m pc ls rest) :=
  va_gets C.1 C.2.1 C.2.2.2.2.2.2.2.2.2.2.2.1 S.2 C.2.2.2.1 (C.2.2.2.2.1 _ hlk) (fun _ h => h) hdg kk
theorem r_uald (C : Cx D ad sx ca p s m c args own cc nL) (S : St D ad ca s w H locs) {i : Int32} (hin : inB i 6 = true) (hdg : decode cc pc = .ok (.iaload, 1)) (kk : W p l e R s m args below meth c H locs 0 0 Q (F0 m (pc + 1) ls (.int (underF i.toNatClampNeg) :: rest))) : W p l e R s m args below meth c H locs 0 0 Q (F0 m pc ls (.int i :: .ref (ad 104) :: rest)) :=
  va_ti C.1 C.2.1 C.2.2.2.2.2.2.2.2.1 S.2 (inB_in hin) rfl hdg kk
theorem r_bald (C : Cx D ad sx ca p s m c args own cc nL) (S : St D ad ca s w H locs) {i : Int32} (hin : inB i 8 = true) (hdg : decode cc pc = .ok (.baload, 1)) (kk : W p l e R s m args below meth c H locs 0 0 Q (F0 m (pc + 1) ls (.int (nmB i.toNatClampNeg) :: rest))) : W p l e R s m args below meth c H locs 0 0 Q (F0 m pc ls (.int i :: .ref (ad 106) :: rest)) :=
  va_tb C.1 C.2.1 (C.2.2.2.2.2.2.2.2.2.2.1.1 0 (by decide)).2.2.2 S.2 (inB_in hin) rfl hdg kk
theorem r_blen (C : Cx D ad sx ca p s m c args own cc nL) (S : St D ad ca s w H locs) (hdg : decode cc pc = .ok (.arraylength, 1)) (kk : W p l e R s m args below meth c H locs 0 0 Q (F0 m (pc + 1) ls (.int 8 :: rest))) : W p l e R s m args below meth c H locs 0 0 Q (F0 m pc ls (.ref (ad 106) :: rest)) :=
  va_tlen C.1 C.2.1 (C.2.2.2.2.2.2.2.2.2.2.1.1 0 (by decide)).2.2.2 S.2 (by decide) hdg kk
theorem r_coder (C : Cx D ad sx ca p s m c args own cc nL) (S : St D ad ca s w H locs) {index : Nat} (hlk : Cond.fieldLink own index "java/lang/String" "coder" "B" ∈ BIG) (hdg : decode cc pc = .ok (.getfield index, 3)) (kk : W p l e R s m args below meth c H locs 0 0 Q (F0 m (pc + 3) ls (.int 0 :: rest))) : W p l e R s m args below meth c H locs 0 0 Q (F0 m pc ls (.ref (ad 105) :: rest)) :=
  vk_getf C.1 C.2.1 (C.2.2.2.2.2.2.2.2.2.2.1.1 0 (by decide)).2.1 S.2 C.2.2.2.1 (C.2.2.2.2.1 _ hlk) (fun _ h => h) hdg kk
theorem r_value (C : Cx D ad sx ca p s m c args own cc nL) (S : St D ad ca s w H locs) {index : Nat} (hlk : Cond.fieldLink own index "java/lang/String" "value" "[B" ∈ BIG) (hdg : decode cc pc = .ok (.getfield index, 3)) (kk : W p l e R s m args below meth c H locs 0 0 Q (F0 m (pc + 3) ls (.ref (ad 106) :: rest))) : W p l e R s m args below meth c H locs 0 0 Q (F0 m pc ls (.ref (ad 105) :: rest)) :=
  vk_getf C.1 C.2.1 (C.2.2.2.2.2.2.2.2.2.2.1.1 0 (by decide)).2.2.1 S.2 C.2.2.2.1 (C.2.2.2.2.1 _ hlk) (fun _ h => h) hdg kk
theorem r_ldcs (C : Cx D ad sx ca p s m c args RX5 cc nL) (hdg : decode cc pc = .ok (.ldc 97, 2)) (kk : W p l e R s m args below meth c H locs 0 0 Q (F0 m (pc + 2) ls (.ref (ad 105) :: rest))) : W p l e R s m args below meth c H locs 0 0 Q (F0 m pc ls rest) :=
  va_ldcS C.1 C.2.1 C.2.2.2.1 C.2.2.2.2.2.2.2.2.2.1 hdg kk
variable {y : MethodName} {cy : ByteArray} {ny n fr lo index : Nat} {ret : FieldType} {av : (Nat → Nat) → List Value} {w' : Wd} {st : List Value}
theorem r_vsi (C : Cx D ad sx ca p s m c args own cc nL) (S : St D ad ca s w H locs) (hl : lv_has ls nL lv) {r : Int32} (hM : CI y cy ny ret fr lo av w r w') (vb : VB own index "java/lang/String" y (.code y cy ny (some ret)) n) (As : List Value) (hav : av ad = .ref (ad 105) :: As) (rest : List Value) (hst : st = As.reverse ++ .ref (ad 105) :: rest) (hn : As.length = n) (hw : (rest.map fun v => v.category).sum ≤ 8) (hR : fr + 1 ≤ R.frames ∧ 8 + (ny + 11) + lo ≤ R.locals) (hdg : decode cc pc = .ok (.invokevirtual index, 3))
    (kk : ∀ (H1 : Heap) (locs1 : List Loc), St D ad ca s w' H1 locs1 → W p l e R s m args below meth c H1 locs1 0 0 Q (F0 m (pc + 3) ls (.int r :: rest))) : W p l e R s m args below meth c H locs 0 0 Q (F0 m pc ls st) := by
  subst hst
  have hG : GoodIn BIG (wsV own index "java/lang/String" y (.code y cy ny (some ret) :: BIG)) := fun w9 h9 => (List.mem_append.mp h9).elim (fun h => ⟨vb.1.1 w9 h, good_of_word (List.mem_filter.mp (vb.1.1 w9 h)).2⟩) (big_good _ vb.1.2 w9)
  refine va_calli (va_runV (As := As) (rest := rest) ⟨C.1, C.2.1, C.2.2.1, C.2.2.2.1, C.2.2.2.2.1⟩ (hM l D ad sx ca) (cwV n C.2.2.2.2.1 hG rfl rfl rfl vb.2 hR) ⟨PreW.blind, vk_recv C.2.2.2.2.2.2.2.2.2.2.1 (i := 0) (by decide) S.2, fun U hU hW => ⟨by rw [hav], St.pre C S hU hW⟩⟩ rfl hn hl.1 rfl (lv_room hw) hdg ⟨Nat.zero_le _, Nat.zero_le _⟩) S.2 (fun q _ h => h) (fun q h => h) (fun r1 u t H1 locs1 ht _ hw hB _ _ hS => ?_)
  subst hw
  exact kk H1 locs1 ⟨by rw [← ht]; exact hB, hS⟩
end ROWS3
theorem zo_narB {y : Int32} (h : y = 0 ∨ y = 1) : narrow .byte (.int y) = .int y := by
  rcases h with rfl | rfl <;> rfl
theorem r_bret {p : Program} {l : Launch} {e : Env} {R : Room} {s : State} {m : MethodId} {args : Array Value} {below : List Frame} {meth : Method} {c : Code} {H : Heap} {locs : List Loc} {D : va_G} {ad sx : Nat → Nat} {ca : Nat → ClassId} {cc : ByteArray} {own : String} {nL : Nat} {w : Wd} {pc : Nat} {ls : Array Slot} (C : Cx D ad sx ca p s m c args own cc nL) (S : St D ad ca s w H locs) {v : Int32} (hr : meth.sig.returnType = some .byte) (hlocks : meth.locks = false) (hz : v = 0 ∨ v = 1) (hdg : decode cc pc = .ok (.ireturn, 1)) : W p l e R s m args below meth c H locs 0 0 (MQ below (Qi D ad ca v w) args s 0 0 (Aad ad)) (F0 m pc ls [.int v]) :=
  W.zret C.1 C.2.1 hr (zo_narB hz) (fun t ht _ => ⟨⟨v, (), rfl, rfl, by show va_P D vwCl (wl ad ca w) t.heap; rw [ht]; exact S.1⟩, S.2.F ht⟩) S.2.2.2 hdg hlocks
def lw {α β : Type} (x : α) (f : α → β) : β := f x
theorem lw_S {α β : Type} {x : α} {f : α → Option β} {r : β} {P : α → Prop} (h : lw x f = some r) (S : P x) : ∃ y, f y = some r ∧ P y := ⟨x, h, S⟩
section ROWS4
variable {p : Program} {l : Launch} {e : Env} {R : Room} {s : State} {m : MethodId} {args : Array Value} {below : List Frame} {meth : Method} {c : Code} {H : Heap} {locs : List Loc} {Q : State → Prop} {D : va_G} {ad sx : Nat → Nat} {ca : Nat → ClassId} {cc : ByteArray} {own : String} {nL : Nat} {w : Wd} {pc : Nat} {ls : Array Slot} {rest : List Value} {lv : List (Nat × Value)}
theorem r_ialdn (C : Cx D ad sx ca p s m c args own cc nL) (S : St D ad ca s w H locs) {k n b j : Nat} {i : Int32} (hA : IsA k 0 n b) (hin : inB i n = true) (hj : i.toNatClampNeg = j) (hdg : decode cc pc = .ok (.iaload, 1))
    (kk : W p l e R s m args below meth c H locs 0 0 Q (F0 m (pc + 1) ls (.int (w.1 k j) :: rest))) : W p l e R s m args below meth c H locs 0 0 Q (F0 m pc ls (.int i :: .ref (ad k) :: rest)) := by
  subst hj
  exact r_iald C S hA hin hdg kk
theorem r_iastn (C : Cx D ad sx ca p s m c args own cc nL) (S : St D ad ca s w H locs) {k n b j : Nat} {i v : Int32} (hA : IsA k 0 n b) (hin : inB i n = true) (hj : i.toNatClampNeg = j) (hdg : decode cc pc = .ok (.iastore, 1))
    (kk : ∀ (H1 : Heap) (locs1 : List Loc), St D ad ca s (si w k j v) H1 locs1 → W p l e R s m args below meth c H1 locs1 0 0 Q (F0 m (pc + 1) ls rest)) : W p l e R s m args below meth c H locs 0 0 Q (F0 m pc ls (.int v :: .int i :: .ref (ad k) :: rest)) := by
  subst hj
  exact r_iast C S hA hin hdg kk
end ROWS4

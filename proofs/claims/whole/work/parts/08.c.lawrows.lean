/-! the law: rows -/
abbrev WL (p : Program) (l : Launch) (e : Env) (s : State) (m : MethodId) (b : Nat) (below : List Frame) (meth : Method) (c : Code) (H : Heap) (locs : List Loc) (Q : State → Prop) (g : JFrame) : Prop := W p l e room_1 s m #[Value.ref b] below meth c H locs 600000 7302250 Q g
def Lw (D : va_G) (ad sx : Nat → Nat) (ca : Nat → ClassId) (p : Program) (s : State) (m : MethodId) (c : Code) (b L : Nat) (xs : Nat → Int32) : Prop := Cx D ad sx ca p s m c #[Value.ref b] RL code 4 ∧ va_X b L xs s s.heap ∧ b < s.heap.size ∧ ¬ Aad ad b ∧ L ≤ 384
abbrev lvL (ad : Nat → Nat) (b i : Nat) : List (Nat × Value) := [(3, .int (nI i)), (2, .ref (ad 76)), (1, .ref (ad 0)), (0, .ref b)]
theorem lcmp_0 (x : Int64) : lg_cmp x x = 0 := by
  unfold lg_cmp
  simp
section LAWROWS
variable {p : Program} {l : Launch} {e : Env} {s : State} {m : MethodId} {below : List Frame} {meth : Method} {c : Code} {H : Heap} {locs : List Loc} {Q : State → Prop} {D : va_G} {ad sx : Nat → Nat} {ca : Nat → ClassId} {w : Wd} {pc : Nat} {ls : Array Slot} {rest : List Value} {b L : Nat} {xs : Nat → Int32}
theorem q_arg (X : Lw D ad sx ca p s m c b L xs) (S : St D ad ca s w H locs) {i : Nat} (hl : lv_has ls 4 (lvL ad b i)) (j : Nat) (hij : i + j < L) {jj : Int} (hj : Int32.ofInt jj = nI j) (d0 : decode code pc = .ok (.aload_n 0, 1)) (d1 : decode code (pc + 1) = .ok (.iload_n 3, 1)) (d2 : decode code (pc + 1 + 1) = .ok (.iconst jj, 1)) (d3 : decode code (pc + 1 + 1 + 1) = .ok (.iadd, 1)) (d4 : decode code (pc + 1 + 1 + 1 + 1) = .ok (.iaload, 1)) (kk : WL p l e s m b below meth c H locs Q (F0 m (pc + 1 + 1 + 1 + 1 + 1) ls (.int (xs (i + j)) :: rest))) : WL p l e s m b below meth c H locs Q (F0 m pc ls rest) := by
  have hL := X.2.2.2.2
  refine lv_aload_n X.1.1 X.1.2.1 d0 rfl (lv_at hl 3 rfl) ?_
  refine lv_iload_n X.1.1 X.1.2.1 d1 rfl (lv_at hl 0 rfl) ?_
  refine lv_iconst X.1.1 X.1.2.1 d2 hj ?_
  refine lv_iadd X.1.1 X.1.2.1 d3 ?_
  rw [nI_add]
  refine va_sld X.1.1 X.1.2.1 X.2.1 X.2.2.1 X.2.2.2.1 S.2 (vp_in_nI hij (by omega)) d4 ?_
  rw [nI_clamp (by omega)]
  exact kk
variable {args : Array Value} {own : String} {cc : ByteArray} {nL : Nat} {R : Room} {cells slots : Nat}
variable {y : MethodName} {cy : ByteArray} {ny n fr lo index : Nat} {ret : FieldType} {av : (Nat → Nat) → List Value} {w' : Wd} {lv : List (Nat × Value)} {st : List Value}
theorem q_vi (C : Cx D ad sx ca p s m c args own cc nL) (S : St D ad ca s w H locs) (hl : lv_has ls nL lv) {k ci : Nat} {sl : List (Option Nat)} {Cn : String} {T : u_T} {ty : Nat → FieldType} {N : Nat} {r : Int32} (hO : IsO k ci sl) (cf : CF ci Cn T ty N) (hM : CI y cy ny ret fr lo av w r w') (vb : VB own index Cn y (.code y cy ny (some ret)) n) (As : List Value) (hav : av ad = .ref (ad k) :: As) (rest : List Value) (hst : st = As.reverse ++ .ref (ad k) :: rest) (hn : As.length = n) (hw : (rest.map fun v => v.category).sum ≤ 8) (hR : fr + 1 ≤ R.frames ∧ 8 + (ny + 11) + lo ≤ R.locals) (hcs : cells + 0 ≤ R.cells ∧ slots + 0 ≤ R.slots) (hdg : decode cc pc = .ok (.invokevirtual index, 3))
    (kk : ∀ (H1 : Heap) (locs1 : List Loc), St D ad ca s w' H1 locs1 → W p l e R s m args below meth c H1 locs1 cells slots Q (F0 m (pc + 3) ls (.int r :: rest))) : W p l e R s m args below meth c H locs cells slots Q (F0 m pc ls st) := by
  subst hst
  have hG : GoodIn BIG (wsV own index Cn y (.code y cy ny (some ret) :: BIG)) := fun w9 h9 => (List.mem_append.mp h9).elim (fun h => ⟨vb.1.1 w9 h, good_of_word (List.mem_filter.mp (vb.1.1 w9 h)).2⟩) (big_good _ vb.1.2 w9)
  refine va_calli (va_runV (As := As) (rest := rest) ⟨C.1, C.2.1, C.2.2.1, C.2.2.2.1, C.2.2.2.2.1⟩ (hM l D ad sx ca) (cwV n C.2.2.2.2.1 hG rfl rfl rfl vb.2 hR) ⟨PreW.blind, va_recv C.2.2.2.2.2.1 S.1 cf.1 (S.at hO), fun U hU hW => ⟨by rw [hav], St.pre C S hU hW⟩⟩ rfl hn hl.1 rfl (lv_room hw) hdg hcs) S.2 (fun q _ h => h) (fun q h => h) (fun r1 u t H1 locs1 ht _ hw hB _ _ hS => ?_)
  subst hw
  exact kk H1 locs1 ⟨by rw [← ht]; exact hB, hS⟩
theorem q_vl (C : Cx D ad sx ca p s m c args own cc nL) (S : St D ad ca s w H locs) (hl : lv_has ls nL lv) {k ci : Nat} {sl : List (Option Nat)} {Cn : String} {T : u_T} {ty : Nat → FieldType} {N : Nat} {r : Int64} (hO : IsO k ci sl) (cf : CF ci Cn T ty N) (hM : CL y cy ny fr lo av w r w') (vb : VB own index Cn y (.code y cy ny (some .long)) n) (As : List Value) (hav : av ad = .ref (ad k) :: As) (rest : List Value) (hst : st = As.reverse ++ .ref (ad k) :: rest) (hn : As.length = n) (hw : (rest.map fun v => v.category).sum ≤ 8) (hR : fr + 1 ≤ R.frames ∧ 8 + (ny + 11) + lo ≤ R.locals) (hcs : cells + 0 ≤ R.cells ∧ slots + 0 ≤ R.slots) (hdg : decode cc pc = .ok (.invokevirtual index, 3))
    (kk : ∀ (H1 : Heap) (locs1 : List Loc), St D ad ca s w' H1 locs1 → W p l e R s m args below meth c H1 locs1 cells slots Q (F0 m (pc + 3) ls (.long r :: rest))) : W p l e R s m args below meth c H locs cells slots Q (F0 m pc ls st) := by
  subst hst
  have hG : GoodIn BIG (wsV own index Cn y (.code y cy ny (some .long) :: BIG)) := fun w9 h9 => (List.mem_append.mp h9).elim (fun h => ⟨vb.1.1 w9 h, good_of_word (List.mem_filter.mp (vb.1.1 w9 h)).2⟩) (big_good _ vb.1.2 w9)
  refine va_calll (va_runV (As := As) (rest := rest) ⟨C.1, C.2.1, C.2.2.1, C.2.2.2.1, C.2.2.2.2.1⟩ (hM l D ad sx ca) (cwV n C.2.2.2.2.1 hG rfl rfl rfl vb.2 hR) ⟨PreW.blind, va_recv C.2.2.2.2.2.1 S.1 cf.1 (S.at hO), fun U hU hW => ⟨by rw [hav], St.pre C S hU hW⟩⟩ rfl hn hl.1 rfl (lv_room hw) hdg hcs) S.2 (fun q _ h => h) (fun q h => h) (fun r1 u t H1 locs1 ht _ hw hB _ _ hS => ?_)
  subst hw
  exact kk H1 locs1 ⟨by rw [← ht]; exact hB, hS⟩
end LAWROWS

def KA (ca : Nat → ClassId) (U : State) : Prop := ∃ k : Class, U.vm.classes[ca 3]? = some k ∧ k.kind = .array (ca 1) (.array .long)
theorem KA.moved {ca : Nat → ClassId} {u U : State} (hvm : u.vm.Alike U.vm) (h : KA ca u) : KA ca U := by
  obtain ⟨k, h1, h2⟩ := h
  obtain ⟨k', hk', he⟩ := hvm.2.2 _ _ h1
  exact ⟨k', hk', by rw [he]; exact h2⟩
/-- what the constructors need of the machine beside the words -/
def Kn (D : va_G) (ca : Nat → ClassId) (U : State) : Prop := va_K D vwCl (tysC ca) U ∧ (∀ q ∈ NQ, va_Nw (.methodLinkNest q.1 q.2.1 q.2.2.1 q.2.2.2) U) ∧ va_AO RX4 U ∧ KA ca U
theorem Kn.warm {D : va_G} {ca : Nat → ClassId} {s U : State} (hW : s.WarmedH U.vm) (h : Kn D ca s) : Kn D ca U := ⟨va_K.moved hW.alike h.1, fun q hq => va_Nw.warmM hW (h.2.1 q hq), va_AO.moved hW.alike h.2.2.1, h.2.2.2.moved hW.alike⟩
theorem Kn.same {D : va_G} {ca : Nat → ClassId} {s U : State} (hv : U.vm = s.vm) (h : Kn D ca s) : Kn D ca U := by
  have ha : s.vm.Alike U.vm := by rw [hv]; exact Vm.Alike.refl s.vm
  exact ⟨va_K.moved ha h.1, fun q hq => va_Nw.same rfl hv.symm (h.2.1 q hq), va_AO.moved ha h.2.2.1, h.2.2.2.moved ha⟩
set_option maxHeartbeats 4000000 in
theorem w_multi {p : Program} {l : Launch} {e : Env} {R : Room} {s : State} {m : MethodId} {args : Array Value} {below : List Frame} {meth : Method} {c : Code} {H : Heap} {locs : List Loc} {cells slots : Nat} {Q : State → Prop} {cc : ByteArray} (hexec : p.tables.exec = Jvm.exec) (hb : c.code = cc) {own : String} {index : Nat} (hown : s.vm.findClass own = some m.cls) (hclink : (Cond.classLink own index "[[J").before args s = true) {D : va_G} {ca : Nat → ClassId} (hK : Kn D ca s) {pc : Nat} {ls : Array Slot} {rest : List Value} (hdg : decode cc pc = .ok (.multianewarray index 2, 4)) (hcells : cells + 5 ≤ R.cells) (hslots : slots + 164 ≤ R.slots)
    (kk : ∀ H' : Heap, H'.size = H.size + 5 → (∀ q : Nat, q < H.size → H'[q]? = H[q]?) → H'[H.size]? = some (mzO (ca 3) H.size 4) → (∀ j : Nat, j < 4 → H'[H.size + 1 + j]? = some (mzI (ca 1))) → W p l e R s m args below meth c H' locs (cells + 5) (slots + 164) Q (F0 m (pc + 4) ls (.ref H.size :: rest))) : W p l e R s m args below meth c H locs cells slots Q (F0 m pc ls (.int 40 :: .int 4 :: rest)) := by
  intro T hT X
  subst hT; subst hb
  have hpl : e.platform.magicAccessors = ({} : Platform).magicAccessors := by rw [X.admits.platform]
  obtain ⟨kA, hkA, hkindA⟩ := hK.2.2.2
  have r3 : s.vm.findClass "[[J" = some (ca 3) := (hK.1.2 3 _ rfl).2
  obtain ⟨-, kB, hkB, cB, hkindB⟩ := (hK.1.2 1 _ rfl).1 0 (fun _ => .null)
  obtain ⟨c0, hfc, hcl⟩ := Cond.classLink_spec hown hclink e.platform hpl
  have e0 : c0 = ca 3 := Option.some.inj (hfc.symm.trans r3)
  subst e0
  obtain ⟨hg₁, hwarm₁, hready₁⟩ := State.classEntry (e := e) X.warmed hcl
  generalize T.vm.noted m.cls index (.cls (ca 3)) = vm₁ at hg₁ hwarm₁ hready₁
  have hal : s.vm.Alike vm₁ := hwarm₁.alike
  obtain ⟨kA₁, hkA₁, heA⟩ := hal.2.2 _ _ hkA
  obtain ⟨kB₁, hkB₁, heB⟩ := hal.2.2 _ _ hkB
  have hkindA₁ : kA₁.kind = .array (ca 1) (.array .long) := by rw [heA]; exact hkindA
  have hkindB₁ : kB₁.kind = .array cB .long := by rw [heB]; exact hkindB
  have X₁ := X.noted hwarm₁
  obtain ⟨hr1, hr2⟩ := X.roomAbove hcells hslots
  have XF := mzS_X X₁ (ca 3) (ca 1) 4
  obtain ⟨⟨f1, f2⟩, -, f3, f4⟩ := mzS_f (ca 3) (ca 1) (T.setVm vm₁) 4
  have XG := Stand.forget XF (fun y hy => by
    obtain ⟨j, -, rfl⟩ := List.mem_map.mp hy
    exact X.same.2.1)
  obtain ⟨t, a1, b1⟩ := kk _ f1 f3 f2 f4 (mzS (ca 3) (ca 1) (T.setVm vm₁) 4) rfl XG
  refine ⟨t, ?_, b1⟩
  have hl : 40 ≤ e.platform.arrayLengthLimit := by rw [Launch.admits_arrayLengthLimit X.admits]; omega
  have hh : 320 ≤ e.platform.maxHeapBytes := by rw [Launch.admits_maxHeapBytes X.admits]; omega
  jvm_step X.here [hexec, hdg]
  simp only [multianewarray.sem, wp_bind', Jvm.W.resolveClassAt_links (State.method?_setTop (F0 m pc ls (.int 40 :: .int 4 :: rest)) X.here.top) hg₁]
  rw [Jvm.W.popN, if_neg (by decide)]
  refine ⟨F0 m pc ls (.int 40 :: .int 4 :: rest), State.topJava?_setTop' (s := T.setVm vm₁) _ X.here.top, [.int 4, .int 40], rest, rfl, rfl, ?_⟩
  simp only [List.mapM_cons, List.mapM_nil, wp_bind', wp_pure']
  have eS : ((T.setTop (F0 m pc ls (.int 40 :: .int 4 :: rest))).setVm vm₁).setTop (F0 m pc ls rest) = (T.setVm vm₁).setTop (F0 m pc ls rest) := by
    show ((T.setVm vm₁).setTop _).setTop _ = _
    rw [State.setTop_setTop]
  show wp (multianewarray.make (ca 3) [4, 40]) _ _ _ _ _ (((T.setTop (F0 m pc ls (.int 40 :: .int 4 :: rest))).setVm vm₁).setTop (F0 m pc ls rest))
  rw [eS]
  refine mz_make (s := (T.setVm vm₁).setTop (F0 m pc ls rest)) (kb := kB₁) (k := kA₁) (cc := cB) hkA₁ hkindA₁ hkB₁ hkindB₁ hl hh (by show T.heap.size + 5 ≤ _; exact hr1) (by show T.slotsUsed + 164 ≤ _; exact hr2) fun d' acts' => ?_
  rw [mzS_top]
  simp only [wp_bind', Jvm.W.mark, Jvm.W.pushRef, State.topJava?_setTop' _ XF.here.top, Option.some.injEq, exists_eq_left', State.setTop_setTop, State.heap_setTop]
  intro acts
  simp [jvm, XF.here.top]
  exact a1

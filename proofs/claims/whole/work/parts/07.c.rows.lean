/-! constructors: rows -/
abbrev RN (fr lo mc ms : Nat) : Room := { frames := fr, cells := mc, slots := ms, locals := lo }
def Cn (D : va_G) (ca : Nat → ClassId) (A : Nat → Prop) (p : Program) (s : State) (m : MethodId) (c : Code) (args : Array Value) (own : String) (cc : ByteArray) (nL : Nat) : Prop :=
  p.tables.exec = Jvm.exec ∧ c.code = cc ∧ c.maxLocals = nL ∧ s.vm.findClass own = some m.cls ∧ (∀ w ∈ BIG, w.before args s = true) ∧ Kn D ca s ∧ ∀ q : Nat, s.heap.size ≤ q → A q
def Sn (D : va_G) (A : Nat → Prop) (s : State) (ws : va_W) (H : Heap) (locs : List Loc) : Prop := va_P D vwCl ws H ∧ va_D A ws ∧ va_S A s.heap H locs
theorem acI : Cond.arrayClass .int ∈ BIG := big_mem (by decide +kernel) rfl
theorem acL : Cond.arrayClass .long ∈ BIG := big_mem (by decide +kernel) rfl
theorem oi1 : Cond.instanceMethod objectInit ∈ BIG := big_mem (by decide +kernel) (by decide +kernel)
abbrev Qn {F : Type} (D : va_G) (A : Nat → Prop) (ca : Nat → ClassId) (h0 : Nat) (post : (Nat → ClassId) → Nat → F → va_W) : Array Value → State → Outcome → State → Prop := va_Qv (fun (_ : Unit) => True) (fun _ t => ∃ u : F, va_P D vwCl (post ca h0 u) t.heap ∧ va_D A (post ca h0 u)) A
/-- a constructor's contract: the object's own cell before, it and the new ones behind -/
def MK {F : Type} (y : MethodName) (cc : ByteArray) (nL fr lo mc ms : Nat) (As : List Value) (ci : Nat) (fs : List Value) (post : (Nat → ClassId) → Nat → F → va_W) : Prop := ∀ (l : Launch) (D : va_G) (ca : Nat → ClassId) (h0 sz : Nat), Met l y (.code y cc nL none :: BIG) (RN fr lo mc ms) (va_Pc (.ref h0 :: As) (fun U => U.heap.size = sz ∧ va_P D vwCl [(h0, .inr (ci, fs))] U.heap ∧ Kn D ca U)) (Qn D (va_A [(h0, .inr (ci, fs))] sz) ca h0 post) mc ms (va_A [(h0, .inr (ci, fs))] sz)
theorem one_D {A : Nat → Prop} {x : Nat × va_E} (h : A x.1) : va_D A [x] := by
  refine ⟨fun i j p q hp hq _ => ?_, fun k q hk => ?_⟩
  · have h1 : i < 1 := (List.getElem?_eq_some_iff.mp hp).1
    have h2 : j < 1 := (List.getElem?_eq_some_iff.mp hq).1
    omega
  · have h1 : k < 1 := (List.getElem?_eq_some_iff.mp hk).1
    rw [show k = 0 by omega] at hk
    cases hk
    exact h
theorem MK.of {F : Type} {y : MethodName} {cc : ByteArray} {nL fr lo mc ms : Nat} {As : List Value} {ci : Nat} {fs : List Value} {post : (Nat → ClassId) → Nat → F → va_W} (hy : plainName y.cls = true) (body : ∀ (l : Launch) (D : va_G) (ca : Nat → ClassId) (h0 : Nat) (A : Nat → Prop) (p : Program) (e : Env) (s : State) (m : MethodId) (below : List Frame) (meth : Method) (c : Code), Cn D ca A p s m c (Value.ref h0 :: As).toArray y.cls cc nL → Sn D A s [(h0, .inr (ci, fs))] s.heap [] → meth.sig.returnType = none → meth.locks = false → meth.name = y.name → W p l e (RN fr lo mc ms) s m (Value.ref h0 :: As).toArray below meth c s.heap [] 0 0 (MQ below (Qn D A ca h0 post) (Value.ref h0 :: As).toArray s mc ms A) (entryFrame m (Value.ref h0 :: As).toArray nL)) : MK y cc nL fr lo mc ms As ci fs post := by
  intro l D ca h0 sz
  refine Met.ofW (cc := cc) (maxL := nL) (ret := none) hy rfl ?_
  intro p e s m args below meth c s₁ B hml hv
  obtain ⟨rfl, hsz, hP, hK⟩ := hv
  subst hsz
  exact body l D ca h0 _ p e s m below meth c ⟨B.exec, B.bytes, hml, findClass_of_methodNamed B.named, fun w hw => atoms_spec (ws := .code y cc nL none :: BIG) B.pre w (List.mem_cons_of_mem _ hw), hK, fun q h => Or.inr h⟩ ⟨hP, one_D (Or.inl ⟨0, _, rfl⟩), va_S.rf⟩ B.returns B.notSynchronized (name_of_methodNamed B.named B.method).1
theorem n_join {D : va_G} {A : Nat → Prop} {B b b1 : va_W} {H H1 : Heap} (hP : va_P D vwCl (B ++ b) H) (hD : va_D A (B ++ b)) (hk : ∀ q : Nat, q < H.size → ¬ va_A b H.size q → H1[q]? = H[q]?) (hF : ∀ q, va_A b H.size q → A q) (hP1 : va_P D vwCl b1 H1) (hD1 : va_D (va_A b H.size) b1) : va_P D vwCl (B ++ b1) H1 ∧ va_D A (B ++ b1) := by
  have inB : ∀ (k : Nat) (q : Nat × va_E), B[k]? = some q → (B ++ b)[k]? = some q := fun k q hq => by
    rw [List.getElem?_append_left (List.getElem?_eq_some_iff.mp hq).1]
    exact hq
  have hB : va_P D vwCl B H := fun k q hq => hP k q (inB k q hq)
  have no : ∀ (k : Nat) (q : Nat × va_E), B[k]? = some q → ¬ va_A b H.size q.1 := fun k q hq h => by
    rcases h with ⟨j, e, hj⟩ | h
    · have e1 := hD.1 k (B.length + j) q (q.1, e) (inB k q hq) (by rw [List.getElem?_append_right (by omega), Nat.add_sub_cancel_left]; exact hj) rfl
      have := (List.getElem?_eq_some_iff.mp hq).1
      omega
    · have := (hB k q hq).lt
      omega
  refine ⟨(hB.kept fun k q hq => hk q.1 (hB k q hq).lt (no k q hq)).app hP1, va_D.app ⟨fun i j p q hp hq e => hD.1 i j p q (inB i p hp) (inB j q hq) e, fun k q hq => hD.2 k q (inB k q hq)⟩ (hD1.weaken fun k q hq h => hF q.1 h) fun i j p q hp hq e => no i p hp (by rw [e]; exact hD1.2 j q hq)⟩
section NROWS
variable {p : Program} {l : Launch} {e : Env} {R : Room} {s : State} {m : MethodId} {args : Array Value} {below : List Frame} {meth : Method} {c : Code} {H : Heap} {locs : List Loc} {cells slots : Nat} {Q : State → Prop} {D : va_G} {ca : Nat → ClassId} {A : Nat → Prop} {cc : ByteArray} {own : String} {nL : Nat} {pc : Nat} {ls : Array Slot} {rest : List Value} {ws : va_W}
theorem n_newi (C : Cn D ca A p s m c args own cc nL) (S : Sn D A s ws H locs) {n : Int32} (N : Nat) (hn : ¬ n < 0) (hN : n.toNatClampNeg = N) (hbytes : N * 4 ≤ 536870912) (hcells : cells + 1 ≤ R.cells) (hslots : slots + N ≤ R.slots) (hdg : decode cc pc = .ok (.newarray .int, 2)) (kk : ∀ (q : Nat) (H1 : Heap), Sn D A s (ws ++ [(q, .inl (ca 0, N, .inl (fun _ => 0)))]) H1 locs → W p l e R s m args below meth c H1 locs (cells + 1) (slots + N) Q (F0 m (pc + 2) ls (.ref q :: rest))) : W p l e R s m args below meth c H locs cells slots Q (F0 m pc ls (.int n :: rest)) := by
  refine va_newa (atype := .int) (ty := .int) C.1 C.2.1 (C.2.2.2.2.1 _ acI) rfl C.2.2.2.2.2.1.1 S.1 S.2.1 S.2.2 C.2.2.2.2.2.2 (a0 := (N, .inl (fun _ => 0))) (fun _ => rfl) hn hN hbytes hcells hslots hdg (fun q cA H1 hK hP hD hS => ?_)
  have e1 : cA = ca 0 := Option.some.inj ((hK.2 4 _ rfl).2.symm.trans (C.2.2.2.2.2.1.1.2 0 _ rfl).2)
  subst e1
  exact kk q H1 ⟨hP, hD, hS⟩
theorem n_newl (C : Cn D ca A p s m c args own cc nL) (S : Sn D A s ws H locs) {n : Int32} (N : Nat) (hn : ¬ n < 0) (hN : n.toNatClampNeg = N) (hbytes : N * 8 ≤ 536870912) (hcells : cells + 1 ≤ R.cells) (hslots : slots + N ≤ R.slots) (hdg : decode cc pc = .ok (.newarray .long, 2)) (kk : ∀ (q : Nat) (H1 : Heap), Sn D A s (ws ++ [(q, .inl (ca 1, N, .inr (.inl (fun _ => 0))))]) H1 locs → W p l e R s m args below meth c H1 locs (cells + 1) (slots + N) Q (F0 m (pc + 2) ls (.ref q :: rest))) : W p l e R s m args below meth c H locs cells slots Q (F0 m pc ls (.int n :: rest)) := by
  refine va_newa (atype := .long) (ty := .long) C.1 C.2.1 (C.2.2.2.2.1 _ acL) rfl C.2.2.2.2.2.1.1 S.1 S.2.1 S.2.2 C.2.2.2.2.2.2 (a0 := (N, .inr (.inl (fun _ => 0)))) (fun _ => rfl) hn hN hbytes hcells hslots hdg (fun q cA H1 hK hP hD hS => ?_)
  have e1 : cA = ca 1 := Option.some.inj ((hK.2 4 _ rfl).2.symm.trans (C.2.2.2.2.2.1.1.2 1 _ rfl).2)
  subst e1
  exact kk q H1 ⟨hP, hD, hS⟩
theorem n_newq (C : Cn D ca A p s m c args own cc nL) (S : Sn D A s ws H locs) {n : Int32} {index : Nat} (N : Nat) (hcl : Cond.classLink own index RX4 ∈ BIG) (hn : ¬ n < 0) (hN : n.toNatClampNeg = N) (hbytes : N * 4 ≤ 536870912) (hcells : cells + 1 ≤ R.cells) (hslots : slots + N ≤ R.slots) (hdg : decode cc pc = .ok (.anewarray index, 3)) (kk : ∀ (q : Nat) (H1 : Heap), Sn D A s (ws ++ [(q, .inl (ca 2, N, .inr (.inr (.inr (.inr (fun _ => none))))))]) H1 locs → W p l e R s m args below meth c H1 locs (cells + 1) (slots + N) Q (F0 m (pc + 3) ls (.ref q :: rest))) : W p l e R s m args below meth c H locs cells slots Q (F0 m pc ls (.int n :: rest)) := by
  refine va_newq C.1 C.2.1 C.2.2.2.1 (C.2.2.2.2.1 _ hcl) C.2.2.2.2.2.1.2.2.1 C.2.2.2.2.2.1.1 S.1 S.2.1 S.2.2 C.2.2.2.2.2.2 hn hN hbytes hcells hslots hdg (fun q cA H1 hK hP hD hS => ?_)
  obtain ⟨-, -, -, -, -, x1⟩ := (hK.2 4 _ rfl).2
  obtain ⟨-, -, -, -, -, x2⟩ := (C.2.2.2.2.2.1.1.2 2 _ rfl).2
  have e1 : cA = ca 2 := Option.some.inj (x1.symm.trans x2)
  subst e1
  exact kk q H1 ⟨hP, hD, hS⟩
theorem n_putF {h0 ci index N : Nat} {fs : List Value} {B : va_W} {T : u_T} {ty : Nat → FieldType} {v : Value} (C : Cn D ca A p s m c args own cc nL) (cf : CF ci own T ty N) (S : Sn D A s ((h0, .inr (ci, fs)) :: B) H locs) (hin : meth.name = "<init>") (k : Nat) (hk : k < N) (hlk : Cond.fieldLink own index own (T k).2.1 (T k).2.2.1 ∈ BIG) (hf : (T k).2.2.2 = true ∧ (T k).1 = own) (hv : narrow (ty k) v = v ∧ fits (ty k) v = true) (hl : k < fs.length) (hdg : decode cc pc = .ok (.putfield index, 3)) (kk : ∀ (H1 : Heap) (locs1 : List Loc), Sn D A s ((h0, .inr (ci, fs.set k v)) :: B) H1 locs1 → W p l e R s m args below meth c H1 locs1 cells slots Q (F0 m (pc + 3) ls rest)) : W p l e R s m args below meth c H locs cells slots Q (F0 m pc ls (v :: .ref h0 :: rest)) :=
  va_putF C.1 C.2.1 C.2.2.2.2.1 cf.2.1 ty cf.2.2.1 cf.2.2.2 C.2.2.2.1 C.2.2.2.2.2.1.1 S.1 S.2.1 S.2.2 0 rfl cf.1 k hk (C.2.2.2.2.1 _ hlk) (fun x h => by rw [hf.2] at h; exact h) hf.1 hin hf.2 (cf.2.2.1 k hk) hv.1 hv.2 hl hdg (fun H1 locs1 hP hD hS => kk H1 locs1 ⟨hP, hD, hS⟩)
theorem n_put {h0 ci index N : Nat} {fs : List Value} {B : va_W} {T : u_T} {ty : Nat → FieldType} {v : Value} (C : Cn D ca A p s m c args own cc nL) (cf : CF ci own T ty N) (S : Sn D A s ((h0, .inr (ci, fs)) :: B) H locs) (k : Nat) (hk : k < N) (hlk : Cond.fieldLink own index own (T k).2.1 (T k).2.2.1 ∈ BIG) (hf : (T k).2.2.2 = false ∧ (T k).1 = own) (hv : narrow (ty k) v = v ∧ fits (ty k) v = true) (hl : k < fs.length) (hdg : decode cc pc = .ok (.putfield index, 3)) (kk : ∀ (H1 : Heap) (locs1 : List Loc), Sn D A s ((h0, .inr (ci, fs.set k v)) :: B) H1 locs1 → W p l e R s m args below meth c H1 locs1 cells slots Q (F0 m (pc + 3) ls rest)) : W p l e R s m args below meth c H locs cells slots Q (F0 m pc ls (v :: .ref h0 :: rest)) :=
  va_put C.1 C.2.1 C.2.2.2.2.1 cf.2.1 ty cf.2.2.1 cf.2.2.2 C.2.2.2.1 C.2.2.2.2.2.1.1 S.1 S.2.1 S.2.2 0 rfl cf.1 k hk (C.2.2.2.2.1 _ hlk) (fun x h => by rw [hf.2] at h; exact h) hf.1 (cf.2.2.1 k hk) hv.1 hv.2 hl hdg (fun H1 locs1 hP hD hS => kk H1 locs1 ⟨hP, hD, hS⟩)
theorem n_get {a ci index N q0 : Nat} {fs : List Value} {Cc : String} {T : u_T} {ty : Nat → FieldType} {v : Value} (C : Cn D ca A p s m c args own cc nL) (cf : CF ci Cc T ty N) (S : Sn D A s ws H locs) (he : ws[q0]? = some (a, .inr (ci, fs))) (k : Nat) (hk : k < N) (hlk : Cond.fieldLink own index Cc (T k).2.1 (T k).2.2.1 ∈ BIG) (hf : (T k).1 = Cc) (hv : fs[k]? = some v) (hdg : decode cc pc = .ok (.getfield index, 3)) (kk : W p l e R s m args below meth c H locs cells slots Q (F0 m (pc + 3) ls (v :: rest))) : W p l e R s m args below meth c H locs cells slots Q (F0 m pc ls (.ref a :: rest)) :=
  va_get C.1 C.2.1 C.2.2.2.2.1 cf.2.1 C.2.2.2.1 C.2.2.2.2.2.1.1 S.1 q0 he cf.1 k hk (C.2.2.2.2.1 _ hlk) (fun x h => by rw [hf] at h; exact h) hv hdg kk
theorem n_new {ci index N : Nat} {Cc : String} {T : u_T} {ty : Nat → FieldType} (fs : List Value) (C : Cn D ca A p s m c args own cc nL) (S : Sn D A s ws H locs) (cf : CF ci Cc T ty N) (hcl : Cond.classLink own index Cc ∈ BIG) (hin : Cond.instantiable Cc N ∈ BIG) (hini : Cond.initialized Cc ∈ BIG) (hfs : ∀ j, j < N → defaultValue (ty j) = vp_V fs j) (hcells : cells + 1 ≤ R.cells) (hslots : slots + N ≤ R.slots) (hdg : decode cc pc = .ok (.new index, 3)) (kk : ∀ (q : Nat) (H1 : Heap), Sn D A s (ws ++ [(q, .inr (ci, fs))]) H1 locs → W p l e R s m args below meth c H1 locs (cells + 1) (slots + N) Q (F0 m (pc + 3) ls (.ref q :: rest))) : W p l e R s m args below meth c H locs cells slots Q (F0 m pc ls rest) :=
  va_new C.1 C.2.1 C.2.2.2.2.1 cf.2.1 ty cf.2.2.1 C.2.2.2.1 (C.2.2.2.2.1 _ hcl) (C.2.2.2.2.1 _ hin) (C.2.2.2.2.1 _ hini) C.2.2.2.2.2.1.1 S.1 S.2.1 S.2.2 C.2.2.2.2.2.2 cf.1 hfs hcells hslots hdg (fun q H1 hP hD hS => kk q H1 ⟨hP, hD, hS⟩)
variable {F : Type} {y : MethodName} {cy : ByteArray} {ny fr lo mc ms ci n index q : Nat} {As fs : List Value} {post : (Nat → ClassId) → Nat → F → va_W} {B : va_W} {st : List Value} {lv : List (Nat × Value)}
theorem n_mkN {host : String} (C : Cn D ca A p s m c args own cc nL) (S : Sn D A s (B ++ [(q, .inr (ci, fs))]) H locs) (hl : lv_has ls nL lv) (hM : MK y cy ny fr lo mc ms As ci fs post) (nq : (own, index, y, host) ∈ NQ) (hw3 : Cond.initialized y.cls ∈ BIG ∧ Cond.instanceMethod y ∈ BIG ∧ Cond.code y cy ny none ∈ BIG) (hy : y.name = "<init>") (hds : y.cls ≠ "java/lang/invoke/MethodHandle" ∧ y.cls ≠ "java/lang/invoke/VarHandle" ∧ (parseMethodDescriptor y.desc).map (fun d => d.parameters.length) = some n) (rest : List Value) (hst : st = As.reverse ++ .ref q :: rest) (hn : As.length = n) (hw : (rest.map fun v => v.category).sum ≤ 8) (hR : fr + 1 ≤ R.frames ∧ 8 + (ny + 11) + lo ≤ R.locals) (hcs : cells + mc ≤ R.cells ∧ slots + ms ≤ R.slots) (hdg : decode cc pc = .ok (.invokespecial index, 3))
    (kk : ∀ (u : F) (H1 : Heap) (locs1 : List Loc), Sn D A s (B ++ post ca q u) H1 locs1 → W p l e R s m args below meth c H1 locs1 (cells + mc) (slots + ms) Q (F0 m (pc + 3) ls rest)) : W p l e R s m args below meth c H locs cells slots Q (F0 m pc ls st) := by
  subst hst
  have hB := C.2.2.2.2.1
  have hPc : va_P D vwCl [(q, .inr (ci, fs))] H := fun k x hx => S.1 (B.length + k) x (by rw [List.getElem?_append_right (by omega), Nat.add_sub_cancel_left]; exact hx)
  have hFc : ∀ x, va_A [(q, .inr (ci, fs))] H.size x → A x := fun x hx => by
    rcases hx with ⟨k, e0, hk⟩ | hx
    · exact S.2.1.2 (B.length + k) (x, e0) (by rw [List.getElem?_append_right (by omega), Nat.add_sub_cancel_left]; exact hk)
    · exact C.2.2.2.2.2.2 x (Nat.le_trans S.2.2.1 hx)
  refine va_callv (va_runIN (As := As) (rest := rest) (host := host) ⟨C.1, C.2.1, C.2.2.1, C.2.2.2.1, hB⟩ (hM l D ca q H.size) ⟨va_cnB n hB (big_good _ hw3.2.2) rfl rfl rfl (C.2.2.2.2.2.1.2.1 _ nq) (hB _ hw3.1) hds hR, hy, hB _ hw3.2.1⟩ ⟨fun a U g mk z => ⟨z.1, z.2.1, z.2.2.1, Kn.same (s := U) rfl z.2.2.2⟩, fun U hU hW => ⟨rfl, by rw [hU], by rw [hU]; exact hPc, Kn.warm hW C.2.2.2.2.2.1⟩⟩ rfl hn hl.1 rfl (lv_room hw) hdg hcs) S.2.2 (fun x _ h => hFc x h) hFc (fun u t H1 locs1 ht _ _ hB1 _ hk1 hS => ?_)
  obtain ⟨v, hP1, hD1⟩ := hB1
  rw [ht] at hP1
  obtain ⟨hP, hD⟩ := n_join S.1 S.2.1 hk1 hFc hP1 hD1
  exact kk v H1 locs1 ⟨hP, hD, hS⟩
theorem n_mkP (C : Cn D ca A p s m c args own cc nL) (S : Sn D A s (B ++ [(q, .inr (ci, fs))]) H locs) (hl : lv_has ls nL lv) (hM : MK y cy ny fr lo mc ms As ci fs post) (hml : Cond.methodLink own index y ∈ BIG) (hw3 : Cond.initialized y.cls ∈ BIG ∧ Cond.instanceMethod y ∈ BIG ∧ Cond.code y cy ny none ∈ BIG) (hy : y.name = "<init>") (hds : y.cls ≠ "java/lang/invoke/MethodHandle" ∧ y.cls ≠ "java/lang/invoke/VarHandle" ∧ (parseMethodDescriptor y.desc).map (fun d => d.parameters.length) = some n) (rest : List Value) (hst : st = As.reverse ++ .ref q :: rest) (hn : As.length = n) (hw : (rest.map fun v => v.category).sum ≤ 8) (hR : fr + 1 ≤ R.frames ∧ 8 + (ny + 11) + lo ≤ R.locals) (hcs : cells + mc ≤ R.cells ∧ slots + ms ≤ R.slots) (hdg : decode cc pc = .ok (.invokespecial index, 3))
    (kk : ∀ (u : F) (H1 : Heap) (locs1 : List Loc), Sn D A s (B ++ post ca q u) H1 locs1 → W p l e R s m args below meth c H1 locs1 (cells + mc) (slots + ms) Q (F0 m (pc + 3) ls rest)) : W p l e R s m args below meth c H locs cells slots Q (F0 m pc ls st) := by
  subst hst
  have hB := C.2.2.2.2.1
  have hPc : va_P D vwCl [(q, .inr (ci, fs))] H := fun k x hx => S.1 (B.length + k) x (by rw [List.getElem?_append_right (by omega), Nat.add_sub_cancel_left]; exact hx)
  have hFc : ∀ x, va_A [(q, .inr (ci, fs))] H.size x → A x := fun x hx => by
    rcases hx with ⟨k, e0, hk⟩ | hx
    · exact S.2.1.2 (B.length + k) (x, e0) (by rw [List.getElem?_append_right (by omega), Nat.add_sub_cancel_left]; exact hk)
    · exact C.2.2.2.2.2.2 x (Nat.le_trans S.2.2.1 hx)
  refine va_callv (va_runI (As := As) (rest := rest) ⟨C.1, C.2.1, C.2.2.1, C.2.2.2.1, hB⟩ (hM l D ca q H.size) (cwI n hB (big_good _ hw3.2.2) rfl rfl rfl (hB _ hw3.1) (hB _ hml) (hB _ hw3.2.1) hy hds hR) ⟨fun a U g mk z => ⟨z.1, z.2.1, z.2.2.1, Kn.same (s := U) rfl z.2.2.2⟩, fun U hU hW => ⟨rfl, by rw [hU], by rw [hU]; exact hPc, Kn.warm hW C.2.2.2.2.2.1⟩⟩ rfl hn hl.1 rfl (lv_room hw) hdg hcs) S.2.2 (fun x _ h => hFc x h) hFc (fun u t H1 locs1 ht _ _ hB1 _ hk1 hS => ?_)
  obtain ⟨v, hP1, hD1⟩ := hB1
  rw [ht] at hP1
  obtain ⟨hP, hD⟩ := n_join S.1 S.2.1 hk1 hFc hP1 hD1
  exact kk v H1 locs1 ⟨hP, hD, hS⟩
end NROWS

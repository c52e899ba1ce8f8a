/-! a table of four rows of forty longs: one step of the machine, five cells -/
def mzO (c : ClassId) (h : Nat) : Nat → Cell
  | 0 => { cls := c, slots := Array.replicate 4 .null }
  | i + 1 => (mzO c h i).setSlot i (.ref (h + 1 + i))
def mzI (b : ClassId) : Cell := { cls := b, slots := Array.replicate 40 (.long 0) }
def mzS (c b : ClassId) (T : State) : Nat → State
  | 0 => T.pushCell (mzO c T.heap.size 0)
  | i + 1 => ((mzS c b T i).pushCell (mzI b)).setCell T.heap.size (mzO c T.heap.size (i + 1))
theorem mzO_f (c : ClassId) (h : Nat) : ∀ i, (mzO c h i).cls = c ∧ (mzO c h i).vm = .none ∧ (mzO c h i).slots.size = 4
  | 0 => ⟨rfl, rfl, rfl⟩
  | i + 1 => by
    have q := mzO_f c h i
    refine ⟨q.1, q.2.1, ?_⟩
    show ((mzO c h i).slots.setIfInBounds i _).size = 4
    rw [Array.size_setIfInBounds]
    exact q.2.2
theorem mzS_f (c b : ClassId) (T : State) : ∀ i, ((mzS c b T i).heap.size = T.heap.size + 1 + i ∧ (mzS c b T i).heap[T.heap.size]? = some (mzO c T.heap.size i)) ∧ ((mzS c b T i).vm = T.vm ∧ (mzS c b T i).slotsUsed = T.slotsUsed + 4 + i * 40) ∧ (∀ a, a < T.heap.size → (mzS c b T i).heap[a]? = T.heap[a]?) ∧ ∀ j, j < i → (mzS c b T i).heap[T.heap.size + 1 + j]? = some (mzI b)
  | 0 => ⟨⟨by simp [mzS], by simp [mzS]⟩, ⟨rfl, by simp [mzS, mzO]⟩, fun a ha => State.heap_pushCell_of_lt _ _ ha, fun j hj => absurd hj (Nat.not_lt_zero _)⟩
  | i + 1 => by
    obtain ⟨⟨a1, a2⟩, ⟨a3, a4⟩, a5, a6⟩ := mzS_f c b T i
    have lt0 : T.heap.size < (mzS c b T i).heap.size := by omega
    have e0 : ((mzS c b T i).pushCell (mzI b)).heap[T.heap.size]? = some (mzO c T.heap.size i) := by
      rw [State.heap_pushCell_of_lt (h := lt0)]
      exact a2
    refine ⟨⟨?_, State.heap_setCell_self e0⟩, ⟨by simp [mzS, a3], ?_⟩, fun a ha => ?_, fun j hj => ?_⟩
    · simp [mzS, State.setCell, a1]
      omega
    · simp [mzS, a4, mzI]
      omega
    · show (((mzS c b T i).pushCell (mzI b)).setCell T.heap.size _).heap[a]? = _
      rw [State.heap_setCell_other (show T.heap.size ≠ a by omega), State.heap_pushCell_of_lt (h := show a < (mzS c b T i).heap.size by omega)]
      exact a5 a ha
    · show (((mzS c b T i).pushCell (mzI b)).setCell T.heap.size _).heap[T.heap.size + 1 + j]? = _
      rw [State.heap_setCell_other (show T.heap.size ≠ T.heap.size + 1 + j by omega)]
      rcases Nat.lt_or_ge j i with q | q
      · rw [State.heap_pushCell_of_lt (h := show T.heap.size + 1 + j < (mzS c b T i).heap.size by omega)]
        exact a6 j q
      · rw [show T.heap.size + 1 + j = (mzS c b T i).heap.size by omega]
        exact State.heap_pushCell_size _ _
theorem mzS_top (c b : ClassId) (T : State) (f : JFrame) : ∀ i, mzS c b (T.setTop f) i = (mzS c b T i).setTop f
  | 0 => rfl
  | i + 1 => by
    show ((mzS c b (T.setTop f) i).pushCell (mzI b)).setCell (T.setTop f).heap.size _ = _
    rw [mzS_top c b T f i]
    simp only [mzS, State.heap_setTop, State.pushCell_setTop, State.setCell_setTop]
theorem mzS_X {p : Program} {l : Launch} {e : Env} {R : Room} {s : State} {m : MethodId} {args : Array Value} {below : List Frame} {meth : Method} {c : Code} {T : State} {locs : List Loc} {cells slots : Nat} (X : Stand p l e R s m args below meth c T locs cells slots) (cA b : ClassId) : ∀ i, Stand p l e R s m args below meth c (mzS cA b T i) (locs ++ (List.range i).map fun j => ⟨T.heap.size, j⟩) (cells + 1 + i) (slots + 4 + i * 40)
  | 0 => by
    have q := X.pushed (mzO cA T.heap.size 0)
    simpa [mzS, (mzO_f cA T.heap.size 0).2.2] using q
  | i + 1 => by
    obtain ⟨⟨a1, a2⟩, -⟩ := mzS_f cA b T i
    have e0 : ((mzS cA b T i).pushCell (mzI b)).heap[T.heap.size]? = some (mzO cA T.heap.size i) := by
      rw [State.heap_pushCell_of_lt (h := show T.heap.size < (mzS cA b T i).heap.size by omega)]
      exact a2
    have q := ((mzS_X X cA b i).pushed (mzI b)).stored e0 i (.ref (T.heap.size + 1 + i))
    rw [show (mzI b).slots.size = 40 from Array.size_replicate] at q
    rw [List.range_succ, List.map_append, ← List.append_assoc, Nat.succ_mul, ← Nat.add_assoc (slots + 4), ← Nat.add_assoc (cells + 1)]
    exact q
theorem mzO_s (c : ClassId) (h : Nat) : ∀ i j, j < 4 → (mzO c h i).slots[j]? = some (if j < i then .ref (h + 1 + j) else .null)
  | 0, j, hj => by
    show (Array.replicate 4 Value.null)[j]? = _
    rw [Array.getElem?_replicate, if_pos hj, if_neg (Nat.not_lt_zero _)]
  | i + 1, j, hj => by
    show ((mzO c h i).slots.setIfInBounds i (.ref (h + 1 + i)))[j]? = _
    have q := (mzO_f c h i).2.2
    rw [Array.getElem?_setIfInBounds, mzO_s c h i j hj]
    by_cases e : i = j
    · subst e
      rw [if_pos rfl, if_pos (by omega), if_pos (by omega)]
    · rw [if_neg e]
      by_cases z : j < i
      · rw [if_pos z, if_pos (by omega)]
      · rw [if_neg z, if_neg (by omega)]
section MZW
variable {E : CtlPost} {e : Env} {d : Bool} {acts : List Action} {s : State}
theorem mz_in {b cc : ClassId} {kb : Class} (hkb : s.vm.classes[b]? = some kb) (hkindb : kb.kind = .array cc .long) (hl : 40 ≤ e.platform.arrayLengthLimit) (hh : 320 ≤ e.platform.maxHeapBytes) (h1 : s.heap.size < e.platform.maxCells) (h2 : s.slotsUsed + 40 ≤ e.platform.maxSlots) {Q : Addr → Pre} (hq : ∀ acts', Q s.heap.size d acts' (s.pushCell (mzI b))) : wp (multianewarray.make b [40]) Q E e d acts s := by
  rw [multianewarray.make]
  simp only [wp_bind', Jvm.W.ite, show ¬ (40 : Int32) < 0 by decide, if_false, wp_pure', Jvm.W.theClass, hkb, hkindb, Option.some.injEq, exists_eq_left', show (40 : Int32).toNatClampNeg = 40 from rfl]
  exact Jvm.W.newArray_of hkb hkindb (by omega) (by show ¬ 40 * 8 > _; omega) h1 h2 rfl hq
theorem mz_make {c b cc : ClassId} {k kb : Class} (hk : s.vm.classes[c]? = some k) (hkind : k.kind = .array b (.array .long)) (hkb : s.vm.classes[b]? = some kb) (hkindb : kb.kind = .array cc .long) (hl : 40 ≤ e.platform.arrayLengthLimit) (hh : 320 ≤ e.platform.maxHeapBytes) (h1 : s.heap.size + 5 ≤ e.platform.maxCells) (h2 : s.slotsUsed + 164 ≤ e.platform.maxSlots) {Q : Addr → Pre} (hq : ∀ d' acts', Q s.heap.size d' acts' (mzS c b s 4)) : wp (multianewarray.make c [4, 40]) Q E e d acts s := by
  rw [multianewarray.make]
  simp only [wp_bind', Jvm.W.ite, show ¬ (4 : Int32) < 0 by decide, if_false, wp_pure', Jvm.W.theClass, hk, hkind, Option.some.injEq, exists_eq_left', show (4 : Int32).toNatClampNeg = 4 from rfl]
  refine Jvm.W.newArray_of hk hkind (by omega) (by show ¬ 4 * 4 > _; omega) (by omega) (by omega) rfl fun acts1 => ?_
  rw [if_neg (by decide), wp_bind', Std.Legacy.Range.forIn_eq_forIn_range']
  show wp (forIn [0, 1, 2, 3] PUnit.unit _) _ E e d acts1 _
  refine wp_forIn_inv (fun rest s' => ∃ i, i ≤ 4 ∧ rest = [0, 1, 2, 3].drop i ∧ s' = mzS c b s i) _ _ ⟨0, by decide, rfl, rfl⟩ ?_ ?_
  · rintro x rest s' d' acts' Q' ⟨i, hi, hr, rfl⟩ next
    obtain ⟨⟨a1, a2⟩, ⟨a3, a4⟩, -, -⟩ := mzS_f c b s i
    obtain ⟨o1, o2, o3⟩ := mzO_f c s.heap.size i
    have hxi : x = i ∧ i < 4 ∧ rest = [0, 1, 2, 3].drop (i + 1) := by
      rcases (by omega : i = 0 ∨ i = 1 ∨ i = 2 ∨ i = 3 ∨ i = 4) with q | q | q | q | q <;> subst q
      · exact ⟨(List.cons.inj hr).1, by decide, (List.cons.inj hr).2⟩
      · exact ⟨(List.cons.inj hr).1, by decide, (List.cons.inj hr).2⟩
      · exact ⟨(List.cons.inj hr).1, by decide, (List.cons.inj hr).2⟩
      · exact ⟨(List.cons.inj hr).1, by decide, (List.cons.inj hr).2⟩
      · cases hr
    obtain ⟨rfl, hlt, hr2⟩ := hxi
    simp only [wp_bind']
    refine mz_in (by rw [a3]; exact hkb) hkindb hl hh (by omega) (by omega) fun acts2 => ?_
    simp only [wp_bind', Jvm.W.writeLoc, wp_pure']
    refine ⟨mzO c s.heap.size x, ?_, by rw [o2]; simp, by omega, ?_, next _ _ _ ⟨x + 1, hlt, hr2, ?_⟩⟩
    · rw [State.heap_pushCell_of_lt (h := show s.heap.size < (mzS c b s x).heap.size by omega)]
      exact a2
    · rw [o1, o2]
      simp [State.fitsSlot, State.slotType?, a3, hk, hkind]
      rfl
    · rw [a1]
      rfl
  · rintro s' d' acts' ⟨i, hi, hr, rfl⟩
    have e4 : i = 4 := by
      rcases (by omega : i = 0 ∨ i = 1 ∨ i = 2 ∨ i = 3 ∨ i = 4) with q | q | q | q | q <;> subst q
      · cases hr
      · cases hr
      · cases hr
      · cases hr
      · rfl
    subst e4
    simp only [wp_pure']
    exact hq _ _
end MZW

abbrev Wd : Type := (Nat → Nat → Int32) × (Nat → Nat → Int64)
abbrev Sh : Type := (Nat × List (Option Nat)) ⊕ (Nat × Nat × Nat)
def shT : List Sh := [.inl (10, [some 1, some 2, none, some 3, some 8, some 5, some 7, some 10, some 11, some 12, some 13, some 14, some 15, some 16]), .inl (8, [some 3, some 5, some 8]), .inl (8, [some 4, some 6, some 9]), .inl (0, [some 17, none, some 19, none, none, none, none]), .inl (0, [some 18, none, some 20, none, none, none, none]), .inl (9, [some 21, none]), .inl (9, [some 22, none]), .inl (9, [some 23, none]), .inl (1, [some 24, some 25, some 26, some 27, none]), .inl (1, [some 28, some 29, some 30, some 31, none]), .inl (5, [some 5, some 32, none, none]), .inl (5, [some 7, some 33, none, none]), .inl (7, [some 34, none, none, none]), .inl (2, [none, none, none, none, some 59, some 60, some 61, some 62, some 63, some 64, some 65, some 66, some 67, none]), .inl (3, [some 3, some 13, some 68, none, none]), .inl (6, [some 69, some 74, some 75]), .inr (0, 7, 0), .inr (2, 12, 35), .inr (2, 12, 47), .inr (0, 4, 0), .inr (0, 4, 0), .inr (0, 80, 0), .inr (0, 80, 0), .inr (0, 80, 0), .inr (0, 24, 0), .inr (0, 24, 0), .inr (0, 24, 0), .inr (0, 24, 0), .inr (0, 24, 0), .inr (0, 24, 0), .inr (0, 24, 0), .inr (0, 24, 0), .inr (0, 8, 0), .inr (0, 8, 0), .inr (0, 12, 0), .inl (4, [none, none, none, none, none, none, none, none, none, none, none, none]), .inl (4, [none, none, none, none, none, none, none, none, none, none, none, none]), .inl (4, [none, none, none, none, none, none, none, none, none, none, none, none]), .inl (4, [none, none, none, none, none, none, none, none, none, none, none, none]), .inl (4, [none, none, none, none, none, none, none, none, none, none, none, none]), .inl (4, [none, none, none, none, none, none, none, none, none, none, none, none]), .inl (4, [none, none, none, none, none, none, none, none, none, none, none, none]), .inl (4, [none, none, none, none, none, none, none, none, none, none, none, none]), .inl (4, [none, none, none, none, none, none, none, none, none, none, none, none]), .inl (4, [none, none, none, none, none, none, none, none, none, none, none, none]), .inl (4, [none, none, none, none, none, none, none, none, none, none, none, none]), .inl (4, [none, none, none, none, none, none, none, none, none, none, none, none]), .inl (4, [none, none, none, none, none, none, none, none, none, none, none, none]), .inl (4, [none, none, none, none, none, none, none, none, none, none, none, none]), .inl (4, [none, none, none, none, none, none, none, none, none, none, none, none]), .inl (4, [none, none, none, none, none, none, none, none, none, none, none, none]), .inl (4, [none, none, none, none, none, none, none, none, none, none, none, none]), .inl (4, [none, none, none, none, none, none, none, none, none, none, none, none]), .inl (4, [none, none, none, none, none, none, none, none, none, none, none, none]), .inl (4, [none, none, none, none, none, none, none, none, none, none, none, none]), .inl (4, [none, none, none, none, none, none, none, none, none, none, none, none]), .inl (4, [none, none, none, none, none, none, none, none, none, none, none, none]), .inl (4, [none, none, none, none, none, none, none, none, none, none, none, none]), .inl (4, [none, none, none, none, none, none, none, none, none, none, none, none]), .inr (0, 12, 0), .inr (0, 12, 0), .inr (0, 12, 0), .inr (0, 12, 0), .inr (0, 12, 0), .inr (0, 12, 0), .inr (0, 12, 0), .inr (0, 48, 0), .inr (0, 48, 0), .inr (0, 12, 0), .inr (3, 4, 70), .inr (1, 40, 0), .inr (1, 40, 0), .inr (1, 40, 0), .inr (1, 40, 0), .inr (0, 4, 0), .inr (0, 4, 0), .inl (11, [some 77, some 78, none, some 79, none, some 80, some 81, some 82, some 83, some 84, some 85, some 86, some 87, some 88, some 89, some 90, some 91, some 92, none, some 93, none, some 94, none, none, none, none, some 95, some 96, some 97, some 98, none, none, none, none, none, none, none, none, some 99, some 100, some 101, some 102, some 103]), .inr (0, 291, 0), .inr (0, 291, 0), .inr (0, 7, 0), .inr (0, 12, 0), .inr (0, 12, 0), .inr (0, 12, 0), .inr (0, 12, 0), .inr (0, 12, 0), .inr (0, 12, 0), .inr (0, 12, 0), .inr (0, 12, 0), .inr (0, 12, 0), .inr (0, 12, 0), .inr (0, 12, 0), .inr (0, 12, 0), .inr (0, 80, 0), .inr (0, 80, 0), .inr (0, 80, 0), .inr (0, 80, 0), .inr (0, 12, 0), .inr (0, 12, 0), .inr (0, 12, 0), .inr (0, 24, 0), .inr (0, 4, 0), .inr (0, 4, 0), .inr (1, 160, 0), .inr (1, 40, 0)]
abbrev sN : Nat := 104
def NQ : List (String × Nat × MethodName × String) := [("WarmthShared", 9, ⟨"WarmthShared$State", "<init>", "()V"⟩, "WarmthShared"), ("WarmthShared$Block", 37, ⟨"WarmthShared$Flat", "<init>", "()V"⟩, "WarmthShared"), ("WarmthShared$State", 18, ⟨"WarmthShared$Text", "<init>", "()V"⟩, "WarmthShared"), ("WarmthShared$State", 25, ⟨"WarmthShared$Complaints", "<init>", "()V"⟩, "WarmthShared"), ("WarmthShared", 40, ⟨"WarmthShared$Text", "<init>", "()V"⟩, "WarmthShared"), ("WarmthShared", 58, ⟨"WarmthShared$Split", "<init>", "()V"⟩, "WarmthShared"), ("WarmthShared", 65, ⟨"WarmthShared$Course", "<init>", "()V"⟩, "WarmthShared"), ("WarmthShared", 81, ⟨"WarmthShared$Sheets", "<init>", "()V"⟩, "WarmthShared"), ("WarmthShared$Block", 42, ⟨"WarmthShared", "within", "(III)Z"⟩, "WarmthShared"), ("WarmthShared$RuleReader", 104, ⟨"WarmthShared", "within", "(III)Z"⟩, "WarmthShared"), ("WarmthShared$Split", 25, ⟨"WarmthShared", "within", "(III)Z"⟩, "WarmthShared"), ("WarmthShared$Split", 29, ⟨"WarmthShared", "bit", "(Z)I"⟩, "WarmthShared"), ("WarmthShared$Course", 107, ⟨"WarmthShared", "feeling", "(II)I"⟩, "WarmthShared"), ("WarmthShared$Block", 108, ⟨"WarmthShared", "bit", "(Z)I"⟩, "WarmthShared")]
def BIG : List Cond := lw_tbl.filter goodWord
theorem big_mem {w : Cond} (h : w ∈ lw_tbl) (g : goodWord w = true) : w ∈ BIG := List.mem_filter.mpr ⟨h, g⟩
theorem big_good (c : Cond) (h : c ∈ BIG) : GoodIn BIG (c :: BIG) := fun w hw => by
  rcases List.mem_cons.mp hw with rfl | hw
  · exact ⟨h, good_of_word (List.mem_filter.mp h).2⟩
  · exact ⟨hw, good_of_word (List.mem_filter.mp hw).2⟩
def sh (k : Nat) : Sh := shT.getD k (.inr (9, 0, 0))
/-- the id that a reference slot or place of k holds -/
def rf (k j : Nat) : Nat := match sh k with
  | .inl (_, sl) => (sl.getD j none).getD 0
  | .inr (_, _, b) => b + j
def fv (ad : Nat → Nat) (w : Wd) (k : Nat) (q : Option Nat × Nat) : Value := match q.1 with
  | none => .int (w.1 k q.2)
  | some r => .ref (ad r)
def cE (ad : Nat → Nat) (ca : Nat → ClassId) (w : Wd) (k : Nat) : va_E := match sh k with
  | .inl (ci, sl) => .inr (ci, sl.zipIdx.map (fv ad w k))
  | .inr (0, n, _) => .inl (ca 0, n, .inl (w.1 k))
  | .inr (1, n, _) => .inl (ca 1, n, .inr (.inl (w.2 k)))
  | .inr (t, n, b) => .inl (ca t, n, .inr (.inr (.inr (.inr (fun j => if j < n then some (ad (b + j)) else none)))))
def wl (ad : Nat → Nat) (ca : Nat → ClassId) (w : Wd) : va_W := (List.range sN).map (fun k => (ad k, cE ad ca w k))
def si (w : Wd) (a k : Nat) (v : Int32) : Wd := (fun x y => if x = a ∧ y = k then v else w.1 x y, w.2)
def sj (w : Wd) (a k : Nat) (v : Int64) : Wd := (w.1, fun x y => if x = a ∧ y = k then v else w.2 x y)
def sc (w : Wd) (a i b j n : Nat) : Wd := (w.1, fun x y => if x = b then va_cpy (w.2 a) (w.2 b) i j n y else w.2 x y)
abbrev IsO (k ci : Nat) (sl : List (Option Nat)) : Prop := k < sN ∧ sh k = .inl (ci, sl)
abbrev IsA (k t n b : Nat) : Prop := k < sN ∧ sh k = .inr (t, n, b)
def Inj (ad : Nat → Nat) : Prop := ∀ i j, i < sN → j < sN → ad i = ad j → i = j
def Aad (ad : Nat → Nat) : Nat → Prop := fun q => ∃ k, k < sN ∧ q = ad k
def CF (ci : Nat) (C : String) (T : u_T) (ty : Nat → FieldType) (N : Nat) : Prop := vwCl[ci]? = some (C, T, N) ∧ (∀ w ∈ u_ws C T N, w ∈ BIG) ∧ (∀ k, k < N → parseFieldDescriptor (T k).2.2.1 = some (ty k)) ∧ ∀ a, a < N → ∀ b, b < N → a ≠ b → (T a).2.1 ≠ (T b).2.1
abbrev tysC (ca : Nat → ClassId) : List (ClassId × FieldType) := [(ca 0, .int), (ca 1, .long), (ca 2, .object RX4), (ca 3, .array .long)]
def underF (j : Nat) : Int32 := ([-1, 0, 0, 0, 1, 3] : List Int32).getD j 0
abbrev namesB : List Int32 := [117, 116, 103, 119, 107, 102, 114, 112]
def Kx (D : va_G) (ad sx : Nat → Nat) (ca : Nat → ClassId) (U : State) (H : Heap) : Prop :=
  va_K D vwCl (tysC ca) U ∧ (∀ q ∈ NQ, va_Nw (.methodLinkNest q.1 q.2.1 q.2.2.1 q.2.2.2) U) ∧
  va_Z RX10 "UNDER" "[I" (.ref (ad 104)) (Aad ad) U H ∧ va_T .int (ad 104) 6 (fun j => .int (underF j)) (Aad ad) U H ∧
  vk_R RX5 97 "utgwkfrp" (ad 105) U ∧ vk_S 1 [8] [namesB] (fun _ => ad 105) (fun _ => ad 106) (Aad ad) U H ∧
  va_Z "java/lang/String" "COMPACT_STRINGS" "Z" (.int 1) (Aad ad) U H ∧ Inj ad
theorem Kx.kept {D : va_G} {ad sx : Nat → Nat} {ca : Nat → ClassId} {U : State} {H H1 : Heap} (h : Kx D ad sx ca U H) (hq : ∀ a : Nat, a < H.size → ¬ Aad ad a → H1[a]? = H[a]?) : Kx D ad sx ca U H1 := by
  obtain ⟨h1, h2, h3, h4, h5, h6, h7, h8⟩ := h
  exact ⟨h1, h2, h3.kept hq, h4.kept hq, h5, h6.kept hq, h7.kept hq, h8⟩
theorem Kx.warm {D : va_G} {ad sx : Nat → Nat} {ca : Nat → ClassId} {s U : State} {H : Heap} (hW : s.WarmedH U.vm) (h : Kx D ad sx ca s H) : Kx D ad sx ca U H := by
  obtain ⟨h1, h2, h3, h4, h5, h6, h7, h8⟩ := h
  exact ⟨va_K.moved hW.alike h1, fun q hq => va_Nw.warmM hW (h2 q hq), h3.moved hW.alike, h4.moved hW.alike, h5.warm hW, h6.moved hW.alike, h7.moved hW.alike, h8⟩
theorem Kx.same {D : va_G} {ad sx : Nat → Nat} {ca : Nat → ClassId} {s U : State} {H : Heap} (hv : U.vm = s.vm) (h : Kx D ad sx ca s H) : Kx D ad sx ca U H := by
  obtain ⟨h1, h2, h3, h4, h5, h6, h7, h8⟩ := h
  have ha : s.vm.Alike U.vm := by rw [hv]; exact Vm.Alike.refl s.vm
  exact ⟨va_K.moved ha h1, fun q hq => va_Nw.same rfl hv.symm (h2 q hq), h3.moved ha, h4.moved ha, h5.same hv, h6.moved ha, h7.moved ha, h8⟩
theorem wl_len {ad : Nat → Nat} {ca : Nat → ClassId} {w : Wd} : (wl ad ca w).length = sN := by
  unfold wl
  rw [List.length_map, List.length_range]
theorem wl_get {ad : Nat → Nat} {ca : Nat → ClassId} {w : Wd} {k : Nat} (hk : k < sN) : (wl ad ca w)[k]? = some (ad k, cE ad ca w k) := by
  unfold wl
  rw [List.getElem?_map, List.getElem?_range hk]
  rfl
theorem wl_no {ad : Nat → Nat} {ca : Nat → ClassId} {w : Wd} {k : Nat} (hk : ¬ k < sN) : (wl ad ca w)[k]? = none := by
  rw [List.getElem?_eq_none_iff, wl_len]
  omega
theorem wl_some {ad : Nat → Nat} {ca : Nat → ClassId} {w : Wd} {k : Nat} {q : Nat × va_E} (h : (wl ad ca w)[k]? = some q) : k < sN ∧ q = (ad k, cE ad ca w k) := by
  by_cases hk : k < sN
  · rw [wl_get hk] at h
    exact ⟨hk, (Option.some.inj h).symm⟩
  · rw [wl_no hk] at h
    cases h
theorem cE_ne {ad : Nat → Nat} {ca : Nat → ClassId} {w w' : Wd} {k : Nat} (h1 : w.1 k = w'.1 k) (h2 : w.2 k = w'.2 k) : cE ad ca w k = cE ad ca w' k := by
  have hf : fv ad w k = fv ad w' k := funext fun q => by unfold fv; rw [h1]
  unfold cE
  rw [hf, h1, h2]
theorem wl_set {ad : Nat → Nat} {ca : Nat → ClassId} {w w' : Wd} {k : Nat} {x : va_E} (hk : k < sN) (hx : x = cE ad ca w' k) (ho : ∀ i, i ≠ k → w.1 i = w'.1 i ∧ w.2 i = w'.2 i) : (wl ad ca w).set k (ad k, x) = wl ad ca w' := by
  apply List.ext_getElem?
  intro i
  by_cases hi : i = k
  · subst hi
    rw [List.getElem?_set_self (by rw [wl_len]; exact hk), wl_get hk, hx]
  · rw [List.getElem?_set_ne (Ne.symm hi)]
    by_cases hN : i < sN
    · rw [wl_get hN, wl_get hN, cE_ne (ho i hi).1 (ho i hi).2]
    · rw [wl_no hN, wl_no hN]
theorem si_ne {w : Wd} {a k : Nat} {v : Int32} (i : Nat) (h : i ≠ a) : w.1 i = (si w a k v).1 i ∧ w.2 i = (si w a k v).2 i := ⟨funext fun y => by simp [si, h], rfl⟩
theorem sj_ne {w : Wd} {a k : Nat} {v : Int64} (i : Nat) (h : i ≠ a) : w.1 i = (sj w a k v).1 i ∧ w.2 i = (sj w a k v).2 i := ⟨rfl, funext fun y => by simp [sj, h]⟩
theorem sc_ne {w : Wd} {a b p q n : Nat} (i : Nat) (h : i ≠ b) : w.1 i = (sc w a p b q n).1 i ∧ w.2 i = (sc w a p b q n).2 i := ⟨rfl, funext fun y => by simp [sc, h]⟩
theorem fv_set {ad : Nat → Nat} {w : Wd} {k j : Nat} {sl : List (Option Nat)} {v : Int32} (hj : sl[j]? = some none) : (sl.zipIdx.map (fv ad w k)).set j (.int v) = sl.zipIdx.map (fv ad (si w k j v) k) := by
  apply List.ext_getElem?
  intro i
  by_cases hi : i = j
  · subst hi
    have hl : i < sl.length := (List.getElem?_eq_some_iff.mp hj).1
    rw [List.getElem?_set_self (by simpa using hl), List.getElem?_map, List.getElem?_zipIdx, hj]
    simp [fv, si]
  · rw [List.getElem?_set_ne (Ne.symm hi), List.getElem?_map, List.getElem?_map, List.getElem?_zipIdx]
    cases hs : sl[i]? with
    | none => rfl
    | some o => cases o with
      | none => simp [fv, si, hi]
      | some r => simp [fv]
theorem wl_si {ad : Nat → Nat} {ca : Nat → ClassId} {w : Wd} {k ci j : Nat} {sl : List (Option Nat)} {v : Int32} (hO : IsO k ci sl) (hj : sl[j]? = some none) : (wl ad ca w).set k (ad k, .inr (ci, (sl.zipIdx.map (fv ad w k)).set j (.int v))) = wl ad ca (si w k j v) := by
  refine wl_set hO.1 ?_ (fun i hi => si_ne i hi)
  rw [fv_set hj]
  unfold cE
  rw [hO.2]
theorem wl_ia {ad : Nat → Nat} {ca : Nat → ClassId} {w : Wd} {k n b j : Nat} {v : Int32} (hA : IsA k 0 n b) : (wl ad ca w).set k (ad k, .inl (ca 0, n, .inl (upd (w.1 k) j v))) = wl ad ca (si w k j v) := by
  refine wl_set hA.1 ?_ (fun i hi => si_ne i hi)
  unfold cE
  rw [hA.2]
  have e : upd (w.1 k) j v = (si w k j v).1 k := funext fun y => by simp [upd, si]
  rw [e]
  rfl
theorem wl_la {ad : Nat → Nat} {ca : Nat → ClassId} {w : Wd} {k n b j : Nat} {v : Int64} (hA : IsA k 1 n b) : (wl ad ca w).set k (ad k, .inl (ca 1, n, .inr (.inl (vp_updL (w.2 k) j v)))) = wl ad ca (sj w k j v) := by
  refine wl_set hA.1 ?_ (fun i hi => sj_ne i hi)
  unfold cE
  rw [hA.2]
  have e : vp_updL (w.2 k) j v = (sj w k j v).2 k := funext fun y => by simp [vp_updL, sj]
  rw [e]
  rfl
theorem wl_ca {ad : Nat → Nat} {ca : Nat → ClassId} {w : Wd} {a k n b i j z : Nat} (hA : IsA k 1 n b) : (wl ad ca w).set k (ad k, .inl (ca 1, n, .inr (.inl (va_cpy (w.2 a) (w.2 k) i j z)))) = wl ad ca (sc w a i k j z) := by
  refine wl_set hA.1 ?_ (fun i hi => sc_ne i hi)
  unfold cE
  rw [hA.2]
  have e : va_cpy (w.2 a) (w.2 k) i j z = (sc w a i k j z).2 k := funext fun y => by simp [sc]
  rw [e]
  rfl
theorem wl_D {ad : Nat → Nat} {ca : Nat → ClassId} {w : Wd} (h : Inj ad) : va_D (Aad ad) (wl ad ca w) := by
  refine ⟨fun i j p q hp hq e => ?_, fun k q hq => ?_⟩
  · obtain ⟨hi, rfl⟩ := wl_some hp
    obtain ⟨hj, rfl⟩ := wl_some hq
    exact h i j hi hj e
  · obtain ⟨hk, rfl⟩ := wl_some hq
    exact ⟨k, hk, rfl⟩
/-- what stands through a method's walk -/
def Cx (D : va_G) (ad sx : Nat → Nat) (ca : Nat → ClassId) (p : Program) (s : State) (m : MethodId) (c : Code) (args : Array Value) (own : String) (cc : ByteArray) (nL : Nat) : Prop :=
  p.tables.exec = Jvm.exec ∧ c.code = cc ∧ c.maxLocals = nL ∧ s.vm.findClass own = some m.cls ∧ (∀ w ∈ BIG, w.before args s = true) ∧ Kx D ad sx ca s s.heap
/-- the heap holds the world; nothing else has changed since s -/
def St (D : va_G) (ad : Nat → Nat) (ca : Nat → ClassId) (s : State) (w : Wd) (H : Heap) (locs : List Loc) : Prop := va_P D vwCl (wl ad ca w) H ∧ va_S (Aad ad) s.heap H locs
def gd {α : Type} (b : Bool) (x : Option α) : Option α := if b = true then x else none
def inB (i : Int32) (n : Nat) : Bool := decide (¬ (i < 0 ∨ n ≤ i.toNatClampNeg))
def nz (y : Int32) : Bool := decide (¬ y = 0)
def nzl (y : Int64) : Bool := decide (¬ y = 0)
def zo (y : Int32) : Bool := decide (y = 0 ∨ y = 1)
/-- System.arraycopy's own tests, of two rows of longs of n0 and n1 -/
def cpB (sp dp n : Int32) (n0 n1 : Nat) : Bool := decide (¬ sp < 0 ∧ ¬ dp < 0 ∧ ¬ n < 0 ∧ sp.toNatClampNeg + n.toNatClampNeg ≤ n0 ∧ dp.toNatClampNeg + n.toNatClampNeg ≤ n1)
theorem gd_some {α : Type} {b : Bool} {x : Option α} {r : α} (h : gd b x = some r) : b = true ∧ x = some r := by
  unfold gd at h
  by_cases hb : b = true
  · rw [if_pos hb] at h
    exact ⟨hb, h⟩
  · rw [if_neg hb] at h
    cases h
theorem inB_in {i : Int32} {n : Nat} (h : inB i n = true) : vp_in i n := (of_decide_eq_true h : ¬ (i < 0 ∨ n ≤ i.toNatClampNeg))
theorem inB_lt {i : Int32} {n : Nat} (h : inB i n = true) : i.toNatClampNeg < n := Nat.not_le.mp fun q => (of_decide_eq_true h : ¬ (i < 0 ∨ n ≤ i.toNatClampNeg)) (Or.inr q)
theorem nz_ne {y : Int32} (h : nz y = true) : ¬ y = 0 := of_decide_eq_true (p := ¬ y = 0) h
theorem nzl_ne {y : Int64} (h : nzl y = true) : ¬ y = 0 := of_decide_eq_true (p := ¬ y = 0) h
theorem zo_or {y : Int32} (h : zo y = true) : y = 0 ∨ y = 1 := of_decide_eq_true h
theorem zo_nar {y : Int32} (h : y = 0 ∨ y = 1) : narrow .boolean (.int y) = .int y ∧ fits .boolean (.int y) = true := by
  rcases h with rfl | rfl <;> exact ⟨rfl, rfl⟩
/-- a loop: its body comes again (.inl) or is through (.inr) -/
def lp {σ ρ : Type} (step : σ → Option (σ ⊕ ρ)) : Nat → σ → Option ρ
  | 0, _ => none
  | n + 1, s => (step s).bind fun x => match x with
    | .inl s' => lp step n s'
    | .inr r => some r
def FU : Nat := 1000000
theorem lp_W {σ ρ : Type} {step : σ → Option (σ ⊕ ρ)} {HW : σ → Prop} {XW : ρ → Prop} (hb : ∀ (s : σ) (x : σ ⊕ ρ), step s = some x → (∀ s', x = .inl s' → HW s') → (∀ r, x = .inr r → XW r) → HW s) : ∀ (n : Nat) (s : σ) (r : ρ), lp step n s = some r → XW r → HW s
  | 0, _, _, h, _ => by cases h
  | n + 1, s, r, h, hX => by
    obtain ⟨x, e, h⟩ := Option.bind_eq_some_iff.mp (show ((step s).bind fun x => match x with | .inl s' => lp step n s' | .inr r => some r) = some r from h)
    refine hb s x e (fun s' hx => ?_) (fun r' hx => ?_)
    · subst hx
      exact lp_W hb n s' r h hX
    · subst hx
      cases h
      exact hX
abbrev RM (fr lo : Nat) : Room := { frames := fr, cells := 0, slots := 0, locals := lo }
def PreW (D : va_G) (ad sx : Nat → Nat) (ca : Nat → ClassId) (w : Wd) (U : State) : Prop := va_P D vwCl (wl ad ca w) U.heap ∧ Kx D ad sx ca U U.heap
abbrev Qi (D : va_G) (ad : Nat → Nat) (ca : Nat → ClassId) (r : Int32) (w : Wd) : Array Value → State → Outcome → State → Prop := va_Qi (fun a (_ : Unit) => a = r) (fun _ t => va_P D vwCl (wl ad ca w) t.heap) (Aad ad)
abbrev Ql (D : va_G) (ad : Nat → Nat) (ca : Nat → ClassId) (r : Int64) (w : Wd) : Array Value → State → Outcome → State → Prop := va_Ql (fun a (_ : Unit) => a = r) (fun _ t => va_P D vwCl (wl ad ca w) t.heap) (Aad ad)
abbrev Qv (D : va_G) (ad : Nat → Nat) (ca : Nat → ClassId) (w : Wd) : Array Value → State → Outcome → State → Prop := va_Qv (fun (_ : Unit) => True) (fun _ t => va_P D vwCl (wl ad ca w) t.heap) (Aad ad)
/-- contracts: an int (a boolean), a long, nothing -/
def CI (y : MethodName) (cc : ByteArray) (nL : Nat) (ret : FieldType) (fr lo : Nat) (av : (Nat → Nat) → List Value) (w : Wd) (r : Int32) (w' : Wd) : Prop := ∀ (l : Launch) (D : va_G) (ad sx : Nat → Nat) (ca : Nat → ClassId), Met l y (.code y cc nL (some ret) :: BIG) (RM fr lo) (va_Pc (av ad) (PreW D ad sx ca w)) (Qi D ad ca r w') 0 0 (Aad ad)
def CL (y : MethodName) (cc : ByteArray) (nL : Nat) (fr lo : Nat) (av : (Nat → Nat) → List Value) (w : Wd) (r : Int64) (w' : Wd) : Prop := ∀ (l : Launch) (D : va_G) (ad sx : Nat → Nat) (ca : Nat → ClassId), Met l y (.code y cc nL (some .long) :: BIG) (RM fr lo) (va_Pc (av ad) (PreW D ad sx ca w)) (Ql D ad ca r w') 0 0 (Aad ad)
def CV (y : MethodName) (cc : ByteArray) (nL : Nat) (fr lo : Nat) (av : (Nat → Nat) → List Value) (w : Wd) (w' : Wd) : Prop := ∀ (l : Launch) (D : va_G) (ad sx : Nat → Nat) (ca : Nat → ClassId), Met l y (.code y cc nL none :: BIG) (RM fr lo) (va_Pc (av ad) (PreW D ad sx ca w)) (Qv D ad ca w') 0 0 (Aad ad)
/-- the words of a call: to an instance method, to a static one, to a nest mate's -/
abbrev VB (own : String) (index : Nat) (C : String) (y : MethodName) (cd : Cond) (n : Nat) : Prop := ((∀ w ∈ ([.methodLink own index y, .instanceMethod y, .selects C y y, .initialized C] : List Cond), w ∈ BIG) ∧ cd ∈ BIG) ∧ y.cls = C ∧ y.cls ≠ "java/lang/invoke/MethodHandle" ∧ y.cls ≠ "java/lang/invoke/VarHandle" ∧ (parseMethodDescriptor y.desc).map (fun d => d.parameters.length) = some n
abbrev SB (own : String) (index : Nat) (y : MethodName) (cd : Cond) (n : Nat) : Prop := ((∀ w ∈ ([.methodLink own index y, .static y, .initialized y.cls] : List Cond), w ∈ BIG) ∧ cd ∈ BIG) ∧ y.cls ≠ "java/lang/invoke/MethodHandle" ∧ y.cls ≠ "java/lang/invoke/VarHandle" ∧ (parseMethodDescriptor y.desc).map (fun d => d.parameters.length) = some n
abbrev NB (own : String) (index : Nat) (y : MethodName) (host : String) (cd : Cond) (n : Nat) : Prop := (((own, index, y, host) ∈ NQ ∧ ∀ w ∈ ([.static y, .initialized y.cls] : List Cond), w ∈ BIG) ∧ cd ∈ BIG) ∧ y.cls ≠ "java/lang/invoke/MethodHandle" ∧ y.cls ≠ "java/lang/invoke/VarHandle" ∧ (parseMethodDescriptor y.desc).map (fun d => d.parameters.length) = some n
section ROWS
variable {p : Program} {l : Launch} {e : Env} {R : Room} {s : State} {m : MethodId} {args : Array Value} {below : List Frame} {meth : Method} {c : Code} {H : Heap} {locs : List Loc} {Q : State → Prop} {D : va_G} {ad sx : Nat → Nat} {ca : Nat → ClassId} {cc : ByteArray} {own : String} {nL : Nat} {w : Wd} {pc : Nat} {ls : Array Slot} {rest : List Value}
theorem PreW.blind {av : List Value} : FrameBlind (va_Pc av (PreW D ad sx ca w)) := fun a U g mk q => ⟨q.1, q.2.1, Kx.same (s := U) rfl q.2.2⟩
theorem St.pre (C : Cx D ad sx ca p s m c args own cc nL) (S : St D ad ca s w H locs) {U : State} (hU : U.heap = H) (hW : s.WarmedH U.vm) : PreW D ad sx ca w U := ⟨by rw [hU]; exact S.1, by rw [hU]; exact (C.2.2.2.2.2.kept (H1 := H) S.2.2.1).warm hW⟩
theorem Cx.inj (C : Cx D ad sx ca p s m c args own cc nL) : Inj ad := C.2.2.2.2.2.2.2.2.2.2.2.2
theorem St.at (S : St D ad ca s w H locs) {k ci : Nat} {sl : List (Option Nat)} (hO : IsO k ci sl) : (wl ad ca w)[k]? = some (ad k, .inr (ci, sl.zipIdx.map (fv ad w k))) := by
  rw [wl_get hO.1]
  unfold cE
  rw [hO.2]
theorem St.ati (S : St D ad ca s w H locs) {k n b : Nat} (hA : IsA k 0 n b) : (wl ad ca w)[k]? = some (ad k, .inl (ca 0, n, .inl (w.1 k))) := by
  rw [wl_get hA.1]
  unfold cE
  rw [hA.2]
  rfl
theorem St.atl (S : St D ad ca s w H locs) {k n b : Nat} (hA : IsA k 1 n b) : (wl ad ca w)[k]? = some (ad k, .inl (ca 1, n, .inr (.inl (w.2 k)))) := by
  rw [wl_get hA.1]
  unfold cE
  rw [hA.2]
  rfl
theorem St.atq (S : St D ad ca s w H locs) {k n b : Nat} (hA : IsA k 2 n b) : (wl ad ca w)[k]? = some (ad k, .inl (ca 2, n, .inr (.inr (.inr (.inr (fun j => if j < n then some (ad (b + j)) else none)))))) := by
  rw [wl_get hA.1]
  unfold cE
  rw [hA.2]
  rfl
theorem St.atg (S : St D ad ca s w H locs) {k n b : Nat} (hA : IsA k 3 n b) : (wl ad ca w)[k]? = some (ad k, .inl (ca 3, n, .inr (.inr (.inr (.inr (fun j => if j < n then some (ad (b + j)) else none)))))) := by
  rw [wl_get hA.1]
  unfold cE
  rw [hA.2]
  rfl
theorem St.rf (C : Cx D ad sx ca p s m c args own cc nL) (hP : va_P D vwCl (wl ad ca w) s.heap) : St D ad ca s w s.heap [] := ⟨hP, va_S.rf⟩
theorem r_geti (C : Cx D ad sx ca p s m c args own cc nL) (S : St D ad ca s w H locs) {k ci index : Nat} {sl : List (Option Nat)} {Cn : String} {T : u_T} {ty : Nat → FieldType} {N : Nat} (hO : IsO k ci sl) (cf : CF ci Cn T ty N) (j : Nat) (hj : sl[j]? = some none) (hjN : j < N) (hlink : Cond.fieldLink own index (T j).1 (T j).2.1 (T j).2.2.1 ∈ BIG) (hdg : decode cc pc = .ok (.getfield index, 3))
    (kk : W p l e R s m args below meth c H locs 0 0 Q (F0 m (pc + 3) ls (.int (w.1 k j) :: rest))) : W p l e R s m args below meth c H locs 0 0 Q (F0 m pc ls (.ref (ad k) :: rest)) := by
  refine va_get C.1 C.2.1 C.2.2.2.2.1 cf.2.1 C.2.2.2.1 C.2.2.2.2.2.1 S.1 k (S.at hO) cf.1 j hjN (C.2.2.2.2.1 _ hlink) (fun _ h => h) ?_ hdg kk
  rw [List.getElem?_map, List.getElem?_zipIdx, hj]
  simp [fv]
theorem r_getr (C : Cx D ad sx ca p s m c args own cc nL) (S : St D ad ca s w H locs) {k ci index r : Nat} {sl : List (Option Nat)} {Cn : String} {T : u_T} {ty : Nat → FieldType} {N : Nat} (hO : IsO k ci sl) (cf : CF ci Cn T ty N) (j : Nat) (hj : sl[j]? = some (some r)) (hjN : j < N) (hlink : Cond.fieldLink own index (T j).1 (T j).2.1 (T j).2.2.1 ∈ BIG) (hdg : decode cc pc = .ok (.getfield index, 3))
    (kk : W p l e R s m args below meth c H locs 0 0 Q (F0 m (pc + 3) ls (.ref (ad r) :: rest))) : W p l e R s m args below meth c H locs 0 0 Q (F0 m pc ls (.ref (ad k) :: rest)) := by
  refine va_get C.1 C.2.1 C.2.2.2.2.1 cf.2.1 C.2.2.2.1 C.2.2.2.2.2.1 S.1 k (S.at hO) cf.1 j hjN (C.2.2.2.2.1 _ hlink) (fun _ h => h) ?_ hdg kk
  rw [List.getElem?_map, List.getElem?_zipIdx, hj]
  simp [fv]
theorem r_put (C : Cx D ad sx ca p s m c args own cc nL) (S : St D ad ca s w H locs) {k ci index : Nat} {sl : List (Option Nat)} {Cn : String} {T : u_T} {ty : Nat → FieldType} {N : Nat} {v : Int32} (hO : IsO k ci sl) (cf : CF ci Cn T ty N) (j : Nat) (hj : sl[j]? = some none) (hjN : j < N) (hfin : (T j).2.2.2 = false) (hn : narrow (ty j) (.int v) = .int v ∧ fits (ty j) (.int v) = true) (hlink : Cond.fieldLink own index (T j).1 (T j).2.1 (T j).2.2.1 ∈ BIG) (hdg : decode cc pc = .ok (.putfield index, 3))
    (kk : ∀ (H1 : Heap) (locs1 : List Loc), St D ad ca s (si w k j v) H1 locs1 → W p l e R s m args below meth c H1 locs1 0 0 Q (F0 m (pc + 3) ls rest)) : W p l e R s m args below meth c H locs 0 0 Q (F0 m pc ls (.int v :: .ref (ad k) :: rest)) := by
  have hlen : j < (sl.zipIdx.map (fv ad w k)).length := by
    rw [List.length_map, List.length_zipIdx]
    exact (List.getElem?_eq_some_iff.mp hj).1
  refine va_put C.1 C.2.1 C.2.2.2.2.1 cf.2.1 ty cf.2.2.1 cf.2.2.2 C.2.2.2.1 C.2.2.2.2.2.1 S.1 (wl_D C.inj) S.2 k (S.at hO) cf.1 j hjN (C.2.2.2.2.1 _ hlink) (fun _ h => h) hfin (cf.2.2.1 j hjN) hn.1 hn.2 hlen hdg (fun H1 locs1 hP _ hS => kk H1 locs1 ⟨?_, hS⟩)
  rw [← wl_si hO hj]
  exact hP
theorem ni (v : Int32) : narrow .int (.int v) = .int v ∧ fits .int (.int v) = true := ⟨rfl, rfl⟩
theorem r_iald (C : Cx D ad sx ca p s m c args own cc nL) (S : St D ad ca s w H locs) {k n b : Nat} {i : Int32} (hA : IsA k 0 n b) (hin : inB i n = true) (hdg : decode cc pc = .ok (.iaload, 1))
    (kk : W p l e R s m args below meth c H locs 0 0 Q (F0 m (pc + 1) ls (.int (w.1 k i.toNatClampNeg) :: rest))) : W p l e R s m args below meth c H locs 0 0 Q (F0 m pc ls (.int i :: .ref (ad k) :: rest)) :=
  va_iald C.1 C.2.1 C.2.2.2.2.2.1 S.1 k 0 (S.ati hA) rfl (inB_in hin) hdg kk
theorem r_lald (C : Cx D ad sx ca p s m c args own cc nL) (S : St D ad ca s w H locs) {k n b : Nat} {i : Int32} (hA : IsA k 1 n b) (hin : inB i n = true) (hdg : decode cc pc = .ok (.laload, 1))
    (kk : W p l e R s m args below meth c H locs 0 0 Q (F0 m (pc + 1) ls (.long (w.2 k i.toNatClampNeg) :: rest))) : W p l e R s m args below meth c H locs 0 0 Q (F0 m pc ls (.int i :: .ref (ad k) :: rest)) :=
  va_lald C.1 C.2.1 C.2.2.2.2.2.1 S.1 k 1 (S.atl hA) rfl (inB_in hin) hdg kk
theorem r_aald (C : Cx D ad sx ca p s m c args own cc nL) (S : St D ad ca s w H locs) {k n b : Nat} {i : Int32} (hA : IsA k 2 n b) (hin : inB i n = true) (hdg : decode cc pc = .ok (.aaload, 1))
    (kk : W p l e R s m args below meth c H locs 0 0 Q (F0 m (pc + 1) ls (.ref (ad (b + i.toNatClampNeg)) :: rest))) : W p l e R s m args below meth c H locs 0 0 Q (F0 m pc ls (.int i :: .ref (ad k) :: rest)) := by
  refine va_aldq C.1 C.2.1 C.2.2.2.2.2.1 S.1 k 2 (S.atq hA) rfl (inB_in hin) hdg ?_
  rw [if_pos (inB_lt hin)]
  exact kk
theorem r_aaldJ (C : Cx D ad sx ca p s m c args own cc nL) (S : St D ad ca s w H locs) {k n b : Nat} {i : Int32} (hA : IsA k 3 n b) (hin : inB i n = true) (hdg : decode cc pc = .ok (.aaload, 1))
    (kk : W p l e R s m args below meth c H locs 0 0 Q (F0 m (pc + 1) ls (.ref (ad (b + i.toNatClampNeg)) :: rest))) : W p l e R s m args below meth c H locs 0 0 Q (F0 m pc ls (.int i :: .ref (ad k) :: rest)) := by
  have hlt := inB_lt hin
  refine W.aald (v := .ref (ad (b + i.toNatClampNeg))) (ty := .array .long) C.1 C.2.1 (S.1 k _ (S.atg hA)) ((C.2.2.2.2.2.1.2 3 _ rfl).1 n _) rfl (fun q => by cases q) (by show ¬ (i < 0 ∨ (arrV _ _ _).slots.size ≤ _); rw [arrV_size]; exact inB_in hin) ?_ rfl rfl hdg kk
  show (arrV _ _ _).slots[_]? = _
  rw [arrV_read _ _ hlt]
  show some (va_rf (if i.toNatClampNeg < n then some (ad (b + i.toNatClampNeg)) else none)) = _
  rw [if_pos hlt]
  rfl
theorem r_alen (C : Cx D ad sx ca p s m c args own cc nL) (S : St D ad ca s w H locs) {k n b : Nat} {v : Int32} (hA : IsA k 0 n b) (hv : Int32.ofNat n = v) (hdg : decode cc pc = .ok (.arraylength, 1))
    (kk : W p l e R s m args below meth c H locs 0 0 Q (F0 m (pc + 1) ls (.int v :: rest))) : W p l e R s m args below meth c H locs 0 0 Q (F0 m pc ls (.ref (ad k) :: rest)) :=
  va_alen C.1 C.2.1 C.2.2.2.2.2.1 S.1 k 0 (S.ati hA) rfl hv hdg kk
theorem r_iast (C : Cx D ad sx ca p s m c args own cc nL) (S : St D ad ca s w H locs) {k n b : Nat} {i v : Int32} (hA : IsA k 0 n b) (hin : inB i n = true) (hdg : decode cc pc = .ok (.iastore, 1))
    (kk : ∀ (H1 : Heap) (locs1 : List Loc), St D ad ca s (si w k i.toNatClampNeg v) H1 locs1 → W p l e R s m args below meth c H1 locs1 0 0 Q (F0 m (pc + 1) ls rest)) : W p l e R s m args below meth c H locs 0 0 Q (F0 m pc ls (.int v :: .int i :: .ref (ad k) :: rest)) := by
  refine va_iast C.1 C.2.1 C.2.2.2.2.2.1 S.1 (wl_D C.inj) S.2 k 0 (S.ati hA) rfl (inB_in hin) hdg (fun H1 locs1 hP _ hS => kk H1 locs1 ⟨?_, hS⟩)
  rw [← wl_ia hA]
  exact hP
theorem r_last (C : Cx D ad sx ca p s m c args own cc nL) (S : St D ad ca s w H locs) {k n b : Nat} {i : Int32} {v : Int64} (hA : IsA k 1 n b) (hin : inB i n = true) (hdg : decode cc pc = .ok (.lastore, 1))
    (kk : ∀ (H1 : Heap) (locs1 : List Loc), St D ad ca s (sj w k i.toNatClampNeg v) H1 locs1 → W p l e R s m args below meth c H1 locs1 0 0 Q (F0 m (pc + 1) ls rest)) : W p l e R s m args below meth c H locs 0 0 Q (F0 m pc ls (.long v :: .int i :: .ref (ad k) :: rest)) := by
  refine va_last C.1 C.2.1 C.2.2.2.2.2.1 S.1 (wl_D C.inj) S.2 k 1 (S.atl hA) rfl (inB_in hin) hdg (fun H1 locs1 hP _ hS => kk H1 locs1 ⟨?_, hS⟩)
  rw [← wl_la hA]
  exact hP
theorem r_iret (C : Cx D ad sx ca p s m c args own cc nL) (S : St D ad ca s w H locs) {v : Int32} (hr : meth.sig.returnType = some .int) (hlocks : meth.locks = false) (hdg : decode cc pc = .ok (.ireturn, 1)) : W p l e R s m args below meth c H locs 0 0 (MQ below (Qi D ad ca v w) args s 0 0 (Aad ad)) (F0 m pc ls [.int v]) :=
  W.iret C.1 C.2.1 hr (fun t ht _ => ⟨⟨v, (), rfl, rfl, by show va_P D vwCl (wl ad ca w) t.heap; rw [ht]; exact S.1⟩, S.2.F ht⟩) S.2.2.2 hdg hlocks
theorem r_zret (C : Cx D ad sx ca p s m c args own cc nL) (S : St D ad ca s w H locs) {v : Int32} (hr : meth.sig.returnType = some .boolean) (hlocks : meth.locks = false) (hz : v = 0 ∨ v = 1) (hdg : decode cc pc = .ok (.ireturn, 1)) : W p l e R s m args below meth c H locs 0 0 (MQ below (Qi D ad ca v w) args s 0 0 (Aad ad)) (F0 m pc ls [.int v]) :=
  W.zret C.1 C.2.1 hr (zo_nar hz).1 (fun t ht _ => ⟨⟨v, (), rfl, rfl, by show va_P D vwCl (wl ad ca w) t.heap; rw [ht]; exact S.1⟩, S.2.F ht⟩) S.2.2.2 hdg hlocks
theorem r_lret (C : Cx D ad sx ca p s m c args own cc nL) (S : St D ad ca s w H locs) {v : Int64} (hr : meth.sig.returnType = some .long) (hlocks : meth.locks = false) (hdg : decode cc pc = .ok (.lreturn, 1)) : W p l e R s m args below meth c H locs 0 0 (MQ below (Ql D ad ca v w) args s 0 0 (Aad ad)) (F0 m pc ls [.long v]) :=
  W.lret C.1 C.2.1 hr (fun t ht _ => ⟨⟨v, (), rfl, rfl, by show va_P D vwCl (wl ad ca w) t.heap; rw [ht]; exact S.1⟩, S.2.F ht⟩) S.2.2.2 hdg hlocks
theorem r_vret (C : Cx D ad sx ca p s m c args own cc nL) (S : St D ad ca s w H locs) (hr : meth.sig.returnType = none) (hlocks : meth.locks = false) (hdg : decode cc pc = .ok (.return_, 1)) : W p l e R s m args below meth c H locs 0 0 (MQ below (Qv D ad ca w) args s 0 0 (Aad ad)) (F0 m pc ls []) :=
  W.vret C.1 C.2.1 hr (fun t ht _ => ⟨⟨(), rfl, trivial, by show va_P D vwCl (wl ad ca w) t.heap; rw [ht]; exact S.1⟩, S.2.F ht⟩) S.2.2.2 hdg hlocks
theorem r_ldc (C : Cx D ad sx ca p s m c args own cc nL) {index : Nat} (v : Int32) (hc : Cond.constant own index v ∈ BIG) (hdg : decode cc pc = .ok (.ldc index, 2)) (kk : W p l e R s m args below meth c H locs 0 0 Q (F0 m (pc + 2) ls (.int v :: rest))) : W p l e R s m args below meth c H locs 0 0 Q (F0 m pc ls rest) := lv_ldc C.1 C.2.1 C.2.2.2.1 (C.2.2.2.2.1 _ hc) hdg kk
theorem r_ldc2 (C : Cx D ad sx ca p s m c args own cc nL) {index : Nat} (v : Int64) (hc : Cond.constantLong own index v ∈ BIG) (hdg : decode cc pc = .ok (.ldc2_w index, 3)) (kk : W p l e R s m args below meth c H locs 0 0 Q (F0 m (pc + 3) ls (.long v :: rest))) : W p l e R s m args below meth c H locs 0 0 Q (F0 m pc ls rest) := lv_ldc2 C.1 C.2.1 C.2.2.2.1 (C.2.2.2.2.1 _ hc) hdg kk
variable {y : MethodName} {cy : ByteArray} {ny n fr lo index : Nat} {ret : FieldType} {av : (Nat → Nat) → List Value} {w' : Wd} {lv : List (Nat × Value)} {st : List Value}
theorem r_vi (C : Cx D ad sx ca p s m c args own cc nL) (S : St D ad ca s w H locs) (hl : lv_has ls nL lv) {k ci : Nat} {sl : List (Option Nat)} {Cn : String} {T : u_T} {ty : Nat → FieldType} {N : Nat} {r : Int32} (hO : IsO k ci sl) (cf : CF ci Cn T ty N) (hM : CI y cy ny ret fr lo av w r w') (vb : VB own index Cn y (.code y cy ny (some ret)) n) (As : List Value) (hav : av ad = .ref (ad k) :: As) (rest : List Value) (hst : st = As.reverse ++ .ref (ad k) :: rest) (hn : As.length = n) (hw : (rest.map fun v => v.category).sum ≤ 8) (hR : fr + 1 ≤ R.frames ∧ 8 + (ny + 11) + lo ≤ R.locals) (hdg : decode cc pc = .ok (.invokevirtual index, 3))
    (kk : ∀ (H1 : Heap) (locs1 : List Loc), St D ad ca s w' H1 locs1 → W p l e R s m args below meth c H1 locs1 0 0 Q (F0 m (pc + 3) ls (.int r :: rest))) : W p l e R s m args below meth c H locs 0 0 Q (F0 m pc ls st) := by
  subst hst
  have hG : GoodIn BIG (wsV own index Cn y (.code y cy ny (some ret) :: BIG)) := fun w9 h9 => (List.mem_append.mp h9).elim (fun h => ⟨vb.1.1 w9 h, good_of_word (List.mem_filter.mp (vb.1.1 w9 h)).2⟩) (big_good _ vb.1.2 w9)
  refine va_calli (va_runV (As := As) (rest := rest) ⟨C.1, C.2.1, C.2.2.1, C.2.2.2.1, C.2.2.2.2.1⟩ (hM l D ad sx ca) (cwV n C.2.2.2.2.1 hG rfl rfl rfl vb.2 hR) ⟨PreW.blind, va_recv C.2.2.2.2.2.1 S.1 cf.1 (S.at hO), fun U hU hW => ⟨by rw [hav], St.pre C S hU hW⟩⟩ rfl hn hl.1 rfl (lv_room hw) hdg ⟨Nat.zero_le _, Nat.zero_le _⟩) S.2 (fun q _ h => h) (fun q h => h) (fun r1 u t H1 locs1 ht _ hw hB _ _ hS => ?_)
  subst hw
  exact kk H1 locs1 ⟨by rw [← ht]; exact hB, hS⟩
theorem r_vl (C : Cx D ad sx ca p s m c args own cc nL) (S : St D ad ca s w H locs) (hl : lv_has ls nL lv) {k ci : Nat} {sl : List (Option Nat)} {Cn : String} {T : u_T} {ty : Nat → FieldType} {N : Nat} {r : Int64} (hO : IsO k ci sl) (cf : CF ci Cn T ty N) (hM : CL y cy ny fr lo av w r w') (vb : VB own index Cn y (.code y cy ny (some .long)) n) (As : List Value) (hav : av ad = .ref (ad k) :: As) (rest : List Value) (hst : st = As.reverse ++ .ref (ad k) :: rest) (hn : As.length = n) (hw : (rest.map fun v => v.category).sum ≤ 8) (hR : fr + 1 ≤ R.frames ∧ 8 + (ny + 11) + lo ≤ R.locals) (hdg : decode cc pc = .ok (.invokevirtual index, 3))
    (kk : ∀ (H1 : Heap) (locs1 : List Loc), St D ad ca s w' H1 locs1 → W p l e R s m args below meth c H1 locs1 0 0 Q (F0 m (pc + 3) ls (.long r :: rest))) : W p l e R s m args below meth c H locs 0 0 Q (F0 m pc ls st) := by
  subst hst
  have hG : GoodIn BIG (wsV own index Cn y (.code y cy ny (some .long) :: BIG)) := fun w9 h9 => (List.mem_append.mp h9).elim (fun h => ⟨vb.1.1 w9 h, good_of_word (List.mem_filter.mp (vb.1.1 w9 h)).2⟩) (big_good _ vb.1.2 w9)
  refine va_calll (va_runV (As := As) (rest := rest) ⟨C.1, C.2.1, C.2.2.1, C.2.2.2.1, C.2.2.2.2.1⟩ (hM l D ad sx ca) (cwV n C.2.2.2.2.1 hG rfl rfl rfl vb.2 hR) ⟨PreW.blind, va_recv C.2.2.2.2.2.1 S.1 cf.1 (S.at hO), fun U hU hW => ⟨by rw [hav], St.pre C S hU hW⟩⟩ rfl hn hl.1 rfl (lv_room hw) hdg ⟨Nat.zero_le _, Nat.zero_le _⟩) S.2 (fun q _ h => h) (fun q h => h) (fun r1 u t H1 locs1 ht _ hw hB _ _ hS => ?_)
  subst hw
  exact kk H1 locs1 ⟨by rw [← ht]; exact hB, hS⟩
theorem r_vv (C : Cx D ad sx ca p s m c args own cc nL) (S : St D ad ca s w H locs) (hl : lv_has ls nL lv) {k ci : Nat} {sl : List (Option Nat)} {Cn : String} {T : u_T} {ty : Nat → FieldType} {N : Nat} (hO : IsO k ci sl) (cf : CF ci Cn T ty N) (hM : CV y cy ny fr lo av w w') (vb : VB own index Cn y (.code y cy ny none) n) (As : List Value) (hav : av ad = .ref (ad k) :: As) (rest : List Value) (hst : st = As.reverse ++ .ref (ad k) :: rest) (hn : As.length = n) (hw : (rest.map fun v => v.category).sum ≤ 8) (hR : fr + 1 ≤ R.frames ∧ 8 + (ny + 11) + lo ≤ R.locals) (hdg : decode cc pc = .ok (.invokevirtual index, 3))
    (kk : ∀ (H1 : Heap) (locs1 : List Loc), St D ad ca s w' H1 locs1 → W p l e R s m args below meth c H1 locs1 0 0 Q (F0 m (pc + 3) ls rest)) : W p l e R s m args below meth c H locs 0 0 Q (F0 m pc ls st) := by
  subst hst
  have hG : GoodIn BIG (wsV own index Cn y (.code y cy ny none :: BIG)) := fun w9 h9 => (List.mem_append.mp h9).elim (fun h => ⟨vb.1.1 w9 h, good_of_word (List.mem_filter.mp (vb.1.1 w9 h)).2⟩) (big_good _ vb.1.2 w9)
  refine va_callv (va_runV (As := As) (rest := rest) ⟨C.1, C.2.1, C.2.2.1, C.2.2.2.1, C.2.2.2.2.1⟩ (hM l D ad sx ca) (cwV n C.2.2.2.2.1 hG rfl rfl rfl vb.2 hR) ⟨PreW.blind, va_recv C.2.2.2.2.2.1 S.1 cf.1 (S.at hO), fun U hU hW => ⟨by rw [hav], St.pre C S hU hW⟩⟩ rfl hn hl.1 rfl (lv_room hw) hdg ⟨Nat.zero_le _, Nat.zero_le _⟩) S.2 (fun q _ h => h) (fun q h => h) (fun u t H1 locs1 ht _ _ hB _ _ hS => ?_)
  exact kk H1 locs1 ⟨by rw [← ht]; exact hB, hS⟩
theorem r_si (C : Cx D ad sx ca p s m c args own cc nL) (S : St D ad ca s w H locs) (hl : lv_has ls nL lv) {r : Int32} (hM : CI y cy ny ret fr lo av w r w') (sb : SB own index y (.code y cy ny (some ret)) n) (As : List Value) (hav : av ad = As) (rest : List Value) (hst : st = As.reverse ++ rest) (hn : As.length = n) (hw : (rest.map fun v => v.category).sum ≤ 8) (hR : fr + 1 ≤ R.frames ∧ 8 + (ny + 11) + lo ≤ R.locals) (hdg : decode cc pc = .ok (.invokestatic index, 3))
    (kk : ∀ (H1 : Heap) (locs1 : List Loc), St D ad ca s w' H1 locs1 → W p l e R s m args below meth c H1 locs1 0 0 Q (F0 m (pc + 3) ls (.int r :: rest))) : W p l e R s m args below meth c H locs 0 0 Q (F0 m pc ls st) := by
  subst hst
  have hB := C.2.2.2.2.1
  refine va_calli (va_runS (As := As) (rest := rest) ⟨C.1, C.2.1, C.2.2.1, C.2.2.2.1, hB⟩ (hM l D ad sx ca) ⟨callB_of n hB (big_good _ sb.1.2) rfl rfl rfl (hB _ (sb.1.1 _ (by simp))) (hB _ (sb.1.1 _ (by simp))) sb.2 hR, hB _ (sb.1.1 _ (by simp))⟩ ⟨PreW.blind, fun U hU hW => ⟨by rw [hav], St.pre C S hU hW⟩⟩ rfl hn hl.1 rfl (lv_room hw) hdg ⟨Nat.zero_le _, Nat.zero_le _⟩) S.2 (fun q _ h => h) (fun q h => h) (fun r1 u t H1 locs1 ht _ hw hB _ _ hS => ?_)
  subst hw
  exact kk H1 locs1 ⟨by rw [← ht]; exact hB, hS⟩
theorem r_ni (C : Cx D ad sx ca p s m c args own cc nL) (S : St D ad ca s w H locs) (hl : lv_has ls nL lv) {host : String} {r : Int32} (hM : CI y cy ny ret fr lo av w r w') (nb : NB own index y host (.code y cy ny (some ret)) n) (As : List Value) (hav : av ad = As) (rest : List Value) (hst : st = As.reverse ++ rest) (hn : As.length = n) (hw : (rest.map fun v => v.category).sum ≤ 8) (hR : fr + 1 ≤ R.frames ∧ 8 + (ny + 11) + lo ≤ R.locals) (hdg : decode cc pc = .ok (.invokestatic index, 3))
    (kk : ∀ (H1 : Heap) (locs1 : List Loc), St D ad ca s w' H1 locs1 → W p l e R s m args below meth c H1 locs1 0 0 Q (F0 m (pc + 3) ls (.int r :: rest))) : W p l e R s m args below meth c H locs 0 0 Q (F0 m pc ls st) := by
  subst hst
  have hB := C.2.2.2.2.1
  refine va_calli (va_runSN (As := As) (rest := rest) (host := host) ⟨C.1, C.2.1, C.2.2.1, C.2.2.2.1, hB⟩ (hM l D ad sx ca) ⟨va_cnB n hB (big_good _ nb.1.2) rfl rfl rfl (C.2.2.2.2.2.2.1 _ nb.1.1.1) (hB _ (nb.1.1.2 _ (by simp))) nb.2 hR, hB _ (nb.1.1.2 _ (by simp)), trivial⟩ ⟨PreW.blind, fun U hU hW => ⟨by rw [hav], St.pre C S hU hW⟩⟩ rfl hn hl.1 rfl (lv_room hw) hdg ⟨Nat.zero_le _, Nat.zero_le _⟩) S.2 (fun q _ h => h) (fun q h => h) (fun r1 u t H1 locs1 ht _ hw hB _ _ hS => ?_)
  subst hw
  exact kk H1 locs1 ⟨by rw [← ht]; exact hB, hS⟩
/-- what a method's own theorem begins with -/
theorem CI.of {r : Int32} (hy : plainName y.cls = true) (body : ∀ (l : Launch) (D : va_G) (ad sx : Nat → Nat) (ca : Nat → ClassId) (p : Program) (e : Env) (s : State) (m : MethodId) (below : List Frame) (meth : Method) (c : Code), Cx D ad sx ca p s m c (av ad).toArray y.cls cy ny → St D ad ca s w s.heap [] → meth.sig.returnType = some ret → meth.locks = false → W p l e (RM fr lo) s m (av ad).toArray below meth c s.heap [] 0 0 (MQ below (Qi D ad ca r w') (av ad).toArray s 0 0 (Aad ad)) (entryFrame m (av ad).toArray ny)) : CI y cy ny ret fr lo av w r w' := by
  intro l D ad sx ca
  refine Met.ofW (cc := cy) (maxL := ny) (ret := some ret) hy rfl ?_
  intro p e s m args below meth c s₁ B hml hv
  obtain ⟨rfl, hP, hK⟩ := hv
  exact body l D ad sx ca p e s m below meth c ⟨B.exec, B.bytes, hml, findClass_of_methodNamed B.named, fun w hw => atoms_spec (ws := .code y cy ny (some ret) :: BIG) B.pre w (List.mem_cons_of_mem _ hw), hK⟩ ⟨hP, va_S.rf⟩ B.returns B.notSynchronized
theorem CL.of {r : Int64} (hy : plainName y.cls = true) (body : ∀ (l : Launch) (D : va_G) (ad sx : Nat → Nat) (ca : Nat → ClassId) (p : Program) (e : Env) (s : State) (m : MethodId) (below : List Frame) (meth : Method) (c : Code), Cx D ad sx ca p s m c (av ad).toArray y.cls cy ny → St D ad ca s w s.heap [] → meth.sig.returnType = some .long → meth.locks = false → W p l e (RM fr lo) s m (av ad).toArray below meth c s.heap [] 0 0 (MQ below (Ql D ad ca r w') (av ad).toArray s 0 0 (Aad ad)) (entryFrame m (av ad).toArray ny)) : CL y cy ny fr lo av w r w' := by
  intro l D ad sx ca
  refine Met.ofW (cc := cy) (maxL := ny) (ret := some .long) hy rfl ?_
  intro p e s m args below meth c s₁ B hml hv
  obtain ⟨rfl, hP, hK⟩ := hv
  exact body l D ad sx ca p e s m below meth c ⟨B.exec, B.bytes, hml, findClass_of_methodNamed B.named, fun w hw => atoms_spec (ws := .code y cy ny (some .long) :: BIG) B.pre w (List.mem_cons_of_mem _ hw), hK⟩ ⟨hP, va_S.rf⟩ B.returns B.notSynchronized
theorem CV.of (hy : plainName y.cls = true) (body : ∀ (l : Launch) (D : va_G) (ad sx : Nat → Nat) (ca : Nat → ClassId) (p : Program) (e : Env) (s : State) (m : MethodId) (below : List Frame) (meth : Method) (c : Code), Cx D ad sx ca p s m c (av ad).toArray y.cls cy ny → St D ad ca s w s.heap [] → meth.sig.returnType = none → meth.locks = false → W p l e (RM fr lo) s m (av ad).toArray below meth c s.heap [] 0 0 (MQ below (Qv D ad ca w') (av ad).toArray s 0 0 (Aad ad)) (entryFrame m (av ad).toArray ny)) : CV y cy ny fr lo av w w' := by
  intro l D ad sx ca
  refine Met.ofW (cc := cy) (maxL := ny) (ret := none) hy rfl ?_
  intro p e s m args below meth c s₁ B hml hv
  obtain ⟨rfl, hP, hK⟩ := hv
  exact body l D ad sx ca p e s m below meth c ⟨B.exec, B.bytes, hml, findClass_of_methodNamed B.named, fun w hw => atoms_spec (ws := .code y cy ny none :: BIG) B.pre w (List.mem_cons_of_mem _ hw), hK⟩ ⟨hP, va_S.rf⟩ B.returns B.notSynchronized
end ROWS

theorem cf_0 : CF 0 RX0 TX0 tyX0 7 := ⟨rfl, by decide +kernel, tyX0_ok, nmX0⟩
theorem cf_1 : CF 1 RX1 TX1 tyX1 5 := ⟨rfl, by decide +kernel, tyX1_ok, nmX1⟩
theorem cf_2 : CF 2 RX2 TX2 tyX2 14 := ⟨rfl, by decide +kernel, tyX2_ok, nmX2⟩
theorem cf_3 : CF 3 RX3 TX3 tyX3 5 := ⟨rfl, by decide +kernel, tyX3_ok, nmX3⟩
theorem cf_4 : CF 4 RX4 TX4 tyX4 12 := ⟨rfl, by decide +kernel, tyX4_ok, nmX4⟩
theorem cf_5 : CF 5 RX5 TX5 tyX5 4 := ⟨rfl, by decide +kernel, tyX5_ok, nmX5⟩
theorem cf_6 : CF 6 RX6 TX6 tyX6 3 := ⟨rfl, by decide +kernel, tyX6_ok, nmX6⟩
theorem cf_7 : CF 7 RX7 TX7 tyX7 4 := ⟨rfl, by decide +kernel, tyX7_ok, nmX7⟩
theorem cf_8 : CF 8 RX8 TX8 tyX8 3 := ⟨rfl, by decide +kernel, tyX8_ok, nmX8⟩
theorem cf_9 : CF 9 RX9 TX9 tyX9 2 := ⟨rfl, by decide +kernel, tyX9_ok, nmX9⟩
theorem cf_10 : CF 10 RX10 TX10 tyX10 14 := ⟨rfl, by decide +kernel, tyX10_ok, nmX10⟩
theorem cf_11 : CF 11 RX11 TX11 tyX11 43 := ⟨rfl, by decide +kernel, tyX11_ok, nmX11⟩
theorem o_0 : IsO 0 10 [some 1, some 2, none, some 3, some 8, some 5, some 7, some 10, some 11, some 12, some 13, some 14, some 15, some 16] := ⟨by decide, rfl⟩
theorem o_1 : IsO 1 8 [some 3, some 5, some 8] := ⟨by decide, rfl⟩
theorem o_2 : IsO 2 8 [some 4, some 6, some 9] := ⟨by decide, rfl⟩
theorem o_3 : IsO 3 0 [some 17, none, some 19, none, none, none, none] := ⟨by decide, rfl⟩
theorem o_4 : IsO 4 0 [some 18, none, some 20, none, none, none, none] := ⟨by decide, rfl⟩
theorem o_5 : IsO 5 9 [some 21, none] := ⟨by decide, rfl⟩
theorem o_6 : IsO 6 9 [some 22, none] := ⟨by decide, rfl⟩
theorem o_7 : IsO 7 9 [some 23, none] := ⟨by decide, rfl⟩
theorem o_8 : IsO 8 1 [some 24, some 25, some 26, some 27, none] := ⟨by decide, rfl⟩
theorem o_9 : IsO 9 1 [some 28, some 29, some 30, some 31, none] := ⟨by decide, rfl⟩
theorem o_10 : IsO 10 5 [some 5, some 32, none, none] := ⟨by decide, rfl⟩
theorem o_11 : IsO 11 5 [some 7, some 33, none, none] := ⟨by decide, rfl⟩
theorem o_12 : IsO 12 7 [some 34, none, none, none] := ⟨by decide, rfl⟩
theorem o_13 : IsO 13 2 [none, none, none, none, some 59, some 60, some 61, some 62, some 63, some 64, some 65, some 66, some 67, none] := ⟨by decide, rfl⟩
theorem o_14 : IsO 14 3 [some 3, some 13, some 68, none, none] := ⟨by decide, rfl⟩
theorem o_15 : IsO 15 6 [some 69, some 74, some 75] := ⟨by decide, rfl⟩
theorem a_16 : IsA 16 0 7 0 := ⟨by decide, rfl⟩
theorem a_17 : IsA 17 2 12 35 := ⟨by decide, rfl⟩
theorem a_18 : IsA 18 2 12 47 := ⟨by decide, rfl⟩
theorem a_19 : IsA 19 0 4 0 := ⟨by decide, rfl⟩
theorem a_20 : IsA 20 0 4 0 := ⟨by decide, rfl⟩
theorem a_21 : IsA 21 0 80 0 := ⟨by decide, rfl⟩
theorem a_22 : IsA 22 0 80 0 := ⟨by decide, rfl⟩
theorem a_23 : IsA 23 0 80 0 := ⟨by decide, rfl⟩
theorem a_24 : IsA 24 0 24 0 := ⟨by decide, rfl⟩
theorem a_25 : IsA 25 0 24 0 := ⟨by decide, rfl⟩
theorem a_26 : IsA 26 0 24 0 := ⟨by decide, rfl⟩
theorem a_27 : IsA 27 0 24 0 := ⟨by decide, rfl⟩
theorem a_28 : IsA 28 0 24 0 := ⟨by decide, rfl⟩
theorem a_29 : IsA 29 0 24 0 := ⟨by decide, rfl⟩
theorem a_30 : IsA 30 0 24 0 := ⟨by decide, rfl⟩
theorem a_31 : IsA 31 0 24 0 := ⟨by decide, rfl⟩
theorem a_32 : IsA 32 0 8 0 := ⟨by decide, rfl⟩
theorem a_33 : IsA 33 0 8 0 := ⟨by decide, rfl⟩
theorem a_34 : IsA 34 0 12 0 := ⟨by decide, rfl⟩
theorem o_35 : IsO 35 4 [none, none, none, none, none, none, none, none, none, none, none, none] := ⟨by decide, rfl⟩
theorem o_36 : IsO 36 4 [none, none, none, none, none, none, none, none, none, none, none, none] := ⟨by decide, rfl⟩
theorem o_37 : IsO 37 4 [none, none, none, none, none, none, none, none, none, none, none, none] := ⟨by decide, rfl⟩
theorem o_38 : IsO 38 4 [none, none, none, none, none, none, none, none, none, none, none, none] := ⟨by decide, rfl⟩
theorem o_39 : IsO 39 4 [none, none, none, none, none, none, none, none, none, none, none, none] := ⟨by decide, rfl⟩
theorem o_40 : IsO 40 4 [none, none, none, none, none, none, none, none, none, none, none, none] := ⟨by decide, rfl⟩
theorem o_41 : IsO 41 4 [none, none, none, none, none, none, none, none, none, none, none, none] := ⟨by decide, rfl⟩
theorem o_42 : IsO 42 4 [none, none, none, none, none, none, none, none, none, none, none, none] := ⟨by decide, rfl⟩
theorem o_43 : IsO 43 4 [none, none, none, none, none, none, none, none, none, none, none, none] := ⟨by decide, rfl⟩
theorem o_44 : IsO 44 4 [none, none, none, none, none, none, none, none, none, none, none, none] := ⟨by decide, rfl⟩
theorem o_45 : IsO 45 4 [none, none, none, none, none, none, none, none, none, none, none, none] := ⟨by decide, rfl⟩
theorem o_46 : IsO 46 4 [none, none, none, none, none, none, none, none, none, none, none, none] := ⟨by decide, rfl⟩
theorem o_47 : IsO 47 4 [none, none, none, none, none, none, none, none, none, none, none, none] := ⟨by decide, rfl⟩
theorem o_48 : IsO 48 4 [none, none, none, none, none, none, none, none, none, none, none, none] := ⟨by decide, rfl⟩
theorem o_49 : IsO 49 4 [none, none, none, none, none, none, none, none, none, none, none, none] := ⟨by decide, rfl⟩
theorem o_50 : IsO 50 4 [none, none, none, none, none, none, none, none, none, none, none, none] := ⟨by decide, rfl⟩
theorem o_51 : IsO 51 4 [none, none, none, none, none, none, none, none, none, none, none, none] := ⟨by decide, rfl⟩
theorem o_52 : IsO 52 4 [none, none, none, none, none, none, none, none, none, none, none, none] := ⟨by decide, rfl⟩
theorem o_53 : IsO 53 4 [none, none, none, none, none, none, none, none, none, none, none, none] := ⟨by decide, rfl⟩
theorem o_54 : IsO 54 4 [none, none, none, none, none, none, none, none, none, none, none, none] := ⟨by decide, rfl⟩
theorem o_55 : IsO 55 4 [none, none, none, none, none, none, none, none, none, none, none, none] := ⟨by decide, rfl⟩
theorem o_56 : IsO 56 4 [none, none, none, none, none, none, none, none, none, none, none, none] := ⟨by decide, rfl⟩
theorem o_57 : IsO 57 4 [none, none, none, none, none, none, none, none, none, none, none, none] := ⟨by decide, rfl⟩
theorem o_58 : IsO 58 4 [none, none, none, none, none, none, none, none, none, none, none, none] := ⟨by decide, rfl⟩
theorem a_59 : IsA 59 0 12 0 := ⟨by decide, rfl⟩
theorem a_60 : IsA 60 0 12 0 := ⟨by decide, rfl⟩
theorem a_61 : IsA 61 0 12 0 := ⟨by decide, rfl⟩
theorem a_62 : IsA 62 0 12 0 := ⟨by decide, rfl⟩
theorem a_63 : IsA 63 0 12 0 := ⟨by decide, rfl⟩
theorem a_64 : IsA 64 0 12 0 := ⟨by decide, rfl⟩
theorem a_65 : IsA 65 0 12 0 := ⟨by decide, rfl⟩
theorem a_66 : IsA 66 0 48 0 := ⟨by decide, rfl⟩
theorem a_67 : IsA 67 0 48 0 := ⟨by decide, rfl⟩
theorem a_68 : IsA 68 0 12 0 := ⟨by decide, rfl⟩
theorem a_69 : IsA 69 3 4 70 := ⟨by decide, rfl⟩
theorem a_70 : IsA 70 1 40 0 := ⟨by decide, rfl⟩
theorem a_71 : IsA 71 1 40 0 := ⟨by decide, rfl⟩
theorem a_72 : IsA 72 1 40 0 := ⟨by decide, rfl⟩
theorem a_73 : IsA 73 1 40 0 := ⟨by decide, rfl⟩
theorem a_74 : IsA 74 0 4 0 := ⟨by decide, rfl⟩
theorem a_75 : IsA 75 0 4 0 := ⟨by decide, rfl⟩
theorem o_76 : IsO 76 11 [some 77, some 78, none, some 79, none, some 80, some 81, some 82, some 83, some 84, some 85, some 86, some 87, some 88, some 89, some 90, some 91, some 92, none, some 93, none, some 94, none, none, none, none, some 95, some 96, some 97, some 98, none, none, none, none, none, none, none, none, some 99, some 100, some 101, some 102, some 103] := ⟨by decide, rfl⟩
theorem a_77 : IsA 77 0 291 0 := ⟨by decide, rfl⟩
theorem a_78 : IsA 78 0 291 0 := ⟨by decide, rfl⟩
theorem a_79 : IsA 79 0 7 0 := ⟨by decide, rfl⟩
theorem a_80 : IsA 80 0 12 0 := ⟨by decide, rfl⟩
theorem a_81 : IsA 81 0 12 0 := ⟨by decide, rfl⟩
theorem a_82 : IsA 82 0 12 0 := ⟨by decide, rfl⟩
theorem a_83 : IsA 83 0 12 0 := ⟨by decide, rfl⟩
theorem a_84 : IsA 84 0 12 0 := ⟨by decide, rfl⟩
theorem a_85 : IsA 85 0 12 0 := ⟨by decide, rfl⟩
theorem a_86 : IsA 86 0 12 0 := ⟨by decide, rfl⟩
theorem a_87 : IsA 87 0 12 0 := ⟨by decide, rfl⟩
theorem a_88 : IsA 88 0 12 0 := ⟨by decide, rfl⟩
theorem a_89 : IsA 89 0 12 0 := ⟨by decide, rfl⟩
theorem a_90 : IsA 90 0 12 0 := ⟨by decide, rfl⟩
theorem a_91 : IsA 91 0 12 0 := ⟨by decide, rfl⟩
theorem a_92 : IsA 92 0 80 0 := ⟨by decide, rfl⟩
theorem a_93 : IsA 93 0 80 0 := ⟨by decide, rfl⟩
theorem a_94 : IsA 94 0 80 0 := ⟨by decide, rfl⟩
theorem a_95 : IsA 95 0 80 0 := ⟨by decide, rfl⟩
theorem a_96 : IsA 96 0 12 0 := ⟨by decide, rfl⟩
theorem a_97 : IsA 97 0 12 0 := ⟨by decide, rfl⟩
theorem a_98 : IsA 98 0 12 0 := ⟨by decide, rfl⟩
theorem a_99 : IsA 99 0 24 0 := ⟨by decide, rfl⟩
theorem a_100 : IsA 100 0 4 0 := ⟨by decide, rfl⟩
theorem a_101 : IsA 101 0 4 0 := ⟨by decide, rfl⟩
theorem a_102 : IsA 102 1 160 0 := ⟨by decide, rfl⟩
theorem a_103 : IsA 103 1 40 0 := ⟨by decide, rfl⟩
abbrev slF : List (Option Nat) := [none, none, none, none, none, none, none, none, none, none, none, none]
theorem o_F1 {j : Nat} (h : j < 12) : IsO (35 + j) 4 slF := (by decide +kernel : ∀ j : Nat, j < 12 → IsO (35 + j) 4 slF) j h
theorem o_F2 {j : Nat} (h : j < 12) : IsO (47 + j) 4 slF := (by decide +kernel : ∀ j : Nat, j < 12 → IsO (47 + j) 4 slF) j h
theorem a_J {j : Nat} (h : j < 4) : IsA (70 + j) 1 40 0 := (by decide +kernel : ∀ j : Nat, j < 4 → IsA (70 + j) 1 40 0) j h

/-- my own: the printed names speak of an array over an array class, which the kit lacks -/
def va_AOA (t : FieldType) (U : State) : Prop := (Cond.arrayOver (.array t)).before #[] U = true
theorem va_AOA.of {t : FieldType} {A : Array Value} {U : State} (h : (Cond.arrayOver (.array t)).before A U = true) : va_AOA t U := h
theorem va_AOA.use {t : FieldType} {A : Array Value} {U : State} (h : va_AOA t U) : (Cond.arrayOver (.array t)).before A U = true := h
/-! ===== BEGIN words of one list among another's, by their places ===== -/
theorem goodIn_r {big : List Cond} (ws : List Cond) (ps : List Nat) (hp : ws = ps.filterMap (fun i => big[i]?)) (h : ws.all goodWord = true) : GoodIn big ws := by
  intro w hw
  have h1 := List.all_eq_true.mp h w hw
  rw [hp] at hw
  obtain ⟨i, -, hi⟩ := List.mem_filterMap.mp hw
  have hm : w ∈ big := by first | exact List.mem_of_getElem? hi | exact List.getElem?_mem hi
  exact ⟨hm, good_of_word h1⟩
theorem goodIn_app {big a b : List Cond} (ha : GoodIn big a) (hb : GoodIn big b) : GoodIn big (a ++ b) := fun w h => (List.mem_append.mp h).elim (ha w) (hb w)
theorem goodIn_ca {big a b : List Cond} {c : Cond} (ha : GoodIn big (c :: a)) (hb : GoodIn big b) : GoodIn big (c :: (a ++ b)) := fun w h => (List.mem_cons.mp h).elim (fun e => ha w (List.mem_cons.mpr (Or.inl e))) (fun h => (List.mem_append.mp h).elim (fun h => ha w (List.mem_cons.mpr (Or.inr h))) (hb w))
theorem goodIn_sub {big ws : List Cond} (hm : ∀ w ∈ ws, w ∈ big) (h : ws.all goodWord = true) : GoodIn big ws := fun w hw => ⟨hm w hw, good_of_word (List.all_eq_true.mp h w hw)⟩
/-! ===== END ===== -/

/-! ===== BEGIN new T[n][m]: the outer array a place, the inner ones among the pooled ===== -/
/-- f, but v at every address of l -/
def vr_up {α : Type} (f : Nat → α) (l : List Nat) (v : α) : Nat → α := fun a => if a ∈ l then v else f a
theorem vr_up_in {α : Type} {f : Nat → α} {l : List Nat} {v : α} {a : Nat} (h : a ∈ l) : vr_up f l v a = v := if_pos h
theorem vr_up_ne {α : Type} {f : Nat → α} {l : List Nat} {v : α} {a : Nat} (h : a ∉ l) : vr_up f l v a = f a := if_neg h
theorem vr_rows {L l : List Nat} {f : Nat → va_E} {e : va_E} (h : ∀ a, a ∈ l → a ∉ L) : va_pl L f ++ l.map (fun a => (a, e)) = va_pl (L ++ l) (vr_up f l e) := by
  unfold va_pl
  rw [List.map_append]
  congr 1
  · apply List.map_congr_left
    intro a ha
    rw [vr_up_ne (fun q => h a q ha)]
  · apply List.map_congr_left
    intro a ha
    rw [vr_up_in ha]
theorem vr_lay {X rows : va_W} {x : Nat × va_E} {pl : va_W} {D : va_G} {cl : List vw_C} {H : Heap} (hP : va_P D cl (((X ++ pl) ++ [x]) ++ rows) H) : va_P D cl ((X ++ [x]) ++ (pl ++ rows)) H := by
  rw [List.append_assoc (X ++ pl)] at hP
  have h := va_P.swap hP
  rw [← List.append_assoc X] at h
  have h2 := va_P.swap h
  rw [List.append_assoc (X ++ [x])] at h2
  exact h2
theorem vr_layD {X rows : va_W} {x : Nat × va_E} {pl : va_W} {A : Nat → Prop} (hD : va_D A (((X ++ pl) ++ [x]) ++ rows)) : va_D A ((X ++ [x]) ++ (pl ++ rows)) := by
  rw [List.append_assoc (X ++ pl)] at hD
  have h := va_D.swap hD
  rw [← List.append_assoc X] at h
  have h2 := va_D.swap h
  rw [List.append_assoc (X ++ [x])] at h2
  exact h2
theorem vr_outer (c : ClassId) (N h0 : Nat) : ∀ i : Nat, Jvm.Free.Multi.outerC c N h0 i = arrV c N (fun j => va_rf (if j < i then some (h0 + 1 + j) else none))
  | 0 => by
    show ({ cls := c, slots := Array.replicate N .null, vm := .none } : Cell) = _
    rw [arrV_new]
    refine congrArg (arrV c N) (funext fun j => ?_)
    simp [va_rf]
  | i + 1 => by
    show (Jvm.Free.Multi.outerC c N h0 i).setSlot i (.ref (h0 + 1 + i)) = _
    rw [vr_outer c N h0 i, arrV_store]
    refine congrArg (arrV c N) (funext fun j => ?_)
    by_cases e : j = i
    · subst e
      simp [updV, va_rf]
    · by_cases h : j < i
      · simp [updV, e, h, Nat.lt_succ_of_lt h]
      · simp [updV, e, h, show ¬ j < i + 1 by omega]
section VGM
variable {p : Program} {l : Launch} {e : Env} {R : Room} {s : State} {m : MethodId} {args : Array Value} {below : List Frame} {meth : Method} {c : Code} {H : Heap} {locs : List Loc} {cells slots : Nat} {Q : State → Prop}
variable {cc : ByteArray} {pc : Nat} {ls : Array Slot} {rest : List Value} {D : va_G} {cl : List vw_C} {A : Nat → Prop} {a : Nat} {tys : List (ClassId × FieldType)} {ws : va_W} {H0 : Heap}
theorem va_mna {X : va_W} {L : List Nat} {f : Nat → va_E} {cc : ByteArray} (hexec : p.tables.exec = Jvm.exec) (hb : c.code = cc) {own : String} {index : Nat} {ty : FieldType} {cy : ClassId} (hown : s.vm.findClass own = some m.cls) (hclink : (Cond.classLink own index ("[" ++ (FieldType.array ty).toString)).before args s = true) (hover : va_AOA ty s) (harr : (Cond.arrayClass ty).before args s = true) (hcy : s.vm.findClass (FieldType.array ty).toString = some cy)
    (hK : va_K D cl tys s) (hP : va_P D cl (X ++ va_pl L f) H) (hD : va_D A (X ++ va_pl L f)) (hS : va_S A H0 H locs) (hA : ∀ q, H0.size ≤ q → A q) {n k : Int32} {N' K' : Nat} {z : vp_A} (hn : ¬ n < 0) (hk : ¬ k < 0) (hN : n.toNatClampNeg = N') (hM : k.toNatClampNeg = K')
    (hb1 : N' * 4 ≤ 536870912) (hb2 : K' * componentBytes ty ≤ 536870912) (hb3 : K' ≤ 536870912) (hdf : fits ty (defaultValue ty) = true) (hdd : (defaultValue ty).isDefault = true) (hcells : cells + (1 + N') ≤ R.cells) (hslots : slots + (N' + N' * K') ≤ R.slots) (hz : ∀ c : ClassId, Jvm.Free.Multi.innerC c K' (defaultValue ty) = vp_cell c z) (hdg : decode cc pc = .ok (.multianewarray index 2, 4))
    (kk : ∀ (q : Nat) (r : Nat → Nat) (cA : ClassId) (H1 : Heap), (∀ i j : Nat, i < N' → j < N' → r i = r j → i = j) → (∀ i : Nat, i < N' → r i ∉ L) → va_K D cl (tys ++ [(cA, .array ty)]) s →
      va_P D cl ((X ++ [(q, .inl (cA, N', .inr (.inr (.inr (.inr (fun i => if i < N' then some (r i) else none))))))]) ++ va_pl (L ++ (List.range N').map r) (vr_up f ((List.range N').map r) (.inl (cy, z)))) H1 → va_D A ((X ++ [(q, .inl (cA, N', .inr (.inr (.inr (.inr (fun i => if i < N' then some (r i) else none))))))]) ++ va_pl (L ++ (List.range N').map r) (vr_up f ((List.range N').map r) (.inl (cy, z)))) → va_S A H0 H1 locs →
      W p l e R s m args below meth c H1 locs (cells + 1 + N') (slots + N' + N' * K') Q (F0 m (pc + 4) ls (.ref q :: rest))) : W p l e R s m args below meth c H locs cells slots Q (F0 m pc ls (.int k :: .int n :: rest)) := by
  subst hN
  subst hM
  intro T hT Xs
  obtain ⟨vm₁, cA, comp, -, fA, fC, hO, -, X', step⟩ := Xs.multianewarray2F hexec hown hclink (va_AOA.use hover) harr (g := F0 m pc ls (.int k :: .int n :: rest)) rfl (by rw [hb]; exact hdg) rfl hn hk hb1 hb2 hb3 hdf hdd hcells hslots
  have ec : some cy = some comp := hcy.symm.trans fC
  cases ec
  generalize hF : Jvm.Free.Multi.fill (T.setVm vm₁) cA cy n.toNatClampNeg k.toNatClampNeg (defaultValue ty) n.toNatClampNeg = F at X' step
  have hTh : (T.setVm vm₁).heap = H := hT
  obtain ⟨f1, f2, -, -⟩ := Jvm.Free.Multi.fill_facts (T.setVm vm₁) cA cy n.toNatClampNeg k.toNatClampNeg (defaultValue ty) n.toNatClampNeg
  rw [hF, hTh] at f1 f2
  have hold : ∀ x : Nat, x < H.size → F.heap[x]? = H[x]? := fun x hx => by
    have := Jvm.Free.Multi.fill_old (T.setVm vm₁) cA cy n.toNatClampNeg k.toNatClampNeg (defaultValue ty) (a := x) (by rw [hTh]; exact hx) n.toNatClampNeg
    rw [hF, hTh] at this
    exact this
  have hrow : ∀ j : Nat, j < n.toNatClampNeg → F.heap[H.size + 1 + j]? = some (vp_cell cy z) := fun j hj => by
    have := Jvm.Free.Multi.fill_inner (T.setVm vm₁) cA cy n.toNatClampNeg k.toNatClampNeg (defaultValue ty) n.toNatClampNeg j hj
    rw [hF, hTh, hz] at this
    exact this
  have hout : Jvm.Free.Multi.outerC cA n.toNatClampNeg H.size n.toNatClampNeg = vp_cell cA (n.toNatClampNeg, .inr (.inr (.inr (.inr (fun i => if i < n.toNatClampNeg then some (H.size + 1 + i) else none))))) := by
    rw [vp_cell_q]
    exact vr_outer cA n.toNatClampNeg H.size n.toNatClampNeg
  rw [hout] at f2
  have hlt : ∀ a, a ∈ L → a < H.size := fun a ha => by
    obtain ⟨k9, hk9⟩ := va_pl_get (X := X) (f := f) ha
    exact (hP k9 _ hk9).lt
  have hnl : ∀ i : Nat, i < n.toNatClampNeg → H.size + 1 + i ∉ L := fun i _ h => by
    have := hlt _ h
    omega
  have hnm : ∀ a, a ∈ (List.range n.toNatClampNeg).map (fun i => H.size + 1 + i) → a ∉ L := fun a ha h => by
    obtain ⟨i, -, rfl⟩ := List.mem_map.mp ha
    have := hlt _ h
    omega
  have hP0 : va_P D cl (X ++ va_pl L f) F.heap := hP.kept (fun k9 x hx => hold x.1 ((hP k9 x hx).lt))
  have hP1 : va_P D cl ((X ++ va_pl L f) ++ [(H.size, .inl (cA, n.toNatClampNeg, .inr (.inr (.inr (.inr (fun i => if i < n.toNatClampNeg then some (H.size + 1 + i) else none))))))]) F.heap := hP0.app (fun k9 x hx => by
    have h0 : k9 < 1 := (List.getElem?_eq_some_iff.mp hx).1
    rw [show k9 = 0 by omega] at hx
    cases hx
    exact f2)
  have hP2 : va_P D cl (((X ++ va_pl L f) ++ [(H.size, .inl (cA, n.toNatClampNeg, .inr (.inr (.inr (.inr (fun i => if i < n.toNatClampNeg then some (H.size + 1 + i) else none))))))]) ++ ((List.range n.toNatClampNeg).map (fun i => H.size + 1 + i)).map (fun a => (a, .inl (cy, z)))) F.heap := hP1.app (fun k9 x hx => by
    obtain ⟨a, ha, rfl⟩ := List.mem_map.mp (List.mem_of_getElem? hx)
    obtain ⟨i, hi, rfl⟩ := List.mem_map.mp ha
    exact hrow i (List.mem_range.mp hi))
  have hD2 : va_D A (((X ++ va_pl L f) ++ [(H.size, .inl (cA, n.toNatClampNeg, .inr (.inr (.inr (.inr (fun i => if i < n.toNatClampNeg then some (H.size + 1 + i) else none))))))]) ++ ((List.range n.toNatClampNeg).map (fun i => H.size + 1 + i)).map (fun a => (a, .inl (cy, z)))) := by
    have hD1 := hD.push (e := .inl (cA, n.toNatClampNeg, .inr (.inr (.inr (.inr (fun i => if i < n.toNatClampNeg then some (H.size + 1 + i) else none)))))) hP rfl (hA _ hS.1)
    generalize hW1 : (X ++ va_pl L f) ++ [(H.size, .inl (cA, n.toNatClampNeg, .inr (.inr (.inr (.inr (fun i => if i < n.toNatClampNeg then some (H.size + 1 + i) else none))))))] = W1 at hD1 hP1 ⊢
    have hle : ∀ (k9 : Nat) (x : Nat × va_E), W1[k9]? = some x → x.1 ≤ H.size := fun k9 x hx => by
      rw [← hW1] at hx
      by_cases hl : k9 < (X ++ va_pl L f).length
      · rw [List.getElem?_append_left hl] at hx
        exact Nat.le_of_lt ((hP k9 x hx).lt)
      · rw [List.getElem?_append_right (by omega)] at hx
        have h0 : k9 - (X ++ va_pl L f).length < 1 := (List.getElem?_eq_some_iff.mp hx).1
        rw [show k9 - (X ++ va_pl L f).length = 0 by omega] at hx
        cases hx
        exact Nat.le_refl _
    have hr : ∀ (k9 : Nat) (x : Nat × va_E), (((List.range n.toNatClampNeg).map (fun i => H.size + 1 + i)).map (fun a => ((a, .inl (cy, z)) : Nat × va_E)))[k9]? = some x → x.1 = H.size + 1 + k9 := fun k9 x hx => by
      rw [List.getElem?_map, List.getElem?_map] at hx
      by_cases h9 : k9 < n.toNatClampNeg
      · rw [List.getElem?_range h9] at hx
        cases hx
        rfl
      · have hn0 : (List.range n.toNatClampNeg)[k9]? = none := List.getElem?_eq_none (by rw [List.length_range]; omega)
        rw [hn0] at hx
        cases hx
    refine ⟨fun i j x y hi hj hxy => ?_, fun k9 x hx => ?_⟩
    · by_cases h1 : i < W1.length <;> by_cases h2 : j < W1.length
      · rw [List.getElem?_append_left h1] at hi
        rw [List.getElem?_append_left h2] at hj
        exact hD1.1 i j x y hi hj hxy
      · rw [List.getElem?_append_left h1] at hi
        rw [List.getElem?_append_right (by omega)] at hj
        have := hle _ _ hi
        have := hr _ _ hj
        omega
      · rw [List.getElem?_append_right (by omega)] at hi
        rw [List.getElem?_append_left h2] at hj
        have := hle _ _ hj
        have := hr _ _ hi
        omega
      · rw [List.getElem?_append_right (by omega)] at hi hj
        have := hr _ _ hi
        have := hr _ _ hj
        omega
    · by_cases h1 : k9 < W1.length
      · rw [List.getElem?_append_left h1] at hx
        exact hD1.2 k9 x hx
      · rw [List.getElem?_append_right (by omega)] at hx
        have := hr _ _ hx
        exact hA _ (by have := hS.1; omega)
  have hAr : ArrOfT s cA (.array ty) := fun N9 z9 => by
    obtain ⟨-, k9, hk9, cm9, hkk9⟩ := (hO 0 0 0).1
    exact ⟨(fun q hq => by cases hq), k9, hk9, cm9, hkk9⟩
  have hK2 : va_K D cl (tys ++ [(cA, .array ty)]) s := ⟨hK.1, fun k9 x hx => by
    by_cases hl : k9 < tys.length
    · rw [List.getElem?_append_left hl] at hx
      exact hK.2 k9 x hx
    · rw [List.getElem?_append_right (by omega)] at hx
      have h0 : k9 - tys.length < 1 := (List.getElem?_eq_some_iff.mp hx).1
      rw [show k9 - tys.length = 0 by omega] at hx
      cases hx
      exact ⟨hAr, fA⟩⟩
  obtain ⟨t, a1, b1⟩ := kk H.size (fun i => H.size + 1 + i) cA F.heap (fun i j _ _ h => by have h9 : H.size + 1 + i = H.size + 1 + j := h; omega) hnl hK2 (by rw [← vr_rows hnm]; exact vr_lay hP2) (by rw [← vr_rows hnm]; exact vr_layD hD2) ⟨by rw [f1]; have := hS.1; omega, fun x h1 h2 => (hold x (Nat.lt_of_lt_of_le h1 hS.1)).trans (hS.2.1 x h1 h2), hS.2.2⟩ F rfl X'
  refine ⟨t, step t ?_, b1⟩
  have e : T.heap.size = H.size := by rw [hT]
  rw [e]
  exact a1
end VGM
/-! ===== END ===== -/

/-! ===== BEGIN printed: names, fields, word lists, decode rows ===== -/
def RX0 : String := "WarmthShared$Block"
def TX0 : u_T := fun k => match k with
  | 0 => ("WarmthShared$Block", "flats", "[LWarmthShared$Flat;", true)
  | 1 => ("WarmthShared$Block", "size", "I", false)
  | 2 => ("WarmthShared$Block", "heights", "[I", true)
  | 3 => ("WarmthShared$Block", "now", "I", false)
  | 4 => ("WarmthShared$Block", "outside", "I", false)
  | 5 => ("WarmthShared$Block", "pump", "I", false)
  | _ => ("WarmthShared$Block", "boiler", "I", false)
def tyX0 : Nat → FieldType := fun k => match k with
  | 0 => .array (.object "WarmthShared$Flat")
  | 1 => .int
  | 2 => .array .int
  | 3 => .int
  | 4 => .int
  | 5 => .int
  | _ => .int
abbrev wsX00 : List Cond := u_ws RX0 TX0 7
theorem nmX0 : ∀ a, a < 7 → ∀ b, b < 7 → a ≠ b → (TX0 a).2.1 ≠ (TX0 b).2.1 := by decide +kernel
theorem tyX0_ok : ∀ k, k < 7 → parseFieldDescriptor (TX0 k).2.2.1 = some (tyX0 k) := by decide +kernel
abbrev cX0_init : ByteArray := prog_2_method_1_code
def yX0_init : MethodName := ⟨RX0, "<init>", "()V"⟩
abbrev cX0_become : ByteArray := prog_2_method_2_code
def yX0_become : MethodName := ⟨RX0, "become", "(LWarmthShared$Block;)V"⟩
abbrev cX0_has : ByteArray := prog_2_method_3_code
def yX0_has : MethodName := ⟨RX0, "has", "(I)Z"⟩
abbrev cX0_add : ByteArray := prog_2_method_4_code
def yX0_add : MethodName := ⟨RX0, "add", "(III)I"⟩
abbrev cX0_weight : ByteArray := prog_2_method_5_code
def yX0_weight : MethodName := ⟨RX0, "weight", "(II)I"⟩
abbrev cX0_flow : ByteArray := prog_2_method_6_code
def yX0_flow : MethodName := ⟨RX0, "flow", "(I)I"⟩
abbrev cX0_flowOf : ByteArray := prog_2_method_7_code
def yX0_flowOf : MethodName := ⟨RX0, "flowOf", "(III)I"⟩
abbrev cX0_live : ByteArray := prog_2_method_8_code
def yX0_live : MethodName := ⟨RX0, "live", "(LWarmthShared$Course;)V"⟩
abbrev cX0_usedOfAll : ByteArray := prog_2_method_9_code
def yX0_usedOfAll : MethodName := ⟨RX0, "usedOfAll", "()I"⟩
abbrev cX0_takenOfAll : ByteArray := prog_2_method_10_code
def yX0_takenOfAll : MethodName := ⟨RX0, "takenOfAll", "()I"⟩
abbrev cX0_heldOfAll : ByteArray := prog_2_method_11_code
def yX0_heldOfAll : MethodName := ⟨RX0, "heldOfAll", "()I"⟩
abbrev cX0_flowOfAll : ByteArray := prog_2_method_12_code
def yX0_flowOfAll : MethodName := ⟨RX0, "flowOfAll", "()I"⟩
abbrev cX0_highestRiser : ByteArray := prog_2_method_13_code
def yX0_highestRiser : MethodName := ⟨RX0, "highestRiser", "()I"⟩
abbrev cX0_farthestMeter : ByteArray := prog_2_method_14_code
def yX0_farthestMeter : MethodName := ⟨RX0, "farthestMeter", "()I"⟩
def RX1 : String := "WarmthShared$Complaints"
def TX1 : u_T := fun k => match k with
  | 0 => ("WarmthShared$Complaints", "flat", "[I", true)
  | 1 => ("WarmthShared$Complaints", "sort", "[I", true)
  | 2 => ("WarmthShared$Complaints", "hour", "[I", true)
  | 3 => ("WarmthShared$Complaints", "group", "[I", true)
  | _ => ("WarmthShared$Complaints", "size", "I", false)
def tyX1 : Nat → FieldType := fun k => match k with
  | 0 => .array .int
  | 1 => .array .int
  | 2 => .array .int
  | 3 => .array .int
  | _ => .int
abbrev wsX10 : List Cond := u_ws RX1 TX1 5
theorem nmX1 : ∀ a, a < 5 → ∀ b, b < 5 → a ≠ b → (TX1 a).2.1 ≠ (TX1 b).2.1 := by decide +kernel
theorem tyX1_ok : ∀ k, k < 5 → parseFieldDescriptor (TX1 k).2.2.1 = some (tyX1 k) := by decide +kernel
abbrev cX1_init : ByteArray := prog_3_method_1_code
def yX1_init : MethodName := ⟨RX1, "<init>", "()V"⟩
abbrev cX1_become : ByteArray := prog_3_method_2_code
def yX1_become : MethodName := ⟨RX1, "become", "(LWarmthShared$Complaints;)V"⟩
abbrev cX1_add : ByteArray := prog_3_method_3_code
def yX1_add : MethodName := ⟨RX1, "add", "(LWarmthShared$Block;II)I"⟩
abbrev cX1_isNear : ByteArray := prog_3_method_4_code
def yX1_isNear : MethodName := ⟨RX1, "isNear", "(LWarmthShared$Block;II)Z"⟩
abbrev cX1_merge : ByteArray := prog_3_method_5_code
def yX1_merge : MethodName := ⟨RX1, "merge", "(II)V"⟩
abbrev cX1_groupsOf : ByteArray := prog_3_method_6_code
def yX1_groupsOf : MethodName := ⟨RX1, "groupsOf", "(I)I"⟩
def RX2 : String := "WarmthShared$Course"
def TX2 : u_T := fun k => match k with
  | 0 => ("WarmthShared$Course", "size", "I", false)
  | 1 => ("WarmthShared$Course", "boiler", "I", false)
  | 2 => ("WarmthShared$Course", "outside", "I", false)
  | 3 => ("WarmthShared$Course", "pump", "I", false)
  | 4 => ("WarmthShared$Course", "warmAtFirst", "[I", true)
  | 5 => ("WarmthShared$Course", "warm", "[I", true)
  | 6 => ("WarmthShared$Course", "leaks", "[I", true)
  | 7 => ("WarmthShared$Course", "weight", "[I", true)
  | 8 => ("WarmthShared$Course", "flow", "[I", true)
  | 9 => ("WarmthShared$Course", "in", "[I", true)
  | 10 => ("WarmthShared$Course", "through", "[I", true)
  | 11 => ("WarmthShared$Course", "oneSide", "[I", true)
  | 12 => ("WarmthShared$Course", "otherSide", "[I", true)
  | _ => ("WarmthShared$Course", "walls", "I", false)
def tyX2 : Nat → FieldType := fun k => match k with
  | 0 => .int
  | 1 => .int
  | 2 => .int
  | 3 => .int
  | 4 => .array .int
  | 5 => .array .int
  | 6 => .array .int
  | 7 => .array .int
  | 8 => .array .int
  | 9 => .array .int
  | 10 => .array .int
  | 11 => .array .int
  | 12 => .array .int
  | _ => .int
abbrev wsX20 : List Cond := u_ws RX2 TX2 14
theorem nmX2 : ∀ a, a < 14 → ∀ b, b < 14 → a ≠ b → (TX2 a).2.1 ≠ (TX2 b).2.1 := by decide +kernel
theorem tyX2_ok : ∀ k, k < 14 → parseFieldDescriptor (TX2 k).2.2.1 = some (tyX2 k) := by decide +kernel
abbrev cX2_init : ByteArray := prog_4_method_1_code
def yX2_init : MethodName := ⟨RX2, "<init>", "()V"⟩
abbrev cX2_begin : ByteArray := prog_4_method_2_code
def yX2_begin : MethodName := ⟨RX2, "begin", "(LWarmthShared$Block;)V"⟩
abbrev cX2_addWall : ByteArray := prog_4_method_3_code
def yX2_addWall : MethodName := ⟨RX2, "addWall", "(II)V"⟩
abbrev cX2_restart : ByteArray := prog_4_method_4_code
def yX2_restart : MethodName := ⟨RX2, "restart", "()V"⟩
abbrev cX2_go : ByteArray := prog_4_method_5_code
def yX2_go : MethodName := ⟨RX2, "go", "(I)I"⟩
abbrev cX2_goHour : ByteArray := prog_4_method_6_code
def yX2_goHour : MethodName := ⟨RX2, "goHour", "()V"⟩
abbrev cX2_isAllEven : ByteArray := prog_4_method_7_code
def yX2_isAllEven : MethodName := ⟨RX2, "isAllEven", "(I)Z"⟩
def RX3 : String := "WarmthShared$FewTurns"
def TX3 : u_T := fun k => match k with
  | 0 => ("WarmthShared$FewTurns", "block", "LWarmthShared$Block;", true)
  | 1 => ("WarmthShared$FewTurns", "course", "LWarmthShared$Course;", true)
  | 2 => ("WarmthShared$FewTurns", "newOpen", "[I", true)
  | 3 => ("WarmthShared$FewTurns", "bounds", "I", false)
  | _ => ("WarmthShared$FewTurns", "hours", "I", false)
def tyX3 : Nat → FieldType := fun k => match k with
  | 0 => .object "WarmthShared$Block"
  | 1 => .object "WarmthShared$Course"
  | 2 => .array .int
  | 3 => .int
  | _ => .int
abbrev wsX30 : List Cond := u_ws RX3 TX3 5
theorem nmX3 : ∀ a, a < 5 → ∀ b, b < 5 → a ≠ b → (TX3 a).2.1 ≠ (TX3 b).2.1 := by decide +kernel
theorem tyX3_ok : ∀ k, k < 5 → parseFieldDescriptor (TX3 k).2.2.1 = some (tyX3 k) := by decide +kernel
abbrev cX3_init : ByteArray := prog_5_method_1_code
def yX3_init : MethodName := ⟨RX3, "<init>", "(LWarmthShared$Block;LWarmthShared$Course;)V"⟩
abbrev cX3_seek : ByteArray := prog_5_method_2_code
def yX3_seek : MethodName := ⟨RX3, "seek", "(II)Z"⟩
abbrev cX3_seekOne : ByteArray := prog_5_method_3_code
def yX3_seekOne : MethodName := ⟨RX3, "seekOne", "()Z"⟩
abbrev cX3_seekTwo : ByteArray := prog_5_method_4_code
def yX3_seekTwo : MethodName := ⟨RX3, "seekTwo", "()Z"⟩
abbrev cX3_isOneEnough : ByteArray := prog_5_method_5_code
def yX3_isOneEnough : MethodName := ⟨RX3, "isOneEnough", "(I)Z"⟩
abbrev cX3_areTwoEnough : ByteArray := prog_5_method_6_code
def yX3_areTwoEnough : MethodName := ⟨RX3, "areTwoEnough", "(II)Z"⟩
abbrev cX3_isGood : ByteArray := prog_5_method_7_code
def yX3_isGood : MethodName := ⟨RX3, "isGood", "()Z"⟩
abbrev cX3_tell : ByteArray := prog_5_method_8_code
def yX3_tell : MethodName := ⟨RX3, "tell", "(I)I"⟩
def RX4 : String := "WarmthShared$Flat"
def TX4 : u_T := fun k => match k with
  | 0 => ("WarmthShared$Flat", "kind", "I", false)
  | 1 => ("WarmthShared$Flat", "riser", "I", false)
  | 2 => ("WarmthShared$Flat", "place", "I", false)
  | 3 => ("WarmthShared$Flat", "wall", "I", false)
  | 4 => ("WarmthShared$Flat", "open", "I", false)
  | 5 => ("WarmthShared$Flat", "isHeld", "Z", false)
  | 6 => ("WarmthShared$Flat", "isWindowOpen", "Z", false)
  | 7 => ("WarmthShared$Flat", "warm", "I", false)
  | 8 => ("WarmthShared$Flat", "used", "I", false)
  | 9 => ("WarmthShared$Flat", "taken", "I", false)
  | 10 => ("WarmthShared$Flat", "gift", "I", false)
  | _ => ("WarmthShared$Flat", "drift", "I", false)
def tyX4 : Nat → FieldType := fun k => match k with
  | 0 => .int
  | 1 => .int
  | 2 => .int
  | 3 => .int
  | 4 => .int
  | 5 => .boolean
  | 6 => .boolean
  | 7 => .int
  | 8 => .int
  | 9 => .int
  | 10 => .int
  | _ => .int
abbrev wsX40 : List Cond := u_ws RX4 TX4 12
theorem nmX4 : ∀ a, a < 12 → ∀ b, b < 12 → a ≠ b → (TX4 a).2.1 ≠ (TX4 b).2.1 := by decide +kernel
theorem tyX4_ok : ∀ k, k < 12 → parseFieldDescriptor (TX4 k).2.2.1 = some (tyX4 k) := by decide +kernel
abbrev cX4_init : ByteArray := prog_6_method_1_code
def yX4_init : MethodName := ⟨RX4, "<init>", "()V"⟩
abbrev cX4_becomeNew : ByteArray := prog_6_method_2_code
def yX4_becomeNew : MethodName := ⟨RX4, "becomeNew", "(IIII)V"⟩
abbrev cX4_become : ByteArray := prog_6_method_3_code
def yX4_become : MethodName := ⟨RX4, "become", "(LWarmthShared$Flat;)V"⟩
abbrev cX4_leaks : ByteArray := prog_6_method_4_code
def yX4_leaks : MethodName := ⟨RX4, "leaks", "(I)I"⟩
abbrev cX4_leaksShut : ByteArray := prog_6_method_5_code
def yX4_leaksShut : MethodName := ⟨RX4, "leaksShut", "(I)I"⟩
abbrev cX4_takes : ByteArray := prog_6_method_6_code
def yX4_takes : MethodName := ⟨RX4, "takes", "(I)I"⟩
abbrev cX4_isRightAboveOrBelow : ByteArray := prog_6_method_7_code
def yX4_isRightAboveOrBelow : MethodName := ⟨RX4, "isRightAboveOrBelow", "(LWarmthShared$Flat;)Z"⟩
abbrev cX4_isBeside : ByteArray := prog_6_method_8_code
def yX4_isBeside : MethodName := ⟨RX4, "isBeside", "(LWarmthShared$Flat;)Z"⟩
def RX5 : String := "WarmthShared$RuleReader"
def TX5 : u_T := fun k => match k with
  | 0 => ("WarmthShared$RuleReader", "text", "LWarmthShared$Text;", true)
  | 1 => ("WarmthShared$RuleReader", "values", "[I", true)
  | 2 => ("WarmthShared$RuleReader", "at", "I", false)
  | _ => ("WarmthShared$RuleReader", "fault", "I", false)
def tyX5 : Nat → FieldType := fun k => match k with
  | 0 => .object "WarmthShared$Text"
  | 1 => .array .int
  | 2 => .int
  | _ => .int
abbrev wsX50 : List Cond := u_ws RX5 TX5 4
theorem nmX5 : ∀ a, a < 4 → ∀ b, b < 4 → a ≠ b → (TX5 a).2.1 ≠ (TX5 b).2.1 := by decide +kernel
theorem tyX5_ok : ∀ k, k < 4 → parseFieldDescriptor (TX5 k).2.2.1 = some (tyX5 k) := by decide +kernel
abbrev cX5_init : ByteArray := prog_7_method_1_code
def yX5_init : MethodName := ⟨RX5, "<init>", "(LWarmthShared$Text;)V"⟩
abbrev cX5_check : ByteArray := prog_7_method_2_code
def yX5_check : MethodName := ⟨RX5, "check", "()I"⟩
abbrev cX5_value : ByteArray := prog_7_method_3_code
def yX5_value : MethodName := ⟨RX5, "value", "(LWarmthShared$Block;I)I"⟩
abbrev cX5_next : ByteArray := prog_7_method_4_code
def yX5_next : MethodName := ⟨RX5, "next", "()I"⟩
abbrev cX5_fail : ByteArray := prog_7_method_5_code
def yX5_fail : MethodName := ⟨RX5, "fail", "()V"⟩
abbrev cX5_expect : ByteArray := prog_7_method_6_code
def yX5_expect : MethodName := ⟨RX5, "expect", "(I)V"⟩
abbrev cX5_readSum : ByteArray := prog_7_method_7_code
def yX5_readSum : MethodName := ⟨RX5, "readSum", "(I)I"⟩
abbrev cX5_readProduct : ByteArray := prog_7_method_8_code
def yX5_readProduct : MethodName := ⟨RX5, "readProduct", "(I)I"⟩
abbrev cX5_quotient : ByteArray := prog_7_method_9_code
def yX5_quotient : MethodName := ⟨RX5, "quotient", "(II)I"⟩
abbrev cX5_readFactor : ByteArray := prog_7_method_10_code
def yX5_readFactor : MethodName := ⟨RX5, "readFactor", "(I)I"⟩
abbrev cX5_readNumber : ByteArray := prog_7_method_11_code
def yX5_readNumber : MethodName := ⟨RX5, "readNumber", "()I"⟩
abbrev cX5_isDigit : ByteArray := prog_7_method_12_code
def yX5_isDigit : MethodName := ⟨RX5, "isDigit", "(I)Z"⟩
abbrev cX5_readBracket : ByteArray := prog_7_method_13_code
def yX5_readBracket : MethodName := ⟨RX5, "readBracket", "(I)I"⟩
abbrev cX5_readChoice : ByteArray := prog_7_method_14_code
def yX5_readChoice : MethodName := ⟨RX5, "readChoice", "(I)I"⟩
def RX6 : String := "WarmthShared$Sheets"
def TX6 : u_T := fun k => match k with
  | 0 => ("WarmthShared$Sheets", "numbers", "[[J", true)
  | 1 => ("WarmthShared$Sheets", "bits", "[I", true)
  | _ => ("WarmthShared$Sheets", "size", "[I", true)
def tyX6 : Nat → FieldType := fun k => match k with
  | 0 => .array (.array .long)
  | 1 => .array .int
  | _ => .array .int
abbrev wsX60 : List Cond := u_ws RX6 TX6 3
theorem nmX6 : ∀ a, a < 3 → ∀ b, b < 3 → a ≠ b → (TX6 a).2.1 ≠ (TX6 b).2.1 := by decide +kernel
theorem tyX6_ok : ∀ k, k < 3 → parseFieldDescriptor (TX6 k).2.2.1 = some (tyX6 k) := by decide +kernel
abbrev cX6_init : ByteArray := prog_8_method_1_code
def yX6_init : MethodName := ⟨RX6, "<init>", "()V"⟩
abbrev cX6_isMissing : ByteArray := prog_8_method_2_code
def yX6_isMissing : MethodName := ⟨RX6, "isMissing", "(I)Z"⟩
abbrev cX6_lay : ByteArray := prog_8_method_3_code
def yX6_lay : MethodName := ⟨RX6, "lay", "(III)V"⟩
abbrev cX6_hasPart : ByteArray := prog_8_method_4_code
def yX6_hasPart : MethodName := ⟨RX6, "hasPart", "(III)Z"⟩
def RX7 : String := "WarmthShared$Split"
def TX7 : u_T := fun k => match k with
  | 0 => ("WarmthShared$Split", "shares", "[I", true)
  | 1 => ("WarmthShared$Split", "size", "I", false)
  | 2 => ("WarmthShared$Split", "price", "I", false)
  | _ => ("WarmthShared$Split", "allShares", "I", false)
def tyX7 : Nat → FieldType := fun k => match k with
  | 0 => .array .int
  | 1 => .int
  | 2 => .int
  | _ => .int
abbrev wsX70 : List Cond := u_ws RX7 TX7 4
theorem nmX7 : ∀ a, a < 4 → ∀ b, b < 4 → a ≠ b → (TX7 a).2.1 ≠ (TX7 b).2.1 := by decide +kernel
theorem tyX7_ok : ∀ k, k < 4 → parseFieldDescriptor (TX7 k).2.2.1 = some (tyX7 k) := by decide +kernel
abbrev cX7_init : ByteArray := prog_9_method_1_code
def yX7_init : MethodName := ⟨RX7, "<init>", "()V"⟩
abbrev cX7_begin : ByteArray := prog_9_method_2_code
def yX7_begin : MethodName := ⟨RX7, "begin", "(I)V"⟩
abbrev cX7_add : ByteArray := prog_9_method_3_code
def yX7_add : MethodName := ⟨RX7, "add", "(I)V"⟩
abbrev cX7_nobodyPays : ByteArray := prog_9_method_4_code
def yX7_nobodyPays : MethodName := ⟨RX7, "nobodyPays", "()Z"⟩
abbrev cX7_pays : ByteArray := prog_9_method_5_code
def yX7_pays : MethodName := ⟨RX7, "pays", "(I)I"⟩
def RX8 : String := "WarmthShared$State"
def TX8 : u_T := fun k => match k with
  | 0 => ("WarmthShared$State", "block", "LWarmthShared$Block;", true)
  | 1 => ("WarmthShared$State", "rule", "LWarmthShared$Text;", true)
  | _ => ("WarmthShared$State", "complaints", "LWarmthShared$Complaints;", true)
def tyX8 : Nat → FieldType := fun k => match k with
  | 0 => .object "WarmthShared$Block"
  | 1 => .object "WarmthShared$Text"
  | _ => .object "WarmthShared$Complaints"
abbrev wsX80 : List Cond := u_ws RX8 TX8 3
theorem nmX8 : ∀ a, a < 3 → ∀ b, b < 3 → a ≠ b → (TX8 a).2.1 ≠ (TX8 b).2.1 := by decide +kernel
theorem tyX8_ok : ∀ k, k < 3 → parseFieldDescriptor (TX8 k).2.2.1 = some (tyX8 k) := by decide +kernel
abbrev cX8_init : ByteArray := prog_10_method_1_code
def yX8_init : MethodName := ⟨RX8, "<init>", "()V"⟩
abbrev cX8_become : ByteArray := prog_10_method_2_code
def yX8_become : MethodName := ⟨RX8, "become", "(LWarmthShared$State;)V"⟩
def RX9 : String := "WarmthShared$Text"
def TX9 : u_T := fun k => match k with
  | 0 => ("WarmthShared$Text", "bytes", "[I", true)
  | _ => ("WarmthShared$Text", "size", "I", false)
def tyX9 : Nat → FieldType := fun k => match k with
  | 0 => .array .int
  | _ => .int
abbrev wsX90 : List Cond := u_ws RX9 TX9 2
theorem nmX9 : ∀ a, a < 2 → ∀ b, b < 2 → a ≠ b → (TX9 a).2.1 ≠ (TX9 b).2.1 := by decide +kernel
theorem tyX9_ok : ∀ k, k < 2 → parseFieldDescriptor (TX9 k).2.2.1 = some (tyX9 k) := by decide +kernel
abbrev cX9_init : ByteArray := prog_11_method_1_code
def yX9_init : MethodName := ⟨RX9, "<init>", "()V"⟩
abbrev cX9_append : ByteArray := prog_11_method_2_code
def yX9_append : MethodName := ⟨RX9, "append", "(I)V"⟩
abbrev cX9_become : ByteArray := prog_11_method_3_code
def yX9_become : MethodName := ⟨RX9, "become", "(LWarmthShared$Text;)V"⟩
def RX10 : String := "WarmthShared"
def TX10 : u_T := fun k => match k with
  | 0 => ("WarmthShared", "state", "LWarmthShared$State;", true)
  | 1 => ("WarmthShared", "kept", "LWarmthShared$State;", true)
  | 2 => ("WarmthShared", "isKept", "Z", false)
  | 3 => ("WarmthShared", "block", "LWarmthShared$Block;", true)
  | 4 => ("WarmthShared", "complaints", "LWarmthShared$Complaints;", true)
  | 5 => ("WarmthShared", "rule", "LWarmthShared$Text;", true)
  | 6 => ("WarmthShared", "tape", "LWarmthShared$Text;", true)
  | 7 => ("WarmthShared", "ruleReader", "LWarmthShared$RuleReader;", true)
  | 8 => ("WarmthShared", "tapeReader", "LWarmthShared$RuleReader;", true)
  | 9 => ("WarmthShared", "split", "LWarmthShared$Split;", true)
  | 10 => ("WarmthShared", "course", "LWarmthShared$Course;", true)
  | 11 => ("WarmthShared", "fewTurns", "LWarmthShared$FewTurns;", true)
  | 12 => ("WarmthShared", "sheets", "LWarmthShared$Sheets;", true)
  | _ => ("WarmthShared", "findings", "[I", true)
def tyX10 : Nat → FieldType := fun k => match k with
  | 0 => .object "WarmthShared$State"
  | 1 => .object "WarmthShared$State"
  | 2 => .boolean
  | 3 => .object "WarmthShared$Block"
  | 4 => .object "WarmthShared$Complaints"
  | 5 => .object "WarmthShared$Text"
  | 6 => .object "WarmthShared$Text"
  | 7 => .object "WarmthShared$RuleReader"
  | 8 => .object "WarmthShared$RuleReader"
  | 9 => .object "WarmthShared$Split"
  | 10 => .object "WarmthShared$Course"
  | 11 => .object "WarmthShared$FewTurns"
  | 12 => .object "WarmthShared$Sheets"
  | _ => .array .int
abbrev wsX100 : List Cond := u_ws RX10 TX10 14
theorem nmX10 : ∀ a, a < 14 → ∀ b, b < 14 → a ≠ b → (TX10 a).2.1 ≠ (TX10 b).2.1 := by decide +kernel
theorem tyX10_ok : ∀ k, k < 14 → parseFieldDescriptor (TX10 k).2.2.1 = some (tyX10 k) := by decide +kernel
abbrev cX10_init : ByteArray := prog_1_method_1_code
def yX10_init : MethodName := ⟨RX10, "<init>", "()V"⟩
abbrev cX10_flat : ByteArray := prog_1_method_2_code
def yX10_flat : MethodName := ⟨RX10, "flat", "(III)I"⟩
abbrev cX10_of : ByteArray := prog_1_method_3_code
def yX10_of : MethodName := ⟨RX10, "of", "(II)I"⟩
abbrev cX10_as : ByteArray := prog_1_method_4_code
def yX10_as : MethodName := ⟨RX10, "as", "(II)I"⟩
abbrev cX10_set : ByteArray := prog_1_method_5_code
def yX10_set : MethodName := ⟨RX10, "set", "(II)I"⟩
abbrev cX10_turn : ByteArray := prog_1_method_6_code
def yX10_turn : MethodName := ⟨RX10, "turn", "(II)I"⟩
abbrev cX10_hold : ByteArray := prog_1_method_7_code
def yX10_hold : MethodName := ⟨RX10, "hold", "(IZ)I"⟩
abbrev cX10_window : ByteArray := prog_1_method_8_code
def yX10_window : MethodName := ⟨RX10, "window", "(IZ)I"⟩
abbrev cX10_drift : ByteArray := prog_1_method_9_code
def yX10_drift : MethodName := ⟨RX10, "drift", "(II)I"⟩
abbrev cX10_hours : ByteArray := prog_1_method_10_code
def yX10_hours : MethodName := ⟨RX10, "hours", "(I)I"⟩
abbrev cX10_riser : ByteArray := prog_1_method_11_code
def yX10_riser : MethodName := ⟨RX10, "riser", "(I)I"⟩
abbrev cX10_feed : ByteArray := prog_1_method_12_code
def yX10_feed : MethodName := ⟨RX10, "feed", "(II)I"⟩
abbrev cX10_wipe : ByteArray := prog_1_method_13_code
def yX10_wipe : MethodName := ⟨RX10, "wipe", "()I"⟩
abbrev cX10_rule : ByteArray := prog_1_method_14_code
def yX10_rule : MethodName := ⟨RX10, "rule", "()I"⟩
abbrev cX10_plain : ByteArray := prog_1_method_15_code
def yX10_plain : MethodName := ⟨RX10, "plain", "()I"⟩
abbrev cX10_share : ByteArray := prog_1_method_16_code
def yX10_share : MethodName := ⟨RX10, "share", "(I)I"⟩
abbrev cX10_bill : ByteArray := prog_1_method_17_code
def yX10_bill : MethodName := ⟨RX10, "bill", "(II)I"⟩
abbrev cX10_other : ByteArray := prog_1_method_18_code
def yX10_other : MethodName := ⟨RX10, "other", "(II)I"⟩
abbrev cX10_meters : ByteArray := prog_1_method_19_code
def yX10_meters : MethodName := ⟨RX10, "meters", "(I)I"⟩
abbrev cX10_felt : ByteArray := prog_1_method_20_code
def yX10_felt : MethodName := ⟨RX10, "felt", "(II)I"⟩
abbrev cX10_even : ByteArray := prog_1_method_21_code
def yX10_even : MethodName := ⟨RX10, "even", "(II)I"⟩
abbrev cX10_foretold : ByteArray := prog_1_method_22_code
def yX10_foretold : MethodName := ⟨RX10, "foretold", "(II)I"⟩
abbrev cX10_few : ByteArray := prog_1_method_23_code
def yX10_few : MethodName := ⟨RX10, "few", "(III)I"⟩
abbrev cX10_setback : ByteArray := prog_1_method_24_code
def yX10_setback : MethodName := ⟨RX10, "setback", "(II)I"⟩
abbrev cX10_works : ByteArray := prog_1_method_25_code
def yX10_works : MethodName := ⟨RX10, "works", "(III)I"⟩
abbrev cX10_complain : ByteArray := prog_1_method_26_code
def yX10_complain : MethodName := ⟨RX10, "complain", "(II)I"⟩
abbrev cX10_complaint : ByteArray := prog_1_method_27_code
def yX10_complaint : MethodName := ⟨RX10, "complaint", "(II)I"⟩
abbrev cX10_joined : ByteArray := prog_1_method_28_code
def yX10_joined : MethodName := ⟨RX10, "joined", "(II)I"⟩
abbrev cX10_groups : ByteArray := prog_1_method_29_code
def yX10_groups : MethodName := ⟨RX10, "groups", "(I)I"⟩
abbrev cX10_sheet : ByteArray := prog_1_method_30_code
def yX10_sheet : MethodName := ⟨RX10, "sheet", "(III)I"⟩
abbrev cX10_write : ByteArray := prog_1_method_31_code
def yX10_write : MethodName := ⟨RX10, "write", "(IIJ)J"⟩
abbrev cX10_copy : ByteArray := prog_1_method_32_code
def yX10_copy : MethodName := ⟨RX10, "copy", "(IIIII)I"⟩
abbrev cX10_weather : ByteArray := prog_1_method_33_code
def yX10_weather : MethodName := ⟨RX10, "weather", "(I)I"⟩
abbrev cX10_read : ByteArray := prog_1_method_34_code
def yX10_read : MethodName := ⟨RX10, "read", "(I)I"⟩
abbrev cX10_image : ByteArray := prog_1_method_35_code
def yX10_image : MethodName := ⟨RX10, "image", "()I"⟩
abbrev cX10_undo : ByteArray := prog_1_method_36_code
def yX10_undo : MethodName := ⟨RX10, "undo", "()I"⟩
abbrev cX10_tear : ByteArray := prog_1_method_37_code
def yX10_tear : MethodName := ⟨RX10, "tear", "()I"⟩
abbrev cX10_count : ByteArray := prog_1_method_38_code
def yX10_count : MethodName := ⟨RX10, "count", "(I)I"⟩
abbrev cX10_status : ByteArray := prog_1_method_39_code
def yX10_status : MethodName := ⟨RX10, "status", "(I)I"⟩
abbrev cX10_finding : ByteArray := prog_1_method_40_code
def yX10_finding : MethodName := ⟨RX10, "finding", "(I)I"⟩
abbrev cX10_isRuled : ByteArray := prog_1_method_41_code
def yX10_isRuled : MethodName := ⟨RX10, "isRuled", "()Z"⟩
abbrev cX10_ruledShare : ByteArray := prog_1_method_42_code
def yX10_ruledShare : MethodName := ⟨RX10, "ruledShare", "(I)I"⟩
abbrev cX10_plainShare : ByteArray := prog_1_method_43_code
def yX10_plainShare : MethodName := ⟨RX10, "plainShare", "(I)I"⟩
abbrev cX10_splitByShares : ByteArray := prog_1_method_44_code
def yX10_splitByShares : MethodName := ⟨RX10, "splitByShares", "(IZ)V"⟩
abbrev cX10_isSheet : ByteArray := prog_1_method_45_code
def yX10_isSheet : MethodName := ⟨RX10, "isSheet", "(I)Z"⟩
abbrev cX10_within : ByteArray := prog_1_method_46_code
def yX10_within : MethodName := ⟨RX10, "within", "(III)Z"⟩
abbrev cX10_bit : ByteArray := prog_1_method_47_code
def yX10_bit : MethodName := ⟨RX10, "bit", "(Z)I"⟩
abbrev cX10_areBounds : ByteArray := prog_1_method_48_code
def yX10_areBounds : MethodName := ⟨RX10, "areBounds", "(I)Z"⟩
abbrev cX10_feeling : ByteArray := prog_1_method_49_code
def yX10_feeling : MethodName := ⟨RX10, "feeling", "(II)I"⟩
abbrev cX10_isUnder : ByteArray := prog_1_method_50_code
def yX10_isUnder : MethodName := ⟨RX10, "isUnder", "(II)Z"⟩
abbrev cX10_lowest : ByteArray := prog_1_method_51_code
def yX10_lowest : MethodName := ⟨RX10, "lowest", "(JI)J"⟩
def RX11 : String := "WarmthSharedModel"
def TX11 : u_T := fun k => match k with
  | 0 => ("WarmthSharedModel", "now", "[I", true)
  | 1 => ("WarmthSharedModel", "kept", "[I", true)
  | 2 => ("WarmthSharedModel", "isKept", "Z", false)
  | 3 => ("WarmthSharedModel", "found", "[I", true)
  | 4 => ("WarmthSharedModel", "foundAll", "I", false)
  | 5 => ("WarmthSharedModel", "above", "[I", true)
  | 6 => ("WarmthSharedModel", "below", "[I", true)
  | 7 => ("WarmthSharedModel", "before", "[I", true)
  | 8 => ("WarmthSharedModel", "behind", "[I", true)
  | 9 => ("WarmthSharedModel", "higher", "[I", true)
  | 10 => ("WarmthSharedModel", "opens", "[I", true)
  | 11 => ("WarmthSharedModel", "flows", "[I", true)
  | 12 => ("WarmthSharedModel", "leaks", "[I", true)
  | 13 => ("WarmthSharedModel", "warms", "[I", true)
  | 14 => ("WarmthSharedModel", "next", "[I", true)
  | 15 => ("WarmthSharedModel", "ins", "[I", true)
  | 16 => ("WarmthSharedModel", "throughs", "[I", true)
  | 17 => ("WarmthSharedModel", "tape", "[I", true)
  | 18 => ("WarmthSharedModel", "taped", "I", false)
  | 19 => ("WarmthSharedModel", "fresh", "[I", true)
  | 20 => ("WarmthSharedModel", "freshMany", "I", false)
  | 21 => ("WarmthSharedModel", "waits", "[I", true)
  | 22 => ("WarmthSharedModel", "held", "I", false)
  | 23 => ("WarmthSharedModel", "opened", "I", false)
  | 24 => ("WarmthSharedModel", "at", "I", false)
  | 25 => ("WarmthSharedModel", "isFault", "Z", false)
  | 26 => ("WarmthSharedModel", "pile", "[I", true)
  | 27 => ("WarmthSharedModel", "shares", "[I", true)
  | 28 => ("WarmthSharedModel", "pays", "[I", true)
  | 29 => ("WarmthSharedModel", "rests", "[I", true)
  | 30 => ("WarmthSharedModel", "hasFew", "Z", false)
  | 31 => ("WarmthSharedModel", "fewBounds", "I", false)
  | 32 => ("WarmthSharedModel", "fewHours", "I", false)
  | 33 => ("WarmthSharedModel", "visits", "I", false)
  | 34 => ("WarmthSharedModel", "lesser", "I", false)
  | 35 => ("WarmthSharedModel", "greater", "I", false)
  | 36 => ("WarmthSharedModel", "lesserOpen", "I", false)
  | 37 => ("WarmthSharedModel", "greaterOpen", "I", false)
  | 38 => ("WarmthSharedModel", "group", "[I", true)
  | 39 => ("WarmthSharedModel", "widths", "[I", true)
  | 40 => ("WarmthSharedModel", "sizes", "[I", true)
  | 41 => ("WarmthSharedModel", "cells", "[J", true)
  | _ => ("WarmthSharedModel", "moved", "[J", true)
def tyX11 : Nat → FieldType := fun k => match k with
  | 0 => .array .int
  | 1 => .array .int
  | 2 => .boolean
  | 3 => .array .int
  | 4 => .int
  | 5 => .array .int
  | 6 => .array .int
  | 7 => .array .int
  | 8 => .array .int
  | 9 => .array .int
  | 10 => .array .int
  | 11 => .array .int
  | 12 => .array .int
  | 13 => .array .int
  | 14 => .array .int
  | 15 => .array .int
  | 16 => .array .int
  | 17 => .array .int
  | 18 => .int
  | 19 => .array .int
  | 20 => .int
  | 21 => .array .int
  | 22 => .int
  | 23 => .int
  | 24 => .int
  | 25 => .boolean
  | 26 => .array .int
  | 27 => .array .int
  | 28 => .array .int
  | 29 => .array .int
  | 30 => .boolean
  | 31 => .int
  | 32 => .int
  | 33 => .int
  | 34 => .int
  | 35 => .int
  | 36 => .int
  | 37 => .int
  | 38 => .array .int
  | 39 => .array .int
  | 40 => .array .int
  | 41 => .array .long
  | _ => .array .long
abbrev wsX110 : List Cond := u_ws RX11 TX11 43
theorem nmX11 : ∀ a, a < 43 → ∀ b, b < 43 → a ≠ b → (TX11 a).2.1 ≠ (TX11 b).2.1 := by decide +kernel
theorem tyX11_ok : ∀ k, k < 43 → parseFieldDescriptor (TX11 k).2.2.1 = some (tyX11 k) := by decide +kernel
abbrev cX11_init : ByteArray := prog_13_method_1_code
def yX11_init : MethodName := ⟨RX11, "<init>", "()V"⟩
abbrev cX11_finds : ByteArray := prog_13_method_2_code
def yX11_finds : MethodName := ⟨RX11, "finds", "(I)I"⟩
abbrev cX11_in : ByteArray := prog_13_method_3_code
def yX11_in : MethodName := ⟨RX11, "in", "(III)Z"⟩
abbrev cX11_within : ByteArray := prog_13_method_4_code
def yX11_within : MethodName := ⟨RX11, "within", "(III)I"⟩
abbrev cX11_isFlat : ByteArray := prog_13_method_5_code
def yX11_isFlat : MethodName := ⟨RX11, "isFlat", "(I)Z"⟩
abbrev cX11_get : ByteArray := prog_13_method_6_code
def yX11_get : MethodName := ⟨RX11, "get", "(II)I"⟩
abbrev cX11_becomes : ByteArray := prog_13_method_7_code
def yX11_becomes : MethodName := ⟨RX11, "becomes", "(III)I"⟩
abbrev cX11_flat : ByteArray := prog_13_method_8_code
def yX11_flat : MethodName := ⟨RX11, "flat", "(III)I"⟩
abbrev cX11_placeOf : ByteArray := prog_13_method_9_code
def yX11_placeOf : MethodName := ⟨RX11, "placeOf", "(I)I"⟩
abbrev cX11_flatAt : ByteArray := prog_13_method_10_code
def yX11_flatAt : MethodName := ⟨RX11, "flatAt", "(II)I"⟩
abbrev cX11_leaksBy : ByteArray := prog_13_method_11_code
def yX11_leaksBy : MethodName := ⟨RX11, "leaksBy", "(II)I"⟩
abbrev cX11_takesBy : ByteArray := prog_13_method_12_code
def yX11_takesBy : MethodName := ⟨RX11, "takesBy", "(II)I"⟩
abbrev cX11_setsAside : ByteArray := prog_13_method_13_code
def yX11_setsAside : MethodName := ⟨RX11, "setsAside", "()V"⟩
abbrev cX11_startsWarm : ByteArray := prog_13_method_14_code
def yX11_startsWarm : MethodName := ⟨RX11, "startsWarm", "()V"⟩
abbrev cX11_weight : ByteArray := prog_13_method_15_code
def yX11_weight : MethodName := ⟨RX11, "weight", "(I)I"⟩
abbrev cX11_findFlows : ByteArray := prog_13_method_16_code
def yX11_findFlows : MethodName := ⟨RX11, "findFlows", "()V"⟩
abbrev cX11_from : ByteArray := prog_13_method_17_code
def yX11_from : MethodName := ⟨RX11, "from", "(II)I"⟩
abbrev cX11_goes : ByteArray := prog_13_method_18_code
def yX11_goes : MethodName := ⟨RX11, "goes", "(I)I"⟩
abbrev cX11_goesAll : ByteArray := prog_13_method_19_code
def yX11_goesAll : MethodName := ⟨RX11, "goesAll", "(II)I"⟩
abbrev cX11_of : ByteArray := prog_13_method_20_code
def yX11_of : MethodName := ⟨RX11, "of", "(II)I"⟩
abbrev cX11_isUnder : ByteArray := prog_13_method_21_code
def yX11_isUnder : MethodName := ⟨RX11, "isUnder", "(II)Z"⟩
abbrev cX11_as : ByteArray := prog_13_method_22_code
def yX11_as : MethodName := ⟨RX11, "as", "(II)I"⟩
abbrev cX11_set : ByteArray := prog_13_method_23_code
def yX11_set : MethodName := ⟨RX11, "set", "(II)I"⟩
abbrev cX11_turn : ByteArray := prog_13_method_24_code
def yX11_turn : MethodName := ⟨RX11, "turn", "(II)I"⟩
abbrev cX11_hold : ByteArray := prog_13_method_25_code
def yX11_hold : MethodName := ⟨RX11, "hold", "(IZ)I"⟩
abbrev cX11_window : ByteArray := prog_13_method_26_code
def yX11_window : MethodName := ⟨RX11, "window", "(IZ)I"⟩
abbrev cX11_drift : ByteArray := prog_13_method_27_code
def yX11_drift : MethodName := ⟨RX11, "drift", "(II)I"⟩
abbrev cX11_anHour : ByteArray := prog_13_method_28_code
def yX11_anHour : MethodName := ⟨RX11, "anHour", "()V"⟩
abbrev cX11_hours : ByteArray := prog_13_method_29_code
def yX11_hours : MethodName := ⟨RX11, "hours", "(I)I"⟩
abbrev cX11_riser : ByteArray := prog_13_method_30_code
def yX11_riser : MethodName := ⟨RX11, "riser", "(I)I"⟩
abbrev cX11_feed : ByteArray := prog_13_method_31_code
def yX11_feed : MethodName := ⟨RX11, "feed", "(II)I"⟩
abbrev cX11_wipe : ByteArray := prog_13_method_32_code
def yX11_wipe : MethodName := ⟨RX11, "wipe", "()I"⟩
abbrev cX11_emit : ByteArray := prog_13_method_33_code
def yX11_emit : MethodName := ⟨RX11, "emit", "(I)V"⟩
abbrev cX11_settles : ByteArray := prog_13_method_34_code
def yX11_settles : MethodName := ⟨RX11, "settles", "(I)V"⟩
abbrev cX11_waits : ByteArray := prog_13_method_35_code
def yX11_waits : MethodName := ⟨RX11, "waits", "(I)V"⟩
abbrev cX11_nameOf : ByteArray := prog_13_method_36_code
def yX11_nameOf : MethodName := ⟨RX11, "nameOf", "(I)I"⟩
abbrev cX11_isDigit : ByteArray := prog_13_method_37_code
def yX11_isDigit : MethodName := ⟨RX11, "isDigit", "(I)Z"⟩
abbrev cX11_operand : ByteArray := prog_13_method_38_code
def yX11_operand : MethodName := ⟨RX11, "operand", "()Z"⟩
abbrev cX11_top : ByteArray := prog_13_method_39_code
def yX11_top : MethodName := ⟨RX11, "top", "()I"⟩
abbrev cX11_operator : ByteArray := prog_13_method_40_code
def yX11_operator : MethodName := ⟨RX11, "operator", "()Z"⟩
abbrev cX11_rule : ByteArray := prog_13_method_41_code
def yX11_rule : MethodName := ⟨RX11, "rule", "()I"⟩
abbrev cX11_plain : ByteArray := prog_13_method_42_code
def yX11_plain : MethodName := ⟨RX11, "plain", "()I"⟩
abbrev cX11_factOf : ByteArray := prog_13_method_43_code
def yX11_factOf : MethodName := ⟨RX11, "factOf", "(II)I"⟩
abbrev cX11_done : ByteArray := prog_13_method_44_code
def yX11_done : MethodName := ⟨RX11, "done", "(III)I"⟩
abbrev cX11_says : ByteArray := prog_13_method_45_code
def yX11_says : MethodName := ⟨RX11, "says", "(I)I"⟩
abbrev cX11_findShares : ByteArray := prog_13_method_46_code
def yX11_findShares : MethodName := ⟨RX11, "findShares", "(Z)V"⟩
abbrev cX11_findPays : ByteArray := prog_13_method_47_code
def yX11_findPays : MethodName := ⟨RX11, "findPays", "(I)Z"⟩
abbrev cX11_share : ByteArray := prog_13_method_48_code
def yX11_share : MethodName := ⟨RX11, "share", "(I)I"⟩
abbrev cX11_bill : ByteArray := prog_13_method_49_code
def yX11_bill : MethodName := ⟨RX11, "bill", "(II)I"⟩
abbrev cX11_other : ByteArray := prog_13_method_50_code
def yX11_other : MethodName := ⟨RX11, "other", "(II)I"⟩
abbrev cX11_sumOf : ByteArray := prog_13_method_51_code
def yX11_sumOf : MethodName := ⟨RX11, "sumOf", "(I)I"⟩
abbrev cX11_offBy : ByteArray := prog_13_method_52_code
def yX11_offBy : MethodName := ⟨RX11, "offBy", "(I)I"⟩
abbrev cX11_meters : ByteArray := prog_13_method_53_code
def yX11_meters : MethodName := ⟨RX11, "meters", "(I)I"⟩
abbrev cX11_areBounds : ByteArray := prog_13_method_54_code
def yX11_areBounds : MethodName := ⟨RX11, "areBounds", "(I)Z"⟩
abbrev cX11_felt : ByteArray := prog_13_method_55_code
def yX11_felt : MethodName := ⟨RX11, "felt", "(II)I"⟩
abbrev cX11_isEven : ByteArray := prog_13_method_56_code
def yX11_isEven : MethodName := ⟨RX11, "isEven", "(II)Z"⟩
abbrev cX11_even : ByteArray := prog_13_method_57_code
def yX11_even : MethodName := ⟨RX11, "even", "(II)I"⟩
abbrev cX11_foretold : ByteArray := prog_13_method_58_code
def yX11_foretold : MethodName := ⟨RX11, "foretold", "(II)I"⟩
abbrev cX11_areEven : ByteArray := prog_13_method_59_code
def yX11_areEven : MethodName := ⟨RX11, "areEven", "(II)Z"⟩
abbrev cX11_findOne : ByteArray := prog_13_method_60_code
def yX11_findOne : MethodName := ⟨RX11, "findOne", "(II)Z"⟩
abbrev cX11_areTurned : ByteArray := prog_13_method_61_code
def yX11_areTurned : MethodName := ⟨RX11, "areTurned", "(IIII)Z"⟩
abbrev cX11_findFew : ByteArray := prog_13_method_62_code
def yX11_findFew : MethodName := ⟨RX11, "findFew", "(II)V"⟩
abbrev cX11_turnsOf : ByteArray := prog_13_method_63_code
def yX11_turnsOf : MethodName := ⟨RX11, "turnsOf", "(II)I"⟩
abbrev cX11_few : ByteArray := prog_13_method_64_code
def yX11_few : MethodName := ⟨RX11, "few", "(III)I"⟩
abbrev cX11_setback : ByteArray := prog_13_method_65_code
def yX11_setback : MethodName := ⟨RX11, "setback", "(II)I"⟩
abbrev cX11_works : ByteArray := prog_13_method_66_code
def yX11_works : MethodName := ⟨RX11, "works", "(III)I"⟩
abbrev cX11_about : ByteArray := prog_13_method_67_code
def yX11_about : MethodName := ⟨RX11, "about", "(II)I"⟩
abbrev cX11_isComplaint : ByteArray := prog_13_method_68_code
def yX11_isComplaint : MethodName := ⟨RX11, "isComplaint", "(I)Z"⟩
abbrev cX11_complain : ByteArray := prog_13_method_69_code
def yX11_complain : MethodName := ⟨RX11, "complain", "(II)I"⟩
abbrev cX11_areNear : ByteArray := prog_13_method_70_code
def yX11_areNear : MethodName := ⟨RX11, "areNear", "(III)Z"⟩
abbrev cX11_join : ByteArray := prog_13_method_71_code
def yX11_join : MethodName := ⟨RX11, "join", "(II)Z"⟩
abbrev cX11_findGroups : ByteArray := prog_13_method_72_code
def yX11_findGroups : MethodName := ⟨RX11, "findGroups", "()V"⟩
abbrev cX11_complaint : ByteArray := prog_13_method_73_code
def yX11_complaint : MethodName := ⟨RX11, "complaint", "(II)I"⟩
abbrev cX11_joined : ByteArray := prog_13_method_74_code
def yX11_joined : MethodName := ⟨RX11, "joined", "(II)I"⟩
abbrev cX11_groups : ByteArray := prog_13_method_75_code
def yX11_groups : MethodName := ⟨RX11, "groups", "(I)I"⟩
abbrev cX11_isSheet : ByteArray := prog_13_method_76_code
def yX11_isSheet : MethodName := ⟨RX11, "isSheet", "(I)Z"⟩
abbrev cX11_sheet : ByteArray := prog_13_method_77_code
def yX11_sheet : MethodName := ⟨RX11, "sheet", "(III)I"⟩
abbrev cX11_write : ByteArray := prog_13_method_78_code
def yX11_write : MethodName := ⟨RX11, "write", "(IIJ)J"⟩
abbrev cX11_has : ByteArray := prog_13_method_79_code
def yX11_has : MethodName := ⟨RX11, "has", "(III)Z"⟩
abbrev cX11_copy : ByteArray := prog_13_method_80_code
def yX11_copy : MethodName := ⟨RX11, "copy", "(IIIII)I"⟩
abbrev cX11_weather : ByteArray := prog_13_method_81_code
def yX11_weather : MethodName := ⟨RX11, "weather", "(I)I"⟩
abbrev cX11_read : ByteArray := prog_13_method_82_code
def yX11_read : MethodName := ⟨RX11, "read", "(I)I"⟩
abbrev cX11_image : ByteArray := prog_13_method_83_code
def yX11_image : MethodName := ⟨RX11, "image", "()I"⟩
abbrev cX11_undo : ByteArray := prog_13_method_84_code
def yX11_undo : MethodName := ⟨RX11, "undo", "()I"⟩
abbrev cX11_tear : ByteArray := prog_13_method_85_code
def yX11_tear : MethodName := ⟨RX11, "tear", "()I"⟩
abbrev cX11_fullest : ByteArray := prog_13_method_86_code
def yX11_fullest : MethodName := ⟨RX11, "fullest", "()I"⟩
abbrev cX11_flowAll : ByteArray := prog_13_method_87_code
def yX11_flowAll : MethodName := ⟨RX11, "flowAll", "()I"⟩
abbrev cX11_count : ByteArray := prog_13_method_88_code
def yX11_count : MethodName := ⟨RX11, "count", "(I)I"⟩
abbrev cX11_status : ByteArray := prog_13_method_89_code
def yX11_status : MethodName := ⟨RX11, "status", "(I)I"⟩
def RJ11 : String := "java/lang/Character"
def TJ11 : u_T := fun k => match k with
  | _ => ("", "", "", false)
def tyJ11 : Nat → FieldType := fun k => match k with
  | _ => .int
abbrev wsJ110 : List Cond := u_ws RJ11 TJ11 0
theorem nmJ11 : ∀ a, a < 0 → ∀ b, b < 0 → a ≠ b → (TJ11 a).2.1 ≠ (TJ11 b).2.1 := by decide +kernel
theorem tyJ11_ok : ∀ k, k < 0 → parseFieldDescriptor (TJ11 k).2.2.1 = some (tyJ11 k) := by decide +kernel
abbrev cJ11_isValidCodePoint_9a6ad : ByteArray := prog_14_method_11_code
def yJ11_isValidCodePoint_9a6ad : MethodName := ⟨RJ11, "isValidCodePoint", "(I)Z"⟩
abbrev cJ11_highSurrogate_5068e : ByteArray := prog_14_method_28_code
def yJ11_highSurrogate_5068e : MethodName := ⟨RJ11, "highSurrogate", "(I)C"⟩
abbrev cJ11_lowSurrogate_5068e : ByteArray := prog_14_method_29_code
def yJ11_lowSurrogate_5068e : MethodName := ⟨RJ11, "lowSurrogate", "(I)C"⟩
def RJ9 : String := "java/lang/Math"
def TJ9 : u_T := fun k => match k with
  | _ => ("", "", "", false)
def tyJ9 : Nat → FieldType := fun k => match k with
  | _ => .int
abbrev wsJ90 : List Cond := u_ws RJ9 TJ9 0
theorem nmJ9 : ∀ a, a < 0 → ∀ b, b < 0 → a ≠ b → (TJ9 a).2.1 ≠ (TJ9 b).2.1 := by decide +kernel
theorem tyJ9_ok : ∀ k, k < 0 → parseFieldDescriptor (TJ9 k).2.2.1 = some (tyJ9 k) := by decide +kernel
abbrev cJ9_abs_0f7a4 : ByteArray := prog_15_method_59_code
def yJ9_abs_0f7a4 : MethodName := ⟨RJ9, "abs", "(I)I"⟩
abbrev cJ9_max_7cf53 : ByteArray := prog_15_method_65_code
def yJ9_max_7cf53 : MethodName := ⟨RJ9, "max", "(II)I"⟩
abbrev cJ9_min_7cf53 : ByteArray := prog_15_method_69_code
def yJ9_min_7cf53 : MethodName := ⟨RJ9, "min", "(II)I"⟩
def RJ0 : String := "java/lang/String"
def TJ0 : u_T := fun k => match k with
  | _ => ("", "", "", false)
def tyJ0 : Nat → FieldType := fun k => match k with
  | _ => .int
abbrev wsJ00 : List Cond := u_ws RJ0 TJ0 0
theorem nmJ0 : ∀ a, a < 0 → ∀ b, b < 0 → a ≠ b → (TJ0 a).2.1 ≠ (TJ0 b).2.1 := by decide +kernel
theorem tyJ0_ok : ∀ k, k < 0 → parseFieldDescriptor (TJ0 k).2.2.1 = some (tyJ0 k) := by decide +kernel
abbrev cJ0_length_8abf5 : ByteArray := prog_16_method_54_code
def yJ0_length_8abf5 : MethodName := ⟨RJ0, "length", "()I"⟩
abbrev cJ0_indexOf_0f7a4 : ByteArray := prog_16_method_79_code
def yJ0_indexOf_0f7a4 : MethodName := ⟨RJ0, "indexOf", "(I)I"⟩
abbrev cJ0_indexOf_7cf53 : ByteArray := prog_16_method_80_code
def yJ0_indexOf_7cf53 : MethodName := ⟨RJ0, "indexOf", "(II)I"⟩
abbrev cJ0_coder_7d493 : ByteArray := prog_16_method_152_code
def yJ0_coder_7d493 : MethodName := ⟨RJ0, "coder", "()B"⟩
abbrev cJ0_isLatin1_aae02 : ByteArray := prog_16_method_154_code
def yJ0_isLatin1_aae02 : MethodName := ⟨RJ0, "isLatin1", "()Z"⟩
abbrev cJ0_checkBoundsBeginEnd_23922 : ByteArray := prog_16_method_158_code
def yJ0_checkBoundsBeginEnd_23922 : MethodName := ⟨RJ0, "checkBoundsBeginEnd", "(III)V"⟩
def RJ1 : String := "java/lang/StringLatin1"
def TJ1 : u_T := fun k => match k with
  | _ => ("", "", "", false)
def tyJ1 : Nat → FieldType := fun k => match k with
  | _ => .int
abbrev wsJ10 : List Cond := u_ws RJ1 TJ1 0
theorem nmJ1 : ∀ a, a < 0 → ∀ b, b < 0 → a ≠ b → (TJ1 a).2.1 ≠ (TJ1 b).2.1 := by decide +kernel
theorem tyJ1_ok : ∀ k, k < 0 → parseFieldDescriptor (TJ1 k).2.2.1 = some (tyJ1 k) := by decide +kernel
abbrev cJ1_canEncode_9a6ad : ByteArray := prog_17_method_4_code
def yJ1_canEncode_9a6ad : MethodName := ⟨RJ1, "canEncode", "(I)Z"⟩
abbrev cJ1_indexOf_4cfef : ByteArray := prog_17_method_22_code
def yJ1_indexOf_4cfef : MethodName := ⟨RJ1, "indexOf", "([BIII)I"⟩
abbrev cJ1_indexOfChar_4cfef : ByteArray := prog_17_method_23_code
def yJ1_indexOfChar_4cfef : MethodName := ⟨RJ1, "indexOfChar", "([BIII)I"⟩
def RJ2 : String := "java/lang/StringUTF16"
def TJ2 : u_T := fun k => match k with
  | _ => ("", "", "", false)
def tyJ2 : Nat → FieldType := fun k => match k with
  | _ => .int
abbrev wsJ20 : List Cond := u_ws RJ2 TJ2 0
theorem nmJ2 : ∀ a, a < 0 → ∀ b, b < 0 → a ≠ b → (TJ2 a).2.1 ≠ (TJ2 b).2.1 := by decide +kernel
theorem tyJ2_ok : ∀ k, k < 0 → parseFieldDescriptor (TJ2 k).2.2.1 = some (tyJ2 k) := by decide +kernel
abbrev cJ2_getChar_3b067 : ByteArray := prog_18_method_5_code
def yJ2_getChar_3b067 : MethodName := ⟨RJ2, "getChar", "([BI)C"⟩
abbrev cJ2_length_9d52b : ByteArray := prog_18_method_6_code
def yJ2_length_9d52b : MethodName := ⟨RJ2, "length", "([B)I"⟩
abbrev cJ2_indexOf_4cfef : ByteArray := prog_18_method_40_code
def yJ2_indexOf_4cfef : MethodName := ⟨RJ2, "indexOf", "([BIII)I"⟩
abbrev cJ2_indexOfChar_4cfef : ByteArray := prog_18_method_47_code
def yJ2_indexOfChar_4cfef : MethodName := ⟨RJ2, "indexOfChar", "([BIII)I"⟩
abbrev cJ2_indexOfCharUnsafe_4cfef : ByteArray := prog_18_method_48_code
def yJ2_indexOfCharUnsafe_4cfef : MethodName := ⟨RJ2, "indexOfCharUnsafe", "([BIII)I"⟩
abbrev cJ2_indexOfSupplementary_4cfef : ByteArray := prog_18_method_49_code
def yJ2_indexOfSupplementary_4cfef : MethodName := ⟨RJ2, "indexOfSupplementary", "([BIII)I"⟩
abbrev cJ2_checkBoundsBeginEnd_d044e : ByteArray := prog_18_method_93_code
def yJ2_checkBoundsBeginEnd_d044e : MethodName := ⟨RJ2, "checkBoundsBeginEnd", "(II[B)V"⟩
def RJ10 : String := "java/lang/System"
def TJ10 : u_T := fun k => match k with
  | _ => ("", "", "", false)
def tyJ10 : Nat → FieldType := fun k => match k with
  | _ => .int
abbrev wsJ100 : List Cond := u_ws RJ10 TJ10 0
theorem nmJ10 : ∀ a, a < 0 → ∀ b, b < 0 → a ≠ b → (TJ10 a).2.1 ≠ (TJ10 b).2.1 := by decide +kernel
theorem tyJ10_ok : ∀ k, k < 0 → parseFieldDescriptor (TJ10 k).2.2.1 = some (tyJ10 k) := by decide +kernel
def RJ3 : String := "jdk/internal/util/Preconditions"
def TJ3 : u_T := fun k => match k with
  | _ => ("", "", "", false)
def tyJ3 : Nat → FieldType := fun k => match k with
  | _ => .int
abbrev wsJ30 : List Cond := u_ws RJ3 TJ3 0
theorem nmJ3 : ∀ a, a < 0 → ∀ b, b < 0 → a ≠ b → (TJ3 a).2.1 ≠ (TJ3 b).2.1 := by decide +kernel
theorem tyJ3_ok : ∀ k, k < 0 → parseFieldDescriptor (TJ3 k).2.2.1 = some (tyJ3 k) := by decide +kernel
abbrev cJ3_checkFromToIndex_8c36e : ByteArray := prog_20_method_12_code
def yJ3_checkFromToIndex_8c36e : MethodName := ⟨RJ3, "checkFromToIndex", "(IIILjava/util/function/BiFunction;)I"⟩
def RL : String := "WarmthSharedLaw"
abbrev cL_law : ByteArray := code
def yL_law : MethodName := ⟨RL, "law", "([I)Z"⟩
abbrev vwCl : List vw_C := [(RX0, TX0, 7), (RX1, TX1, 5), (RX2, TX2, 14), (RX3, TX3, 5), (RX4, TX4, 12), (RX5, TX5, 4), (RX6, TX6, 3), (RX7, TX7, 4), (RX8, TX8, 3), (RX9, TX9, 2), (RX10, TX10, 14), (RX11, TX11, 43)]

theorem mzO_a (c : ClassId) (h : Nat) : mzO c h 4 = arrV c 4 (fun j => va_rf (if j < 4 then some (h + 1 + j) else none)) := by
  have e : (mzO c h 4).slots = (arrV c 4 (fun j => va_rf (if j < 4 then some (h + 1 + j) else none))).slots := by
    apply Array.ext_getElem?
    intro j
    rcases Nat.lt_or_ge j 4 with z | z
    · rw [mzO_s c h 4 j z, arrV_read c _ z, if_pos z, if_pos z]
      rfl
    · rw [Array.getElem?_eq_none (by rw [(mzO_f c h 4).2.2]; exact z), Array.getElem?_eq_none (by rw [arrV_size]; exact z)]
  have e2 : mzO c h 4 = { cls := c, slots := (mzO c h 4).slots } := rfl
  rw [e2, e]
  rfl
section NROWS2
variable {p : Program} {l : Launch} {e : Env} {R : Room} {s : State} {m : MethodId} {args : Array Value} {below : List Frame} {meth : Method} {c : Code} {H : Heap} {locs : List Loc} {cells slots : Nat} {Q : State → Prop} {D : va_G} {ca : Nat → ClassId} {A : Nat → Prop} {cc : ByteArray} {own : String} {nL : Nat} {pc : Nat} {ls : Array Slot} {rest : List Value} {ws : va_W}
theorem n_iast {a q0 n : Nat} {f : Nat → Int32} {i x : Int32} (C : Cn D ca A p s m c args own cc nL) (S : Sn D A s ws H locs) (ha : ws[q0]? = some (a, .inl (ca 0, n, .inl f))) (hin : vp_in i n) (hdg : decode cc pc = .ok (.iastore, 1)) (kk : ∀ (H1 : Heap) (locs1 : List Loc), Sn D A s (ws.set q0 (a, .inl (ca 0, n, .inl (upd f i.toNatClampNeg x)))) H1 locs1 → W p l e R s m args below meth c H1 locs1 cells slots Q (F0 m (pc + 1) ls rest)) : W p l e R s m args below meth c H locs cells slots Q (F0 m pc ls (.int x :: .int i :: .ref a :: rest)) :=
  va_iast C.1 C.2.1 C.2.2.2.2.2.1.1 S.1 S.2.1 S.2.2 q0 0 ha rfl hin hdg (fun H1 locs1 hP hD hS => kk H1 locs1 ⟨hP, hD, hS⟩)
theorem n_astq {a q0 qk n v : Nat} {vs : List Value} {f : Nat → Option Nat} {i : Int32} (C : Cn D ca A p s m c args own cc nL) (S : Sn D A s ws H locs) (ha : ws[q0]? = some (a, .inl (ca 2, n, .inr (.inr (.inr (.inr f)))))) (hv : ws[qk]? = some (v, .inr (4, vs))) (hin : vp_in i n) (hdg : decode cc pc = .ok (.aastore, 1)) (kk : ∀ (H1 : Heap) (locs1 : List Loc), Sn D A s (ws.set q0 (a, .inl (ca 2, n, .inr (.inr (.inr (.inr (va_up f i.toNatClampNeg (some v)))))))) H1 locs1 → W p l e R s m args below meth c H1 locs1 cells slots Q (F0 m (pc + 1) ls rest)) : W p l e R s m args below meth c H locs cells slots Q (F0 m pc ls (.ref v :: .int i :: .ref a :: rest)) :=
  va_astq (r := (RX4, TX4, 12)) C.1 C.2.1 C.2.2.2.2.2.1.1 S.1 S.2.1 S.2.2 q0 2 qk 4 ha rfl hv rfl hin hdg (fun H1 locs1 hP hD hS => kk H1 locs1 ⟨hP, hD, hS⟩)
abbrev mzW (ca : Nat → ClassId) (q : Nat) : va_W := [(q, .inl (ca 3, 4, .inr (.inr (.inr (.inr (fun j => if j < 4 then some (q + 1 + j) else none)))))), (q + 1 + 0, .inl (ca 1, 40, .inr (.inl (fun _ => 0)))), (q + 1 + 1, .inl (ca 1, 40, .inr (.inl (fun _ => 0)))), (q + 1 + 2, .inl (ca 1, 40, .inr (.inl (fun _ => 0)))), (q + 1 + 3, .inl (ca 1, 40, .inr (.inl (fun _ => 0))))]
theorem mzW_at {ca : Nat → ClassId} {q k : Nat} {x : Nat × va_E} (h : (mzW ca q)[k]? = some x) : k < 5 ∧ x.1 = q + k := by
  have hk : k < 5 := (List.getElem?_eq_some_iff.mp h).1
  rcases (by omega : k = 0 ∨ k = 1 ∨ k = 2 ∨ k = 3 ∨ k = 4) with z | z | z | z | z <;> subst z <;> cases h <;> exact ⟨by decide, rfl⟩
theorem n_multi {index : Nat} (C : Cn D ca A p s m c args own cc nL) (S : Sn D A s ws H locs) (hcl : Cond.classLink own index "[[J" ∈ BIG) (hcells : cells + 5 ≤ R.cells) (hslots : slots + 164 ≤ R.slots) (hdg : decode cc pc = .ok (.multianewarray index 2, 4)) (kk : ∀ (q : Nat) (H1 : Heap), Sn D A s (ws ++ mzW ca q) H1 locs → W p l e R s m args below meth c H1 locs (cells + 5) (slots + 164) Q (F0 m (pc + 4) ls (.ref q :: rest))) : W p l e R s m args below meth c H locs cells slots Q (F0 m pc ls (.int 40 :: .int 4 :: rest)) := by
  refine w_multi C.1 C.2.1 C.2.2.2.1 (C.2.2.2.2.1 _ hcl) C.2.2.2.2.2.1 hdg hcells hslots (fun H1 z o e0 ei => kk H.size H1 ⟨?_, ?_, ?_⟩)
  · refine (S.1.kept fun k q hq => o q.1 (S.1 k q hq).lt).app fun k x hx => ?_
    have hk : k < 5 := (List.getElem?_eq_some_iff.mp hx).1
    rcases (by omega : k = 0 ∨ k = 1 ∨ k = 2 ∨ k = 3 ∨ k = 4) with q | q | q | q | q <;> subst q <;> cases hx
    · show H1[H.size]? = some (vp_cell _ _)
      rw [e0, vp_cell_q, mzO_a]
    · show H1[H.size + 1 + 0]? = some (vp_cell _ _)
      rw [ei 0 (by decide), vp_cell_l, ← arrV_new]
      rfl
    · show H1[H.size + 1 + 1]? = some (vp_cell _ _)
      rw [ei 1 (by decide), vp_cell_l, ← arrV_new]
      rfl
    · show H1[H.size + 1 + 2]? = some (vp_cell _ _)
      rw [ei 2 (by decide), vp_cell_l, ← arrV_new]
      rfl
    · show H1[H.size + 1 + 3]? = some (vp_cell _ _)
      rw [ei 3 (by decide), vp_cell_l, ← arrV_new]
      rfl
  · refine va_D.app S.2.1 ⟨fun i j x y hx hy hxy => ?_, fun k x hx => C.2.2.2.2.2.2 _ ?_⟩ fun i j x y hx hy hxy => ?_
    · have h1 := mzW_at hx
      have h2 := mzW_at hy
      omega
    · have h1 := mzW_at hx
      have := S.2.2.1
      omega
    · have h1 := (S.1 i x hx).lt
      have h2 := mzW_at hy
      omega
  · exact ⟨by have := S.2.2.1; omega, fun x h1 h2 => (o x (Nat.lt_of_lt_of_le h1 S.2.2.1)).trans (S.2.2.2.1 x h1 h2), S.2.2.2.2⟩
end NROWS2

section LAWLOOP
variable {p : Program} {l : Launch} {e : Env} {s : State} {m : MethodId} {below : List Frame} {meth : Method} {c : Code} {D : va_G} {ad sx : Nat → Nat} {ca : Nat → ClassId} {b L : Nat} {xs : Nat → Int32}
theorem lw_head {w : Wd} {H : Heap} {locs : List Loc} {ls : Array Slot} (X : Lw D ad sx ca p s m c b L xs) (hr : meth.sig.returnType = ret) (hlocks : meth.locks = false) (hA : ∀ q, Aad ad q → s.heap.size ≤ q) (S : St D ad ca s w H locs) (hI : Inv w) {i : Nat} (hi : i ≤ 1000) (hl : lv_has ls 4 (lvL ad b i)) (kk : i + 6 ≤ L → ∀ (w2 : Wd) (H1 : Heap) (locs1 : List Loc) (ls1 : Array Slot), Inv w2 → St D ad ca s w2 H1 locs1 → lv_has ls1 4 (lvL ad b (i + 6)) → WL p l e s m b below meth c H1 locs1 (lw_Z below #[Value.ref b] s) (F0 m 18 ls1 [])) : WL p l e s m b below meth c H locs (lw_Z below #[Value.ref b] s) (F0 m 18 ls []) := by
  have hL := X.2.2.2.2
  have k6 : (6 : Int32).toInt = 6 := by decide
  have e6 : (nI L - 6).toInt = (L : Int) - 6 := by
    rw [i_sub, nI_toInt (by omega), k6]
    · rw [nI_toInt (by omega), k6]; omega
    · rw [nI_toInt (by omega), k6]; omega
  refine lv_iload_n X.1.1 X.1.2.1 dL_18 rfl (lv_at hl 0 rfl) ?_
  refine lv_aload_n X.1.1 X.1.2.1 dL_19 rfl (lv_at hl 3 rfl) ?_
  refine va_slen X.1.1 X.1.2.1 X.2.1 X.2.2.1 X.2.2.2.1 S.2 dL_20 ?_
  refine lv_bipush (v := 6) X.1.1 X.1.2.1 dL_21 (by decide) ?_
  refine lv_isub X.1.1 X.1.2.1 dL_23 ?_
  refine lv_icmp_gt (tgt := 1393) X.1.1 X.1.2.1 dL_24 (by decide) (fun q => ?_) (fun q => ?_)
  · refine lv_iconst (v := 1) X.1.1 X.1.2.1 dL_1393 (by decide) ?_
    refine va_forget (fun x hx => hA _ (S.2.2.2 x hx)) ?_
    exact lw_ret X.1.1 X.1.2.1 hr hlocks dL_1394
  · have hi6 : i + 6 ≤ L := by
      have q2 : ¬ (nI L - 6) < nI i := q
      rw [i_lt, e6, nI_toInt (by omega)] at q2
      omega
    refine lv_aload_n X.1.1 X.1.2.1 dL_27 rfl (lv_at hl 3 rfl) ?_
    refine lv_iload_n X.1.1 X.1.2.1 dL_28 rfl (lv_at hl 0 rfl) ?_
    refine va_sld X.1.1 X.1.2.1 X.2.1 X.2.2.1 X.2.2.2.1 S.2 (vp_in_nI (show i < L by omega) (by omega)) dL_29 ?_
    refine lv_bipush (v := 63) X.1.1 X.1.2.1 dL_30 (by decide) ?_
    refine lv_iand X.1.1 X.1.2.1 dL_32 ?_
    refine lw_body X S hI hl hi6 (fun w2 H1 locs1 hI2 S2 => ?_) _
    refine lv_iinc (v := nI (i + 6)) (lv' := lvL ad b (i + 6)) X.1.1 X.1.2.1 dL_1387 hl (k := 0) rfl (by rw [← nI_add]; rfl) (by decide) rfl (fun ls1 hl1 => ?_)
    refine lv_goto (tgt := 18) X.1.1 X.1.2.1 dL_1390 (by decide) ?_
    exact kk hi6 w2 H1 locs1 ls1 hI2 S2 hl1
theorem lw_loop (X : Lw D ad sx ca p s m c b L xs) (hr : meth.sig.returnType = ret) (hlocks : meth.locks = false) (hA : ∀ q, Aad ad q → s.heap.size ≤ q) : ∀ (n i : Nat) (w : Wd) (H : Heap) (locs : List Loc) (ls : Array Slot), L ≤ i + n → i ≤ 1000 → St D ad ca s w H locs → Inv w → lv_has ls 4 (lvL ad b i) → WL p l e s m b below meth c H locs (lw_Z below #[Value.ref b] s) (F0 m 18 ls [])
  | 0, i, w, H, locs, ls, h1, h2, S, hI, hl => lw_head X hr hlocks hA S hI h2 hl (fun h => absurd h (by omega))
  | n + 1, i, w, H, locs, ls, h1, h2, S, hI, hl => lw_head X hr hlocks hA S hI h2 hl (fun h w2 H1 locs1 ls1 hI2 S2 hl1 => lw_loop X hr hlocks hA n (i + 6) w2 H1 locs1 ls1 (by omega) (by have := X.2.2.2.2; omega) S2 hI2 hl1)
end LAWLOOP

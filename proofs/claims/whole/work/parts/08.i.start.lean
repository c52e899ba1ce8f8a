theorem s_0_21 : Cond.instantiable RX10 14 ∈ BIG := tb_in (i := 21) tb_c0 (by decide +kernel) rfl
theorem s_4_5 : Cond.instantiable RX11 43 ∈ BIG := tb_in (i := 5) tb_c4 (by decide +kernel) rfl
theorem s_0_20 : Cond.classLink RL 7 RX10 ∈ BIG := tb_in (i := 20) tb_c0 (by decide +kernel) rfl
theorem s_0_22 : Cond.methodLink RL 9 yX10_init ∈ BIG := tb_in (i := 22) tb_c0 (by decide +kernel) rfl
theorem s_0_23 : Cond.instanceMethod yX10_init ∈ BIG := tb_in (i := 23) tb_c0 (by decide +kernel) rfl
theorem s_0_24 : Cond.code yX10_init cX10_init 1 none ∈ BIG := tb_in (i := 24) tb_c0 (rfl) rfl
theorem s_4_4 : Cond.classLink RL 10 RX11 ∈ BIG := tb_in (i := 4) tb_c4 (by decide +kernel) rfl
theorem s_4_6 : Cond.methodLink RL 12 yX11_init ∈ BIG := tb_in (i := 6) tb_c4 (by decide +kernel) rfl
theorem s_4_7 : Cond.instanceMethod yX11_init ∈ BIG := tb_in (i := 7) tb_c4 (by decide +kernel) rfl
theorem s_4_8 : Cond.code yX11_init cX11_init 1 none ∈ BIG := tb_in (i := 8) tb_c4 (rfl) rfl
theorem tb_l {c : List Cond} {w : Cond} {i : Nat} (hc : ∀ w ∈ c, w ∈ tables_1) (h : c[i]? = some w) : w ∈ lw_tbl := List.mem_append_right _ (hc w (List.mem_of_getElem? h))
theorem l_un : Cond.laysStatic RX10 "UNDER" "[I" ∈ lw_tbl := (tb_l (i := 226) tb_c1 (by decide +kernel))
theorem l_cs : Cond.laysStatic "java/lang/String" "COMPACT_STRINGS" "Z" ∈ lw_tbl := (tb_l (i := 125) tb_c2 (by decide +kernel))
theorem l_sr : Cond.stringRef RX5 97 "utgwkfrp" ∈ lw_tbl := (tb_l (i := 111) tb_c2 (by decide +kernel))
theorem l_is : Cond.initialized "java/lang/String" ∈ lw_tbl := (tb_l (i := 14) tb_c0 (by decide +kernel))
theorem l_i10 : Cond.initialized RX10 ∈ lw_tbl := (tb_l (i := 1) tb_c0 (by decide +kernel))
theorem l_ao : Cond.arrayOver (.object RX4) ∈ lw_tbl := (tb_l (i := 41) tb_c0 (by decide +kernel))
theorem l_al : Cond.arrayOver (.array .long) ∈ lw_tbl := (tb_l (i := 97) tb_c1 (by decide +kernel))
theorem l_n0 : Cond.methodLinkNest "WarmthShared" 9 ⟨"WarmthShared$State", "<init>", "()V"⟩ "WarmthShared" ∈ lw_tbl := (tb_l (i := 30) tb_c0 (by decide +kernel))
theorem l_n1 : Cond.methodLinkNest "WarmthShared$Block" 37 ⟨"WarmthShared$Flat", "<init>", "()V"⟩ "WarmthShared" ∈ lw_tbl := (tb_l (i := 43) tb_c0 (by decide +kernel))
theorem l_n2 : Cond.methodLinkNest "WarmthShared$State" 18 ⟨"WarmthShared$Text", "<init>", "()V"⟩ "WarmthShared" ∈ lw_tbl := (tb_l (i := 158) tb_c0 (by decide +kernel))
theorem l_n3 : Cond.methodLinkNest "WarmthShared$State" 25 ⟨"WarmthShared$Complaints", "<init>", "()V"⟩ "WarmthShared" ∈ lw_tbl := (tb_l (i := 174) tb_c0 (by decide +kernel))
theorem l_n4 : Cond.methodLinkNest "WarmthShared" 40 ⟨"WarmthShared$Text", "<init>", "()V"⟩ "WarmthShared" ∈ lw_tbl := (tb_l (i := 213) tb_c0 (by decide +kernel))
theorem l_n5 : Cond.methodLinkNest "WarmthShared" 58 ⟨"WarmthShared$Split", "<init>", "()V"⟩ "WarmthShared" ∈ lw_tbl := (tb_l (i := 235) tb_c0 (by decide +kernel))
theorem l_n6 : Cond.methodLinkNest "WarmthShared" 65 ⟨"WarmthShared$Course", "<init>", "()V"⟩ "WarmthShared" ∈ lw_tbl := (tb_l (i := 14) tb_c1 (by decide +kernel))
theorem l_n7 : Cond.methodLinkNest "WarmthShared" 81 ⟨"WarmthShared$Sheets", "<init>", "()V"⟩ "WarmthShared" ∈ lw_tbl := (tb_l (i := 92) tb_c1 (by decide +kernel))
theorem l_n8 : Cond.methodLinkNest "WarmthShared$Block" 42 ⟨"WarmthShared", "within", "(III)Z"⟩ "WarmthShared" ∈ lw_tbl := (tb_l (i := 184) tb_c1 (by decide +kernel))
theorem l_n9 : Cond.methodLinkNest "WarmthShared$RuleReader" 104 ⟨"WarmthShared", "within", "(III)Z"⟩ "WarmthShared" ∈ lw_tbl := (tb_l (i := 194) tb_c2 (by decide +kernel))
theorem l_n10 : Cond.methodLinkNest "WarmthShared$Split" 25 ⟨"WarmthShared", "within", "(III)Z"⟩ "WarmthShared" ∈ lw_tbl := (tb_l (i := 15) tb_c3 (by decide +kernel))
theorem l_n11 : Cond.methodLinkNest "WarmthShared$Split" 29 ⟨"WarmthShared", "bit", "(Z)I"⟩ "WarmthShared" ∈ lw_tbl := (tb_l (i := 16) tb_c3 (by decide +kernel))
theorem l_n12 : Cond.methodLinkNest "WarmthShared$Course" 107 ⟨"WarmthShared", "feeling", "(II)I"⟩ "WarmthShared" ∈ lw_tbl := (tb_l (i := 81) tb_c3 (by decide +kernel))
theorem l_n13 : Cond.methodLinkNest "WarmthShared$Block" 108 ⟨"WarmthShared", "bit", "(Z)I"⟩ "WarmthShared" ∈ lw_tbl := (tb_l (i := 230) tb_c3 (by decide +kernel))
theorem l_nq : ∀ q ∈ NQ, Cond.methodLinkNest q.1 q.2.1 q.2.2.1 q.2.2.2 ∈ lw_tbl := List.forall_mem_cons.mpr ⟨l_n0, List.forall_mem_cons.mpr ⟨l_n1, List.forall_mem_cons.mpr ⟨l_n2, List.forall_mem_cons.mpr ⟨l_n3, List.forall_mem_cons.mpr ⟨l_n4, List.forall_mem_cons.mpr ⟨l_n5, List.forall_mem_cons.mpr ⟨l_n6, List.forall_mem_cons.mpr ⟨l_n7, List.forall_mem_cons.mpr ⟨l_n8, List.forall_mem_cons.mpr ⟨l_n9, List.forall_mem_cons.mpr ⟨l_n10, List.forall_mem_cons.mpr ⟨l_n11, List.forall_mem_cons.mpr ⟨l_n12, List.forall_mem_cons.mpr ⟨l_n13, fun _ h => absurd h List.not_mem_nil⟩⟩⟩⟩⟩⟩⟩⟩⟩⟩⟩⟩⟩⟩
theorem cls_of {s : State} {args : Array Value} (hB : ∀ w ∈ BIG, w.before args s = true) : ∃ D : va_G, ∀ (k : Nat) (q : vw_C), vwCl[k]? = some q → u_Kn s q.1 q.2.1 q.2.2 (D.1 k) (D.2 k) := by
  have H : ∀ k : Nat, ∃ z : ClassId × (Nat → Nat), ∀ q : vw_C, vwCl[k]? = some q → u_Kn s q.1 q.2.1 q.2.2 z.1 z.2 := by
    intro k
    rcases Nat.lt_or_ge k 12 with h | h
    · rcases (by omega : k = 0 ∨ k = 1 ∨ k = 2 ∨ k = 3 ∨ k = 4 ∨ k = 5 ∨ k = 6 ∨ k = 7 ∨ k = 8 ∨ k = 9 ∨ k = 10 ∨ k = 11) with e | e | e | e | e | e | e | e | e | e | e | e <;> subst e
      · obtain ⟨c, i, hk⟩ := u_known hB cf_0.2.1 (hB _ w_0_35)
        exact ⟨(c, i), fun q hq => by cases hq; exact hk⟩
      · obtain ⟨c, i, hk⟩ := u_known hB cf_1.2.1 (hB _ w_0_173)
        exact ⟨(c, i), fun q hq => by cases hq; exact hk⟩
      · obtain ⟨c, i, hk⟩ := u_known hB cf_2.2.1 (hB _ w_1_13)
        exact ⟨(c, i), fun q hq => by cases hq; exact hk⟩
      · obtain ⟨c, i, hk⟩ := u_known hB cf_3.2.1 (hB _ w_1_69)
        exact ⟨(c, i), fun q hq => by cases hq; exact hk⟩
      · obtain ⟨c, i, hk⟩ := u_known hB cf_4.2.1 (hB _ w_0_42)
        exact ⟨(c, i), fun q hq => by cases hq; exact hk⟩
      · obtain ⟨c, i, hk⟩ := u_known hB cf_5.2.1 (hB _ w_0_215)
        exact ⟨(c, i), fun q hq => by cases hq; exact hk⟩
      · obtain ⟨c, i, hk⟩ := u_known hB cf_6.2.1 (hB _ w_1_91)
        exact ⟨(c, i), fun q hq => by cases hq; exact hk⟩
      · obtain ⟨c, i, hk⟩ := u_known hB cf_7.2.1 (hB _ w_0_234)
        exact ⟨(c, i), fun q hq => by cases hq; exact hk⟩
      · obtain ⟨c, i, hk⟩ := u_known hB cf_8.2.1 (hB _ w_0_29)
        exact ⟨(c, i), fun q hq => by cases hq; exact hk⟩
      · obtain ⟨c, i, hk⟩ := u_known hB cf_9.2.1 (hB _ w_0_157)
        exact ⟨(c, i), fun q hq => by cases hq; exact hk⟩
      · obtain ⟨c, i, hk⟩ := u_known hB cf_10.2.1 (hB _ s_0_21)
        exact ⟨(c, i), fun q hq => by cases hq; exact hk⟩
      · obtain ⟨c, i, hk⟩ := u_known hB cf_11.2.1 (hB _ s_4_5)
        exact ⟨(c, i), fun q hq => by cases hq; exact hk⟩
    · exact ⟨(0, fun _ => 0), fun q hq => by
        rw [List.getElem?_eq_none (show vwCl.length ≤ k from h)] at hq
        cases hq⟩
  obtain ⟨f, hf⟩ := Classical.skolem.mp H
  exact ⟨(fun k => (f k).1, fun k => (f k).2), fun k q hq => hf k q hq⟩

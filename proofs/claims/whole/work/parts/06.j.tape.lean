theorem op_wipe {w : Wd} (h : Inv w) : Op f_X10_wipe f_X11_wipe w := by
  obtain ⟨t, t1, t2, t3, t4⟩ := h.2.1
  refine ⟨nI t, si w 7 1 0, si (si w 7 1 0) 76 18 0, ?_, ?_, Inv_rule h ((AgL.rf.si (by decide)).si (by decide)) ((AgL.rf.si (by decide)).si (by decide)) ((AgL.rf.si (by decide)).si (by decide)) ((AgL.rf.si (by decide)).si (by decide)) rfl ?_ (fun j hj => ?_) (fun y _ _ => ?_) ?_ ?_⟩
  · unfold f_X10_wipe
    rw [lw_e, t2]
  · unfold f_X11_wipe
    rw [lw_e, si_n (by decide), t3]
  · rw [si_n (by decide), si_n (by decide)]
  · rw [si_o (by omega), si_n (by decide)]
  · rw [si_n (by decide), si_n (by decide)]
  · refine ⟨0, by decide, ?_, si_s, fun i hi0 => absurd hi0 (Nat.not_lt_zero _)⟩
    rw [si_n (by decide), si_s]
    rfl
  · rw [si_n (by decide), si_n (by decide), si_n (by decide), si_n (by decide), si_n (by decide), si_n (by decide)]
    obtain ⟨n, hh, c, -, -, hR⟩ := h.b
    exact hR
theorem op_plain {w : Wd} (h : Inv w) : Op f_X10_plain f_X11_plain w := by
  obtain ⟨n, hh, c, hB, hC, s, t, r1, r2, r3, r4, r5, r6, r7⟩ := h.b
  have fin : Inv (si (si w 5 1 0) 77 6 0) := by
    refine Inv_rule h ((AgL.rf.si (by decide)).si (by decide)) ((AgL.rf.si (by decide)).si (by decide)) ((AgL.rf.si (by decide)).si (by decide)) ((AgL.rf.si (by decide)).si (by decide)) rfl ?_ (fun j hj => ?_) (fun y _ h6 => ?_) ?_ ?_
    · rw [si_n (by decide), si_n (by decide)]
    · rw [si_n (by decide), si_n (by decide)]
    · rw [si_o h6, si_n (by decide)]
    · exact IT_l h.2.1 ((AgL.rf.si (by decide)).si (by decide)) (by rw [si_n (by decide), si_n (by decide)])
    · refine ⟨0, 0, by decide, by decide, ?_, si_s, fun i hi0 => absurd hi0 (Nat.not_lt_zero _), fun _ => rfl, fun q => absurd q (Nat.lt_irrefl 0)⟩
      rw [si_n (by decide), si_s]
      rfl
  have e77 : (si w 5 1 0).1 77 6 = nI t := by rw [si_n (by decide)]; exact r4
  rcases Nat.eq_zero_or_pos s with z | z
  · have z2 := r6 z
    subst z z2
    refine ⟨0, si w 5 1 0, si (si w 5 1 0) 77 6 0, ?_, ?_, fin⟩
    · unfold f_X10_plain f_X10_isRuled
      rw [r3, if_pos (show nI 0 ≤ (0 : Int32) from nle' 0)]
      rfl
    · unfold f_X11_plain
      rw [e77, if_pos (show nI 0 ≤ (0 : Int32) from nle' 0)]
      rfl
  · have z2 := (r7 z).1
    refine ⟨1, si w 5 1 0, si (si w 5 1 0) 77 6 0, ?_, ?_, fin⟩
    · unfold f_X10_plain f_X10_isRuled
      rw [r3, if_neg (show ¬ nI s ≤ (0 : Int32) from nle z (by omega))]
      rfl
    · unfold f_X11_plain
      rw [e77, if_neg (show ¬ nI t ≤ (0 : Int32) from nle z2 (by omega))]
      rfl
def byt (v : Int32) (i : Nat) : Int32 := (v >>> ((8 * nI i) &&& 31)) &&& 255
theorem byt_u (v : Int32) : ∀ i, i < 4 → ((v.toUInt32 >>> ((8 * nI i).toUInt32 &&& Int32.toUInt32 31)).toInt32) &&& 255 = byt v i := by
  intro i hi0
  have hc : i = 0 ∨ i = 1 ∨ i = 2 ∨ i = 3 := by omega
  unfold byt
  apply Int32.toBitVec_inj.mp
  rcases hc with rfl | rfl | rfl | rfl
  · show (v.toBitVec >>> (0 : Nat)) &&& 255#32 = (v.toBitVec.sshiftRight 0) &&& 255#32
    simp
  · show (v.toBitVec >>> (8 : Nat)) &&& 255#32 = (v.toBitVec.sshiftRight 8) &&& 255#32
    apply BitVec.eq_of_getLsbD_eq
    intro j hj
    have e : (255#32 : BitVec 32).getLsbD j = decide (j < 8) := (by decide : ∀ j, j < 32 → (255#32 : BitVec 32).getLsbD j = decide (j < 8)) j hj
    rw [BitVec.getLsbD_and, BitVec.getLsbD_and, e, BitVec.getLsbD_sshiftRight, BitVec.getLsbD_ushiftRight]
    by_cases q : j < 8
    · rw [if_pos (by omega)]
      simp_all
    · simp [q]
  · show (v.toBitVec >>> (16 : Nat)) &&& 255#32 = (v.toBitVec.sshiftRight 16) &&& 255#32
    apply BitVec.eq_of_getLsbD_eq
    intro j hj
    have e : (255#32 : BitVec 32).getLsbD j = decide (j < 8) := (by decide : ∀ j, j < 32 → (255#32 : BitVec 32).getLsbD j = decide (j < 8)) j hj
    rw [BitVec.getLsbD_and, BitVec.getLsbD_and, e, BitVec.getLsbD_sshiftRight, BitVec.getLsbD_ushiftRight]
    by_cases q : j < 8
    · rw [if_pos (by omega)]
      simp_all
    · simp [q]
  · show (v.toBitVec >>> (24 : Nat)) &&& 255#32 = (v.toBitVec.sshiftRight 24) &&& 255#32
    apply BitVec.eq_of_getLsbD_eq
    intro j hj
    have e : (255#32 : BitVec 32).getLsbD j = decide (j < 8) := (by decide : ∀ j, j < 32 → (255#32 : BitVec 32).getLsbD j = decide (j < 8)) j hj
    rw [BitVec.getLsbD_and, BitVec.getLsbD_and, e, BitVec.getLsbD_sshiftRight, BitVec.getLsbD_ushiftRight]
    by_cases q : j < 8
    · rw [if_pos (by omega)]
      simp_all
    · simp [q]
theorem and255 (x : Int32) : ∃ b, b < 256 ∧ x &&& 255 = nI b := by
  refine ⟨x.toBitVec.toNat % 256, Nat.mod_lt _ (by decide), ?_⟩
  apply Int32.toBitVec_inj.mp
  show x.toBitVec &&& 255#32 = (nI (x.toBitVec.toNat % 256)).toBitVec
  apply BitVec.eq_of_toNat_eq
  rw [BitVec.toNat_and]
  show x.toBitVec.toNat &&& 255 = _
  have e : x.toBitVec.toNat &&& 255 = x.toBitVec.toNat % 256 := Nat.and_two_pow_sub_one_eq_mod x.toBitVec.toNat 8
  rw [e]
  unfold nI
  rw [Int32.toBitVec_ofNat', BitVec.toNat_ofNat, Nat.mod_eq_of_lt (Nat.lt_of_lt_of_le (Nat.mod_lt _ (by decide)) (by decide))]

theorem fsP_Q {own : Int32} {Q : Nat → Bool} : ∀ {m v : Nat}, ff (fsP own Q) m = some v → v < m ∧ Q v = true ∧ nI v ≠ own
  | 0, v, e => by cases e
  | m + 1, v, e => by
    have e2 : (ff (fsP own Q) m).or (fsP own Q m) = some v := e
    rcases hq : ff (fsP own Q) m with - | x
    · rw [hq] at e2
      have e3 : fsP own Q m = some v := e2
      unfold fsP at e3
      split at e3
      · cases e3
      · split at e3
        · cases e3
          exact ⟨by omega, by assumption, by assumption⟩
        · cases e3
    · rw [hq] at e2
      cases e2
      have := fsP_Q hq
      exact ⟨by omega, this.2⟩
theorem ff_b {β : Type} {own : Int32} {R : Nat → Option Nat} {F : Nat → Nat → β} : ∀ m, ff (fun v => if nI v = own then none else (R v).map (F v)) m = (ff (fsP own (fun v => (R v).isSome)) m).bind (fun v => (R v).map (F v))
  | 0 => rfl
  | m + 1 => by
    show (ff _ m).or _ = ((ff _ m).or (fsP own (fun v => (R v).isSome) m)).bind _
    rw [ff_b m]
    rcases hq : ff (fsP own (fun v => (R v).isSome)) m with - | x
    · show (if nI m = own then none else (R m).map (F m)) = (fsP own (fun v => (R v).isSome) m).bind _
      unfold fsP
      by_cases q : nI m = own
      · rw [if_pos q, if_pos q]
        rfl
      · rw [if_neg q, if_neg q]
        rcases hr : R m with - | y
        · simp [hr]
        · simp [hr]
    · have := (fsP_Q hq).2.1
      rcases hr : R x with - | y
      · rw [hr] at this
        cases this
      · simp [hr]

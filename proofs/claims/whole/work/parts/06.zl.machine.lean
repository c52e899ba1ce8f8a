/-! the reference's reader as a machine of lists, and what it does beside the mathematical reader -/
abbrev Mc : Type := Bool × Nat × List Int32 × Int32 × List Int32 × Bool
def stl (t : Int32) : List Int32 → List Int32 → List Int32 × List Int32
  | [], E => ([], E)
  | c :: S, E => if c < t then (c :: S, E) else stl t S (E ++ [c])
def topL (S : List Int32) : Int32 := match S with
  | [] => -1
  | c :: _ => c
def mA (tb : Nat → Int32) (s p : Nat) (S : List Int32) (o : Int32) (E : List Int32) : Mc :=
  if isDg (tkn tb s (p, false)) = true then (false, (pNum tb s 4 (0, (p, false))).2.1, S, o, E ++ [(pNum tb s 4 (0, (p, false))).1], false)
  else match nmI (tkn tb s (p, false)) with
    | some k => (false, p + 1, S, o, E ++ [10000 + nI k], false)
    | none => if tkn tb s (p, false) = 40 ∨ tkn tb s (p, false) = 91 then (if 4 ≤ o then (true, p, S, o, E, true) else (true, p + 1, tkn tb s (p, false) :: S, o + 1, E, false)) else (true, p, S, o, E, true)
def mB (c : Int32) (p : Nat) (S : List Int32) (o : Int32) (E : List Int32) : Mc :=
  if c = 43 ∨ c = 45 then (true, p + 1, (if c = 43 then 10100 else 10101) :: (stl 10100 S E).1, o, (stl 10100 S E).2, false)
  else if c = 42 ∨ c = 47 then (true, p + 1, (if c = 42 then 10102 else 10103) :: (stl 10102 S E).1, o, (stl 10102 S E).2, false)
  else if c = 41 ∧ topL (stl 10100 S E).1 = 40 then (false, p + 1, (stl 10100 S E).1.tail, o - 1, (stl 10100 S E).2, false)
  else if c = 93 ∧ topL (stl 10100 S E).1 = 58 then (false, p + 1, (stl 10100 S E).1.tail, o - 1, (stl 10100 S E).2 ++ [10104], false)
  else if (c = 63 ∧ topL (stl 10100 S E).1 = 91) ∨ (c = 58 ∧ topL (stl 10100 S E).1 = 63) then (true, p + 1, c :: (stl 10100 S E).1.tail, o, (stl 10100 S E).2, false)
  else (false, p, (stl 10100 S E).1, o, (stl 10100 S E).2, true)
def ms (tb : Nat → Int32) (s : Nat) (a : Mc) : Option Mc := if a.2.2.2.2.2 = true then none else if a.1 = true then some (mA tb s a.2.1 a.2.2.1 a.2.2.2.1 a.2.2.2.2.1) else if s ≤ a.2.1 then none else some (mB (tb a.2.1) a.2.1 a.2.2.1 a.2.2.2.1 a.2.2.2.2.1)
def Rt (tb : Nat → Int32) (s : Nat) : Nat → Mc → Mc → Prop
  | 0, a, c => a = c
  | k + 1, a, c => ∃ b, ms tb s a = some b ∧ Rt tb s k b c
section MACH
variable {tb : Nat → Int32} {s : Nat}
theorem Rt_t : ∀ {j k : Nat} {a b c : Mc}, Rt tb s j a b → Rt tb s k b c → Rt tb s (j + k) a c
  | 0, k, a, b, c, h1, h2 => by
    have e : a = b := h1
    subst e
    rw [Nat.zero_add]
    exact h2
  | j + 1, k, a, b, c, ⟨x, hx, h1⟩, h2 => by
    rw [show j + 1 + k = (j + k) + 1 by omega]
    exact ⟨x, hx, Rt_t h1 h2⟩
theorem Rt_1 {a b : Mc} (h : ms tb s a = some b) : Rt tb s 1 a b := ⟨b, h, rfl⟩
/-- it ends in a fault at p -/
def Bd (s : Nat) (a : Mc) (p : Nat) : Prop := a.2.1 = p ∧ (a.2.2.2.2.2 = true ∨ (a.2.2.2.2.2 = false ∧ a.1 = false ∧ s ≤ p ∧ (stl 10100 a.2.2.1 a.2.2.2.2.1).1 ≠ []))
theorem stl_s {t : Int32} : ∀ {ops S E : List Int32}, (∀ c, c ∈ ops → ¬ c < t) → (∀ c S', S = c :: S' → c < t) → stl t (ops ++ S) E = (S, E ++ ops)
  | [], [], E, _, _ => by simp [stl]
  | [], c :: S, E, _, h => by
    show stl t (c :: S) E = _
    unfold stl
    rw [if_pos (h c S rfl), List.append_nil]
  | c :: ops, S, E, h1, h2 => by
    show stl t (c :: (ops ++ S)) E = _
    unfold stl
    rw [if_neg (h1 c (List.mem_cons_self ..)), stl_s (fun x hx => h1 x (List.mem_cons_of_mem _ hx)) h2, List.append_assoc]
    rfl
theorem rrun_a {vals : Nat → Int32} : ∀ {X Y p : List Int32}, rrun vals (X ++ Y) p = (rrun vals X p).bind (rrun vals Y)
  | [], Y, p => rfl
  | c :: X, Y, p => by
    show (rstep vals c p).bind (rrun vals (X ++ Y)) = ((rstep vals c p).bind (rrun vals X)).bind (rrun vals Y)
    rw [Option.bind_assoc]
    congr 1
    funext q
    exact rrun_a
/-- X leaves v on top of what was there -/
def Lv (X : List Int32) (v : (Nat → Int32) → Int32) : Prop := ∀ (vals : Nat → Int32) (pile : List Int32), rrun vals X pile = some (v vals :: pile)
theorem Lv_2 {X Y : List Int32} {c : Int32} {v u : (Nat → Int32) → Int32} (h1 : Lv X v) (h2 : Lv Y u) (hc : 10100 ≤ c) (h4 : c ≠ 10104) : Lv (X ++ (Y ++ [c])) (fun vals => dn c (v vals) (u vals)) := by
  intro vals pile
  rw [rrun_a, h1, bd1, rrun_a, h2, bd1]
  have k1 : (10100 : Int32).toInt = 10100 := by decide
  have k2 : (10000 : Int32).toInt = 10000 := by decide
  have e1 : ¬ c < 10000 := by rw [i_lt]; rw [i_le] at hc; omega
  have e2 : ¬ c < 10100 := by rw [i_lt]; rw [i_le] at hc; omega
  show (rstep vals c _).bind _ = _
  unfold rstep
  rw [if_neg e1, if_neg e2]
  simp only
  rw [if_neg h4]
  rfl
theorem Lv_3 {X Y Z : List Int32} {v u t : (Nat → Int32) → Int32} (h1 : Lv X v) (h2 : Lv Y u) (h3 : Lv Z t) : Lv (X ++ (Y ++ (Z ++ [10104]))) (fun vals => if v vals = 0 then t vals else u vals) := by
  intro vals pile
  rw [rrun_a, h1, bd1, rrun_a, h2, bd1, rrun_a, h3, bd1]
  rfl
end MACH

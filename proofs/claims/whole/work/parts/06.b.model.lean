/-! the mathematical model: what both programs are held against -/
def gx (g : Nat → Int32) (i k : Nat) : Int32 := g (7 + 11 * i + k)
def cx (g : Nat → Int32) (k j : Nat) : Int32 := g (139 + 3 * k + j)
def cnt (g : Nat → Int32) (r : Int32) : Nat → Nat
  | 0 => 0
  | m + 1 => cnt g r m + (if gx g m 1 = r then 1 else 0)
def pl (g : Nat → Int32) (i : Nat) : Nat := cnt g (gx g i 1) i
def rs (g : Nat → Int32) (i : Nat) : Nat := (gx g i 1).toNatClampNeg
def ws (f : Nat → Int32) : Nat → Int32
  | 0 => 0
  | m + 1 => ws f m + f m
def lk (kind wall win : Int32) : Int32 := (if kind = 1 then wall + wall / 2 else if kind = 2 then wall - wall / 3 + 1 else if kind = 4 then wall + wall / 2 + 20 else wall) + 100 * win
def tk (kind o : Int32) : Int32 := if kind = 3 then (if 2 < o then 2 else o) else if kind = 5 then (if 2 < o then 2 else o) + 1 else o
def hi (g : Nat → Int32) (n i : Nat) : Nat := cnt g (gx g i 1) n - cnt g (gx g i 1) (i + 1)
def wt (g : Nat → Int32) (n i : Nat) (o : Int32) : Int32 := if 0 < 10 * tk (gx g i 0) o - 2 * nI (hi g n i) then 10 * tk (gx g i 0) o - 2 * nI (hi g n i) else 0
def flo (p x a : Int32) : Int32 := if a = 0 then 0 else p * x / a
def flw (g : Nat → Int32) (n : Nat) (op : Nat → Int32) (i : Nat) : Int32 := flo (g 2) (wt g n i (op i)) (ws (fun j => wt g n j (op j)) n)
def adj (g : Nat → Int32) (i k : Nat) : Bool := decide ((rs g i = rs g k ∧ (pl g i = pl g k + 1 ∨ pl g k = pl g i + 1)) ∨ (pl g i = pl g k ∧ (rs g i = rs g k + 1 ∨ rs g k = rs g i + 1)))
def hin (fl : Nat → Int32) (bo : Int32) (wm : Nat → Int32) (i : Nat) : Int32 := (fl i * (if 0 < bo - wm i then bo - wm i else 0)) / 1000
def hth (A : Nat → Nat → Bool) (n : Nat) (wm : Nat → Int32) (i : Nat) : Int32 := ws (fun k => if A i k = true then (wm k - wm i) / 20 else 0) n
def hst (A : Nat → Nat → Bool) (n : Nat) (fl lks : Nat → Int32) (bo ou : Int32) (wm : Nat → Int32) (i : Nat) : Int32 := wm i + ((hin fl bo wm i - lks i * (wm i - ou) / 1000) + hth A n wm i)
def hrun (A : Nat → Nat → Bool) (n : Nat) (fl lks : Nat → Int32) (bo ou : Int32) (wm : Nat → Int32) : Nat → Nat → Int32
  | 0 => wm
  | k + 1 => hst A n fl lks bo ou (hrun A n fl lks bo ou wm k)
def hsum (A : Nat → Nat → Bool) (n : Nat) (fl lks : Nat → Int32) (bo ou : Int32) (wm : Nat → Int32) : Nat → Int32
  | 0 => 0
  | k + 1 => hsum A n fl lks bo ou wm k + ws (hin fl bo (hrun A n fl lks bo ou wm k)) n
def lkf (g : Nat → Int32) (i : Nat) : Int32 := lk (gx g i 0) (gx g i 2) (gx g i 5)
def evn (b x : Int32) : Prop := b / 1000 ≤ x ∧ x ≤ b - b / 1000 * 1000
noncomputable def good (g : Nat → Int32) (n : Nat) (b : Int32) (hrs : Nat) (op : Nat → Int32) : Bool := @decide (∀ i, i < n → evn b (hrun (adj g) n (flw g n op) (lkf g) (g 3) (g 1) (fun j => gx g j 6) hrs i)) (Classical.propDecidable _)
/-- the first that is found, of 0 .. m - 1 -/
def ff {α : Type} (P : Nat → Option α) : Nat → Option α
  | 0 => none
  | m + 1 => (ff P m).or (P m)
def upf (f : Nat → Int32) (k : Nat) (v : Int32) : Nat → Int32 := fun j => if j = k then v else f j
noncomputable def fewA (g : Nat → Int32) (n : Nat) (b : Int32) (hrs : Nat) (op : Nat → Int32) (f v : Nat) : Option (List (Nat × Nat)) := if nI v = gx g f 3 then none else if good g n b hrs (upf op f (nI v)) = true then some [(f, v)] else none
noncomputable def few1 (g : Nat → Int32) (n : Nat) (b : Int32) (hrs : Nat) : Option (List (Nat × Nat)) := ff (fun f => if gx g f 4 = 0 then ff (fun v => fewA g n b hrs (fun j => gx g j 3) f v) 9 else none) n
noncomputable def fewB (g : Nat → Int32) (n : Nat) (b : Int32) (hrs : Nat) (f k v u : Nat) : Option (List (Nat × Nat)) := if nI v = gx g f 3 ∨ nI u = gx g k 3 then none else if good g n b hrs (upf (upf (fun j => gx g j 3) f (nI v)) k (nI u)) = true then some [(f, v), (k, u)] else none
noncomputable def few2 (g : Nat → Int32) (n : Nat) (b : Int32) (hrs : Nat) : Option (List (Nat × Nat)) := ff (fun k => ff (fun f => if gx g f 4 = 0 ∧ gx g k 4 = 0 then ff (fun v => ff (fun u => fewB g n b hrs f k v u) 9) 9 else none) k) n
noncomputable def few (g : Nat → Int32) (n : Nat) (b : Int32) (hrs : Nat) : Option (List (Nat × Nat)) := if good g n b hrs (fun j => gx g j 3) = true then some [] else (few1 g n b hrs).or (few2 g n b hrs)
def FRes (r : Option (List (Nat × Nat))) (F : Nat → Int32) : Prop := match r with
  | none => F 33 = -1
  | some [] => F 33 = 0
  | some [(f, v)] => F 33 = 1 ∧ F 34 = nI f ∧ F 36 = nI v
  | some ((f, v) :: (k, u) :: _) => F 33 = 2 ∧ F 34 = nI f ∧ F 36 = nI v ∧ F 35 = nI k ∧ F 37 = nI u
/-! the rule's text -/
def tkn (tb : Nat → Int32) (s : Nat) (st : Nat × Bool) : Int32 := if st.2 = false ∧ st.1 < s then tb st.1 else -1
def isDg (c : Int32) : Bool := decide (48 ≤ c ∧ c ≤ 57)
def nmI (c : Int32) : Option Nat := if c = 117 then some 0 else if c = 116 then some 1 else if c = 103 then some 2 else if c = 119 then some 3 else if c = 107 then some 4 else if c = 102 then some 5 else if c = 114 then some 6 else if c = 112 then some 7 else none
def pExp (tb : Nat → Int32) (s : Nat) (c : Int32) (st : Nat × Bool) : Nat × Bool := if tkn tb s st = c then (st.1 + 1, st.2) else (st.1, true)
def pNum (tb : Nat → Int32) (s : Nat) : Nat → Int32 × (Nat × Bool) → Int32 × (Nat × Bool)
  | 0, r => r
  | k + 1, r => if isDg (tkn tb s r.2) = true then pNum tb s k (10 * r.1 + tkn tb s r.2 - 48, (r.2.1 + 1, r.2.2)) else r
def pF (tb : Nat → Int32) (s : Nat) (vals : Nat → Int32) (S : Nat → Nat × Bool → Int32 × (Nat × Bool)) (d : Nat) (st : Nat × Bool) : Int32 × (Nat × Bool) :=
  if isDg (tkn tb s st) = true then pNum tb s 4 (0, st)
  else if tkn tb s st = 40 ∧ d < 4 then ((S (d + 1) (st.1 + 1, st.2)).1, pExp tb s 41 (S (d + 1) (st.1 + 1, st.2)).2)
  else if tkn tb s st = 91 ∧ d < 4 then
    lw (S (d + 1) (st.1 + 1, st.2)) fun a => lw (S (d + 1) (pExp tb s 63 a.2)) fun b => lw (S (d + 1) (pExp tb s 58 b.2)) fun c => (if a.1 = 0 then c.1 else b.1, pExp tb s 93 c.2)
  else (nmI (tkn tb s st)).elim (0, (st.1, true)) (fun k => (vals k, (st.1 + 1, st.2)))
def pP1 (tb : Nat → Int32) (s : Nat) (F : Nat × Bool → Int32 × (Nat × Bool)) : Nat → Int32 × (Nat × Bool) → Int32 × (Nat × Bool)
  | 0, r => r
  | k + 1, r => if tkn tb s r.2 = 42 then pP1 tb s F k (r.1 * (F (r.2.1 + 1, r.2.2)).1, (F (r.2.1 + 1, r.2.2)).2)
    else if tkn tb s r.2 = 47 then pP1 tb s F k (if (F (r.2.1 + 1, r.2.2)).1 = 0 then 0 else r.1 / (F (r.2.1 + 1, r.2.2)).1, (F (r.2.1 + 1, r.2.2)).2) else r
def pP (tb : Nat → Int32) (s : Nat) (F : Nat × Bool → Int32 × (Nat × Bool)) (st : Nat × Bool) : Int32 × (Nat × Bool) := pP1 tb s F 80 (F st)
def pS1 (tb : Nat → Int32) (s : Nat) (P : Nat × Bool → Int32 × (Nat × Bool)) : Nat → Int32 × (Nat × Bool) → Int32 × (Nat × Bool)
  | 0, r => r
  | k + 1, r => if tkn tb s r.2 = 43 then pS1 tb s P k (r.1 + (P (r.2.1 + 1, r.2.2)).1, (P (r.2.1 + 1, r.2.2)).2)
    else if tkn tb s r.2 = 45 then pS1 tb s P k (r.1 - (P (r.2.1 + 1, r.2.2)).1, (P (r.2.1 + 1, r.2.2)).2) else r
def pS (tb : Nat → Int32) (s : Nat) (vals : Nat → Int32) : Nat → Nat → Nat × Bool → Int32 × (Nat × Bool)
  | 0, _, st => (0, st)
  | n + 1, d, st => pS1 tb s (pP tb s (pF tb s vals (pS tb s vals n) d)) 80 (pP tb s (pF tb s vals (pS tb s vals n) d) st)
def dn (c a b : Int32) : Int32 := if c = 10100 then a + b else if c = 10101 then a - b else if c = 10102 then a * b else if b = 0 then 0 else a / b
def rstep (vals : Nat → Int32) (c : Int32) (p : List Int32) : Option (List Int32) :=
  if c < 10000 then some (c :: p) else if c < 10100 then some (vals (c - 10000).toNatClampNeg :: p)
  else match p with
    | z :: y :: r => if c = 10104 then (match r with
        | x :: q => some ((if x = 0 then z else y) :: q)
        | [] => none) else some (dn c y z :: r)
    | _ => none
def rrun (vals : Nat → Int32) : List Int32 → List Int32 → Option (List Int32)
  | [], p => some p
  | c :: cs, p => (rstep vals c p).bind (rrun vals cs)
def codes (g : Nat → Int32) (t : Nat) : List Int32 := (List.range t).map fun k => g (211 + k)
/-! complaints -/
def cfl (g : Nat → Int32) (k : Nat) : Nat := (cx g k 0).toNatClampNeg
def near (g : Nat → Int32) (a b : Nat) : Prop := cx g a 1 = cx g b 1 ∧ ((cx g a 2).toInt - (cx g b 2).toInt ≤ 3 ∧ (cx g b 2).toInt - (cx g a 2).toInt ≤ 3) ∧ (cx g a 0 = cx g b 0 ∨ (gx g (cfl g a) 1 = gx g (cfl g b) 1 ∧ (pl g (cfl g a) = pl g (cfl g b) + 1 ∨ pl g (cfl g b) = pl g (cfl g a) + 1)))
def Reach (g : Nat → Int32) (c i j : Nat) : Prop := ∀ X : Nat → Nat, (∀ a b, a < c → b < c → near g a b → X a = X b) → X i = X j
/-! the tie between the class's cells and the reference's row -/
def FlatEq (F : Nat → Int32) (g : Nat → Int32) (i : Nat) : Prop := F 0 = gx g i 0 ∧ F 1 = gx g i 1 ∧ F 2 = nI (pl g i) ∧ ∀ k, 2 ≤ k → k ≤ 10 → F (k + 1) = gx g i k
def FlatOk (g : Nat → Int32) (h i : Nat) : Prop := rng (gx g i 0) 0 5 ∧ rng (gx g i 1) 0 3 ∧ rng (gx g i 2) 1 99 ∧ rng (gx g i 3) 0 8 ∧ (gx g i 4 = 0 ∨ gx g i 4 = 1) ∧ (gx g i 5 = 0 ∨ gx g i 5 = 1) ∧ rng (gx g i 6) (-300) 1500 ∧ rng (gx g i 7) 0 (2400 * h) ∧ rng (gx g i 8) 0 (1200 * h) ∧ rng (gx g i 10) 0 200
def BI (B : Nat → Int32) (F : Nat → Nat → Int32) (Hh g : Nat → Int32) (n h : Nat) : Prop := n ≤ 12 ∧ h ≤ 2000 ∧ (B 1 = nI n ∧ g 4 = nI n ∧ B 3 = nI h ∧ g 0 = nI h ∧ B 4 = g 1 ∧ B 5 = g 2 ∧ B 6 = g 3) ∧ (rng (g 1) (-300) 400 ∧ rng (g 2) 0 999 ∧ rng (g 3) 0 900) ∧ (∀ i, i < n → FlatEq (F i) g i ∧ FlatOk g h i) ∧ ∀ r, r < 4 → Hh r = nI (cnt g (nI r) n)
def CC (Cz cf cs ch cg g : Nat → Int32) (n c : Nat) : Prop := c ≤ 24 ∧ Cz 4 = nI c ∧ g 5 = nI c ∧ (∀ k, k < c → cf k = cx g k 0 ∧ cs k = cx g k 1 ∧ ch k = cx g k 2 ∧ (∃ f, f < n ∧ cx g k 0 = nI f) ∧ (cx g k 1 = 1 ∨ cx g k 1 = 2) ∧ rng (cx g k 2) 0 2000 ∧ ∃ m, m ≤ k ∧ cg k = nI m ∧ Reach g c k m) ∧ ∀ a b, a < c → b < c → near g a b → cg a = cg b
def RI (T tb g : Nat → Int32) : Prop := ∃ s t, s ≤ 80 ∧ t ≤ 80 ∧ T 1 = nI s ∧ g 6 = nI t ∧ (∀ i, i < s → ∃ b, b < 256 ∧ tb i = nI b) ∧ (s = 0 → t = 0) ∧ (0 < s → 0 < t ∧ ∀ vals : Nat → Int32, (pS tb s vals 5 0 (0, false)).2 = (s, false) ∧ rrun vals (codes g t) [] = some [(pS tb s vals 5 0 (0, false)).1])
def ZF (F : Nat → Nat → Int32) : Prop := ∀ i, i < 12 → (F i 5 = 0 ∨ F i 5 = 1) ∧ (F i 6 = 0 ∨ F i 6 = 1)
def SR (B : Nat → Int32) (F : Nat → Nat → Int32) (Hh T tb Cz cf cs ch cg g : Nat → Int32) : Prop := ∃ n h c, BI B F Hh g n h ∧ CC Cz cf cs ch cg g n c ∧ RI T tb g ∧ ZF F
def SRm (w : Wd) : Prop := SR (w.1 3) (fun i => w.1 (35 + i)) (w.1 19) (w.1 5) (w.1 21) (w.1 8) (w.1 24) (w.1 25) (w.1 26) (w.1 27) (w.1 77)
def SRk (w : Wd) : Prop := SR (w.1 4) (fun i => w.1 (47 + i)) (w.1 20) (w.1 6) (w.1 22) (w.1 9) (w.1 28) (w.1 29) (w.1 30) (w.1 31) (w.1 78)
def IF (w : Wd) : Prop := (∀ i, i < 7 → w.1 16 i = w.1 79 i) ∧ w.1 76 4 = ws (w.1 79) 7
def IT (w : Wd) : Prop := ∃ t, t ≤ 80 ∧ w.1 7 1 = nI t ∧ w.1 76 18 = nI t ∧ ∀ i, i < t → w.1 23 i = w.1 92 i ∧ ∃ b, b < 256 ∧ w.1 23 i = nI b
def IS (w : Wd) : Prop := ∀ s, s < 4 → w.1 74 s = w.1 100 s ∧ w.1 75 s = w.1 101 s ∧ ∃ z, z ≤ 40 ∧ w.1 75 s = nI z ∧ ∀ i, i < z → w.2 (70 + s) i = w.2 102 (40 * s + i)
def IK (w : Wd) : Prop := (w.1 0 2 = 0 ∧ w.1 76 2 = 0) ∨ (w.1 0 2 = 1 ∧ w.1 76 2 = 1 ∧ SRk w)
def FC (w : Wd) : Prop := w.1 76 30 = 0 ∨ (w.1 76 30 = 1 ∧ ∃ n hrs, n ≤ 12 ∧ hrs ≤ 8 ∧ w.1 77 4 = nI n ∧ w.1 76 32 = nI hrs ∧ FRes (few (w.1 77) n (w.1 76 31) hrs) (w.1 76))
def Inv (w : Wd) : Prop := IF w ∧ IT w ∧ IS w ∧ SRm w ∧ IK w ∧ FC w

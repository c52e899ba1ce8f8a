def f_X10_within (v0 : Int32) (v1 : Int32) (v2 : Int32) : Option (Int32) :=
  if v0 < v1 then
    some 0
  else
    if v2 < v0 then
      some 0
    else
      some 1
def f_X10_finding (v1 : Int32) (w : Wd) : Option (Int32 × Wd) :=
  (f_X10_within ((-1000000001) - v1) 0 6).bind fun o1 =>
  if o1 = 0 then
    some (v1, w)
  else
    gd (inB ((-1000000001) - v1) 7) <|
    gd (inB ((-1000000001) - v1) 7) <|
    lw (si w 16 ((-1000000001) - v1).toNatClampNeg ((w.1 16 (((-1000000001) - v1).toNatClampNeg)) + 1)) fun w6 =>
    some (v1, w6)
def f_X4_becomeNew (t0 : Nat) (v1 : Int32) (v2 : Int32) (v3 : Int32) (v4 : Int32) (w : Wd) : Option (Wd) :=
  lw (si w t0 0 v1) fun w1 =>
  lw (si w1 t0 1 v2) fun w2 =>
  lw (si w2 t0 2 v3) fun w3 =>
  lw (si w3 t0 3 v4) fun w4 =>
  lw (si w4 t0 4 4) fun w5 =>
  lw (si w5 t0 5 0) fun w6 =>
  lw (si w6 t0 6 0) fun w7 =>
  lw (si w7 t0 7 200) fun w8 =>
  lw (si w8 t0 8 0) fun w9 =>
  lw (si w9 t0 9 0) fun w10 =>
  lw (si w10 t0 10 0) fun w11 =>
  lw (si w11 t0 11 100) fun w12 =>
  some w12
def f_X0_add (v1 : Int32) (v2 : Int32) (v3 : Int32) (w : Wd) : Option (Int32 × Wd) :=
  gd (inB (w.1 3 1) 12) <|
  gd (inB v2 4) <|
  (f_X4_becomeNew (35 + (w.1 3 1).toNatClampNeg) v1 v2 (w.1 19 v2.toNatClampNeg) v3 w).bind fun o3 =>
  gd (inB v2 4) <|
  gd (inB v2 4) <|
  lw (si o3 19 v2.toNatClampNeg ((o3.1 19 v2.toNatClampNeg) + 1)) fun w7 =>
  lw (si w7 3 1 ((w7.1 3 1) + 1)) fun w8 =>
  some ((w8.1 3 1) - 1, w8)
def f_X10_flat (v1 : Int32) (v2 : Int32) (v3 : Int32) (w : Wd) : Option (Int32 × Wd) :=
  (f_X10_within v1 0 5).bind fun o1 =>
  if o1 = 0 then
    (f_X10_finding (-1000000001) w).bind fun o4 =>
    some (o4.1, o4.2)
  else
    (f_X10_within v2 0 3).bind fun o6 =>
    if o6 = 0 then
      (f_X10_finding (-1000000001) w).bind fun o9 =>
      some (o9.1, o9.2)
    else
      (f_X10_within v3 1 99).bind fun o11 =>
      if o11 = 0 then
        (f_X10_finding (-1000000001) w).bind fun o19 =>
        some (o19.1, o19.2)
      else
        if (w.1 3 1) < 12 then
          (f_X0_add v1 v2 v3 w).bind fun o15 =>
          some (o15.1, o15.2)
        else
          (f_X10_finding (-1000000002) w).bind fun o17 =>
          some (o17.1, o17.2)
def f_X0_has (v1 : Int32) (w : Wd) : Option (Int32) :=
  (f_X10_within v1 0 ((w.1 3 1) - 1)).bind fun o1 =>
  gd (zo o1) <|
  some o1
def f_X10_bit (v0 : Int32) : Option (Int32) :=
  if v0 = 0 then
    some 0
  else
    some 1
def f_X4_leaksShut (t0 : Nat) (v1 : Int32) (w : Wd) : Option (Int32) :=
  if (w.1 t0 0) = 1 then
    some (v1 + (v1 / 2))
  else
  if (w.1 t0 0) = 2 then
    some ((v1 - (v1 / 3)) + 1)
  else
  if (w.1 t0 0) = 3 then
    some v1
  else
  if (w.1 t0 0) = 4 then
    some ((v1 + (v1 / 2)) + 20)
  else
  some v1
def f_X4_leaks (t0 : Nat) (v1 : Int32) (w : Wd) : Option (Int32) :=
  (f_X4_leaksShut t0 v1 w).bind fun o1 =>
  if (w.1 t0 6) = 0 then
    some (o1 + 0)
  else
    some (o1 + 100)
def f_X4_takes (t0 : Nat) (v1 : Int32) (w : Wd) : Option (Int32) :=
  if (w.1 t0 0) = 3 then
    some (if 2 < v1 then 2 else v1)
  else
  if (w.1 t0 0) = 5 then
    some ((if 2 < v1 then 2 else v1) + 1)
  else
  some v1
def f_X0_weight (v1 : Int32) (v2 : Int32) (w : Wd) : Option (Int32) :=
  gd (inB v1 12) <|
  gd (inB (w.1 (35 + v1.toNatClampNeg) 1) 4) <|
  (f_X4_takes (35 + v1.toNatClampNeg) v2 w).bind fun o3 =>
  some (if 0 < ((10 * o3) - (2 * (((w.1 19 ((w.1 (35 + v1.toNatClampNeg) 1).toNatClampNeg)) - 1) - (w.1 (35 + v1.toNatClampNeg) 2)))) then ((10 * o3) - (2 * (((w.1 19 ((w.1 (35 + v1.toNatClampNeg) 1).toNatClampNeg)) - 1) - (w.1 (35 + v1.toNatClampNeg) 2)))) else 0)
def f_X0_flowOf (v0 : Int32) (v1 : Int32) (v2 : Int32) : Option (Int32) :=
  if v2 = 0 then
    some 0
  else
    gd (nz v2) <|
    some ((v0 * v1) / v2)
def f_X0_flow_L4 (v1 : Int32) (w : Wd) (z : Int32 × Int32) : Option ((Int32 × Int32) ⊕ (Int32 × Int32)) :=
  if (w.1 3 1) ≤ z.2 then
    some (.inr (z.1, z.2))
  else
    gd (inB z.2 12) <|
    (f_X0_weight z.2 (w.1 (35 + z.2.toNatClampNeg) 4) w).bind fun o3 =>
    some (.inl (z.1 + o3, z.2 + 1))
def f_X0_flow (v1 : Int32) (w : Wd) : Option (Int32) :=
  (lp (f_X0_flow_L4 v1 w) FU (0, 0)).bind fun o5 =>
  gd (inB v1 12) <|
  (f_X0_weight v1 (w.1 (35 + v1.toNatClampNeg) 4) w).bind fun o8 =>
  (f_X0_flowOf (w.1 3 5) o8 o5.1).bind fun o10 =>
  some o10
def f_X10_of (v1 : Int32) (v2 : Int32) (w : Wd) : Option (Int32 × Wd) :=
  (f_X0_has v1 w).bind fun o1 =>
  if o1 = 0 then
    (f_X10_finding (-1000000001) w).bind fun o32 =>
    some (o32.1, o32.2)
  else
    gd (inB v1 12) <|
    if v2 = 0 then
      some (w.1 (35 + v1.toNatClampNeg) 0, w)
    else
    if v2 = 1 then
      some (w.1 (35 + v1.toNatClampNeg) 1, w)
    else
    if v2 = 2 then
      some (w.1 (35 + v1.toNatClampNeg) 2, w)
    else
    if v2 = 3 then
      some (w.1 (35 + v1.toNatClampNeg) 3, w)
    else
    if v2 = 4 then
      some (w.1 (35 + v1.toNatClampNeg) 4, w)
    else
    if v2 = 5 then
      (f_X10_bit (w.1 (35 + v1.toNatClampNeg) 5)).bind fun o11 =>
      some (o11, w)
    else
    if v2 = 6 then
      (f_X10_bit (w.1 (35 + v1.toNatClampNeg) 6)).bind fun o14 =>
      some (o14, w)
    else
    if v2 = 7 then
      some (w.1 (35 + v1.toNatClampNeg) 7, w)
    else
    if v2 = 8 then
      (f_X4_leaks (35 + v1.toNatClampNeg) (w.1 (35 + v1.toNatClampNeg) 3) w).bind fun o18 =>
      some (o18, w)
    else
    if v2 = 9 then
      (f_X4_takes (35 + v1.toNatClampNeg) (w.1 (35 + v1.toNatClampNeg) 4) w).bind fun o21 =>
      some (o21, w)
    else
    if v2 = 10 then
      (f_X0_flow v1 w).bind fun o24 =>
      some (o24, w)
    else
    if v2 = 11 then
      some (w.1 (35 + v1.toNatClampNeg) 8, w)
    else
    if v2 = 12 then
      some (w.1 (35 + v1.toNatClampNeg) 9, w)
    else
    if v2 = 13 then
      some (w.1 (35 + v1.toNatClampNeg) 10, w)
    else
    if v2 = 14 then
      some (w.1 (35 + v1.toNatClampNeg) 11, w)
    else
    (f_X10_finding (-1000000001) w).bind fun o30 =>
    some (o30.1, o30.2)
def f_X10_isUnder_L4 (v1 : Int32) (w : Wd) (z : Int32 × Int32) : Option ((Int32 × Int32) ⊕ ((Int32 × Int32) ⊕ (Int32))) :=
  if 6 ≤ z.2 then
    some (.inr (.inl (z.1, z.2)))
  else
    (f_X10_within z.1 0 5).bind fun o2 =>
    if o2 = 0 then
      some (.inr (.inl (z.1, z.2)))
    else
      if z.1 = v1 then
        some (.inr (.inr 1))
      else
        gd (inB z.1 6) <|
        some (.inl (underF z.1.toNatClampNeg, z.2 + 1))
def f_X10_isUnder (v0 : Int32) (v1 : Int32) (w : Wd) : Option (Int32) :=
  (lp (f_X10_isUnder_L4 v1 w) FU (v0, 0)).bind fun o7 =>
  sm o7 (fun x9 =>
    some 0
    ) (fun y10 => some y10)
def f_X10_as (v1 : Int32) (v2 : Int32) (w : Wd) : Option (Int32 × Wd) :=
  (f_X0_has v1 w).bind fun o1 =>
  if o1 = 0 then
    (f_X10_finding (-1000000001) w).bind fun o4 =>
    some (o4.1, o4.2)
  else
    (f_X10_within v2 0 5).bind fun o6 =>
    if o6 = 0 then
      (f_X10_finding (-1000000001) w).bind fun o17 =>
      some (o17.1, o17.2)
    else
      gd (inB v1 12) <|
      (f_X10_isUnder (w.1 (35 + v1.toNatClampNeg) 0) v2 w).bind fun o10 =>
      if o10 = 0 then
        (f_X10_finding (-1000000003) w).bind fun o15 =>
        some (o15.1, o15.2)
      else
        (f_X4_leaks (35 + v1.toNatClampNeg) (w.1 (35 + v1.toNatClampNeg) 3) w).bind fun o13 =>
        some (o13, w)
def f_X10_set_J69 (v1 : Int32) (v2 : Int32) (w : Wd) : Option (Int32 × Wd) :=
  if v1 = 2 then
    (f_X10_within v2 0 900).bind fun o6 =>
    if o6 = 0 then
      (f_X10_finding (-1000000001) w).bind fun o9 =>
      some (o9.1, o9.2)
    else
      lw (si w 3 6 v2) fun w11 =>
      some (w.1 3 6, w11)
  else
    (f_X10_finding (-1000000001) w).bind fun o4 =>
    some (o4.1, o4.2)
def f_X10_set_J35 (v1 : Int32) (v2 : Int32) (w : Wd) : Option (Int32 × Wd) :=
  if v1 = 1 then
    (f_X10_within v2 0 999).bind fun o12 =>
    if o12 = 0 then
      f_X10_set_J69 v1 v2 w
    else
      lw (si w 3 5 v2) fun w15 =>
      some (w.1 3 5, w15)
  else
    f_X10_set_J69 v1 v2 w
def f_X10_set (v1 : Int32) (v2 : Int32) (w : Wd) : Option (Int32 × Wd) :=
  if v1 = 0 then
    (f_X10_within v2 (-300) 400).bind fun o16 =>
    if o16 = 0 then
      f_X10_set_J35 v1 v2 w
    else
      lw (si w 3 4 v2) fun w19 =>
      some (w.1 3 4, w19)
  else
    f_X10_set_J35 v1 v2 w
def f_X10_turn (v1 : Int32) (v2 : Int32) (w : Wd) : Option (Int32 × Wd) :=
  (f_X0_has v1 w).bind fun o1 =>
  if o1 = 0 then
    (f_X10_finding (-1000000001) w).bind fun o4 =>
    some (o4.1, o4.2)
  else
    (f_X10_within v2 0 8).bind fun o6 =>
    if o6 = 0 then
      (f_X10_finding (-1000000001) w).bind fun o14 =>
      some (o14.1, o14.2)
    else
      gd (inB v1 12) <|
      if (w.1 (35 + v1.toNatClampNeg) 5) = 0 then
        lw (si w (35 + v1.toNatClampNeg) 4 v2) fun w11 =>
        some (w.1 (35 + v1.toNatClampNeg) 4, w11)
      else
        (f_X10_finding (-1000000005) w).bind fun o12 =>
        some (o12.1, o12.2)
def f_X10_hold (v1 : Int32) (v2 : Int32) (w : Wd) : Option (Int32 × Wd) :=
  (f_X0_has v1 w).bind fun o1 =>
  if o1 = 0 then
    (f_X10_finding (-1000000001) w).bind fun o9 =>
    some (o9.1, o9.2)
  else
    gd (inB v1 12) <|
    gd (zo v2) <|
    lw (si w (35 + v1.toNatClampNeg) 5 v2) fun w6 =>
    (f_X10_bit (w.1 (35 + v1.toNatClampNeg) 5)).bind fun o7 =>
    some (o7, w6)
def f_X10_window (v1 : Int32) (v2 : Int32) (w : Wd) : Option (Int32 × Wd) :=
  (f_X0_has v1 w).bind fun o1 =>
  if o1 = 0 then
    (f_X10_finding (-1000000001) w).bind fun o9 =>
    some (o9.1, o9.2)
  else
    gd (inB v1 12) <|
    gd (zo v2) <|
    lw (si w (35 + v1.toNatClampNeg) 6 v2) fun w6 =>
    (f_X10_bit (w.1 (35 + v1.toNatClampNeg) 6)).bind fun o7 =>
    some (o7, w6)
def f_X10_drift (v1 : Int32) (v2 : Int32) (w : Wd) : Option (Int32 × Wd) :=
  (f_X0_has v1 w).bind fun o1 =>
  if o1 = 0 then
    (f_X10_finding (-1000000001) w).bind fun o4 =>
    some (o4.1, o4.2)
  else
    (f_X10_within v2 0 200).bind fun o6 =>
    if o6 = 0 then
      (f_X10_finding (-1000000001) w).bind fun o11 =>
      some (o11.1, o11.2)
    else
      gd (inB v1 12) <|
      lw (si w (35 + v1.toNatClampNeg) 11 v2) fun w10 =>
      some (w.1 (35 + v1.toNatClampNeg) 11, w10)
def f_X4_isRightAboveOrBelow (t0 : Nat) (t1 : Nat) (w : Wd) : Option (Int32) :=
  if (w.1 t0 1) = (w.1 t1 1) then
    if (if 0 ≤ ((w.1 t0 2) - (w.1 t1 2)) then ((w.1 t0 2) - (w.1 t1 2)) else 0 - ((w.1 t0 2) - (w.1 t1 2))) = 1 then
      some 1
    else
      some 0
  else
    some 0
def f_X4_isBeside (t0 : Nat) (t1 : Nat) (w : Wd) : Option (Int32) :=
  if (w.1 t0 2) = (w.1 t1 2) then
    if (if 0 ≤ ((w.1 t0 1) - (w.1 t1 1)) then ((w.1 t0 1) - (w.1 t1 1)) else 0 - ((w.1 t0 1) - (w.1 t1 1))) = 1 then
      some 1
    else
      some 0
  else
    some 0
def f_X2_addWall (v1 : Int32) (v2 : Int32) (w : Wd) : Option (Wd) :=
  if 48 ≤ (w.1 13 13) then
    some w
  else
    gd (inB (w.1 13 13) 48) <|
    lw (si w 66 (w.1 13 13).toNatClampNeg v1) fun w3 =>
    gd (inB (w3.1 13 13) 48) <|
    lw (si w3 67 (w3.1 13 13).toNatClampNeg v2) fun w5 =>
    lw (si w5 13 13 ((w5.1 13 13) + 1)) fun w6 =>
    some w6
def f_X2_restart_L4 (w : Wd) (z : Int32 × Int32) : Option ((Int32 × Int32) ⊕ (Int32 × Int32)) :=
  if (w.1 13 0) ≤ z.2 then
    some (.inr (z.1, z.2))
  else
    gd (inB z.2 12) <|
    some (.inl (z.1 + (w.1 62 z.2.toNatClampNeg), z.2 + 1))
def f_X2_restart_L29 (v1 : Int32) (z : Int32 × Wd) : Option ((Int32 × Wd) ⊕ (Int32 × Wd)) :=
  if (z.2.1 13 0) ≤ z.1 then
    some (.inr (z.1, z.2))
  else
    gd (inB z.1 12) <|
    gd (inB z.1 12) <|
    lw (si z.2 60 z.1.toNatClampNeg (z.2.1 59 z.1.toNatClampNeg)) fun w8 =>
    gd (inB z.1 12) <|
    (f_X0_flowOf (w8.1 13 3) (w8.1 62 z.1.toNatClampNeg) v1).bind fun o10 =>
    gd (inB z.1 12) <|
    lw (si w8 63 z.1.toNatClampNeg o10) fun w13 =>
    some (.inl (z.1 + 1, w13))
def f_X2_restart (w : Wd) : Option (Wd) :=
  (lp (f_X2_restart_L4 w) FU (0, 0)).bind fun o3 =>
  (lp (f_X2_restart_L29 o3.1) FU (0, w)).bind fun o14 =>
  some o14.2
def f_X2_begin_J130 (v2 : Int32) (t3 : Nat) (v4 : Int32) (w : Wd) : Option ((Int32 × Wd) ⊕ (Int32 × Wd)) :=
  (f_X2_addWall v4 v2 w).bind fun o23 =>
  some (.inl (v4 + 1, o23))
def f_X2_begin_L96 (v2 : Int32) (t3 : Nat) (z : Int32 × Wd) : Option ((Int32 × Wd) ⊕ (Int32 × Wd)) :=
  if v2 ≤ z.1 then
    some (.inr (z.1, z.2))
  else
    gd (inB z.1 12) <|
    (f_X4_isRightAboveOrBelow t3 (35 + z.1.toNatClampNeg) z.2).bind fun o20 =>
    if o20 = 0 then
      gd (inB z.1 12) <|
      (f_X4_isBeside t3 (35 + z.1.toNatClampNeg) z.2).bind fun o26 =>
      if o26 = 0 then
        some (.inl (z.1 + 1, z.2))
      else
        f_X2_begin_J130 v2 t3 z.1 z.2
    else
      f_X2_begin_J130 v2 t3 z.1 z.2
def f_X2_begin_L39  (z : Int32 × Wd) : Option ((Int32 × Wd) ⊕ (Int32 × Wd)) :=
  if (z.2.1 13 0) ≤ z.1 then
    some (.inr (z.1, z.2))
  else
    gd (inB z.1 12) <|
    gd (inB z.1 12) <|
    lw (si z.2 59 z.1.toNatClampNeg (z.2.1 (35 + z.1.toNatClampNeg) 7)) fun w9 =>
    (f_X4_leaks (35 + z.1.toNatClampNeg) (w9.1 (35 + z.1.toNatClampNeg) 3) w9).bind fun o10 =>
    gd (inB z.1 12) <|
    lw (si w9 61 z.1.toNatClampNeg o10) fun w13 =>
    (f_X0_weight z.1 (w13.1 (35 + z.1.toNatClampNeg) 4) w13).bind fun o14 =>
    gd (inB z.1 12) <|
    lw (si w13 62 z.1.toNatClampNeg o14) fun w17 =>
    (lp (f_X2_begin_L96 z.1 (35 + z.1.toNatClampNeg)) FU (0, w17)).bind fun o29 =>
    some (.inl (z.1 + 1, o29.2))
def f_X2_begin (w : Wd) : Option (Wd) :=
  lw (si w 13 0 (w.1 3 1)) fun w1 =>
  lw (si w1 13 1 (w1.1 3 6)) fun w2 =>
  lw (si w2 13 2 (w2.1 3 4)) fun w3 =>
  lw (si w3 13 3 (w3.1 3 5)) fun w4 =>
  lw (si w4 13 13 0) fun w5 =>
  (lp (f_X2_begin_L39) FU (0, w5)).bind fun o31 =>
  (f_X2_restart o31.2).bind fun o33 =>
  some o33
def f_X2_goHour_L2  (z : Int32 × Wd) : Option ((Int32 × Wd) ⊕ (Int32 × Wd)) :=
  if (z.2.1 13 0) ≤ z.1 then
    some (.inr (z.1, z.2))
  else
    gd (inB z.1 12) <|
    gd (inB z.1 12) <|
    gd (inB z.1 12) <|
    lw (si z.2 64 z.1.toNatClampNeg (((z.2.1 63 z.1.toNatClampNeg) * (if 0 < ((z.2.1 13 1) - (z.2.1 60 z.1.toNatClampNeg)) then ((z.2.1 13 1) - (z.2.1 60 z.1.toNatClampNeg)) else 0)) / 1000)) fun w5 =>
    gd (inB z.1 12) <|
    lw (si w5 65 z.1.toNatClampNeg 0) fun w7 =>
    some (.inl (z.1 + 1, w7))
def f_X2_goHour_L57  (z : Int32 × Wd) : Option ((Int32 × Wd) ⊕ (Int32 × Wd)) :=
  if (z.2.1 13 13) ≤ z.1 then
    some (.inr (z.1, z.2))
  else
    gd (inB z.1 48) <|
    gd (inB z.1 48) <|
    gd (inB (z.2.1 67 z.1.toNatClampNeg) 12) <|
    gd (inB (z.2.1 66 z.1.toNatClampNeg) 12) <|
    gd (inB (z.2.1 66 z.1.toNatClampNeg) 12) <|
    gd (inB (z.2.1 66 z.1.toNatClampNeg) 12) <|
    lw (si z.2 65 (z.2.1 66 z.1.toNatClampNeg).toNatClampNeg ((z.2.1 65 ((z.2.1 66 z.1.toNatClampNeg).toNatClampNeg)) + (((z.2.1 60 ((z.2.1 67 z.1.toNatClampNeg).toNatClampNeg)) - (z.2.1 60 ((z.2.1 66 z.1.toNatClampNeg).toNatClampNeg))) / 20))) fun w17 =>
    gd (inB (z.2.1 67 z.1.toNatClampNeg) 12) <|
    gd (inB (z.2.1 67 z.1.toNatClampNeg) 12) <|
    lw (si w17 65 (z.2.1 67 z.1.toNatClampNeg).toNatClampNeg ((w17.1 65 ((z.2.1 67 z.1.toNatClampNeg).toNatClampNeg)) - (((z.2.1 60 ((z.2.1 67 z.1.toNatClampNeg).toNatClampNeg)) - (z.2.1 60 ((z.2.1 66 z.1.toNatClampNeg).toNatClampNeg))) / 20))) fun w20 =>
    some (.inl (z.1 + 1, w20))
def f_X2_goHour_L127  (z : Int32 × Wd) : Option ((Int32 × Wd) ⊕ (Int32 × Wd)) :=
  if (z.2.1 13 0) ≤ z.1 then
    some (.inr (z.1, z.2))
  else
    gd (inB z.1 12) <|
    gd (inB z.1 12) <|
    gd (inB z.1 12) <|
    gd (inB z.1 12) <|
    gd (inB z.1 12) <|
    gd (inB z.1 12) <|
    lw (si z.2 60 z.1.toNatClampNeg ((z.2.1 60 z.1.toNatClampNeg) + (((z.2.1 64 z.1.toNatClampNeg) - (((z.2.1 61 z.1.toNatClampNeg) * ((z.2.1 60 z.1.toNatClampNeg) - (z.2.1 13 2))) / 1000)) + (z.2.1 65 z.1.toNatClampNeg)))) fun w30 =>
    some (.inl (z.1 + 1, w30))
def f_X2_goHour (w : Wd) : Option (Wd) :=
  (lp (f_X2_goHour_L2) FU (0, w)).bind fun o8 =>
  (lp (f_X2_goHour_L57) FU (0, o8.2)).bind fun o21 =>
  (lp (f_X2_goHour_L127) FU (0, o21.2)).bind fun o31 =>
  some o31.2
def f_X0_live_L6  (z : Int32 × Wd) : Option ((Int32 × Wd) ⊕ (Int32 × Wd)) :=
  if (z.2.1 3 1) ≤ z.1 then
    some (.inr (z.1, z.2))
  else
    gd (inB z.1 12) <|
    gd (inB z.1 12) <|
    lw (si z.2 (35 + z.1.toNatClampNeg) 7 (z.2.1 60 z.1.toNatClampNeg)) fun w6 =>
    gd (inB z.1 12) <|
    lw (si w6 (35 + z.1.toNatClampNeg) 8 ((w6.1 (35 + z.1.toNatClampNeg) 8) + (((w6.1 64 z.1.toNatClampNeg) * (w6.1 (35 + z.1.toNatClampNeg) 11)) / 100))) fun w8 =>
    gd (inB z.1 12) <|
    lw (si w8 (35 + z.1.toNatClampNeg) 9 ((w8.1 (35 + z.1.toNatClampNeg) 9) + (w8.1 64 z.1.toNatClampNeg))) fun w10 =>
    gd (inB z.1 12) <|
    lw (si w10 (35 + z.1.toNatClampNeg) 10 ((w10.1 (35 + z.1.toNatClampNeg) 10) + (w10.1 65 z.1.toNatClampNeg))) fun w12 =>
    some (.inl (z.1 + 1, w12))
def f_X0_live (w : Wd) : Option (Wd) :=
  (f_X2_goHour w).bind fun o1 =>
  (lp (f_X0_live_L6) FU (0, o1)).bind fun o13 =>
  lw (si o13.2 3 3 ((o13.2.1 3 3) + 1)) fun w15 =>
  some w15
def f_X10_hours_L52 (v1 : Int32) (z : Int32 × Wd) : Option ((Int32 × Wd) ⊕ (Int32 × Wd)) :=
  if v1 ≤ z.1 then
    some (.inr (z.1, z.2))
  else
    (f_X0_live z.2).bind fun o8 =>
    some (.inl (z.1 + 1, o8))
def f_X10_hours (v1 : Int32) (w : Wd) : Option (Int32 × Wd) :=
  (f_X10_within v1 1 100).bind fun o1 =>
  if o1 = 0 then
    (f_X10_finding (-1000000001) w).bind fun o14 =>
    some (o14.1, o14.2)
  else
    if ((w.1 3 3) + v1) ≤ 2000 then
      (f_X2_begin w).bind fun o5 =>
      (lp (f_X10_hours_L52 v1) FU (0, o5)).bind fun o10 =>
      some (o10.2.1 3 3, o10.2)
    else
      (f_X10_finding (-1000000005) w).bind fun o12 =>
      some (o12.1, o12.2)
def f_X10_riser_L20 (v1 : Int32) (w : Wd) (z : Int32 × Int32) : Option ((Int32 × Int32) ⊕ (Int32 × Int32)) :=
  if (w.1 3 1) ≤ z.2 then
    some (.inr (z.1, z.2))
  else
    gd (inB z.2 12) <|
    if (w.1 (35 + z.2.toNatClampNeg) 1) = v1 then
      some (.inl (z.1 ||| (1 <<< (z.2 &&& 31)), z.2 + 1))
    else
      some (.inl (z.1, z.2 + 1))
def f_X10_riser (v1 : Int32) (w : Wd) : Option (Int32 × Wd) :=
  (f_X10_within v1 0 3).bind fun o1 =>
  if o1 = 0 then
    (f_X10_finding (-1000000001) w).bind fun o9 =>
    some (o9.1, o9.2)
  else
    (lp (f_X10_riser_L20 v1 w) FU (0, 0)).bind fun o7 =>
    some (o7.1, w)
def f_X9_append (v1 : Int32) (w : Wd) : Option (Wd) :=
  if 80 ≤ (w.1 7 1) then
    some w
  else
    gd (inB (w.1 7 1) 80) <|
    lw (si w 23 (w.1 7 1).toNatClampNeg v1) fun w3 =>
    lw (si w3 7 1 ((w3.1 7 1) + 1)) fun w4 =>
    some w4
def f_X10_feed_L41 (v1 : Int32) (z : Int32 × Wd) : Option ((Int32 × Wd) ⊕ (Int32 × Wd)) :=
  if z.1 < 0 then
    some (.inr (z.1, z.2))
  else
    (f_X9_append (((v1.toUInt32 >>> ((8 * z.1).toUInt32 &&& Int32.toUInt32 31)).toInt32) &&& 255) z.2).bind fun o6 =>
    some (.inl (z.1 + (-1), o6))
def f_X10_feed (v1 : Int32) (v2 : Int32) (w : Wd) : Option (Int32 × Wd) :=
  (f_X10_within v2 1 4).bind fun o1 =>
  if o1 = 0 then
    (f_X10_finding (-1000000001) w).bind fun o12 =>
    some (o12.1, o12.2)
  else
    if ((w.1 7 1) + v2) ≤ 80 then
      (lp (f_X10_feed_L41 v1) FU (v2 - 1, w)).bind fun o8 =>
      some (o8.2.1 7 1, o8.2)
    else
      (f_X10_finding (-1000000002) w).bind fun o10 =>
      some (o10.1, o10.2)
def f_X10_wipe (w : Wd) : Option (Int32 × Wd) :=
  lw (si w 7 1 0) fun w1 =>
  some (w.1 7 1, w1)
def f_X5_next (t0 : Nat) (w : Wd) : Option (Int32) :=
  if 0 ≤ (w.1 t0 3) then
    some (-1)
  else
    if (w.1 (rf t0 0) 1) ≤ (w.1 t0 2) then
      some (-1)
    else
      gd (inB (w.1 t0 2) 80) <|
      some (w.1 (rf (rf t0 0) 0) ((w.1 t0 2).toNatClampNeg))
def f_X5_isDigit (v0 : Int32) : Option (Int32) :=
  if v0 < 48 then
    some 0
  else
    if 57 < v0 then
      some 0
    else
      some 1
def f_X5_readNumber_L4 (t0 : Nat) (z : Int32 × Int32 × Wd) : Option ((Int32 × Int32 × Wd) ⊕ (Int32 × Int32 × Wd)) :=
  if 4 ≤ z.2.1 then
    some (.inr (z.1, z.2.1, z.2.2))
  else
    (f_X5_next t0 z.2.2).bind fun o2 =>
    (f_X5_isDigit o2).bind fun o4 =>
    if o4 = 0 then
      some (.inr (z.1, z.2.1, z.2.2))
    else
      (f_X5_next t0 z.2.2).bind fun o7 =>
      lw (si z.2.2 t0 2 ((z.2.2.1 t0 2) + 1)) fun w9 =>
      some (.inl (((10 * z.1) + o7) - 48, z.2.1 + 1, w9))
def f_X5_readNumber (t0 : Nat) (w : Wd) : Option (Int32 × Wd) :=
  (lp (f_X5_readNumber_L4 t0) FU (0, 0, w)).bind fun o10 =>
  some (o10.1, o10.2.2)
def f_X5_fail (t0 : Nat) (w : Wd) : Option (Wd) :=
  if 0 ≤ (w.1 t0 3) then
    some w
  else
    lw (si w t0 3 (w.1 t0 2)) fun w2 =>
    some w2
def f_X5_expect (t0 : Nat) (v1 : Int32) (w : Wd) : Option (Wd) :=
  (f_X5_next t0 w).bind fun o1 =>
  if o1 = v1 then
    lw (si w t0 2 ((w.1 t0 2) + 1)) fun w6 =>
    some w6
  else
    (f_X5_fail t0 w).bind fun o4 =>
    some o4
def f_X5_readBracket (S : Nat → Int32 → Wd → Option (Int32 × Wd)) (t0 : Nat) (v1 : Int32) (w : Wd) : Option (Int32 × Wd) :=
  lw (si w t0 2 ((w.1 t0 2) + 1)) fun w1 =>
  (S t0 v1 w1).bind fun o2 =>
  (f_X5_expect t0 41 o2.2).bind fun o4 =>
  some (o2.1, o4)
def f_X5_readChoice (S : Nat → Int32 → Wd → Option (Int32 × Wd)) (t0 : Nat) (v1 : Int32) (w : Wd) : Option (Int32 × Wd) :=
  lw (si w t0 2 ((w.1 t0 2) + 1)) fun w1 =>
  (S t0 v1 w1).bind fun o2 =>
  (f_X5_expect t0 63 o2.2).bind fun o4 =>
  (S t0 v1 o4).bind fun o6 =>
  (f_X5_expect t0 58 o6.2).bind fun o8 =>
  (S t0 v1 o8).bind fun o10 =>
  (f_X5_expect t0 93 o10.2).bind fun o12 =>
  if o2.1 = 0 then
    some (o10.1, o12)
  else
    some (o6.1, o12)
def f_J0_isLatin1_aae02 (w : Wd) : Option (Int32) :=
  if (1 : Int32) = 0 then
    some 0
  else
    if (0 : Int32) = 0 then
      some 1
    else
      some 0
def f_J0_coder_7d493 (w : Wd) : Option (Int32) :=
  if (1 : Int32) = 0 then
    gd (zo 1) <|
    some 1
  else
    gd (zo (0 : Int32)) <|
    some (0 : Int32)
def f_J0_length_8abf5 (w : Wd) : Option (Int32) :=
  (f_J0_coder_7d493 w).bind fun o1 =>
  some ((8 : Int32) >>> (o1 &&& 31))
def f_J1_canEncode_9a6ad (v0 : Int32) : Option (Int32) :=
  if v0 < 0 then
    some 0
  else
    if 255 < v0 then
      some 0
    else
      some 1
def f_J1_indexOfChar_4cfef_L7 (v3 : Int32) (v4 : Int32) (z : Int32) : Option ((Int32) ⊕ ((Int32) ⊕ (Int32))) :=
  if v3 ≤ z then
    some (.inr (.inl z))
  else
    gd (inB z 8) <|
    if (nmB z.toNatClampNeg) = v4 then
      some (.inr (.inr z))
    else
      some (.inl (z + 1))
def f_J1_indexOfChar_4cfef (v1 : Int32) (v2 : Int32) (v3 : Int32) : Option (Int32) :=
  (lp (f_J1_indexOfChar_4cfef_L7 v3 v1.toInt8.toInt32) FU v2).bind fun o4 =>
  sm o4 (fun x6 =>
    some (-1)
    ) (fun y7 => some y7)
def f_J1_indexOf_4cfef (v1 : Int32) (v2 : Int32) (v3 : Int32) (w : Wd) : Option (Int32) :=
  (f_J1_canEncode_9a6ad v1).bind fun o1 =>
  if o1 = 0 then
    some (-1)
  else
    if (if v2 < 0 then 0 else v2) < (if (8 : Int32) < v3 then (8 : Int32) else v3) then
      (f_J1_indexOfChar_4cfef v1 (if v2 < 0 then 0 else v2) (if (8 : Int32) < v3 then (8 : Int32) else v3)).bind fun o5 =>
      some o5
    else
      some (-1)
def f_J0_indexOf_7cf53 (v1 : Int32) (v2 : Int32) (w : Wd) : Option (Int32) :=
  (f_J0_isLatin1_aae02 w).bind fun o1 =>
  if o1 = 0 then
    none
  else
    (f_J0_length_8abf5 w).bind fun o4 =>
    (f_J1_indexOf_4cfef v1 v2 o4 w).bind fun o6 =>
    some o6
def f_J0_indexOf_0f7a4 (v1 : Int32) (w : Wd) : Option (Int32) :=
  (f_J0_indexOf_7cf53 v1 0 w).bind fun o1 =>
  some o1
def f_X5_readFactor_J70 (S : Nat → Int32 → Wd → Option (Int32 × Wd)) (t0 : Nat) (v100 : Int32) (w : Wd) : Option (Int32 × Wd) :=
  (f_X10_within v100 0 (8 - 1)).bind fun o11 =>
  if o11 = 0 then
    (f_X5_fail t0 w).bind fun o16 =>
    some (0, o16)
  else
    lw (si w t0 2 ((w.1 t0 2) + 1)) fun w14 =>
    gd (inB v100 8) <|
    some (w14.1 (rf t0 1) v100.toNatClampNeg, w14)
def f_X5_readFactor_J55 (S : Nat → Int32 → Wd → Option (Int32 × Wd)) (t0 : Nat) (v2 : Int32) (w : Wd) : Option (Int32 × Wd) :=
  if 0 ≤ v2 then
    (f_J0_indexOf_0f7a4 ((v2.toUInt32 % 65536).toInt32) w).bind fun o9 =>
    f_X5_readFactor_J70 S t0 o9 w
  else
    f_X5_readFactor_J70 S t0 (-1) w
def f_X5_readFactor_J36 (S : Nat → Int32 → Wd → Option (Int32 × Wd)) (t0 : Nat) (v1 : Int32) (v2 : Int32) (w : Wd) : Option (Int32 × Wd) :=
  if v2 = 91 then
    if 4 ≤ v1 then
      f_X5_readFactor_J55 S t0 v2 w
    else
      (f_X5_readChoice S t0 (v1 + 1) w).bind fun o19 =>
      some (o19.1, o19.2)
  else
    f_X5_readFactor_J55 S t0 v2 w
def f_X5_readFactor (S : Nat → Int32 → Wd → Option (Int32 × Wd)) (t0 : Nat) (v1 : Int32) (w : Wd) : Option (Int32 × Wd) :=
  (f_X5_next t0 w).bind fun o1 =>
  (f_X5_isDigit o1).bind fun o3 =>
  if o3 = 0 then
    if o1 = 40 then
      if 4 ≤ v1 then
        f_X5_readFactor_J36 S t0 v1 o1 w
      else
        (f_X5_readBracket S t0 (v1 + 1) w).bind fun o22 =>
        some (o22.1, o22.2)
    else
      f_X5_readFactor_J36 S t0 v1 o1 w
  else
    (f_X5_readNumber t0 w).bind fun o24 =>
    some (o24.1, o24.2)
def f_X5_quotient (v0 : Int32) (v1 : Int32) : Option (Int32) :=
  if v1 = 0 then
    some 0
  else
    gd (nz v1) <|
    some (v0 / v1)
def f_X5_readProduct_J37 (S : Nat → Int32 → Wd → Option (Int32 × Wd)) (t0 : Nat) (v1 : Int32) (v2 : Int32) (v3 : Int32) (v4 : Int32) (w : Wd) : Option ((Int32 × Int32 × Wd) ⊕ (Int32 × Int32 × Wd)) :=
  lw (si w t0 2 ((w.1 t0 2) + 1)) fun w7 =>
  (f_X5_readFactor S t0 v1 w7).bind fun o8 =>
  if v4 = 42 then
    some (.inl (v2 * o8.1, v3 + 1, o8.2))
  else
    (f_X5_quotient v2 o8.1).bind fun o11 =>
    some (.inl (o11, v3 + 1, o8.2))
def f_X5_readProduct_L8 (S : Nat → Int32 → Wd → Option (Int32 × Wd)) (t0 : Nat) (v1 : Int32) (z : Int32 × Int32 × Wd) : Option ((Int32 × Int32 × Wd) ⊕ (Int32 × Int32 × Wd)) :=
  if 80 ≤ z.2.1 then
    some (.inr (z.1, z.2.1, z.2.2))
  else
    (f_X5_next t0 z.2.2).bind fun o4 =>
    if o4 = 42 then
      f_X5_readProduct_J37 S t0 v1 z.1 z.2.1 o4 z.2.2
    else
      if o4 = 47 then
        f_X5_readProduct_J37 S t0 v1 z.1 z.2.1 o4 z.2.2
      else
        some (.inr (z.1, z.2.1, z.2.2))
def f_X5_readProduct (S : Nat → Int32 → Wd → Option (Int32 × Wd)) (t0 : Nat) (v1 : Int32) (w : Wd) : Option (Int32 × Wd) :=
  (f_X5_readFactor S t0 v1 w).bind fun o1 =>
  (lp (f_X5_readProduct_L8 S t0 v1) FU (o1.1, 0, o1.2)).bind fun o14 =>
  some (o14.1, o14.2.2)
def f_X5_readSum_J37 (S : Nat → Int32 → Wd → Option (Int32 × Wd)) (t0 : Nat) (v1 : Int32) (v2 : Int32) (v3 : Int32) (v4 : Int32) (w : Wd) : Option ((Int32 × Int32 × Wd) ⊕ (Int32 × Int32 × Wd)) :=
  lw (si w t0 2 ((w.1 t0 2) + 1)) fun w7 =>
  (f_X5_readProduct S t0 v1 w7).bind fun o8 =>
  if v4 = 43 then
    some (.inl (v2 + o8.1, v3 + 1, o8.2))
  else
    some (.inl (v2 - o8.1, v3 + 1, o8.2))
def f_X5_readSum_L8 (S : Nat → Int32 → Wd → Option (Int32 × Wd)) (t0 : Nat) (v1 : Int32) (z : Int32 × Int32 × Wd) : Option ((Int32 × Int32 × Wd) ⊕ (Int32 × Int32 × Wd)) :=
  if 80 ≤ z.2.1 then
    some (.inr (z.1, z.2.1, z.2.2))
  else
    (f_X5_next t0 z.2.2).bind fun o4 =>
    if o4 = 43 then
      f_X5_readSum_J37 S t0 v1 z.1 z.2.1 o4 z.2.2
    else
      if o4 = 45 then
        f_X5_readSum_J37 S t0 v1 z.1 z.2.1 o4 z.2.2
      else
        some (.inr (z.1, z.2.1, z.2.2))
def f_X5_readSum_o (S : Nat → Int32 → Wd → Option (Int32 × Wd)) (t0 : Nat) (v1 : Int32) (w : Wd) : Option (Int32 × Wd) :=
  (f_X5_readProduct S t0 v1 w).bind fun o1 =>
  (lp (f_X5_readSum_L8 S t0 v1) FU (o1.1, 0, o1.2)).bind fun o12 =>
  some (o12.1, o12.2.2)
def f_X5_readSum : Nat → Nat → Int32 → Wd → Option (Int32 × Wd)
  | 0 => fun _ _ _ => none
  | n + 1 => f_X5_readSum_o (f_X5_readSum n)
def f_X5_check (t0 : Nat) (w : Wd) : Option (Int32 × Wd) :=
  lw (si w t0 2 0) fun w1 =>
  lw (si w1 t0 3 (-1)) fun w2 =>
  (f_X5_readSum 5 t0 0 w2).bind fun o3 =>
  if (o3.2.1 (rf t0 0) 1) ≤ (o3.2.1 t0 2) then
    some (o3.2.1 t0 3, o3.2)
  else
    (f_X5_fail t0 o3.2).bind fun o6 =>
    some (o6.1 t0 3, o6)
def f_X9_become_L2 (t0 : Nat) (t1 : Nat) (z : Int32 × Wd) : Option ((Int32 × Wd) ⊕ (Int32 × Wd)) :=
  if (z.2.1 t1 1) ≤ z.1 then
    some (.inr (z.1, z.2))
  else
    gd (inB z.1 80) <|
    gd (inB z.1 80) <|
    lw (si z.2 (rf t0 0) z.1.toNatClampNeg (z.2.1 (rf t1 0) z.1.toNatClampNeg)) fun w4 =>
    some (.inl (z.1 + 1, w4))
def f_X9_become (t0 : Nat) (t1 : Nat) (w : Wd) : Option (Wd) :=
  (lp (f_X9_become_L2 t0 t1) FU (0, w)).bind fun o5 =>
  lw (si o5.2 t0 1 (o5.2.1 t1 1)) fun w7 =>
  some w7
def f_X10_rule (w : Wd) : Option (Int32 × Wd) :=
  (f_X5_check 11 w).bind fun o1 =>
  if o1.1 < 0 then
    (f_X9_become 5 7 o1.2).bind fun o4 =>
    lw (si o4 7 1 0) fun w6 =>
    some (0, w6)
  else
    some ((-1) - o1.1, o1.2)
def f_X10_isRuled (w : Wd) : Option (Int32) :=
  if (w.1 5 1) ≤ 0 then
    some 0
  else
    some 1
def f_X10_plain (w : Wd) : Option (Int32 × Wd) :=
  (f_X10_isRuled w).bind fun o1 =>
  (f_X10_bit o1).bind fun o3 =>
  lw (si w 5 1 0) fun w5 =>
  some (o3, w5)
def f_X5_value (t0 : Nat) (v2 : Int32) (w : Wd) : Option (Int32 × Wd) :=
  gd (inB v2 12) <|
  lw (si w (rf t0 1) 0 (w.1 (35 + v2.toNatClampNeg) 8)) fun w2 =>
  lw (si w2 (rf t0 1) 1 (w2.1 (35 + v2.toNatClampNeg) 9)) fun w3 =>
  lw (si w3 (rf t0 1) 2 (w3.1 (35 + v2.toNatClampNeg) 10)) fun w4 =>
  lw (si w4 (rf t0 1) 3 (w4.1 (35 + v2.toNatClampNeg) 3)) fun w5 =>
  lw (si w5 (rf t0 1) 4 (w5.1 (35 + v2.toNatClampNeg) 0)) fun w6 =>
  lw (si w6 (rf t0 1) 5 v2) fun w7 =>
  lw (si w7 (rf t0 1) 6 (w7.1 (35 + v2.toNatClampNeg) 1)) fun w8 =>
  lw (si w8 (rf t0 1) 7 (w8.1 (35 + v2.toNatClampNeg) 2)) fun w9 =>
  lw (si w9 t0 2 0) fun w10 =>
  lw (si w10 t0 3 (-1)) fun w11 =>
  (f_X5_readSum 5 t0 0 w11).bind fun o12 =>
  some (o12.1, o12.2)
def f_X10_ruledShare (v1 : Int32) (w : Wd) : Option (Int32 × Wd) :=
  (f_X5_value 10 v1 w).bind fun o1 =>
  some ((if 0 < (if o1.1 < 99999 then o1.1 else 99999) then (if o1.1 < 99999 then o1.1 else 99999) else 0), o1.2)
def f_X10_plainShare (v1 : Int32) (w : Wd) : Option (Int32) :=
  gd (inB v1 12) <|
  some (if (w.1 (35 + v1.toNatClampNeg) 8) < 99999 then (w.1 (35 + v1.toNatClampNeg) 8) else 99999)
def f_X10_share (v1 : Int32) (w : Wd) : Option (Int32 × Wd) :=
  (f_X0_has v1 w).bind fun o1 =>
  if o1 = 0 then
    (f_X10_finding (-1000000001) w).bind fun o11 =>
    some (o11.1, o11.2)
  else
    (f_X10_isRuled w).bind fun o4 =>
    if o4 = 0 then
      (f_X10_plainShare v1 w).bind fun o7 =>
      some (o7, w)
    else
      (f_X10_ruledShare v1 w).bind fun o9 =>
      some (o9.1, o9.2)
def f_X7_begin (v1 : Int32) (w : Wd) : Option (Wd) :=
  lw (si w 12 2 v1) fun w1 =>
  lw (si w1 12 1 0) fun w2 =>
  lw (si w2 12 3 0) fun w3 =>
  some w3
def f_X7_add (v1 : Int32) (w : Wd) : Option (Wd) :=
  if 12 ≤ (w.1 12 1) then
    some w
  else
    gd (inB (w.1 12 1) 12) <|
    lw (si w 34 (w.1 12 1).toNatClampNeg v1) fun w3 =>
    lw (si w3 12 3 ((w3.1 12 3) + v1)) fun w4 =>
    lw (si w4 12 1 ((w4.1 12 1) + 1)) fun w5 =>
    some w5
def f_X10_splitByShares_L10 (v2 : Int32) (z : Int32 × Wd) : Option ((Int32 × Wd) ⊕ (Int32 × Wd)) :=
  if (z.2.1 3 1) ≤ z.1 then
    some (.inr (z.1, z.2))
  else
    if v2 = 0 then
      (f_X10_plainShare z.1 z.2).bind fun o5 =>
      (f_X7_add o5 z.2).bind fun o7 =>
      some (.inl (z.1 + 1, o7))
    else
      (f_X10_ruledShare z.1 z.2).bind fun o9 =>
      (f_X7_add o9.1 o9.2).bind fun o11 =>
      some (.inl (z.1 + 1, o11))
def f_X10_splitByShares (v1 : Int32) (v2 : Int32) (w : Wd) : Option (Wd) :=
  (f_X7_begin v1 w).bind fun o1 =>
  (lp (f_X10_splitByShares_L10 v2) FU (0, o1)).bind fun o13 =>
  some o13.2
def f_X7_nobodyPays (w : Wd) : Option (Int32) :=
  if 0 < (w.1 12 3) then
    some 0
  else
    some 1
def f_X7_pays_L51 (v1 : Int32) (v4 : Int32) (w : Wd) (z : Int32 × Int32 × Int32) : Option ((Int32 × Int32 × Int32) ⊕ (Int32 × Int32 × Int32)) :=
  if (w.1 12 1) ≤ z.2.2 then
    some (.inr (z.1, z.2.1, z.2.2))
  else
    gd (inB z.2.2 12) <|
    gd (nz (w.1 12 3)) <|
    gd (inB z.2.2 12) <|
    gd (nz (w.1 12 3)) <|
    if v4 < (((w.1 12 2) * (w.1 34 z.2.2.toNatClampNeg)) - ((w.1 12 2) * (w.1 34 z.2.2.toNatClampNeg)) / (w.1 12 3) * (w.1 12 3)) then
      some (.inl (z.1 - (((w.1 12 2) * (w.1 34 z.2.2.toNatClampNeg)) / (w.1 12 3)), z.2.1 + 1, z.2.2 + 1))
    else
      if (((w.1 12 2) * (w.1 34 z.2.2.toNatClampNeg)) - ((w.1 12 2) * (w.1 34 z.2.2.toNatClampNeg)) / (w.1 12 3) * (w.1 12 3)) = v4 then
        if v1 ≤ z.2.2 then
          some (.inl (z.1 - (((w.1 12 2) * (w.1 34 z.2.2.toNatClampNeg)) / (w.1 12 3)), z.2.1, z.2.2 + 1))
        else
          some (.inl (z.1 - (((w.1 12 2) * (w.1 34 z.2.2.toNatClampNeg)) / (w.1 12 3)), z.2.1 + 1, z.2.2 + 1))
      else
        some (.inl (z.1 - (((w.1 12 2) * (w.1 34 z.2.2.toNatClampNeg)) / (w.1 12 3)), z.2.1, z.2.2 + 1))
def f_X7_pays (v1 : Int32) (w : Wd) : Option (Int32) :=
  if (w.1 12 3) ≤ 0 then
    some 0
  else
    (f_X10_within v1 0 ((w.1 12 1) - 1)).bind fun o2 =>
    if o2 = 0 then
      some 0
    else
      gd (inB v1 12) <|
      gd (nz (w.1 12 3)) <|
      (lp (f_X7_pays_L51 v1 (((w.1 12 2) * (w.1 34 v1.toNatClampNeg)) - ((w.1 12 2) * (w.1 34 v1.toNatClampNeg)) / (w.1 12 3) * (w.1 12 3)) w) FU (w.1 12 2, 0, 0)).bind fun o15 =>
      gd (inB v1 12) <|
      gd (nz (w.1 12 3)) <|
      if o15.1 ≤ o15.2.1 then
        (f_X10_bit 0).bind fun o20 =>
        some ((((w.1 12 2) * (w.1 34 v1.toNatClampNeg)) / (w.1 12 3)) + o20)
      else
        (f_X10_bit 1).bind fun o22 =>
        some ((((w.1 12 2) * (w.1 34 v1.toNatClampNeg)) / (w.1 12 3)) + o22)
def f_X10_bill (v1 : Int32) (v2 : Int32) (w : Wd) : Option (Int32 × Wd) :=
  (f_X10_within v1 0 9999).bind fun o1 =>
  if o1 = 0 then
    (f_X10_finding (-1000000001) w).bind fun o4 =>
    some (o4.1, o4.2)
  else
    (f_X0_has v2 w).bind fun o6 =>
    if o6 = 0 then
      (f_X10_finding (-1000000001) w).bind fun o20 =>
      some (o20.1, o20.2)
    else
      (f_X10_isRuled w).bind fun o9 =>
      (f_X10_splitByShares v1 o9 w).bind fun o11 =>
      (f_X7_nobodyPays o11).bind fun o13 =>
      if o13 = 0 then
        (f_X7_pays v2 o11).bind fun o16 =>
        some (o16, o11)
      else
        (f_X10_finding (-1000000004) o11).bind fun o18 =>
        some (o18.1, o18.2)
def f_X10_other (v1 : Int32) (v2 : Int32) (w : Wd) : Option (Int32 × Wd) :=
  (f_X10_within v1 0 9999).bind fun o1 =>
  if o1 = 0 then
    (f_X10_finding (-1000000001) w).bind fun o4 =>
    some (o4.1, o4.2)
  else
    (f_X0_has v2 w).bind fun o6 =>
    if o6 = 0 then
      (f_X10_finding (-1000000001) w).bind fun o29 =>
      some (o29.1, o29.2)
    else
      (f_X10_isRuled w).bind fun o9 =>
      (f_X10_splitByShares v1 o9 w).bind fun o11 =>
      (f_X7_nobodyPays o11).bind fun o13 =>
      if o13 = 0 then
        (f_X7_pays v2 o11).bind fun o16 =>
        (f_X10_splitByShares v1 0 o11).bind fun o18 =>
        (f_X7_nobodyPays o18).bind fun o20 =>
        if o20 = 0 then
          (f_X7_pays v2 o18).bind fun o23 =>
          some (o23 - o16, o18)
        else
          (f_X10_finding (-1000000004) o18).bind fun o25 =>
          some (o25.1, o25.2)
      else
        (f_X10_finding (-1000000004) o11).bind fun o27 =>
        some (o27.1, o27.2)
def f_X0_usedOfAll_L4 (w : Wd) (z : Int32 × Int32) : Option ((Int32 × Int32) ⊕ (Int32 × Int32)) :=
  if (w.1 3 1) ≤ z.2 then
    some (.inr (z.1, z.2))
  else
    gd (inB z.2 12) <|
    some (.inl (z.1 + (w.1 (35 + z.2.toNatClampNeg) 8), z.2 + 1))
def f_X0_usedOfAll (w : Wd) : Option (Int32) :=
  (lp (f_X0_usedOfAll_L4 w) FU (0, 0)).bind fun o3 =>
  some o3.1
def f_X0_takenOfAll_L4 (w : Wd) (z : Int32 × Int32) : Option ((Int32 × Int32) ⊕ (Int32 × Int32)) :=
  if (w.1 3 1) ≤ z.2 then
    some (.inr (z.1, z.2))
  else
    gd (inB z.2 12) <|
    some (.inl (z.1 + (w.1 (35 + z.2.toNatClampNeg) 9), z.2 + 1))
def f_X0_takenOfAll (w : Wd) : Option (Int32) :=
  (lp (f_X0_takenOfAll_L4 w) FU (0, 0)).bind fun o3 =>
  some o3.1
def f_X0_farthestMeter_L6 (w : Wd) (z : Int32 × Int32 × Int32) : Option ((Int32 × Int32 × Int32) ⊕ (Int32 × Int32 × Int32)) :=
  if (w.1 3 1) ≤ z.2.2 then
    some (.inr (z.1, z.2.1, z.2.2))
  else
    gd (inB z.2.2 12) <|
    gd (inB z.2.2 12) <|
    if (if 0 ≤ ((w.1 (35 + z.2.2.toNatClampNeg) 8) - (w.1 (35 + z.2.2.toNatClampNeg) 9)) then ((w.1 (35 + z.2.2.toNatClampNeg) 8) - (w.1 (35 + z.2.2.toNatClampNeg) 9)) else 0 - ((w.1 (35 + z.2.2.toNatClampNeg) 8) - (w.1 (35 + z.2.2.toNatClampNeg) 9))) ≤ z.2.1 then
      some (.inl (z.1, z.2.1, z.2.2 + 1))
    else
      some (.inl (z.2.2, (if 0 ≤ ((w.1 (35 + z.2.2.toNatClampNeg) 8) - (w.1 (35 + z.2.2.toNatClampNeg) 9)) then ((w.1 (35 + z.2.2.toNatClampNeg) 8) - (w.1 (35 + z.2.2.toNatClampNeg) 9)) else 0 - ((w.1 (35 + z.2.2.toNatClampNeg) 8) - (w.1 (35 + z.2.2.toNatClampNeg) 9))), z.2.2 + 1))
def f_X0_farthestMeter (w : Wd) : Option (Int32) :=
  (lp (f_X0_farthestMeter_L6 w) FU (0, (-1), 0)).bind fun o5 =>
  some o5.1
def f_X10_meters (v1 : Int32) (w : Wd) : Option (Int32 × Wd) :=
  (f_X10_within v1 0 1).bind fun o1 =>
  if o1 = 0 then
    (f_X10_finding (-1000000001) w).bind fun o14 =>
    some (o14.1, o14.2)
  else
    if v1 = 0 then
      (f_X0_usedOfAll w).bind fun o10 =>
      (f_X0_takenOfAll w).bind fun o12 =>
      some (o10 - o12, w)
    else
      if (w.1 3 1) = 0 then
        (f_X10_finding (-1000000004) w).bind fun o8 =>
        some (o8.1, o8.2)
      else
        (f_X0_farthestMeter w).bind fun o6 =>
        some (o6, w)
def f_X10_areBounds (v0 : Int32) : Option (Int32) :=
  (f_X10_within v0 0 999999).bind fun o1 =>
  gd (zo o1) <|
  some o1
def f_X10_feeling (v0 : Int32) (v1 : Int32) : Option (Int32) :=
  if (v1 / 1000) ≤ v0 then
    if v0 ≤ (v1 - v1 / 1000 * 1000) then
      some 0
    else
      some 2
  else
    some 1
def f_X10_felt (v1 : Int32) (v2 : Int32) (w : Wd) : Option (Int32 × Wd) :=
  (f_X0_has v1 w).bind fun o1 =>
  if o1 = 0 then
    (f_X10_finding (-1000000001) w).bind fun o4 =>
    some (o4.1, o4.2)
  else
    (f_X10_areBounds v2).bind fun o6 =>
    if o6 = 0 then
      (f_X10_finding (-1000000001) w).bind fun o12 =>
      some (o12.1, o12.2)
    else
      gd (inB v1 12) <|
      (f_X10_feeling (w.1 (35 + v1.toNatClampNeg) 7) v2).bind fun o10 =>
      some (o10, w)
def f_X2_go_L20 (v1 : Int32) (v3 : Int32) (w : Wd) (z : Int32 × Int32) : Option ((Int32 × Int32) ⊕ (Int32 × Int32)) :=
  if (w.1 13 0) ≤ z.2 then
    some (.inr (z.1, z.2))
  else
    gd (inB z.2 12) <|
    some (.inl (z.1 + (w.1 64 z.2.toNatClampNeg), z.2 + 1))
def f_X2_go_L8 (v1 : Int32) (z : Int32 × Int32 × Wd) : Option ((Int32 × Int32 × Wd) ⊕ (Int32 × Int32 × Wd)) :=
  if v1 ≤ z.2.1 then
    some (.inr (z.1, z.2.1, z.2.2))
  else
    (f_X2_goHour z.2.2).bind fun o4 =>
    (lp (f_X2_go_L20 v1 z.2.1 o4) FU (z.1, 0)).bind fun o8 =>
    some (.inl (o8.1, z.2.1 + 1, o4))
def f_X2_go (v1 : Int32) (w : Wd) : Option (Int32 × Wd) :=
  (f_X2_restart w).bind fun o1 =>
  (lp (f_X2_go_L8 v1) FU (0, 0, o1)).bind fun o10 =>
  some (o10.1, o10.2.2)
def f_X10_even_L49 (v1 : Int32) (w : Wd) (z : Int32 × Int32) : Option ((Int32 × Int32) ⊕ (Int32 × Int32)) :=
  if (w.1 3 1) ≤ z.2 then
    some (.inr (z.1, z.2))
  else
    gd (inB z.2 12) <|
    (f_X10_feeling (w.1 60 z.2.toNatClampNeg) v1).bind fun o15 =>
    if o15 = 0 then
      some (.inl (z.1 ||| (1 <<< (z.2 &&& 31)), z.2 + 1))
    else
      some (.inl (z.1, z.2 + 1))
def f_X10_even (v1 : Int32) (v2 : Int32) (w : Wd) : Option (Int32 × Wd) :=
  (f_X10_areBounds v1).bind fun o1 =>
  if o1 = 0 then
    (f_X10_finding (-1000000001) w).bind fun o4 =>
    some (o4.1, o4.2)
  else
    (f_X10_within v2 0 50).bind fun o6 =>
    if o6 = 0 then
      (f_X10_finding (-1000000001) w).bind fun o20 =>
      some (o20.1, o20.2)
    else
      (f_X2_begin w).bind fun o9 =>
      (f_X2_go v2 o9).bind fun o11 =>
      (lp (f_X10_even_L49 v1 o11.2) FU (0, 0)).bind fun o18 =>
      some (o18.1, o11.2)
def f_X10_foretold (v1 : Int32) (v2 : Int32) (w : Wd) : Option (Int32 × Wd) :=
  (f_X0_has v1 w).bind fun o1 =>
  if o1 = 0 then
    (f_X10_finding (-1000000001) w).bind fun o4 =>
    some (o4.1, o4.2)
  else
    (f_X10_within v2 0 100).bind fun o6 =>
    if o6 = 0 then
      (f_X10_finding (-1000000001) w).bind fun o14 =>
      some (o14.1, o14.2)
    else
      (f_X2_begin w).bind fun o9 =>
      (f_X2_go v2 o9).bind fun o11 =>
      gd (inB v1 12) <|
      some (o11.2.1 60 v1.toNatClampNeg, o11.2)
def f_X2_isAllEven_L2 (v1 : Int32) (w : Wd) (z : Int32) : Option ((Int32) ⊕ ((Int32) ⊕ (Int32))) :=
  if (w.1 13 0) ≤ z then
    some (.inr (.inl z))
  else
    gd (inB z 12) <|
    (f_X10_feeling (w.1 60 z.toNatClampNeg) v1).bind fun o3 =>
    if o3 = 0 then
      some (.inl (z + 1))
    else
      some (.inr (.inr 0))
def f_X2_isAllEven (v1 : Int32) (w : Wd) : Option (Int32) :=
  (lp (f_X2_isAllEven_L2 v1 w) FU 0).bind fun o6 =>
  sm o6 (fun x8 =>
    some 1
    ) (fun y9 => some y9)
def f_X3_isGood_L9  (z : Int32 × Wd) : Option ((Int32 × Wd) ⊕ (Int32 × Wd)) :=
  if (z.2.1 14 4) ≤ z.1 then
    some (.inr (z.1, z.2))
  else
    (f_X2_goHour z.2).bind fun o4 =>
    some (.inl (z.1 + 1, o4))
def f_X3_isGood (w : Wd) : Option (Int32 × Wd) :=
  (f_X2_restart w).bind fun o1 =>
  (lp (f_X3_isGood_L9) FU (0, o1)).bind fun o6 =>
  (f_X2_isAllEven (o6.2.1 14 3) o6.2).bind fun o8 =>
  gd (zo o8) <|
  some (o8, o6.2)
def f_X3_isOneEnough_L15 (v1 : Int32) (v2 : Int32) (z : Int32 × Wd) : Option ((Int32 × Wd) ⊕ ((Int32 × Wd) ⊕ (Int32 × Wd))) :=
  if 8 < z.1 then
    some (.inr (.inl (z.1, z.2)))
  else
    if z.1 = v2 then
      some (.inl (z.1 + 1, z.2))
    else
      gd (inB v1 12) <|
      lw (si z.2 68 v1.toNatClampNeg z.1) fun w5 =>
      (f_X0_weight v1 z.1 w5).bind fun o6 =>
      gd (inB v1 12) <|
      lw (si w5 62 v1.toNatClampNeg o6) fun w9 =>
      (f_X3_isGood w9).bind fun o10 =>
      if o10.1 = 0 then
        some (.inl (z.1 + 1, o10.2))
      else
        some (.inr (.inr (1, o10.2)))
def f_X3_isOneEnough (v1 : Int32) (w : Wd) : Option (Int32 × Wd) :=
  gd (inB v1 12) <|
  (lp (f_X3_isOneEnough_L15 v1 (w.1 (35 + v1.toNatClampNeg) 4)) FU (0, w)).bind fun o13 =>
  sm o13 (fun x15 =>
    gd (inB v1 12) <|
    lw (si x15.2 68 v1.toNatClampNeg (-1)) fun w18 =>
    (f_X0_weight v1 (w.1 (35 + v1.toNatClampNeg) 4) w18).bind fun o19 =>
    gd (inB v1 12) <|
    lw (si w18 62 v1.toNatClampNeg o19) fun w22 =>
    some (0, w22)
    ) (fun y16 => some y16)
def f_X3_seekOne_L2  (z : Int32 × Wd) : Option ((Int32 × Wd) ⊕ ((Int32 × Wd) ⊕ (Int32 × Wd))) :=
  if (z.2.1 3 1) ≤ z.1 then
    some (.inr (.inl (z.1, z.2)))
  else
    gd (inB z.1 12) <|
    if (z.2.1 (35 + z.1.toNatClampNeg) 5) = 0 then
      (f_X3_isOneEnough z.1 z.2).bind fun o4 =>
      if o4.1 = 0 then
        some (.inl (z.1 + 1, o4.2))
      else
        some (.inr (.inr (1, o4.2)))
    else
      some (.inl (z.1 + 1, z.2))
def f_X3_seekOne (w : Wd) : Option (Int32 × Wd) :=
  (lp (f_X3_seekOne_L2) FU (0, w)).bind fun o7 =>
  sm o7 (fun x9 =>
    some (0, x9.2)
    ) (fun y10 => some y10)
def f_X3_areTwoEnough_L16 (v1 : Int32) (v2 : Int32) (v3 : Int32) (z : Int32 × Wd) : Option ((Int32 × Wd) ⊕ ((Int32 × Wd) ⊕ (Int32 × Wd))) :=
  if 8 < z.1 then
    some (.inr (.inl (z.1, z.2)))
  else
    if z.1 = v3 then
      some (.inl (z.1 + 1, z.2))
    else
      gd (inB v1 12) <|
      lw (si z.2 68 v1.toNatClampNeg z.1) fun w5 =>
      (f_X0_weight v1 z.1 w5).bind fun o6 =>
      gd (inB v1 12) <|
      lw (si w5 62 v1.toNatClampNeg o6) fun w9 =>
      (f_X3_isOneEnough v2 w9).bind fun o10 =>
      if o10.1 = 0 then
        some (.inl (z.1 + 1, o10.2))
      else
        some (.inr (.inr (1, o10.2)))
def f_X3_areTwoEnough (v1 : Int32) (v2 : Int32) (w : Wd) : Option (Int32 × Wd) :=
  gd (inB v1 12) <|
  (lp (f_X3_areTwoEnough_L16 v1 v2 (w.1 (35 + v1.toNatClampNeg) 4)) FU (0, w)).bind fun o13 =>
  sm o13 (fun x15 =>
    gd (inB v1 12) <|
    lw (si x15.2 68 v1.toNatClampNeg (-1)) fun w18 =>
    (f_X0_weight v1 (w.1 (35 + v1.toNatClampNeg) 4) w18).bind fun o19 =>
    gd (inB v1 12) <|
    lw (si w18 62 v1.toNatClampNeg o19) fun w22 =>
    some (0, w22)
    ) (fun y16 => some y16)
def f_X3_seekTwo_J55 (v1 : Int32) (v2 : Int32) (v100 : Int32) (w : Wd) : Option ((Int32 × Wd) ⊕ ((Int32 × Wd) ⊕ (Int32 × Wd))) :=
  if v100 = 0 then
    (f_X3_areTwoEnough v2 v1 w).bind fun o6 =>
    if o6.1 = 0 then
      some (.inl (v2 + 1, o6.2))
    else
      some (.inr (.inr (1, o6.2)))
  else
    some (.inl (v2 + 1, w))
def f_X3_seekTwo_J50 (v1 : Int32) (v2 : Int32) (w : Wd) : Option ((Int32 × Wd) ⊕ ((Int32 × Wd) ⊕ (Int32 × Wd))) :=
  f_X3_seekTwo_J55 v1 v2 1 w
def f_X3_seekTwo_L15 (v1 : Int32) (z : Int32 × Wd) : Option ((Int32 × Wd) ⊕ ((Int32 × Wd) ⊕ (Int32 × Wd))) :=
  if v1 ≤ z.1 then
    some (.inr (.inl (z.1, z.2)))
  else
    gd (inB z.1 12) <|
    if (z.2.1 (35 + z.1.toNatClampNeg) 5) = 0 then
      gd (inB v1 12) <|
      if (z.2.1 (35 + v1.toNatClampNeg) 5) = 0 then
        f_X3_seekTwo_J55 v1 z.1 0 z.2
      else
        f_X3_seekTwo_J50 v1 z.1 z.2
    else
      f_X3_seekTwo_J50 v1 z.1 z.2
def f_X3_seekTwo_L2  (z : Int32 × Wd) : Option ((Int32 × Wd) ⊕ ((Int32 × Wd) ⊕ (Int32 × Wd))) :=
  if (z.2.1 3 1) ≤ z.1 then
    some (.inr (.inl (z.1, z.2)))
  else
    (lp (f_X3_seekTwo_L15 z.1) FU (0, z.2)).bind fun o11 =>
    sm o11 (fun x13 =>
      some (.inl (z.1 + 1, x13.2))
      ) (fun y14 => some (.inr (.inr y14)))
def f_X3_seekTwo (w : Wd) : Option (Int32 × Wd) :=
  (lp (f_X3_seekTwo_L2) FU (1, w)).bind fun o15 =>
  sm o15 (fun x17 =>
    some (0, x17.2)
    ) (fun y18 => some y18)
def f_X3_seek_L23  (z : Int32 × Wd) : Option ((Int32 × Wd) ⊕ (Int32 × Wd)) :=
  if 12 ≤ z.1 then
    some (.inr (z.1, z.2))
  else
    gd (inB z.1 12) <|
    lw (si z.2 68 z.1.toNatClampNeg (-1)) fun w7 =>
    some (.inl (z.1 + 1, w7))
def f_X3_seek (v1 : Int32) (v2 : Int32) (w : Wd) : Option (Int32 × Wd) :=
  lw (si w 14 3 v1) fun w1 =>
  lw (si w1 14 4 v2) fun w2 =>
  (f_X2_begin w2).bind fun o3 =>
  (lp (f_X3_seek_L23) FU (0, o3)).bind fun o8 =>
  (f_X3_isGood o8.2).bind fun o10 =>
  if o10.1 = 0 then
    (f_X3_seekOne o10.2).bind fun o13 =>
    if o13.1 = 0 then
      (f_X3_seekTwo o13.2).bind fun o16 =>
      if o16.1 = 0 then
        some (0, o16.2)
      else
        some (1, o16.2)
    else
      some (1, o13.2)
  else
    some (1, o10.2)
def f_X3_tell_L16 (v1 : Int32) (w : Wd) (z : Int32 × Int32 × Int32 × Int32 × Int32 × Int32) : Option ((Int32 × Int32 × Int32 × Int32 × Int32 × Int32) ⊕ (Int32 × Int32 × Int32 × Int32 × Int32 × Int32)) :=
  if (w.1 3 1) ≤ z.2.2.2.2.2 then
    some (.inr (z.1, z.2.1, z.2.2.1, z.2.2.2.1, z.2.2.2.2.1, z.2.2.2.2.2))
  else
    gd (inB z.2.2.2.2.2 12) <|
    if (w.1 68 z.2.2.2.2.2.toNatClampNeg) < 0 then
      some (.inl (z.1, z.2.1, z.2.2.1, z.2.2.2.1, z.2.2.2.2.1, z.2.2.2.2.2 + 1))
    else
      gd (inB z.2.2.2.2.2 12) <|
      gd (inB z.2.2.2.2.2 12) <|
      if (z.1 + 1) = 1 then
        gd (inB z.2.2.2.2.2 12) <|
        some (.inl (z.1 + 1, z.2.1 ||| (1 <<< (z.2.2.2.2.2 &&& 31)), z.2.2.1 + (if 0 ≤ ((w.1 68 z.2.2.2.2.2.toNatClampNeg) - (w.1 (35 + z.2.2.2.2.2.toNatClampNeg) 4)) then ((w.1 68 z.2.2.2.2.2.toNatClampNeg) - (w.1 (35 + z.2.2.2.2.2.toNatClampNeg) 4)) else 0 - ((w.1 68 z.2.2.2.2.2.toNatClampNeg) - (w.1 (35 + z.2.2.2.2.2.toNatClampNeg) 4))), w.1 68 z.2.2.2.2.2.toNatClampNeg, z.2.2.2.2.1, z.2.2.2.2.2 + 1))
      else
        gd (inB z.2.2.2.2.2 12) <|
        some (.inl (z.1 + 1, z.2.1 ||| (1 <<< (z.2.2.2.2.2 &&& 31)), z.2.2.1 + (if 0 ≤ ((w.1 68 z.2.2.2.2.2.toNatClampNeg) - (w.1 (35 + z.2.2.2.2.2.toNatClampNeg) 4)) then ((w.1 68 z.2.2.2.2.2.toNatClampNeg) - (w.1 (35 + z.2.2.2.2.2.toNatClampNeg) 4)) else 0 - ((w.1 68 z.2.2.2.2.2.toNatClampNeg) - (w.1 (35 + z.2.2.2.2.2.toNatClampNeg) 4))), z.2.2.2.1, w.1 68 z.2.2.2.2.2.toNatClampNeg, z.2.2.2.2.2 + 1))
def f_X3_tell (v1 : Int32) (w : Wd) : Option (Int32) :=
  (lp (f_X3_tell_L16 v1 w) FU (0, 0, 0, (-1), (-1), 0)).bind fun o9 =>
  if v1 = 0 then
    some o9.1
  else
  if v1 = 1 then
    some o9.2.1
  else
  if v1 = 2 then
    some o9.2.2.1
  else
  if v1 = 3 then
    some o9.2.2.2.1
  else
  some o9.2.2.2.2.1
def f_X10_few (v1 : Int32) (v2 : Int32) (v3 : Int32) (w : Wd) : Option (Int32 × Wd) :=
  (f_X10_areBounds v1).bind fun o1 =>
  if o1 = 0 then
    (f_X10_finding (-1000000001) w).bind fun o4 =>
    some (o4.1, o4.2)
  else
    (f_X10_within v2 1 8).bind fun o6 =>
    if o6 = 0 then
      (f_X10_finding (-1000000001) w).bind fun o9 =>
      some (o9.1, o9.2)
    else
      (f_X10_within v3 0 4).bind fun o11 =>
      if o11 = 0 then
        (f_X10_finding (-1000000001) w).bind fun o21 =>
        some (o21.1, o21.2)
      else
        (f_X3_seek v1 v2 w).bind fun o14 =>
        if o14.1 = 0 then
          (f_X10_finding (-1000000004) o14.2).bind fun o19 =>
          some (o19.1, o19.2)
        else
          (f_X3_tell v3 o14.2).bind fun o17 =>
          some (o17, o14.2)
def f_X10_setback (v1 : Int32) (v2 : Int32) (w : Wd) : Option (Int32 × Wd) :=
  (f_X10_within v1 0 900).bind fun o1 =>
  if o1 = 0 then
    (f_X10_finding (-1000000001) w).bind fun o4 =>
    some (o4.1, o4.2)
  else
    (f_X10_within v2 1 50).bind fun o6 =>
    if o6 = 0 then
      (f_X10_finding (-1000000001) w).bind fun o16 =>
      some (o16.1, o16.2)
    else
      (f_X2_begin w).bind fun o9 =>
      (f_X2_go v2 o9).bind fun o11 =>
      lw (si o11.2 13 1 v1) fun w13 =>
      (f_X2_go v2 w13).bind fun o14 =>
      some (o11.1 - o14.1, o14.2)
def f_X10_works (v1 : Int32) (v2 : Int32) (v3 : Int32) (w : Wd) : Option (Int32 × Wd) :=
  (f_X0_has v1 w).bind fun o1 =>
  if o1 = 0 then
    (f_X10_finding (-1000000001) w).bind fun o4 =>
    some (o4.1, o4.2)
  else
    (f_X10_within v2 1 99).bind fun o6 =>
    if o6 = 0 then
      (f_X10_finding (-1000000001) w).bind fun o9 =>
      some (o9.1, o9.2)
    else
      (f_X10_within v3 1 50).bind fun o11 =>
      if o11 = 0 then
        (f_X10_finding (-1000000001) w).bind fun o25 =>
        some (o25.1, o25.2)
      else
        (f_X2_begin w).bind fun o14 =>
        (f_X2_go v3 o14).bind fun o16 =>
        gd (inB v1 12) <|
        (f_X4_leaks (35 + v1.toNatClampNeg) v2 o16.2).bind fun o19 =>
        gd (inB v1 12) <|
        lw (si o16.2 61 v1.toNatClampNeg o19) fun w22 =>
        (f_X2_go v3 w22).bind fun o23 =>
        some (o16.1 - o23.1, o23.2)
def f_X1_isNear (v2 : Int32) (v3 : Int32) (w : Wd) : Option (Int32) :=
  gd (inB v2 24) <|
  gd (inB v3 24) <|
  if (w.1 25 v2.toNatClampNeg) = (w.1 25 v3.toNatClampNeg) then
    gd (inB v2 24) <|
    gd (inB v3 24) <|
    if (if 0 ≤ ((w.1 26 v2.toNatClampNeg) - (w.1 26 v3.toNatClampNeg)) then ((w.1 26 v2.toNatClampNeg) - (w.1 26 v3.toNatClampNeg)) else 0 - ((w.1 26 v2.toNatClampNeg) - (w.1 26 v3.toNatClampNeg))) ≤ 3 then
      gd (inB v2 24) <|
      gd (inB v3 24) <|
      if (w.1 24 v2.toNatClampNeg) = (w.1 24 v3.toNatClampNeg) then
        some 1
      else
        gd (inB v2 24) <|
        gd (inB (w.1 24 v2.toNatClampNeg) 12) <|
        gd (inB v3 24) <|
        gd (inB (w.1 24 v3.toNatClampNeg) 12) <|
        (f_X4_isRightAboveOrBelow (35 + (w.1 24 v2.toNatClampNeg).toNatClampNeg) (35 + (w.1 24 v3.toNatClampNeg).toNatClampNeg) w).bind fun o14 =>
        if o14 = 0 then
          some 0
        else
          some 1
    else
      some 0
  else
    some 0
def f_X1_merge_J40 (v1 : Int32) (v2 : Int32) (v3 : Int32) (v4 : Int32) (w : Wd) : Option ((Int32 × Wd) ⊕ (Int32 × Wd)) :=
  gd (inB v4 24) <|
  lw (si w 27 v4.toNatClampNeg v3) fun w5 =>
  some (.inl (v4 + 1, w5))
def f_X1_merge_L9 (v1 : Int32) (v2 : Int32) (v3 : Int32) (z : Int32 × Wd) : Option ((Int32 × Wd) ⊕ (Int32 × Wd)) :=
  if (z.2.1 8 4) ≤ z.1 then
    some (.inr (z.1, z.2))
  else
    gd (inB z.1 24) <|
    if (z.2.1 27 z.1.toNatClampNeg) = v1 then
      f_X1_merge_J40 v1 v2 v3 z.1 z.2
    else
      gd (inB z.1 24) <|
      if (z.2.1 27 z.1.toNatClampNeg) = v2 then
        f_X1_merge_J40 v1 v2 v3 z.1 z.2
      else
        some (.inl (z.1 + 1, z.2))
def f_X1_merge (v1 : Int32) (v2 : Int32) (w : Wd) : Option (Wd) :=
  (lp (f_X1_merge_L9 v1 v2 (if v2 < v1 then v2 else v1)) FU (0, w)).bind fun o8 =>
  some o8.2
def f_X1_add_L55 (v4 : Int32) (z : Int32 × Wd) : Option ((Int32 × Wd) ⊕ (Int32 × Wd)) :=
  if v4 ≤ z.1 then
    some (.inr (z.1, z.2))
  else
    (f_X1_isNear z.1 v4 z.2).bind fun o11 =>
    if o11 = 0 then
      some (.inl (z.1 + 1, z.2))
    else
      gd (inB z.1 24) <|
      gd (inB v4 24) <|
      (f_X1_merge (z.2.1 27 z.1.toNatClampNeg) (z.2.1 27 v4.toNatClampNeg) z.2).bind fun o16 =>
      some (.inl (z.1 + 1, o16))
def f_X1_add (v2 : Int32) (v3 : Int32) (w : Wd) : Option (Int32 × Wd) :=
  gd (inB (w.1 8 4) 24) <|
  lw (si w 24 (w.1 8 4).toNatClampNeg v2) fun w2 =>
  gd (inB (w.1 8 4) 24) <|
  lw (si w2 25 (w.1 8 4).toNatClampNeg v3) fun w4 =>
  gd (inB (w.1 8 4) 24) <|
  lw (si w4 26 (w.1 8 4).toNatClampNeg (w4.1 3 3)) fun w6 =>
  gd (inB (w.1 8 4) 24) <|
  lw (si w6 27 (w.1 8 4).toNatClampNeg (w.1 8 4)) fun w8 =>
  lw (si w8 8 4 ((w8.1 8 4) + 1)) fun w9 =>
  (lp (f_X1_add_L55 (w.1 8 4)) FU (0, w9)).bind fun o18 =>
  some (w.1 8 4, o18.2)
def f_X10_complain (v1 : Int32) (v2 : Int32) (w : Wd) : Option (Int32 × Wd) :=
  (f_X0_has v1 w).bind fun o1 =>
  if o1 = 0 then
    (f_X10_finding (-1000000001) w).bind fun o4 =>
    some (o4.1, o4.2)
  else
    (f_X10_within v2 1 2).bind fun o6 =>
    if o6 = 0 then
      (f_X10_finding (-1000000001) w).bind fun o14 =>
      some (o14.1, o14.2)
    else
      if (w.1 8 4) < 24 then
        (f_X1_add v1 v2 w).bind fun o10 =>
        some (o10.1, o10.2)
      else
        (f_X10_finding (-1000000002) w).bind fun o12 =>
        some (o12.1, o12.2)
def f_X10_complaint (v1 : Int32) (v2 : Int32) (w : Wd) : Option (Int32 × Wd) :=
  (f_X10_within v1 0 ((w.1 8 4) - 1)).bind fun o1 =>
  if o1 = 0 then
    (f_X10_finding (-1000000001) w).bind fun o14 =>
    some (o14.1, o14.2)
  else
    if v2 = 0 then
      gd (inB v1 24) <|
      some (w.1 24 v1.toNatClampNeg, w)
    else
    if v2 = 1 then
      gd (inB v1 24) <|
      some (w.1 25 v1.toNatClampNeg, w)
    else
    if v2 = 2 then
      gd (inB v1 24) <|
      some (w.1 26 v1.toNatClampNeg, w)
    else
    if v2 = 3 then
      gd (inB v1 24) <|
      some (w.1 27 v1.toNatClampNeg, w)
    else
    (f_X10_finding (-1000000001) w).bind fun o12 =>
    some (o12.1, o12.2)
def f_X10_joined (v1 : Int32) (v2 : Int32) (w : Wd) : Option (Int32 × Wd) :=
  (f_X10_within v1 0 ((w.1 8 4) - 1)).bind fun o1 =>
  if o1 = 0 then
    (f_X10_finding (-1000000001) w).bind fun o4 =>
    some (o4.1, o4.2)
  else
    (f_X10_within v2 0 ((w.1 8 4) - 1)).bind fun o6 =>
    if o6 = 0 then
      (f_X10_finding (-1000000001) w).bind fun o16 =>
      some (o16.1, o16.2)
    else
      gd (inB v1 24) <|
      gd (inB v2 24) <|
      if (w.1 27 v1.toNatClampNeg) = (w.1 27 v2.toNatClampNeg) then
        (f_X10_bit 1).bind fun o14 =>
        some (o14, w)
      else
        (f_X10_bit 0).bind fun o12 =>
        some (o12, w)
def f_X1_groupsOf_L4 (v1 : Int32) (w : Wd) (z : Int32 × Int32) : Option ((Int32 × Int32) ⊕ (Int32 × Int32)) :=
  if (w.1 8 4) ≤ z.2 then
    some (.inr (z.1, z.2))
  else
    gd (inB z.2 24) <|
    if (w.1 27 z.2.toNatClampNeg) = z.2 then
      if v1 = 0 then
        some (.inl (z.1 + 1, z.2 + 1))
      else
        gd (inB z.2 24) <|
        if (w.1 25 z.2.toNatClampNeg) = v1 then
          some (.inl (z.1 + 1, z.2 + 1))
        else
          some (.inl (z.1, z.2 + 1))
    else
      some (.inl (z.1, z.2 + 1))
def f_X1_groupsOf (v1 : Int32) (w : Wd) : Option (Int32) :=
  (lp (f_X1_groupsOf_L4 v1 w) FU (0, 0)).bind fun o7 =>
  some o7.1
def f_X10_groups (v1 : Int32) (w : Wd) : Option (Int32 × Wd) :=
  (f_X10_within v1 0 2).bind fun o1 =>
  if o1 = 0 then
    (f_X10_finding (-1000000001) w).bind fun o6 =>
    some (o6.1, o6.2)
  else
    (f_X1_groupsOf v1 w).bind fun o4 =>
    some (o4, w)
def f_X10_isSheet (v0 : Int32) : Option (Int32) :=
  (f_X10_within v0 0 3).bind fun o1 =>
  gd (zo o1) <|
  some o1
def f_X6_lay_L25 (v1 : Int32) (z : Int32 × Wd) : Option ((Int32 × Wd) ⊕ (Int32 × Wd)) :=
  gd (inB v1 4) <|
  if (z.2.1 75 v1.toNatClampNeg) ≤ z.1 then
    some (.inr (z.1, z.2))
  else
    gd (inB v1 4) <|
    gd (inB z.1 40) <|
    lw (sj z.2 (70 + v1.toNatClampNeg) z.1.toNatClampNeg 0) fun w10 =>
    some (.inl (z.1 + 1, w10))
def f_X6_lay_J21 (v1 : Int32) (v101 : Int32) (v102 : Int32) (w : Wd) : Option (Wd) :=
  gd (inB v101 4) <|
  lw (si w 75 v101.toNatClampNeg v102) fun w5 =>
  (lp (f_X6_lay_L25 v1) FU (0, w5)).bind fun o11 =>
  some o11.2
def f_X6_lay (v1 : Int32) (v2 : Int32) (v3 : Int32) (w : Wd) : Option (Wd) :=
  gd (inB v1 4) <|
  lw (si w 74 v1.toNatClampNeg v2) fun w2 =>
  if v2 = 0 then
    f_X6_lay_J21 v1 v1 0 w2
  else
    f_X6_lay_J21 v1 v1 v3 w2
def f_X10_sheet_J36 (v1 : Int32) (v2 : Int32) (v3 : Int32) (w : Wd) : Option (Int32 × Wd) :=
  if 0 ≤ v3 then
    if v3 ≤ 40 then
      (f_X6_lay v1 v2 v3 w).bind fun o9 =>
      gd (inB v1 4) <|
      some (o9.1 75 v1.toNatClampNeg, o9)
    else
      (f_X10_finding (-1000000001) w).bind fun o12 =>
      some (o12.1, o12.2)
  else
    (f_X10_finding (-1000000007) w).bind fun o14 =>
    some (o14.1, o14.2)
def f_X10_sheet (v1 : Int32) (v2 : Int32) (v3 : Int32) (w : Wd) : Option (Int32 × Wd) :=
  (f_X10_isSheet v1).bind fun o1 =>
  if o1 = 0 then
    (f_X10_finding (-1000000001) w).bind fun o4 =>
    some (o4.1, o4.2)
  else
    if v2 = 0 then
      f_X10_sheet_J36 v1 v2 v3 w
    else
      if v2 = 8 then
        f_X10_sheet_J36 v1 v2 v3 w
      else
        if v2 = 16 then
          f_X10_sheet_J36 v1 v2 v3 w
        else
          if v2 = 64 then
            f_X10_sheet_J36 v1 v2 v3 w
          else
            (f_X10_finding (-1000000001) w).bind fun o19 =>
            some (o19.1, o19.2)
def f_X6_isMissing (v1 : Int32) (w : Wd) : Option (Int32) :=
  gd (inB v1 4) <|
  if (w.1 74 v1.toNatClampNeg) = 0 then
    some 1
  else
    some 0
def f_X10_lowest (v0 : Int64) (v2 : Int32) : Option (Int64) :=
  if v2 = 8 then
    some v0.toInt32.toInt8.toInt32.toInt64
  else
    if v2 = 16 then
      some v0.toInt32.toInt16.toInt32.toInt64
    else
      some v0
def f_X10_write (v1 : Int32) (v2 : Int32) (v3 : Int64) (w : Wd) : Option (Int64 × Wd) :=
  (f_X10_isSheet v1).bind fun o1 =>
  if o1 = 0 then
    (f_X10_finding (-1000000001) w).bind fun o23 =>
    some (o23.1.toInt64, o23.2)
  else
    (f_X6_isMissing v1 w).bind fun o4 =>
    if o4 = 0 then
      gd (inB v1 4) <|
      (f_X10_within v2 0 ((w.1 75 v1.toNatClampNeg) - 1)).bind fun o8 =>
      if o8 = 0 then
        (f_X10_finding (-1000000001) w).bind fun o19 =>
        some (o19.1.toInt64, o19.2)
      else
        gd (inB v1 4) <|
        gd (inB v2 40) <|
        gd (inB v1 4) <|
        gd (inB v1 4) <|
        (f_X10_lowest v3 (w.1 74 v1.toNatClampNeg)).bind fun o15 =>
        gd (inB v2 40) <|
        lw (sj w (70 + v1.toNatClampNeg) v2.toNatClampNeg o15) fun w18 =>
        some (w.2 (70 + v1.toNatClampNeg) v2.toNatClampNeg, w18)
    else
      (f_X10_finding (-1000000006) w).bind fun o21 =>
      some (o21.1.toInt64, o21.2)
def f_X6_hasPart (v1 : Int32) (v2 : Int32) (v3 : Int32) (w : Wd) : Option (Int32) :=
  if v2 < 0 then
    some 0
  else
    if v3 < 0 then
      some 0
    else
      gd (inB v1 4) <|
      if (w.1 75 v1.toNatClampNeg) < v2 then
        some 0
      else
        gd (inB v1 4) <|
        if ((w.1 75 v1.toNatClampNeg) - v2) < v3 then
          some 0
        else
          some 1
def f_X10_copy (v1 : Int32) (v2 : Int32) (v3 : Int32) (v4 : Int32) (v5 : Int32) (w : Wd) : Option (Int32 × Wd) :=
  (f_X10_isSheet v1).bind fun o1 =>
  if o1 = 0 then
    (f_X10_finding (-1000000001) w).bind fun o4 =>
    some (o4.1, o4.2)
  else
    (f_X10_isSheet v3).bind fun o6 =>
    if o6 = 0 then
      (f_X10_finding (-1000000001) w).bind fun o38 =>
      some (o38.1, o38.2)
    else
      (f_X6_isMissing v1 w).bind fun o9 =>
      if o9 = 0 then
        (f_X6_isMissing v3 w).bind fun o14 =>
        if o14 = 0 then
          gd (inB v1 4) <|
          gd (inB v3 4) <|
          if (w.1 74 v1.toNatClampNeg) = (w.1 74 v3.toNatClampNeg) then
            (f_X6_hasPart v1 v2 v5 w).bind fun o20 =>
            if o20 = 0 then
              (f_X10_finding (-1000000001) w).bind fun o23 =>
              some (o23.1, o23.2)
            else
              (f_X6_hasPart v3 v4 v5 w).bind fun o25 =>
              if o25 = 0 then
                (f_X10_finding (-1000000001) w).bind fun o32 =>
                some (o32.1, o32.2)
              else
                gd (inB v1 4) <|
                gd (inB v3 4) <|
                gd (cpB v2 v4 v5 40 40) <|
                lw (sc w (70 + v1.toNatClampNeg) v2.toNatClampNeg (70 + v3.toNatClampNeg) v4.toNatClampNeg v5.toNatClampNeg) fun w31 =>
                some (v5, w31)
          else
            (f_X10_finding (-1000000003) w).bind fun o34 =>
            some (o34.1, o34.2)
        else
          (f_X10_finding (-1000000006) w).bind fun o36 =>
          some (o36.1, o36.2)
      else
        (f_X10_finding (-1000000006) w).bind fun o12 =>
        some (o12.1, o12.2)
def f_X10_weather_L37 (v1 : Int32) (z : Int32 × Int32 × Wd) : Option ((Int32 × Int32 × Wd) ⊕ (Int32 × Int32 × Wd)) :=
  gd (inB v1 4) <|
  if (z.2.2.1 75 v1.toNatClampNeg) ≤ z.2.1 then
    some (.inr (z.1, z.2.1, z.2.2))
  else
    if 2000 ≤ (z.2.2.1 3 3) then
      some (.inr (z.1, z.2.1, z.2.2))
    else
      gd (inB v1 4) <|
      gd (inB z.2.1 40) <|
      if (lg_cmp (z.2.2.2 (70 + v1.toNatClampNeg) z.2.1.toNatClampNeg) (-300)) < 0 then
        some (.inl (z.1, z.2.1 + 1, z.2.2))
      else
        if 0 < (lg_cmp (z.2.2.2 (70 + v1.toNatClampNeg) z.2.1.toNatClampNeg) 400) then
          some (.inl (z.1, z.2.1 + 1, z.2.2))
        else
          lw (si z.2.2 3 4 ((z.2.2.2 (70 + v1.toNatClampNeg) z.2.1.toNatClampNeg).toInt32)) fun w14 =>
          (f_X2_begin w14).bind fun o15 =>
          (f_X0_live o15).bind fun o17 =>
          some (.inl (z.1 + 1, z.2.1 + 1, o17))
def f_X10_weather (v1 : Int32) (w : Wd) : Option (Int32 × Wd) :=
  (f_X10_isSheet v1).bind fun o1 =>
  if o1 = 0 then
    (f_X10_finding (-1000000001) w).bind fun o23 =>
    some (o23.1, o23.2)
  else
    (f_X6_isMissing v1 w).bind fun o4 =>
    if o4 = 0 then
      (lp (f_X10_weather_L37 v1) FU (0, 0, w)).bind fun o19 =>
      some (o19.1, o19.2.2)
    else
      (f_X10_finding (-1000000006) w).bind fun o21 =>
      some (o21.1, o21.2)
def f_X10_read_L35 (v1 : Int32) (w : Wd) (z : Int32) : Option ((Int32) ⊕ ((Int32) ⊕ (Int32 × Wd))) :=
  gd (inB v1 4) <|
  if (w.1 75 v1.toNatClampNeg) ≤ z then
    some (.inr (.inl z))
  else
    (f_X0_has z w).bind fun o9 =>
    if o9 = 0 then
      some (.inr (.inr (1 + z, w)))
    else
      gd (inB v1 4) <|
      gd (inB z 40) <|
      gd (inB z 12) <|
      if (lg_cmp (w.2 (70 + v1.toNatClampNeg) z.toNatClampNeg) ((w.1 (35 + z.toNatClampNeg) 7).toInt64)) = 0 then
        some (.inl (z + 1))
      else
        some (.inr (.inr (1 + z, w)))
def f_X10_read (v1 : Int32) (w : Wd) : Option (Int32 × Wd) :=
  (f_X10_isSheet v1).bind fun o1 =>
  if o1 = 0 then
    (f_X10_finding (-1000000001) w).bind fun o22 =>
    some (o22.1, o22.2)
  else
    (f_X6_isMissing v1 w).bind fun o4 =>
    if o4 = 0 then
      (lp (f_X10_read_L35 v1 w) FU 0).bind fun o16 =>
      sm o16 (fun x18 =>
        some (0, w)
        ) (fun y19 => some y19)
    else
      (f_X10_finding (-1000000006) w).bind fun o20 =>
      some (o20.1, o20.2)
def f_X4_become (t0 : Nat) (t1 : Nat) (w : Wd) : Option (Wd) :=
  (f_X4_becomeNew t0 (w.1 t1 0) (w.1 t1 1) (w.1 t1 2) (w.1 t1 3) w).bind fun o1 =>
  lw (si o1 t0 4 (o1.1 t1 4)) fun w3 =>
  gd (zo (w3.1 t1 5)) <|
  lw (si w3 t0 5 (w3.1 t1 5)) fun w5 =>
  gd (zo (w5.1 t1 6)) <|
  lw (si w5 t0 6 (w5.1 t1 6)) fun w7 =>
  lw (si w7 t0 7 (w7.1 t1 7)) fun w8 =>
  lw (si w8 t0 8 (w8.1 t1 8)) fun w9 =>
  lw (si w9 t0 9 (w9.1 t1 9)) fun w10 =>
  lw (si w10 t0 10 (w10.1 t1 10)) fun w11 =>
  lw (si w11 t0 11 (w11.1 t1 11)) fun w12 =>
  some w12
def f_X0_become_L10 (t0 : Nat) (t1 : Nat) (z : Int32 × Wd) : Option ((Int32 × Wd) ⊕ (Int32 × Wd)) :=
  if 12 ≤ z.1 then
    some (.inr (z.1, z.2))
  else
    gd (inB z.1 12) <|
    gd (inB z.1 12) <|
    (f_X4_become (rf (rf t0 0) 0 + z.1.toNatClampNeg) (rf (rf t1 0) 0 + z.1.toNatClampNeg) z.2).bind fun o5 =>
    some (.inl (z.1 + 1, o5))
def f_X0_become_L39 (t0 : Nat) (t1 : Nat) (z : Int32 × Wd) : Option ((Int32 × Wd) ⊕ (Int32 × Wd)) :=
  if 4 ≤ z.1 then
    some (.inr (z.1, z.2))
  else
    gd (inB z.1 4) <|
    gd (inB z.1 4) <|
    lw (si z.2 (rf t0 2) z.1.toNatClampNeg (z.2.1 (rf t1 2) z.1.toNatClampNeg)) fun w12 =>
    some (.inl (z.1 + 1, w12))
def f_X0_become (t0 : Nat) (t1 : Nat) (w : Wd) : Option (Wd) :=
  lw (si w t0 1 (w.1 t1 1)) fun w1 =>
  (lp (f_X0_become_L10 t0 t1) FU (0, w1)).bind fun o7 =>
  (lp (f_X0_become_L39 t0 t1) FU (0, o7.2)).bind fun o13 =>
  lw (si o13.2 t0 3 (o13.2.1 t1 3)) fun w15 =>
  lw (si w15 t0 4 (w15.1 t1 4)) fun w16 =>
  lw (si w16 t0 5 (w16.1 t1 5)) fun w17 =>
  lw (si w17 t0 6 (w17.1 t1 6)) fun w18 =>
  some w18
def f_X1_become_L2 (t0 : Nat) (t1 : Nat) (z : Int32 × Wd) : Option ((Int32 × Wd) ⊕ (Int32 × Wd)) :=
  if (z.2.1 t1 4) ≤ z.1 then
    some (.inr (z.1, z.2))
  else
    gd (inB z.1 24) <|
    gd (inB z.1 24) <|
    lw (si z.2 (rf t0 0) z.1.toNatClampNeg (z.2.1 (rf t1 0) z.1.toNatClampNeg)) fun w4 =>
    gd (inB z.1 24) <|
    gd (inB z.1 24) <|
    lw (si w4 (rf t0 1) z.1.toNatClampNeg (w4.1 (rf t1 1) z.1.toNatClampNeg)) fun w7 =>
    gd (inB z.1 24) <|
    gd (inB z.1 24) <|
    lw (si w7 (rf t0 2) z.1.toNatClampNeg (w7.1 (rf t1 2) z.1.toNatClampNeg)) fun w10 =>
    gd (inB z.1 24) <|
    gd (inB z.1 24) <|
    lw (si w10 (rf t0 3) z.1.toNatClampNeg (w10.1 (rf t1 3) z.1.toNatClampNeg)) fun w13 =>
    some (.inl (z.1 + 1, w13))
def f_X1_become (t0 : Nat) (t1 : Nat) (w : Wd) : Option (Wd) :=
  (lp (f_X1_become_L2 t0 t1) FU (0, w)).bind fun o14 =>
  lw (si o14.2 t0 4 (o14.2.1 t1 4)) fun w16 =>
  some w16
def f_X8_become (t0 : Nat) (t1 : Nat) (w : Wd) : Option (Wd) :=
  (f_X0_become (rf t0 0) (rf t1 0) w).bind fun o1 =>
  (f_X9_become (rf t0 1) (rf t1 1) o1).bind fun o3 =>
  (f_X1_become (rf t0 2) (rf t1 2) o3).bind fun o5 =>
  some o5
def f_X10_image (w : Wd) : Option (Int32 × Wd) :=
  (f_X8_become 2 1 w).bind fun o1 =>
  lw (si o1 0 2 1) fun w3 =>
  some (1, w3)
def f_X10_undo (w : Wd) : Option (Int32 × Wd) :=
  if (w.1 0 2) = 0 then
    (f_X10_finding (-1000000004) w).bind fun o4 =>
    some (o4.1, o4.2)
  else
    (f_X8_become 1 2 w).bind fun o2 =>
    some (o2.1 3 3, o2)
def f_X10_tear (w : Wd) : Option (Int32 × Wd) :=
  (f_X10_bit (w.1 0 2)).bind fun o1 =>
  lw (si w 0 2 0) fun w3 =>
  some (o1, w3)
def f_X0_heldOfAll_L4 (w : Wd) (z : Int32 × Int32) : Option ((Int32 × Int32) ⊕ (Int32 × Int32)) :=
  if (w.1 3 1) ≤ z.2 then
    some (.inr (z.1, z.2))
  else
    gd (inB z.2 12) <|
    (f_X10_bit (w.1 (35 + z.2.toNatClampNeg) 5)).bind fun o3 =>
    some (.inl (z.1 + o3, z.2 + 1))
def f_X0_heldOfAll (w : Wd) : Option (Int32) :=
  (lp (f_X0_heldOfAll_L4 w) FU (0, 0)).bind fun o5 =>
  some o5.1
def f_X0_highestRiser_L4 (w : Wd) (z : Int32 × Int32) : Option ((Int32 × Int32) ⊕ (Int32 × Int32)) :=
  if 4 ≤ z.2 then
    some (.inr (z.1, z.2))
  else
    gd (inB z.2 4) <|
    gd (inB z.1 4) <|
    if (w.1 19 z.2.toNatClampNeg) ≤ (w.1 19 z.1.toNatClampNeg) then
      some (.inl (z.1, z.2 + 1))
    else
      some (.inl (z.2, z.2 + 1))
def f_X0_highestRiser (w : Wd) : Option (Int32) :=
  (lp (f_X0_highestRiser_L4 w) FU (0, 1)).bind fun o5 =>
  some o5.1
def f_X0_flowOfAll_L4 (w : Wd) (z : Int32 × Int32) : Option ((Int32 × Int32) ⊕ (Int32 × Int32)) :=
  if (w.1 3 1) ≤ z.2 then
    some (.inr (z.1, z.2))
  else
    (f_X0_flow z.2 w).bind fun o2 =>
    some (.inl (z.1 + o2, z.2 + 1))
def f_X0_flowOfAll (w : Wd) : Option (Int32) :=
  (lp (f_X0_flowOfAll_L4 w) FU (0, 0)).bind fun o4 =>
  some o4.1
def f_X10_count (v1 : Int32) (w : Wd) : Option (Int32 × Wd) :=
  if v1 = 0 then
    some (w.1 3 3, w)
  else
  if v1 = 1 then
    some (w.1 3 1, w)
  else
  if v1 = 2 then
    (f_X0_heldOfAll w).bind fun o4 =>
    some (o4, w)
  else
  if v1 = 3 then
    some (w.1 8 4, w)
  else
  if v1 = 4 then
    some (w.1 7 1, w)
  else
  if v1 = 5 then
    (f_X0_usedOfAll w).bind fun o9 =>
    some (o9, w)
  else
  if v1 = 6 then
    (f_X0_takenOfAll w).bind fun o12 =>
    some (o12, w)
  else
  if v1 = 7 then
    (f_X0_highestRiser w).bind fun o15 =>
    some (o15, w)
  else
  if v1 = 8 then
    (f_X0_flowOfAll w).bind fun o18 =>
    some (o18, w)
  else
  (f_X10_finding (-1000000001) w).bind fun o20 =>
  some (o20.1, o20.2)
def f_X10_status_L32 (w : Wd) (z : Int32 × Int32) : Option ((Int32 × Int32) ⊕ (Int32 × Int32)) :=
  if 7 ≤ z.2 then
    some (.inr (z.1, z.2))
  else
    gd (inB z.2 7) <|
    some (.inl (z.1 + (w.1 16 z.2.toNatClampNeg), z.2 + 1))
def f_X10_status (v1 : Int32) (w : Wd) : Option (Int32 × Wd) :=
  (f_X10_within v1 (-1) 6).bind fun o1 =>
  if o1 = 0 then
    (f_X10_finding (-1000000001) w).bind fun o10 =>
    some (o10.1, o10.2)
  else
    if v1 < 0 then
      (lp (f_X10_status_L32 w) FU (0, 0)).bind fun o7 =>
      some (o7.1, w)
    else
      gd (inB v1 7) <|
      some (w.1 16 v1.toNatClampNeg, w)
def f_X11_finds (v1 : Int32) (w : Wd) : Option (Int32 × Wd) :=
  gd (inB ((-1000000001) - v1) 7) <|
  gd (inB ((-1000000001) - v1) 7) <|
  lw (si w 79 ((-1000000001) - v1).toNatClampNeg ((w.1 79 (((-1000000001) - v1).toNatClampNeg)) + 1)) fun w3 =>
  lw (si w3 76 4 ((w3.1 76 4) + 1)) fun w4 =>
  some (v1, w4)
def f_X11_in (v0 : Int32) (v1 : Int32) (v2 : Int32) : Option (Int32) :=
  if v0 < v1 then
    some 0
  else
    if v2 < v0 then
      some 0
    else
      some 1
def f_X11_within (v0 : Int32) (v1 : Int32) (v2 : Int32) : Option (Int32) :=
  if v1 ≤ v0 then
    if v0 ≤ v2 then
      some v0
    else
      some v2
  else
    some v1
def f_X11_isFlat (v1 : Int32) (w : Wd) : Option (Int32) :=
  (f_X11_in v1 0 ((w.1 77 4) - 1)).bind fun o1 =>
  gd (zo o1) <|
  some o1
def f_X11_get (v1 : Int32) (v2 : Int32) (w : Wd) : Option (Int32) :=
  gd (inB ((7 + (11 * v1)) + v2) 291) <|
  some (w.1 77 (((7 + (11 * v1)) + v2).toNatClampNeg))
def f_X11_becomes (v1 : Int32) (v2 : Int32) (v3 : Int32) (w : Wd) : Option (Int32 × Wd) :=
  (f_X11_get v1 v2 w).bind fun o1 =>
  gd (inB ((7 + (11 * v1)) + v2) 291) <|
  lw (si w 77 ((7 + (11 * v1)) + v2).toNatClampNeg v3) fun w4 =>
  lw (si w4 76 30 0) fun w5 =>
  some (o1, w5)
def f_X11_flat_L64 (v1 : Int32) (v2 : Int32) (v3 : Int32) (v4 : Int32) (z : Int32 × Wd) : Option ((Int32 × Wd) ⊕ (Int32 × Wd)) :=
  if 11 ≤ z.1 then
    some (.inr (z.1, z.2))
  else
    gd (inB ((7 + (11 * v4)) + z.1) 291) <|
    lw (si z.2 77 ((7 + (11 * v4)) + z.1).toNatClampNeg 0) fun w17 =>
    some (.inl (z.1 + 1, w17))
def f_X11_flat (v1 : Int32) (v2 : Int32) (v3 : Int32) (w : Wd) : Option (Int32 × Wd) :=
  (f_X11_in v1 0 5).bind fun o1 =>
  if o1 = 0 then
    (f_X11_finds (-1000000001) w).bind fun o4 =>
    some (o4.1, o4.2)
  else
    (f_X11_in v2 0 3).bind fun o6 =>
    if o6 = 0 then
      (f_X11_finds (-1000000001) w).bind fun o9 =>
      some (o9.1, o9.2)
    else
      (f_X11_in v3 1 99).bind fun o11 =>
      if o11 = 0 then
        (f_X11_finds (-1000000001) w).bind fun o36 =>
        some (o36.1, o36.2)
      else
        if (w.1 77 4) = 12 then
          (f_X11_finds (-1000000002) w).bind fun o34 =>
          some (o34.1, o34.2)
        else
          (lp (f_X11_flat_L64 v1 v2 v3 (w.1 77 4)) FU (0, w)).bind fun o18 =>
          gd (inB (7 + (11 * (w.1 77 4))) 291) <|
          lw (si o18.2 77 (7 + (11 * (w.1 77 4))).toNatClampNeg v1) fun w21 =>
          gd (inB ((7 + (11 * (w.1 77 4))) + 1) 291) <|
          lw (si w21 77 ((7 + (11 * (w.1 77 4))) + 1).toNatClampNeg v2) fun w23 =>
          gd (inB ((7 + (11 * (w.1 77 4))) + 2) 291) <|
          lw (si w23 77 ((7 + (11 * (w.1 77 4))) + 2).toNatClampNeg v3) fun w25 =>
          gd (inB ((7 + (11 * (w.1 77 4))) + 3) 291) <|
          lw (si w25 77 ((7 + (11 * (w.1 77 4))) + 3).toNatClampNeg 4) fun w27 =>
          gd (inB ((7 + (11 * (w.1 77 4))) + 6) 291) <|
          lw (si w27 77 ((7 + (11 * (w.1 77 4))) + 6).toNatClampNeg 200) fun w29 =>
          gd (inB ((7 + (11 * (w.1 77 4))) + 10) 291) <|
          lw (si w29 77 ((7 + (11 * (w.1 77 4))) + 10).toNatClampNeg 100) fun w31 =>
          lw (si w31 77 4 ((w31.1 77 4) + 1)) fun w32 =>
          lw (si w32 76 30 0) fun w33 =>
          some (w.1 77 4, w33)
def f_X11_placeOf_L4 (v1 : Int32) (w : Wd) (z : Int32 × Int32) : Option ((Int32 × Int32) ⊕ (Int32 × Int32)) :=
  if v1 ≤ z.2 then
    some (.inr (z.1, z.2))
  else
    (f_X11_get z.2 1 w).bind fun o2 =>
    (f_X11_get v1 1 w).bind fun o4 =>
    if o2 = o4 then
      some (.inl (z.1 + 1, z.2 + 1))
    else
      some (.inl (z.1 + 0, z.2 + 1))
def f_X11_placeOf (v1 : Int32) (w : Wd) : Option (Int32) :=
  (lp (f_X11_placeOf_L4 v1 w) FU (0, 0)).bind fun o7 =>
  some o7.1
def f_X11_flatAt_L5 (v1 : Int32) (v2 : Int32) (w : Wd) (z : Int32 × Int32) : Option ((Int32 × Int32) ⊕ ((Int32 × Int32) ⊕ (Int32))) :=
  if (w.1 77 4) ≤ z.2 then
    some (.inr (.inl (z.1, z.2)))
  else
    (f_X11_get z.2 1 w).bind fun o2 =>
    if o2 = v1 then
      if z.1 = v2 then
        some (.inr (.inr z.2))
      else
        some (.inl (z.1 + 1, z.2 + 1))
    else
      some (.inl (z.1, z.2 + 1))
def f_X11_flatAt (v1 : Int32) (v2 : Int32) (w : Wd) : Option (Int32) :=
  (lp (f_X11_flatAt_L5 v1 v2 w) FU (0, 0)).bind fun o6 =>
  sm o6 (fun x8 =>
    some (-1)
    ) (fun y9 => some y9)
def f_X11_leaksBy_J72 (v1 : Int32) (v3 : Int32) (w : Wd) : Option (Int32) :=
  (f_X11_get v1 5 w).bind fun o4 =>
  some (v3 + (100 * o4))
def f_X11_leaksBy (v1 : Int32) (v2 : Int32) (w : Wd) : Option (Int32) :=
  (f_X11_get v1 0 w).bind fun o1 =>
  if o1 = 1 then
    f_X11_leaksBy_J72 v1 (v2 + (v2 / 2)) w
  else
  if o1 = 2 then
    f_X11_leaksBy_J72 v1 ((v2 - (v2 / 3)) + 1) w
  else
  if o1 = 3 then
    f_X11_leaksBy_J72 v1 v2 w
  else
  if o1 = 4 then
    f_X11_leaksBy_J72 v1 ((v2 + (v2 / 2)) + 20) w
  else
  f_X11_leaksBy_J72 v1 v2 w
def f_X11_takesBy_J29 (v3 : Int32) (v100 : Int32) (w : Wd) : Option (Int32) :=
  if v3 = 5 then
    some (v100 + 1)
  else
    some v100
def f_X11_takesBy_J19 (v2 : Int32) (v3 : Int32) (w : Wd) : Option (Int32) :=
  if 2 ≤ v2 then
    f_X11_takesBy_J29 v3 2 w
  else
    f_X11_takesBy_J29 v3 v2 w
def f_X11_takesBy (v1 : Int32) (v2 : Int32) (w : Wd) : Option (Int32) :=
  (f_X11_get v1 0 w).bind fun o1 =>
  if o1 = 3 then
    f_X11_takesBy_J19 v2 o1 w
  else
    if o1 = 5 then
      f_X11_takesBy_J19 v2 o1 w
    else
      some v2
def f_X11_startsWarm_L2  (z : Int32 × Wd) : Option ((Int32 × Wd) ⊕ (Int32 × Wd)) :=
  if (z.2.1 77 4) ≤ z.1 then
    some (.inr (z.1, z.2))
  else
    (f_X11_get z.1 6 z.2).bind fun o2 =>
    gd (inB z.1 12) <|
    lw (si z.2 88 z.1.toNatClampNeg o2) fun w5 =>
    some (.inl (z.1 + 1, w5))
def f_X11_startsWarm (w : Wd) : Option (Wd) :=
  (lp (f_X11_startsWarm_L2) FU (0, w)).bind fun o6 =>
  some o6.2
def f_X11_weight (v1 : Int32) (w : Wd) : Option (Int32) :=
  gd (inB v1 12) <|
  (f_X11_takesBy v1 (w.1 85 v1.toNatClampNeg) w).bind fun o2 =>
  gd (inB v1 12) <|
  if 0 ≤ ((10 * o2) - (2 * (w.1 84 v1.toNatClampNeg))) then
    some ((10 * o2) - (2 * (w.1 84 v1.toNatClampNeg)))
  else
    some 0
def f_X11_findFlows_L4  (z : Int32 × Int32 × Wd) : Option ((Int32 × Int32 × Wd) ⊕ (Int32 × Int32 × Wd)) :=
  if (z.2.2.1 77 4) ≤ z.2.1 then
    some (.inr (z.1, z.2.1, z.2.2))
  else
    (f_X11_weight z.2.1 z.2.2).bind fun o2 =>
    gd (inB z.2.1 12) <|
    lw (si z.2.2 86 z.2.1.toNatClampNeg o2) fun w5 =>
    gd (inB z.2.1 12) <|
    some (.inl (z.1 + (w5.1 86 z.2.1.toNatClampNeg), z.2.1 + 1, w5))
def f_X11_findFlows_L42 (v1 : Int32) (z : Int32 × Wd) : Option ((Int32 × Wd) ⊕ (Int32 × Wd)) :=
  if (z.2.1 77 4) ≤ z.1 then
    some (.inr (z.1, z.2))
  else
    if v1 = 0 then
      gd (inB z.1 12) <|
      lw (si z.2 86 z.1.toNatClampNeg 0) fun w16 =>
      some (.inl (z.1 + 1, w16))
    else
      gd (inB z.1 12) <|
      gd (nz v1) <|
      gd (inB z.1 12) <|
      lw (si z.2 86 z.1.toNatClampNeg (((z.2.1 77 2) * (z.2.1 86 z.1.toNatClampNeg)) / v1)) fun w14 =>
      some (.inl (z.1 + 1, w14))
def f_X11_findFlows (w : Wd) : Option (Wd) :=
  (lp (f_X11_findFlows_L4) FU (0, 0, w)).bind fun o7 =>
  (lp (f_X11_findFlows_L42 o7.1) FU (0, o7.2.2)).bind fun o17 =>
  some o17.2
def f_X11_setsAside_L101 (v1 : Int32) (v3 : Int32) (z : Int32 × Wd) : Option ((Int32 × Wd) ⊕ (Int32 × Wd)) :=
  if (z.2.1 77 4) ≤ z.1 then
    some (.inr (z.1, z.2))
  else
    gd (inB v1 12) <|
    (f_X11_get z.1 1 z.2).bind fun o27 =>
    if o27 = v3 then
      gd (inB v1 12) <|
      lw (si z.2 84 v1.toNatClampNeg ((z.2.1 84 v1.toNatClampNeg) + 1)) fun w33 =>
      some (.inl (z.1 + 1, w33))
    else
      gd (inB v1 12) <|
      lw (si z.2 84 v1.toNatClampNeg ((z.2.1 84 v1.toNatClampNeg) + 0)) fun w31 =>
      some (.inl (z.1 + 1, w31))
def f_X11_setsAside_J60 (v1 : Int32) (v2 : Int32) (v3 : Int32) (v101 : Int32) (v102 : Int32) (w : Wd) : Option ((Int32 × Wd) ⊕ (Int32 × Wd)) :=
  gd (inB v101 12) <|
  lw (si w 81 v101.toNatClampNeg v102) fun w14 =>
  (f_X11_flatAt (v3 - 1) v2 w14).bind fun o15 =>
  gd (inB v1 12) <|
  lw (si w14 82 v1.toNatClampNeg o15) fun w18 =>
  (f_X11_flatAt (v3 + 1) v2 w18).bind fun o19 =>
  gd (inB v1 12) <|
  lw (si w18 83 v1.toNatClampNeg o19) fun w22 =>
  gd (inB v1 12) <|
  lw (si w22 84 v1.toNatClampNeg 0) fun w24 =>
  (lp (f_X11_setsAside_L101 v1 v3) FU (v1 + 1, w24)).bind fun o34 =>
  (f_X11_get v1 3 o34.2).bind fun o36 =>
  gd (inB v1 12) <|
  lw (si o34.2 85 v1.toNatClampNeg o36) fun w39 =>
  (f_X11_get v1 2 w39).bind fun o40 =>
  (f_X11_leaksBy v1 o40 w39).bind fun o42 =>
  gd (inB v1 12) <|
  lw (si w39 87 v1.toNatClampNeg o42) fun w45 =>
  some (.inl (v1 + 1, w45))
def f_X11_setsAside_L2  (z : Int32 × Wd) : Option ((Int32 × Wd) ⊕ (Int32 × Wd)) :=
  if (z.2.1 77 4) ≤ z.1 then
    some (.inr (z.1, z.2))
  else
    (f_X11_placeOf z.1 z.2).bind fun o2 =>
    (f_X11_get z.1 1 z.2).bind fun o4 =>
    (f_X11_flatAt o4 (o2 + 1) z.2).bind fun o6 =>
    gd (inB z.1 12) <|
    lw (si z.2 80 z.1.toNatClampNeg o6) fun w9 =>
    if o2 = 0 then
      f_X11_setsAside_J60 z.1 o2 o4 z.1 (-1) w9
    else
      (f_X11_flatAt o4 (o2 - 1) w9).bind fun o11 =>
      f_X11_setsAside_J60 z.1 o2 o4 z.1 o11 w9
def f_X11_setsAside (w : Wd) : Option (Wd) :=
  (lp (f_X11_setsAside_L2) FU (0, w)).bind fun o46 =>
  (f_X11_startsWarm o46.2).bind fun o48 =>
  (f_X11_findFlows o48).bind fun o50 =>
  some o50
def f_X11_from (v1 : Int32) (v2 : Int32) (w : Wd) : Option (Int32) :=
  if 0 ≤ v2 then
    gd (inB v2 12) <|
    gd (inB v1 12) <|
    some (((w.1 88 v2.toNatClampNeg) - (w.1 88 v1.toNatClampNeg)) / 20)
  else
    some 0
def f_X11_goes_J51 (v1 : Int32) (v2 : Int32) (v3 : Int32) (v101 : Int32) (v102 : Int32) (w : Wd) : Option ((Int32 × Int32 × Wd) ⊕ (Int32 × Int32 × Wd)) :=
  gd (inB v101 12) <|
  lw (si w 90 v101.toNatClampNeg v102) fun w6 =>
  gd (inB v3 12) <|
  (f_X11_from v3 (w6.1 80 v3.toNatClampNeg) w6).bind fun o8 =>
  gd (inB v3 12) <|
  (f_X11_from v3 (w6.1 81 v3.toNatClampNeg) w6).bind fun o11 =>
  gd (inB v3 12) <|
  (f_X11_from v3 (w6.1 82 v3.toNatClampNeg) w6).bind fun o14 =>
  gd (inB v3 12) <|
  (f_X11_from v3 (w6.1 83 v3.toNatClampNeg) w6).bind fun o17 =>
  gd (inB v3 12) <|
  lw (si w6 91 v3.toNatClampNeg (((o8 + o11) + o14) + o17)) fun w20 =>
  gd (inB v3 12) <|
  gd (inB v3 12) <|
  gd (inB v3 12) <|
  gd (inB v3 12) <|
  gd (inB v3 12) <|
  gd (inB v3 12) <|
  lw (si w20 89 v3.toNatClampNeg ((((w20.1 88 v3.toNatClampNeg) + (w20.1 90 v3.toNatClampNeg)) - (((w20.1 87 v3.toNatClampNeg) * ((w20.1 88 v3.toNatClampNeg) - (w20.1 77 1))) / 1000)) + (w20.1 91 v3.toNatClampNeg))) fun w27 =>
  gd (inB v3 12) <|
  some (.inl (v2 + (w27.1 90 v3.toNatClampNeg), v3 + 1, w27))
def f_X11_goes_L4 (v1 : Int32) (z : Int32 × Int32 × Wd) : Option ((Int32 × Int32 × Wd) ⊕ (Int32 × Int32 × Wd)) :=
  if (z.2.2.1 77 4) ≤ z.2.1 then
    some (.inr (z.1, z.2.1, z.2.2))
  else
    gd (inB z.2.1 12) <|
    if 0 < (v1 - (z.2.2.1 88 z.2.1.toNatClampNeg)) then
      gd (inB z.2.1 12) <|
      f_X11_goes_J51 v1 z.1 z.2.1 z.2.1 (((z.2.2.1 86 z.2.1.toNatClampNeg) * (v1 - (z.2.2.1 88 z.2.1.toNatClampNeg))) / 1000) z.2.2
    else
      f_X11_goes_J51 v1 z.1 z.2.1 z.2.1 0 z.2.2
def f_X11_goes_L173 (v2 : Int32) (z : Int32 × Wd) : Option ((Int32 × Wd) ⊕ (Int32 × Wd)) :=
  if (z.2.1 77 4) ≤ z.1 then
    some (.inr (z.1, z.2))
  else
    gd (inB z.1 12) <|
    gd (inB z.1 12) <|
    lw (si z.2 88 z.1.toNatClampNeg (z.2.1 89 z.1.toNatClampNeg)) fun w34 =>
    some (.inl (z.1 + 1, w34))
def f_X11_goes (v1 : Int32) (w : Wd) : Option (Int32 × Wd) :=
  (lp (f_X11_goes_L4 v1) FU (0, 0, w)).bind fun o29 =>
  (lp (f_X11_goes_L173 o29.1) FU (0, o29.2.2)).bind fun o35 =>
  some (o29.1, o35.2)
def f_X11_goesAll_L5 (v1 : Int32) (v2 : Int32) (z : Int32 × Int32 × Wd) : Option ((Int32 × Int32 × Wd) ⊕ (Int32 × Int32 × Wd)) :=
  if v2 ≤ z.2.1 then
    some (.inr (z.1, z.2.1, z.2.2))
  else
    (f_X11_goes v1 z.2.2).bind fun o2 =>
    some (.inl (z.1 + o2.1, z.2.1 + 1, o2.2))
def f_X11_goesAll (v1 : Int32) (v2 : Int32) (w : Wd) : Option (Int32 × Wd) :=
  (lp (f_X11_goesAll_L5 v1 v2) FU (0, 0, w)).bind fun o4 =>
  some (o4.1, o4.2.2)
def f_X11_of_J132 (v1 : Int32) (v2 : Int32) (w : Wd) : Option (Int32 × Wd) :=
  if 8 ≤ v2 then
    (f_X11_get v1 (v2 - 4) w).bind fun o20 =>
    some (o20, w)
  else
    (f_X11_get v1 (v2 - 1) w).bind fun o22 =>
    some (o22, w)
def f_X11_of (v1 : Int32) (v2 : Int32) (w : Wd) : Option (Int32 × Wd) :=
  (f_X11_isFlat v1 w).bind fun o1 =>
  if o1 = 0 then
    (f_X11_finds (-1000000001) w).bind fun o4 =>
    some (o4.1, o4.2)
  else
    (f_X11_in v2 0 14).bind fun o6 =>
    if o6 = 0 then
      (f_X11_finds (-1000000001) w).bind fun o42 =>
      some (o42.1, o42.2)
    else
      if v2 = 0 then
        (f_X11_get v1 v2 w).bind fun o10 =>
        some (o10, w)
      else
      if v2 = 1 then
        (f_X11_get v1 v2 w).bind fun o13 =>
        some (o13, w)
      else
      if v2 = 2 then
        (f_X11_placeOf v1 w).bind fun o16 =>
        some (o16, w)
      else
      if v2 = 3 then
        f_X11_of_J132 v1 v2 w
      else
      if v2 = 4 then
        f_X11_of_J132 v1 v2 w
      else
      if v2 = 5 then
        f_X11_of_J132 v1 v2 w
      else
      if v2 = 6 then
        f_X11_of_J132 v1 v2 w
      else
      if v2 = 7 then
        f_X11_of_J132 v1 v2 w
      else
      if v2 = 8 then
        (f_X11_get v1 2 w).bind fun o29 =>
        (f_X11_leaksBy v1 o29 w).bind fun o31 =>
        some (o31, w)
      else
      if v2 = 9 then
        (f_X11_get v1 3 w).bind fun o34 =>
        (f_X11_takesBy v1 o34 w).bind fun o36 =>
        some (o36, w)
      else
      if v2 = 10 then
        (f_X11_setsAside w).bind fun o39 =>
        gd (inB v1 12) <|
        some (o39.1 86 v1.toNatClampNeg, o39)
      else
      f_X11_of_J132 v1 v2 w
def f_X11_isUnder_J19 (v0 : Int32) (v1 : Int32) : Option (Int32) :=
  if v1 = 3 then
    if v0 = 5 then
      some 1
    else
      some 0
  else
    some 0
def f_X11_isUnder (v0 : Int32) (v1 : Int32) : Option (Int32) :=
  if v1 = 0 then
    some 1
  else
    if v0 = v1 then
      some 1
    else
      if v1 = 1 then
        if v0 = 4 then
          some 1
        else
          f_X11_isUnder_J19 v0 v1
      else
        f_X11_isUnder_J19 v0 v1
def f_X11_as (v1 : Int32) (v2 : Int32) (w : Wd) : Option (Int32 × Wd) :=
  (f_X11_isFlat v1 w).bind fun o1 =>
  if o1 = 0 then
    (f_X11_finds (-1000000001) w).bind fun o4 =>
    some (o4.1, o4.2)
  else
    (f_X11_in v2 0 5).bind fun o6 =>
    if o6 = 0 then
      (f_X11_finds (-1000000001) w).bind fun o20 =>
      some (o20.1, o20.2)
    else
      (f_X11_get v1 0 w).bind fun o9 =>
      (f_X11_isUnder o9 v2).bind fun o11 =>
      if o11 = 0 then
        (f_X11_finds (-1000000003) w).bind fun o14 =>
        some (o14.1, o14.2)
      else
        (f_X11_get v1 2 w).bind fun o16 =>
        (f_X11_leaksBy v1 o16 w).bind fun o18 =>
        some (o18, w)
def f_X11_set_J45 (v1 : Int32) (v2 : Int32) (v100 : Int32) (v101 : Int32) (v102 : Int32) (w : Wd) : Option (Int32 × Wd) :=
  (f_X11_in v100 v101 v102).bind fun o9 =>
  if o9 = 0 then
    (f_X11_finds (-1000000001) w).bind fun o16 =>
    some (o16.1, o16.2)
  else
    gd (inB (1 + v1) 291) <|
    gd (inB (1 + v1) 291) <|
    lw (si w 77 (1 + v1).toNatClampNeg v2) fun w14 =>
    lw (si w14 76 30 0) fun w15 =>
    some (w.1 77 ((1 + v1).toNatClampNeg), w15)
def f_X11_set_J21 (v1 : Int32) (v2 : Int32) (v100 : Int32) (v101 : Int32) (w : Wd) : Option (Int32 × Wd) :=
  if v1 = 0 then
    f_X11_set_J45 v1 v2 v100 v101 400 w
  else
    if v1 = 1 then
      f_X11_set_J45 v1 v2 v100 v101 999 w
    else
      f_X11_set_J45 v1 v2 v100 v101 900 w
def f_X11_set (v1 : Int32) (v2 : Int32) (w : Wd) : Option (Int32 × Wd) :=
  (f_X11_in v1 0 2).bind fun o1 =>
  if o1 = 0 then
    (f_X11_finds (-1000000001) w).bind fun o4 =>
    some (o4.1, o4.2)
  else
    if v1 = 0 then
      f_X11_set_J21 v1 v2 v2 (-300) w
    else
      f_X11_set_J21 v1 v2 v2 0 w
def f_X11_turn (v1 : Int32) (v2 : Int32) (w : Wd) : Option (Int32 × Wd) :=
  (f_X11_isFlat v1 w).bind fun o1 =>
  if o1 = 0 then
    (f_X11_finds (-1000000001) w).bind fun o4 =>
    some (o4.1, o4.2)
  else
    (f_X11_in v2 0 8).bind fun o6 =>
    if o6 = 0 then
      (f_X11_finds (-1000000001) w).bind fun o16 =>
      some (o16.1, o16.2)
    else
      (f_X11_get v1 4 w).bind fun o9 =>
      if o9 = 1 then
        (f_X11_finds (-1000000005) w).bind fun o14 =>
        some (o14.1, o14.2)
      else
        (f_X11_becomes v1 3 v2 w).bind fun o12 =>
        some (o12.1, o12.2)
def f_X11_hold (v1 : Int32) (v2 : Int32) (w : Wd) : Option (Int32 × Wd) :=
  (f_X11_isFlat v1 w).bind fun o1 =>
  if o1 = 0 then
    (f_X11_finds (-1000000001) w).bind fun o4 =>
    some (o4.1, o4.2)
  else
    if v2 = 0 then
      (f_X11_becomes v1 4 0 w).bind fun o7 =>
      some (o7.1, o7.2)
    else
      (f_X11_becomes v1 4 1 w).bind fun o9 =>
      some (o9.1, o9.2)
def f_X11_window (v1 : Int32) (v2 : Int32) (w : Wd) : Option (Int32 × Wd) :=
  (f_X11_isFlat v1 w).bind fun o1 =>
  if o1 = 0 then
    (f_X11_finds (-1000000001) w).bind fun o4 =>
    some (o4.1, o4.2)
  else
    if v2 = 0 then
      (f_X11_becomes v1 5 0 w).bind fun o7 =>
      some (o7.1, o7.2)
    else
      (f_X11_becomes v1 5 1 w).bind fun o9 =>
      some (o9.1, o9.2)
def f_X11_drift (v1 : Int32) (v2 : Int32) (w : Wd) : Option (Int32 × Wd) :=
  (f_X11_isFlat v1 w).bind fun o1 =>
  if o1 = 0 then
    (f_X11_finds (-1000000001) w).bind fun o4 =>
    some (o4.1, o4.2)
  else
    (f_X11_in v2 0 200).bind fun o6 =>
    if o6 = 0 then
      (f_X11_finds (-1000000001) w).bind fun o9 =>
      some (o9.1, o9.2)
    else
      (f_X11_becomes v1 10 v2 w).bind fun o11 =>
      some (o11.1, o11.2)
def f_X11_anHour_L13  (z : Int32 × Wd) : Option ((Int32 × Wd) ⊕ (Int32 × Wd)) :=
  if (z.2.1 77 4) ≤ z.1 then
    some (.inr (z.1, z.2))
  else
    gd (inB z.1 12) <|
    gd (inB ((7 + (11 * z.1)) + 6) 291) <|
    lw (si z.2 77 ((7 + (11 * z.1)) + 6).toNatClampNeg (z.2.1 88 z.1.toNatClampNeg)) fun w6 =>
    gd (inB ((7 + (11 * z.1)) + 7) 291) <|
    gd (inB z.1 12) <|
    (f_X11_get z.1 10 w6).bind fun o9 =>
    gd (inB ((7 + (11 * z.1)) + 7) 291) <|
    lw (si w6 77 ((7 + (11 * z.1)) + 7).toNatClampNeg ((w6.1 77 (((7 + (11 * z.1)) + 7).toNatClampNeg)) + (((w6.1 90 z.1.toNatClampNeg) * o9) / 100))) fun w12 =>
    gd (inB ((7 + (11 * z.1)) + 8) 291) <|
    gd (inB z.1 12) <|
    gd (inB ((7 + (11 * z.1)) + 8) 291) <|
    lw (si w12 77 ((7 + (11 * z.1)) + 8).toNatClampNeg ((w12.1 77 (((7 + (11 * z.1)) + 8).toNatClampNeg)) + (w12.1 90 z.1.toNatClampNeg))) fun w16 =>
    gd (inB ((7 + (11 * z.1)) + 9) 291) <|
    gd (inB z.1 12) <|
    gd (inB ((7 + (11 * z.1)) + 9) 291) <|
    lw (si w16 77 ((7 + (11 * z.1)) + 9).toNatClampNeg ((w16.1 77 (((7 + (11 * z.1)) + 9).toNatClampNeg)) + (w16.1 91 z.1.toNatClampNeg))) fun w20 =>
    some (.inl (z.1 + 1, w20))
def f_X11_anHour (w : Wd) : Option (Wd) :=
  (f_X11_goes (w.1 77 3) w).bind fun o1 =>
  (lp (f_X11_anHour_L13) FU (0, o1.2)).bind fun o21 =>
  lw (si o21.2 77 0 ((o21.2.1 77 0) + 1)) fun w23 =>
  lw (si w23 76 30 0) fun w24 =>
  some w24
def f_X11_hours_L44 (v1 : Int32) (z : Int32 × Wd) : Option ((Int32 × Wd) ⊕ (Int32 × Wd)) :=
  if v1 ≤ z.1 then
    some (.inr (z.1, z.2))
  else
    (f_X11_anHour z.2).bind fun o8 =>
    some (.inl (z.1 + 1, o8))
def f_X11_hours (v1 : Int32) (w : Wd) : Option (Int32 × Wd) :=
  (f_X11_in v1 1 100).bind fun o1 =>
  if o1 = 0 then
    (f_X11_finds (-1000000001) w).bind fun o14 =>
    some (o14.1, o14.2)
  else
    if ((w.1 77 0) + v1) ≤ 2000 then
      (f_X11_setsAside w).bind fun o5 =>
      (lp (f_X11_hours_L44 v1) FU (0, o5)).bind fun o10 =>
      some (o10.2.1 77 0, o10.2)
    else
      (f_X11_finds (-1000000005) w).bind fun o12 =>
      some (o12.1, o12.2)
def f_X11_riser_L20 (v1 : Int32) (w : Wd) (z : Int32 × Int32) : Option ((Int32 × Int32) ⊕ (Int32 × Int32)) :=
  if (w.1 77 4) ≤ z.2 then
    some (.inr (z.1, z.2))
  else
    (f_X11_get z.2 1 w).bind fun o5 =>
    if o5 = v1 then
      some (.inl (z.1 ||| (1 <<< (z.2 &&& 31)), z.2 + 1))
    else
      some (.inl (z.1 ||| 0, z.2 + 1))
def f_X11_riser (v1 : Int32) (w : Wd) : Option (Int32 × Wd) :=
  (f_X11_in v1 0 3).bind fun o1 =>
  if o1 = 0 then
    (f_X11_finds (-1000000001) w).bind fun o10 =>
    some (o10.1, o10.2)
  else
    (lp (f_X11_riser_L20 v1 w) FU (0, 0)).bind fun o8 =>
    some (o8.1, w)
def f_X11_feed_L38 (v1 : Int32) (z : Int32 × Wd) : Option ((Int32 × Wd) ⊕ (Int32 × Wd)) :=
  if z.1 < 0 then
    some (.inr (z.1, z.2))
  else
    gd (inB (z.2.1 76 18) 80) <|
    lw (si z.2 92 (z.2.1 76 18).toNatClampNeg ((v1 >>> ((8 * z.1) &&& 31)) &&& 255)) fun w7 =>
    lw (si w7 76 18 ((w7.1 76 18) + 1)) fun w8 =>
    some (.inl (z.1 + (-1), w8))
def f_X11_feed (v1 : Int32) (v2 : Int32) (w : Wd) : Option (Int32 × Wd) :=
  (f_X11_in v2 1 4).bind fun o1 =>
  if o1 = 0 then
    (f_X11_finds (-1000000001) w).bind fun o13 =>
    some (o13.1, o13.2)
  else
    if ((w.1 76 18) + v2) ≤ 80 then
      (lp (f_X11_feed_L38 v1) FU (v2 - 1, w)).bind fun o9 =>
      some (o9.2.1 76 18, o9.2)
    else
      (f_X11_finds (-1000000002) w).bind fun o11 =>
      some (o11.1, o11.2)
def f_X11_wipe (w : Wd) : Option (Int32 × Wd) :=
  lw (si w 76 18 0) fun w1 =>
  some (w.1 76 18, w1)
def f_X11_emit (v1 : Int32) (w : Wd) : Option (Wd) :=
  gd (inB (w.1 76 20) 80) <|
  lw (si w 93 (w.1 76 20).toNatClampNeg v1) fun w2 =>
  lw (si w2 76 20 ((w2.1 76 20) + 1)) fun w3 =>
  some w3
def f_X11_settles_J46 (v1 : Int32) (w : Wd) : Option ((Wd) ⊕ (Wd)) :=
  lw (si w 76 22 ((w.1 76 22) - 1)) fun w5 =>
  gd (inB (w5.1 76 22) 80) <|
  (f_X11_emit (w5.1 94 ((w5.1 76 22).toNatClampNeg)) w5).bind fun o7 =>
  some (.inl o7)
def f_X11_settles_L0 (v1 : Int32) (z : Wd) : Option ((Wd) ⊕ (Wd)) :=
  if (z.1 76 22) ≤ 0 then
    some (.inr z)
  else
    gd (inB ((z.1 76 22) - 1) 80) <|
    if (z.1 94 (((z.1 76 22) - 1).toNatClampNeg)) < 10100 then
      some (.inr z)
    else
      if v1 = 1 then
        f_X11_settles_J46 v1 z
      else
        gd (inB ((z.1 76 22) - 1) 80) <|
        if (z.1 94 (((z.1 76 22) - 1).toNatClampNeg)) < 10102 then
          some (.inr z)
        else
          f_X11_settles_J46 v1 z
def f_X11_settles (v1 : Int32) (w : Wd) : Option (Wd) :=
  (lp (f_X11_settles_L0 v1) FU w).bind fun o11 =>
  some o11
def f_X11_waits (v1 : Int32) (w : Wd) : Option (Wd) :=
  gd (inB (w.1 76 22) 80) <|
  lw (si w 94 (w.1 76 22).toNatClampNeg v1) fun w2 =>
  lw (si w2 76 22 ((w2.1 76 22) + 1)) fun w3 =>
  lw (si w3 76 24 ((w3.1 76 24) + 1)) fun w4 =>
  some w4
def f_X11_nameOf (v0 : Int32) : Option (Int32) :=
  if v0 = 102 then
    some 5
  else
  if v0 = 103 then
    some 2
  else
  if v0 = 104 then
    some (-1)
  else
  if v0 = 105 then
    some (-1)
  else
  if v0 = 106 then
    some (-1)
  else
  if v0 = 107 then
    some 4
  else
  if v0 = 108 then
    some (-1)
  else
  if v0 = 109 then
    some (-1)
  else
  if v0 = 110 then
    some (-1)
  else
  if v0 = 111 then
    some (-1)
  else
  if v0 = 112 then
    some 7
  else
  if v0 = 113 then
    some (-1)
  else
  if v0 = 114 then
    some 6
  else
  if v0 = 115 then
    some (-1)
  else
  if v0 = 116 then
    some 1
  else
  if v0 = 117 then
    some 0
  else
  if v0 = 118 then
    some (-1)
  else
  if v0 = 119 then
    some 3
  else
  some (-1)
def f_X11_isDigit (v0 : Int32) : Option (Int32) :=
  if v0 < 48 then
    some 0
  else
    if 57 < v0 then
      some 0
    else
      some 1
def f_X11_operand_J151 (v1 : Int32) (w : Wd) : Option (Int32 × Wd) :=
  if 4 ≤ (w.1 76 23) then
    lw (si w 76 25 1) fun w10 =>
    some (1, w10)
  else
    lw (si w 76 23 ((w.1 76 23) + 1)) fun w11 =>
    (f_X11_waits v1 w11).bind fun o12 =>
    some (1, o12)
def f_X11_operand_L36  (z : Int32 × Int32 × Wd) : Option ((Int32 × Int32 × Wd) ⊕ (Int32 × Int32 × Wd)) :=
  if 4 ≤ z.2.1 then
    some (.inr (z.1, z.2.1, z.2.2))
  else
    if (z.2.2.1 76 18) ≤ (z.2.2.1 76 24) then
      some (.inr (z.1, z.2.1, z.2.2))
    else
      gd (inB (z.2.2.1 76 24) 80) <|
      (f_X11_isDigit (z.2.2.1 92 ((z.2.2.1 76 24).toNatClampNeg))).bind fun o24 =>
      if o24 = 0 then
        some (.inr (z.1, z.2.1, z.2.2))
      else
        gd (inB (z.2.2.1 76 24) 80) <|
        lw (si z.2.2 76 24 ((z.2.2.1 76 24) + 1)) fun w28 =>
        some (.inl (((10 * z.1) + (z.2.2.1 92 ((z.2.2.1 76 24).toNatClampNeg))) - 48, z.2.1 + 1, w28))
def f_X11_operand_J24 (v100 : Int32) (w : Wd) : Option (Int32 × Wd) :=
  (f_X11_isDigit v100).bind fun o2 =>
  if o2 = 0 then
    (f_X11_nameOf v100).bind fun o5 =>
    if o5 < 0 then
      if v100 = 40 then
        f_X11_operand_J151 v100 w
      else
        if v100 = 91 then
          f_X11_operand_J151 v100 w
        else
          lw (si w 76 25 1) fun w15 =>
          some (1, w15)
    else
      (f_X11_nameOf v100).bind fun o16 =>
      (f_X11_emit (10000 + o16) w).bind fun o18 =>
      lw (si o18 76 24 ((o18.1 76 24) + 1)) fun w20 =>
      some (0, w20)
  else
    (lp (f_X11_operand_L36) FU (0, 0, w)).bind fun o29 =>
    (f_X11_emit o29.1 o29.2.2).bind fun o31 =>
    some (0, o31)
def f_X11_operand (w : Wd) : Option (Int32 × Wd) :=
  if (w.1 76 18) ≤ (w.1 76 24) then
    f_X11_operand_J24 (-1) w
  else
    gd (inB (w.1 76 24) 80) <|
    f_X11_operand_J24 (w.1 92 ((w.1 76 24).toNatClampNeg)) w
def f_X11_top (w : Wd) : Option (Int32) :=
  if (w.1 76 22) = 0 then
    some (-1)
  else
    gd (inB ((w.1 76 22) - 1) 80) <|
    some (w.1 94 (((w.1 76 22) - 1).toNatClampNeg))
def f_X11_operator_J52 (v1 : Int32) (v101 : Int32) (w : Wd) : Option (Int32 × Wd) :=
  (f_X11_settles v101 w).bind fun o4 =>
  if v1 = 43 then
    (f_X11_waits 10100 o4).bind fun o15 =>
    some (1, o15)
  else
    if v1 = 45 then
      (f_X11_waits 10101 o4).bind fun o13 =>
      some (1, o13)
    else
      if v1 = 42 then
        (f_X11_waits 10102 o4).bind fun o11 =>
        some (1, o11)
      else
        (f_X11_waits 10103 o4).bind fun o9 =>
        some (1, o9)
def f_X11_operator_J47 (v1 : Int32) (w : Wd) : Option (Int32 × Wd) :=
  f_X11_operator_J52 v1 1 w
def f_X11_operator_J34 (v1 : Int32) (w : Wd) : Option (Int32 × Wd) :=
  if v1 = 43 then
    f_X11_operator_J47 v1 w
  else
    if v1 = 45 then
      f_X11_operator_J47 v1 w
    else
      f_X11_operator_J52 v1 2 w
def f_X11_operator_J210 (v1 : Int32) (w : Wd) : Option (Int32 × Wd) :=
  gd (inB ((w.1 76 22) - 1) 80) <|
  lw (si w 94 ((w.1 76 22) - 1).toNatClampNeg v1) fun w33 =>
  lw (si w33 76 24 ((w33.1 76 24) + 1)) fun w34 =>
  some (1, w34)
def f_X11_operator_J195 (v1 : Int32) (w : Wd) : Option (Int32 × Wd) :=
  if v1 = 58 then
    (f_X11_top w).bind fun o28 =>
    if o28 = 63 then
      f_X11_operator_J210 v1 w
    else
      lw (si w 76 25 1) fun w31 =>
      some (0, w31)
  else
    lw (si w 76 25 1) fun w27 =>
    some (0, w27)
def f_X11_operator_J180 (v1 : Int32) (w : Wd) : Option (Int32 × Wd) :=
  if v1 = 63 then
    (f_X11_top w).bind fun o35 =>
    if o35 = 91 then
      f_X11_operator_J210 v1 w
    else
      f_X11_operator_J195 v1 w
  else
    f_X11_operator_J195 v1 w
def f_X11_operator_J148 (w : Wd) : Option (Int32 × Wd) :=
  lw (si w 76 22 ((w.1 76 22) - 1)) fun w42 =>
  lw (si w42 76 23 ((w42.1 76 23) - 1)) fun w43 =>
  lw (si w43 76 24 ((w43.1 76 24) + 1)) fun w44 =>
  some (0, w44)
def f_X11_operator_J135 (v1 : Int32) (w : Wd) : Option (Int32 × Wd) :=
  if v1 = 93 then
    (f_X11_emit 10104 w).bind fun o45 =>
    f_X11_operator_J148 o45
  else
    f_X11_operator_J148 w
def f_X11_operator_J120 (v1 : Int32) (w : Wd) : Option (Int32 × Wd) :=
  if v1 = 93 then
    (f_X11_top w).bind fun o38 =>
    if o38 = 58 then
      f_X11_operator_J135 v1 w
    else
      f_X11_operator_J180 v1 w
  else
    f_X11_operator_J180 v1 w
def f_X11_operator (w : Wd) : Option (Int32 × Wd) :=
  gd (inB (w.1 76 24) 80) <|
  if (w.1 92 ((w.1 76 24).toNatClampNeg)) = 43 then
    f_X11_operator_J34 (w.1 92 ((w.1 76 24).toNatClampNeg)) w
  else
    if (w.1 92 ((w.1 76 24).toNatClampNeg)) = 45 then
      f_X11_operator_J34 (w.1 92 ((w.1 76 24).toNatClampNeg)) w
    else
      if (w.1 92 ((w.1 76 24).toNatClampNeg)) = 42 then
        f_X11_operator_J34 (w.1 92 ((w.1 76 24).toNatClampNeg)) w
      else
        if (w.1 92 ((w.1 76 24).toNatClampNeg)) = 47 then
          f_X11_operator_J34 (w.1 92 ((w.1 76 24).toNatClampNeg)) w
        else
          (f_X11_settles 1 w).bind fun o21 =>
          if (w.1 92 ((w.1 76 24).toNatClampNeg)) = 41 then
            (f_X11_top o21).bind fun o47 =>
            if o47 = 40 then
              f_X11_operator_J135 (w.1 92 ((w.1 76 24).toNatClampNeg)) o21
            else
              f_X11_operator_J120 (w.1 92 ((w.1 76 24).toNatClampNeg)) o21
          else
            f_X11_operator_J120 (w.1 92 ((w.1 76 24).toNatClampNeg)) o21
def f_X11_rule_J49 (v1 : Int32) (w : Wd) : Option ((Int32 × Wd) ⊕ (Int32 × Wd)) :=
  if v1 = 0 then
    (f_X11_operator w).bind fun o9 =>
    some (.inl (o9.1, o9.2))
  else
    (f_X11_operand w).bind fun o11 =>
    some (.inl (o11.1, o11.2))
def f_X11_rule_L27  (z : Int32 × Wd) : Option ((Int32 × Wd) ⊕ (Int32 × Wd)) :=
  if (z.2.1 76 25) = 0 then
    if z.1 = 0 then
      if (z.2.1 76 18) ≤ (z.2.1 76 24) then
        some (.inr (z.1, z.2))
      else
        f_X11_rule_J49 z.1 z.2
    else
      f_X11_rule_J49 z.1 z.2
  else
    some (.inr (z.1, z.2))
def f_X11_rule_L123  (z : Int32 × Wd) : Option ((Int32 × Wd) ⊕ (Int32 × Wd)) :=
  if (z.2.1 76 20) ≤ z.1 then
    some (.inr (z.1, z.2))
  else
    gd (inB z.1 80) <|
    gd (inB (211 + z.1) 291) <|
    lw (si z.2 77 (211 + z.1).toNatClampNeg (z.2.1 93 z.1.toNatClampNeg)) fun w22 =>
    some (.inl (z.1 + 1, w22))
def f_X11_rule_J96 (w : Wd) : Option (Int32 × Wd) :=
  if (w.1 76 25) = 0 then
    lw (si w 77 6 (w.1 76 20)) fun w18 =>
    (lp (f_X11_rule_L123) FU (0, w18)).bind fun o23 =>
    lw (si o23.2 76 18 0) fun w25 =>
    some (0, w25)
  else
    some ((-1) - (w.1 76 24), w)
def f_X11_rule_J93 (v101 : Int32) (w : Wd) : Option (Int32 × Wd) :=
  gd (zo v101) <|
  lw (si w 76 25 v101) fun w30 =>
  f_X11_rule_J96 w30
def f_X11_rule_J68 (w : Wd) : Option (Int32 × Wd) :=
  if (w.1 76 25) = 0 then
    (f_X11_settles 1 w).bind fun o26 =>
    if (o26.1 76 22) ≤ 0 then
      f_X11_rule_J93 0 o26
    else
      f_X11_rule_J93 1 o26
  else
    f_X11_rule_J96 w
def f_X11_rule (w : Wd) : Option (Int32 × Wd) :=
  lw (si w 76 24 0) fun w1 =>
  lw (si w1 76 22 0) fun w2 =>
  lw (si w2 76 23 0) fun w3 =>
  lw (si w3 76 20 0) fun w4 =>
  lw (si w4 76 25 0) fun w5 =>
  (lp (f_X11_rule_L27) FU (1, w5)).bind fun o14 =>
  f_X11_rule_J68 o14.2
def f_X11_plain_J15 (v100 : Int32) (w : Wd) : Option (Int32 × Wd) :=
  lw (si w 77 6 0) fun w2 =>
  some (v100, w2)
def f_X11_plain (w : Wd) : Option (Int32 × Wd) :=
  if (w.1 77 6) ≤ 0 then
    f_X11_plain_J15 0 w
  else
    f_X11_plain_J15 1 w
def f_X11_factOf (v1 : Int32) (v2 : Int32) (w : Wd) : Option (Int32) :=
  if v2 = 0 then
    (f_X11_get v1 7 w).bind fun o2 =>
    some o2
  else
  if v2 = 1 then
    (f_X11_get v1 8 w).bind fun o5 =>
    some o5
  else
  if v2 = 2 then
    (f_X11_get v1 9 w).bind fun o8 =>
    some o8
  else
  if v2 = 3 then
    (f_X11_get v1 2 w).bind fun o11 =>
    some o11
  else
  if v2 = 4 then
    (f_X11_get v1 0 w).bind fun o14 =>
    some o14
  else
  if v2 = 5 then
    some v1
  else
  if v2 = 6 then
    (f_X11_get v1 1 w).bind fun o18 =>
    some o18
  else
  (f_X11_placeOf v1 w).bind fun o20 =>
  some o20
def f_X11_done (v0 : Int32) (v1 : Int32) (v2 : Int32) : Option (Int32) :=
  if v0 = 10100 then
    some (v1 + v2)
  else
  if v0 = 10101 then
    some (v1 - v2)
  else
  if v0 = 10102 then
    some (v1 * v2)
  else
  if v2 = 0 then
    some 0
  else
    if v2 = (-1) then
      some (-v1)
    else
      gd (nz v2) <|
      some (v1 / v2)
def f_X11_says_L4 (v1 : Int32) (z : Int32 × Int32 × Wd) : Option ((Int32 × Int32 × Wd) ⊕ (Int32 × Int32 × Wd)) :=
  if (z.2.2.1 77 6) ≤ z.2.1 then
    some (.inr (z.1, z.2.1, z.2.2))
  else
    gd (inB (211 + z.2.1) 291) <|
    if 10000 ≤ (z.2.2.1 77 ((211 + z.2.1).toNatClampNeg)) then
      if 10100 ≤ (z.2.2.1 77 ((211 + z.2.1).toNatClampNeg)) then
        if (z.2.2.1 77 ((211 + z.2.1).toNatClampNeg)) = 10104 then
          gd (inB ((z.1 + (-2)) - 1) 80) <|
          if (z.2.2.1 95 (((z.1 + (-2)) - 1).toNatClampNeg)) = 0 then
            gd (inB ((z.1 + (-2)) + 1) 80) <|
            gd (inB ((z.1 + (-2)) - 1) 80) <|
            lw (si z.2.2 95 ((z.1 + (-2)) - 1).toNatClampNeg (z.2.2.1 95 (((z.1 + (-2)) + 1).toNatClampNeg))) fun w16 =>
            some (.inl (z.1 + (-2), z.2.1 + 1, w16))
          else
            gd (inB (z.1 + (-2)) 80) <|
            gd (inB ((z.1 + (-2)) - 1) 80) <|
            lw (si z.2.2 95 ((z.1 + (-2)) - 1).toNatClampNeg (z.2.2.1 95 ((z.1 + (-2)).toNatClampNeg))) fun w19 =>
            some (.inl (z.1 + (-2), z.2.1 + 1, w19))
        else
          gd (inB ((z.1 + (-1)) - 1) 80) <|
          gd (inB (z.1 + (-1)) 80) <|
          (f_X11_done (z.2.2.1 77 ((211 + z.2.1).toNatClampNeg)) (z.2.2.1 95 (((z.1 + (-1)) - 1).toNatClampNeg)) (z.2.2.1 95 ((z.1 + (-1)).toNatClampNeg))).bind fun o8 =>
          gd (inB ((z.1 + (-1)) - 1) 80) <|
          lw (si z.2.2 95 ((z.1 + (-1)) - 1).toNatClampNeg o8) fun w11 =>
          some (.inl (z.1 + (-1), z.2.1 + 1, w11))
      else
        (f_X11_factOf v1 ((z.2.2.1 77 ((211 + z.2.1).toNatClampNeg)) - 10000) z.2.2).bind fun o20 =>
        gd (inB z.1 80) <|
        lw (si z.2.2 95 z.1.toNatClampNeg o20) fun w23 =>
        some (.inl (z.1 + 1, z.2.1 + 1, w23))
    else
      gd (inB z.1 80) <|
      lw (si z.2.2 95 z.1.toNatClampNeg (z.2.2.1 77 ((211 + z.2.1).toNatClampNeg))) fun w25 =>
      some (.inl (z.1 + 1, z.2.1 + 1, w25))
def f_X11_says (v1 : Int32) (w : Wd) : Option (Int32 × Wd) :=
  (lp (f_X11_says_L4 v1) FU (0, 0, w)).bind fun o26 =>
  some (o26.2.2.1 95 0, o26.2.2)
def f_X11_findShares_J46 (v1 : Int32) (v2 : Int32) (v101 : Int32) (v102 : Int32) (w : Wd) : Option ((Int32 × Wd) ⊕ (Int32 × Wd)) :=
  (f_X11_within v102 0 99999).bind fun o5 =>
  gd (inB v101 12) <|
  lw (si w 96 v101.toNatClampNeg o5) fun w8 =>
  some (.inl (v2 + 1, w8))
def f_X11_findShares_J39 (v1 : Int32) (v2 : Int32) (v101 : Int32) (w : Wd) : Option ((Int32 × Wd) ⊕ (Int32 × Wd)) :=
  (f_X11_get v2 7 w).bind fun o3 =>
  f_X11_findShares_J46 v1 v2 v101 o3 w
def f_X11_findShares_L2 (v1 : Int32) (z : Int32 × Wd) : Option ((Int32 × Wd) ⊕ (Int32 × Wd)) :=
  if (z.2.1 77 4) ≤ z.1 then
    some (.inr (z.1, z.2))
  else
    if v1 = 0 then
      f_X11_findShares_J39 v1 z.1 z.1 z.2
    else
      if (z.2.1 77 6) ≤ 0 then
        f_X11_findShares_J39 v1 z.1 z.1 z.2
      else
        (f_X11_says z.1 z.2).bind fun o10 =>
        f_X11_findShares_J46 v1 z.1 z.1 o10.1 o10.2
def f_X11_findShares (v1 : Int32) (w : Wd) : Option (Wd) :=
  (lp (f_X11_findShares_L2 v1) FU (0, w)).bind fun o12 =>
  some o12.2
def f_X11_findPays_L4 (v1 : Int32) (w : Wd) (z : Int32 × Int32) : Option ((Int32 × Int32) ⊕ (Int32 × Int32)) :=
  if (w.1 77 4) ≤ z.2 then
    some (.inr (z.1, z.2))
  else
    gd (inB z.2 12) <|
    some (.inl (z.1 + (w.1 96 z.2.toNatClampNeg), z.2 + 1))
def f_X11_findPays_L40 (v1 : Int32) (v2 : Int32) (z : Int32 × Int32 × Wd) : Option ((Int32 × Int32 × Wd) ⊕ (Int32 × Int32 × Wd)) :=
  if (z.2.2.1 77 4) ≤ z.2.1 then
    some (.inr (z.1, z.2.1, z.2.2))
  else
    gd (inB z.2.1 12) <|
    gd (nzl v2.toInt64) <|
    gd (inB z.2.1 12) <|
    lw (si z.2.2 97 z.2.1.toNatClampNeg (((v1.toInt64 * ((z.2.2.1 96 z.2.1.toNatClampNeg).toInt64)) / v2.toInt64).toInt32)) fun w10 =>
    gd (nzl v2.toInt64) <|
    gd (inB z.2.1 12) <|
    lw (si w10 98 z.2.1.toNatClampNeg (((v1.toInt64 * ((z.2.2.1 96 z.2.1.toNatClampNeg).toInt64)) - (v1.toInt64 * ((z.2.2.1 96 z.2.1.toNatClampNeg).toInt64)) / v2.toInt64 * v2.toInt64).toInt32)) fun w13 =>
    gd (inB z.2.1 12) <|
    some (.inl (z.1 - (w13.1 97 z.2.1.toNatClampNeg), z.2.1 + 1, w13))
def f_X11_findPays_L116 (v3 : Int32) (w : Wd) (z : Int32 × Int32) : Option ((Int32 × Int32) ⊕ (Int32 × Int32)) :=
  if (w.1 77 4) ≤ z.2 then
    some (.inr (z.1, z.2))
  else
    gd (inB z.2 12) <|
    gd (inB z.1 12) <|
    if (w.1 98 z.2.toNatClampNeg) ≤ (w.1 98 z.1.toNatClampNeg) then
      some (.inl (z.1, z.2 + 1))
    else
      some (.inl (z.2, z.2 + 1))
def f_X11_findPays_L106  (z : Int32 × Wd) : Option ((Int32 × Wd) ⊕ (Int32 × Wd)) :=
  if z.1 ≤ 0 then
    some (.inr (z.1, z.2))
  else
    (lp (f_X11_findPays_L116 z.1 z.2) FU (0, 1)).bind fun o22 =>
    gd (inB o22.1 12) <|
    gd (inB o22.1 12) <|
    lw (si z.2 97 o22.1.toNatClampNeg ((z.2.1 97 o22.1.toNatClampNeg) + 1)) fun w26 =>
    gd (inB o22.1 12) <|
    lw (si w26 98 o22.1.toNatClampNeg (-1)) fun w28 =>
    some (.inl (z.1 + (-1), w28))
def f_X11_findPays (v1 : Int32) (w : Wd) : Option (Int32 × Wd) :=
  (lp (f_X11_findPays_L4 v1 w) FU (0, 0)).bind fun o3 =>
  if o3.1 = 0 then
    some (0, w)
  else
    (lp (f_X11_findPays_L40 v1 o3.1) FU (v1, 0, w)).bind fun o15 =>
    (lp (f_X11_findPays_L106) FU (o15.1, o15.2.2)).bind fun o29 =>
    some (1, o29.2)
def f_X11_share (v1 : Int32) (w : Wd) : Option (Int32 × Wd) :=
  (f_X11_isFlat v1 w).bind fun o1 =>
  if o1 = 0 then
    (f_X11_finds (-1000000001) w).bind fun o7 =>
    some (o7.1, o7.2)
  else
    (f_X11_findShares 1 w).bind fun o4 =>
    gd (inB v1 12) <|
    some (o4.1 96 v1.toNatClampNeg, o4)
def f_X11_bill (v1 : Int32) (v2 : Int32) (w : Wd) : Option (Int32 × Wd) :=
  (f_X11_in v1 0 9999).bind fun o1 =>
  if o1 = 0 then
    (f_X11_finds (-1000000001) w).bind fun o4 =>
    some (o4.1, o4.2)
  else
    (f_X11_isFlat v2 w).bind fun o6 =>
    if o6 = 0 then
      (f_X11_finds (-1000000001) w).bind fun o17 =>
      some (o17.1, o17.2)
    else
      (f_X11_findShares 1 w).bind fun o9 =>
      (f_X11_findPays v1 o9).bind fun o11 =>
      if o11.1 = 0 then
        (f_X11_finds (-1000000004) o11.2).bind fun o14 =>
        some (o14.1, o14.2)
      else
        gd (inB v2 12) <|
        some (o11.2.1 97 v2.toNatClampNeg, o11.2)
def f_X11_other (v1 : Int32) (v2 : Int32) (w : Wd) : Option (Int32 × Wd) :=
  (f_X11_in v1 0 9999).bind fun o1 =>
  if o1 = 0 then
    (f_X11_finds (-1000000001) w).bind fun o4 =>
    some (o4.1, o4.2)
  else
    (f_X11_isFlat v2 w).bind fun o6 =>
    if o6 = 0 then
      (f_X11_finds (-1000000001) w).bind fun o25 =>
      some (o25.1, o25.2)
    else
      (f_X11_findShares 1 w).bind fun o9 =>
      (f_X11_findPays v1 o9).bind fun o11 =>
      gd (inB v2 12) <|
      (f_X11_findShares 0 o11.2).bind fun o14 =>
      (f_X11_findPays v1 o14).bind fun o16 =>
      if o16.1 = 0 then
        (f_X11_finds (-1000000004) o16.2).bind fun o19 =>
        some (o19.1, o19.2)
      else
        if o11.1 = 0 then
          (f_X11_finds (-1000000004) o16.2).bind fun o22 =>
          some (o22.1, o22.2)
        else
          gd (inB v2 12) <|
          some ((o16.2.1 97 v2.toNatClampNeg) - (o11.2.1 97 v2.toNatClampNeg), o16.2)
def f_X11_sumOf_L4 (v1 : Int32) (w : Wd) (z : Int32 × Int32) : Option ((Int32 × Int32) ⊕ (Int32 × Int32)) :=
  if (w.1 77 4) ≤ z.2 then
    some (.inr (z.1, z.2))
  else
    (f_X11_get z.2 v1 w).bind fun o2 =>
    some (.inl (z.1 + o2, z.2 + 1))
def f_X11_sumOf (v1 : Int32) (w : Wd) : Option (Int32) :=
  (lp (f_X11_sumOf_L4 v1 w) FU (0, 0)).bind fun o4 =>
  some o4.1
def f_X11_offBy (v1 : Int32) (w : Wd) : Option (Int32) :=
  (f_X11_get v1 7 w).bind fun o1 =>
  (f_X11_get v1 8 w).bind fun o3 =>
  if 0 ≤ (o1 - o3) then
    some (o1 - o3)
  else
    some (-(o1 - o3))
def f_X11_meters_L54 (w : Wd) (z : Int32 × Int32) : Option ((Int32 × Int32) ⊕ (Int32 × Int32)) :=
  if (w.1 77 4) ≤ z.2 then
    some (.inr (z.1, z.2))
  else
    (f_X11_offBy z.2 w).bind fun o7 =>
    (f_X11_offBy z.1 w).bind fun o9 =>
    if o7 ≤ o9 then
      some (.inl (z.1, z.2 + 1))
    else
      some (.inl (z.2, z.2 + 1))
def f_X11_meters (v1 : Int32) (w : Wd) : Option (Int32 × Wd) :=
  (f_X11_in v1 0 1).bind fun o1 =>
  if o1 = 0 then
    (f_X11_finds (-1000000001) w).bind fun o20 =>
    some (o20.1, o20.2)
  else
    if v1 = 0 then
      (f_X11_sumOf 7 w).bind fun o16 =>
      (f_X11_sumOf 8 w).bind fun o18 =>
      some (o16 - o18, w)
    else
      if (w.1 77 4) = 0 then
        (f_X11_finds (-1000000004) w).bind fun o14 =>
        some (o14.1, o14.2)
      else
        (lp (f_X11_meters_L54 w) FU (0, 1)).bind fun o12 =>
        some (o12.1, w)
def f_X11_areBounds (v0 : Int32) : Option (Int32) :=
  (f_X11_in v0 0 999999).bind fun o1 =>
  gd (zo o1) <|
  some o1
def f_X11_felt (v1 : Int32) (v2 : Int32) (w : Wd) : Option (Int32 × Wd) :=
  (f_X11_isFlat v1 w).bind fun o1 =>
  if o1 = 0 then
    (f_X11_finds (-1000000001) w).bind fun o4 =>
    some (o4.1, o4.2)
  else
    (f_X11_areBounds v2).bind fun o6 =>
    if o6 = 0 then
      (f_X11_finds (-1000000001) w).bind fun o13 =>
      some (o13.1, o13.2)
    else
      (f_X11_get v1 6 w).bind fun o9 =>
      if (v2 / 1000) ≤ o9 then
        if o9 ≤ (v2 - v2 / 1000 * 1000) then
          some (0, w)
        else
          some (2, w)
      else
        some (1, w)
def f_X11_isEven (v1 : Int32) (v2 : Int32) (w : Wd) : Option (Int32) :=
  gd (inB v1 12) <|
  if (w.1 88 v1.toNatClampNeg) < (v2 / 1000) then
    some 0
  else
    gd (inB v1 12) <|
    if (v2 - v2 / 1000 * 1000) < (w.1 88 v1.toNatClampNeg) then
      some 0
    else
      some 1
def f_X11_even_L45 (v1 : Int32) (w : Wd) (z : Int32 × Int32) : Option ((Int32 × Int32) ⊕ (Int32 × Int32)) :=
  if (w.1 77 4) ≤ z.2 then
    some (.inr (z.1, z.2))
  else
    (f_X11_isEven z.2 v1 w).bind fun o14 =>
    if o14 = 0 then
      some (.inl (z.1 ||| 0, z.2 + 1))
    else
      some (.inl (z.1 ||| (1 <<< (z.2 &&& 31)), z.2 + 1))
def f_X11_even (v1 : Int32) (v2 : Int32) (w : Wd) : Option (Int32 × Wd) :=
  (f_X11_areBounds v1).bind fun o1 =>
  if o1 = 0 then
    (f_X11_finds (-1000000001) w).bind fun o4 =>
    some (o4.1, o4.2)
  else
    (f_X11_in v2 0 50).bind fun o6 =>
    if o6 = 0 then
      (f_X11_finds (-1000000001) w).bind fun o19 =>
      some (o19.1, o19.2)
    else
      (f_X11_setsAside w).bind fun o9 =>
      (f_X11_goesAll (o9.1 77 3) v2 o9).bind fun o11 =>
      (lp (f_X11_even_L45 v1 o11.2) FU (0, 0)).bind fun o17 =>
      some (o17.1, o11.2)
def f_X11_foretold (v1 : Int32) (v2 : Int32) (w : Wd) : Option (Int32 × Wd) :=
  (f_X11_isFlat v1 w).bind fun o1 =>
  if o1 = 0 then
    (f_X11_finds (-1000000001) w).bind fun o4 =>
    some (o4.1, o4.2)
  else
    (f_X11_in v2 0 100).bind fun o6 =>
    if o6 = 0 then
      (f_X11_finds (-1000000001) w).bind fun o14 =>
      some (o14.1, o14.2)
    else
      (f_X11_setsAside w).bind fun o9 =>
      (f_X11_goesAll (o9.1 77 3) v2 o9).bind fun o11 =>
      gd (inB v1 12) <|
      some (o11.2.1 88 v1.toNatClampNeg, o11.2)
def f_X11_areEven_L22 (v1 : Int32) (w : Wd) (z : Int32) : Option ((Int32) ⊕ ((Int32) ⊕ (Int32 × Wd))) :=
  if (w.1 77 4) ≤ z then
    some (.inr (.inl z))
  else
    (f_X11_isEven z v1 w).bind fun o8 =>
    if o8 = 0 then
      some (.inr (.inr (0, w)))
    else
      some (.inl (z + 1))
def f_X11_areEven (v1 : Int32) (v2 : Int32) (w : Wd) : Option (Int32 × Wd) :=
  (f_X11_startsWarm w).bind fun o1 =>
  (f_X11_findFlows o1).bind fun o3 =>
  (f_X11_goesAll (o3.1 77 3) v2 o3).bind fun o5 =>
  (lp (f_X11_areEven_L22 v1 o5.2) FU 0).bind fun o11 =>
  sm o11 (fun x13 =>
    some (1, o5.2)
    ) (fun y14 => some y14)
def f_X11_findOne_L15 (v1 : Int32) (v2 : Int32) (v3 : Int32) (z : Int32 × Wd) : Option ((Int32 × Wd) ⊕ ((Int32 × Wd) ⊕ (Int32 × Wd))) :=
  if 9 ≤ z.1 then
    some (.inr (.inl (z.1, z.2)))
  else
    (f_X11_get v3 4 z.2).bind fun o3 =>
    if o3 = 0 then
      gd (inB v3 12) <|
      lw (si z.2 85 v3.toNatClampNeg z.1) fun w7 =>
      (f_X11_get v3 3 w7).bind fun o8 =>
      if z.1 = o8 then
        some (.inl (z.1 + 1, w7))
      else
        (f_X11_areEven v1 v2 w7).bind fun o11 =>
        if o11.1 = 0 then
          some (.inl (z.1 + 1, o11.2))
        else
          lw (si o11.2 76 33 1) fun w14 =>
          lw (si w14 76 34 v3) fun w15 =>
          lw (si w15 76 36 z.1) fun w16 =>
          some (.inr (.inr (1, w16)))
    else
      some (.inr (.inl (z.1, z.2)))
def f_X11_findOne_J83 (v1 : Int32) (v2 : Int32) (v3 : Int32) (w : Wd) : Option ((Int32 × Wd) ⊕ ((Int32 × Wd) ⊕ (Int32 × Wd))) :=
  (f_X11_get v3 3 w).bind fun o21 =>
  gd (inB v3 12) <|
  lw (si w 85 v3.toNatClampNeg o21) fun w24 =>
  some (.inl (v3 + 1, w24))
def f_X11_findOne_L2 (v1 : Int32) (v2 : Int32) (z : Int32 × Wd) : Option ((Int32 × Wd) ⊕ ((Int32 × Wd) ⊕ (Int32 × Wd))) :=
  if (z.2.1 77 4) ≤ z.1 then
    some (.inr (.inl (z.1, z.2)))
  else
    (lp (f_X11_findOne_L15 v1 v2 z.1) FU (0, z.2)).bind fun o17 =>
    sm o17 (fun x19 =>
      f_X11_findOne_J83 v1 v2 z.1 x19.2
      ) (fun y20 => some (.inr (.inr y20)))
def f_X11_findOne (v1 : Int32) (v2 : Int32) (w : Wd) : Option (Int32 × Wd) :=
  (lp (f_X11_findOne_L2 v1 v2) FU (0, w)).bind fun o25 =>
  sm o25 (fun x27 =>
    some (0, x27.2)
    ) (fun y28 => some y28)
def f_X11_areTurned_L13 (v1 : Int32) (v2 : Int32) (v3 : Int32) (v4 : Int32) (v5 : Int32) (z : Int32 × Wd) : Option ((Int32 × Wd) ⊕ ((Int32 × Wd) ⊕ (Int32 × Wd))) :=
  if 9 ≤ z.1 then
    some (.inr (.inl (z.1, z.2)))
  else
    gd (inB v1 12) <|
    lw (si z.2 85 v1.toNatClampNeg v5) fun w4 =>
    gd (inB v2 12) <|
    lw (si w4 85 v2.toNatClampNeg z.1) fun w6 =>
    (f_X11_get v1 3 w6).bind fun o7 =>
    if v5 = o7 then
      some (.inl (z.1 + 1, w6))
    else
      (f_X11_get v2 3 w6).bind fun o10 =>
      if z.1 = o10 then
        some (.inl (z.1 + 1, w6))
      else
        (f_X11_areEven v3 v4 w6).bind fun o13 =>
        if o13.1 = 0 then
          some (.inl (z.1 + 1, o13.2))
        else
          lw (si o13.2 76 33 2) fun w16 =>
          lw (si w16 76 34 v1) fun w17 =>
          lw (si w17 76 35 v2) fun w18 =>
          lw (si w18 76 36 v5) fun w19 =>
          lw (si w19 76 37 z.1) fun w20 =>
          some (.inr (.inr (1, w20)))
def f_X11_areTurned_L3 (v1 : Int32) (v2 : Int32) (v3 : Int32) (v4 : Int32) (z : Int32 × Wd) : Option ((Int32 × Wd) ⊕ ((Int32 × Wd) ⊕ (Int32 × Wd))) :=
  if 9 ≤ z.1 then
    some (.inr (.inl (z.1, z.2)))
  else
    (lp (f_X11_areTurned_L13 v1 v2 v3 v4 z.1) FU (0, z.2)).bind fun o21 =>
    sm o21 (fun x23 =>
      some (.inl (z.1 + 1, x23.2))
      ) (fun y24 => some (.inr (.inr y24)))
def f_X11_areTurned (v1 : Int32) (v2 : Int32) (v3 : Int32) (v4 : Int32) (w : Wd) : Option (Int32 × Wd) :=
  (lp (f_X11_areTurned_L3 v1 v2 v3 v4) FU (0, w)).bind fun o25 =>
  sm o25 (fun x27 =>
    (f_X11_get v1 3 x27.2).bind fun o29 =>
    gd (inB v1 12) <|
    lw (si x27.2 85 v1.toNatClampNeg o29) fun w32 =>
    (f_X11_get v2 3 w32).bind fun o33 =>
    gd (inB v2 12) <|
    lw (si w32 85 v2.toNatClampNeg o33) fun w36 =>
    some (0, w36)
    ) (fun y28 => some y28)
def f_X11_findFew_L93 (v1 : Int32) (v2 : Int32) (v3 : Int32) (z : Int32 × Wd) : Option ((Int32 × Wd) ⊕ ((Int32 × Wd) ⊕ (Wd))) :=
  if v3 ≤ z.1 then
    some (.inr (.inl (z.1, z.2)))
  else
    (f_X11_get v3 4 z.2).bind fun o17 =>
    if o17 = 0 then
      (f_X11_get z.1 4 z.2).bind fun o20 =>
      if o20 = 0 then
        (f_X11_areTurned z.1 v3 v1 v2 z.2).bind fun o23 =>
        if o23.1 = 0 then
          some (.inl (z.1 + 1, o23.2))
        else
          some (.inr (.inr o23.2))
      else
        some (.inl (z.1 + 1, z.2))
    else
      some (.inr (.inl (z.1, z.2)))
def f_X11_findFew_L80 (v1 : Int32) (v2 : Int32) (z : Int32 × Wd) : Option ((Int32 × Wd) ⊕ ((Int32 × Wd) ⊕ (Wd))) :=
  if (z.2.1 77 4) ≤ z.1 then
    some (.inr (.inl (z.1, z.2)))
  else
    (lp (f_X11_findFew_L93 v1 v2 z.1) FU (0, z.2)).bind fun o26 =>
    sm o26 (fun x28 =>
      some (.inl (z.1 + 1, x28.2))
      ) (fun y29 => some (.inr (.inr y29)))
def f_X11_findFew_J58 (v1 : Int32) (v2 : Int32) (v101 : Int32) (w : Wd) : Option (Wd) :=
  lw (si w 76 33 v101) fun w10 =>
  if (w10.1 76 33) = 0 then
    some w10
  else
    (f_X11_findOne v1 v2 w10).bind fun o12 =>
    if o12.1 = 0 then
      (lp (f_X11_findFew_L80 v1 v2) FU (1, o12.2)).bind fun o30 =>
      sm o30 (fun x32 =>
        some x32.2
        ) (fun y33 => some y33)
    else
      some o12.2
def f_X11_findFew_J24 (v1 : Int32) (v2 : Int32) (w : Wd) : Option (Wd) :=
  lw (si w 76 30 1) fun w2 =>
  lw (si w2 76 31 v1) fun w3 =>
  lw (si w3 76 32 v2) fun w4 =>
  (f_X11_setsAside w4).bind fun o5 =>
  (f_X11_areEven v1 v2 o5).bind fun o7 =>
  if o7.1 = 0 then
    f_X11_findFew_J58 v1 v2 (-1) o7.2
  else
    f_X11_findFew_J58 v1 v2 0 o7.2
def f_X11_findFew (v1 : Int32) (v2 : Int32) (w : Wd) : Option (Wd) :=
  if (w.1 76 30) = 0 then
    f_X11_findFew_J24 v1 v2 w
  else
    if (w.1 76 31) = v1 then
      if (w.1 76 32) = v2 then
        some w
      else
        f_X11_findFew_J24 v1 v2 w
    else
      f_X11_findFew_J24 v1 v2 w
def f_X11_turnsOf (v1 : Int32) (v2 : Int32) (w : Wd) : Option (Int32) :=
  (f_X11_get v1 3 w).bind fun o1 =>
  if 0 ≤ (v2 - o1) then
    some (v2 - o1)
  else
    some (-(v2 - o1))
def f_X11_few_J106 (v100 : Int32) (w : Wd) : Option (Int32 × Wd) :=
  if (w.1 76 33) ≤ 1 then
    some (v100 ||| 0, w)
  else
    some (v100 ||| (1 <<< ((w.1 76 35) &&& 31)), w)
def f_X11_few_J149 (v100 : Int32) (w : Wd) : Option (Int32 × Wd) :=
  if (w.1 76 33) ≤ 1 then
    some (v100 + 0, w)
  else
    (f_X11_turnsOf (w.1 76 35) (w.1 76 37) w).bind fun o24 =>
    some (v100 + o24, w)
def f_X11_few (v1 : Int32) (v2 : Int32) (v3 : Int32) (w : Wd) : Option (Int32 × Wd) :=
  (f_X11_areBounds v1).bind fun o1 =>
  if o1 = 0 then
    (f_X11_finds (-1000000001) w).bind fun o4 =>
    some (o4.1, o4.2)
  else
    (f_X11_in v2 1 8).bind fun o6 =>
    if o6 = 0 then
      (f_X11_finds (-1000000001) w).bind fun o9 =>
      some (o9.1, o9.2)
    else
      (f_X11_in v3 0 4).bind fun o11 =>
      if o11 = 0 then
        (f_X11_finds (-1000000001) w).bind fun o33 =>
        some (o33.1, o33.2)
      else
        (f_X11_findFew v1 v2 w).bind fun o14 =>
        if 0 ≤ (o14.1 76 33) then
          if v3 = 0 then
            some (o14.1 76 33, o14)
          else
          if v3 = 1 then
            if (o14.1 76 33) ≤ 0 then
              f_X11_few_J106 0 o14
            else
              f_X11_few_J106 (1 <<< ((o14.1 76 34) &&& 31)) o14
          else
          if v3 = 2 then
            if (o14.1 76 33) ≤ 0 then
              f_X11_few_J149 0 o14
            else
              (f_X11_turnsOf (o14.1 76 34) (o14.1 76 36) o14).bind fun o26 =>
              f_X11_few_J149 o26 o14
          else
          if v3 = 3 then
            if (o14.1 76 33) ≤ 0 then
              some ((-1), o14)
            else
              some (o14.1 76 36, o14)
          else
          if (o14.1 76 33) ≤ 1 then
            some ((-1), o14)
          else
            some (o14.1 76 37, o14)
        else
          (f_X11_finds (-1000000004) o14).bind fun o31 =>
          some (o31.1, o31.2)
def f_X11_setback (v1 : Int32) (v2 : Int32) (w : Wd) : Option (Int32 × Wd) :=
  (f_X11_in v1 0 900).bind fun o1 =>
  if o1 = 0 then
    (f_X11_finds (-1000000001) w).bind fun o4 =>
    some (o4.1, o4.2)
  else
    (f_X11_in v2 1 50).bind fun o6 =>
    if o6 = 0 then
      (f_X11_finds (-1000000001) w).bind fun o17 =>
      some (o17.1, o17.2)
    else
      (f_X11_setsAside w).bind fun o9 =>
      (f_X11_goesAll (o9.1 77 3) v2 o9).bind fun o11 =>
      (f_X11_startsWarm o11.2).bind fun o13 =>
      (f_X11_goesAll v1 v2 o13).bind fun o15 =>
      some (o11.1 - o15.1, o15.2)
def f_X11_works (v1 : Int32) (v2 : Int32) (v3 : Int32) (w : Wd) : Option (Int32 × Wd) :=
  (f_X11_isFlat v1 w).bind fun o1 =>
  if o1 = 0 then
    (f_X11_finds (-1000000001) w).bind fun o4 =>
    some (o4.1, o4.2)
  else
    (f_X11_in v2 1 99).bind fun o6 =>
    if o6 = 0 then
      (f_X11_finds (-1000000001) w).bind fun o9 =>
      some (o9.1, o9.2)
    else
      (f_X11_in v3 1 50).bind fun o11 =>
      if o11 = 0 then
        (f_X11_finds (-1000000001) w).bind fun o26 =>
        some (o26.1, o26.2)
      else
        (f_X11_setsAside w).bind fun o14 =>
        (f_X11_goesAll (o14.1 77 3) v3 o14).bind fun o16 =>
        (f_X11_startsWarm o16.2).bind fun o18 =>
        (f_X11_leaksBy v1 v2 o18).bind fun o20 =>
        gd (inB v1 12) <|
        lw (si o18 87 v1.toNatClampNeg o20) fun w23 =>
        (f_X11_goesAll (w23.1 77 3) v3 w23).bind fun o24 =>
        some (o16.1 - o24.1, o24.2)
def f_X11_about (v1 : Int32) (v2 : Int32) (w : Wd) : Option (Int32) :=
  gd (inB ((139 + (3 * v1)) + v2) 291) <|
  some (w.1 77 (((139 + (3 * v1)) + v2).toNatClampNeg))
def f_X11_isComplaint (v1 : Int32) (w : Wd) : Option (Int32) :=
  (f_X11_in v1 0 ((w.1 77 5) - 1)).bind fun o1 =>
  gd (zo o1) <|
  some o1
def f_X11_complain (v1 : Int32) (v2 : Int32) (w : Wd) : Option (Int32 × Wd) :=
  (f_X11_isFlat v1 w).bind fun o1 =>
  if o1 = 0 then
    (f_X11_finds (-1000000001) w).bind fun o4 =>
    some (o4.1, o4.2)
  else
    (f_X11_in v2 1 2).bind fun o6 =>
    if o6 = 0 then
      (f_X11_finds (-1000000001) w).bind fun o19 =>
      some (o19.1, o19.2)
    else
      if (w.1 77 5) = 24 then
        (f_X11_finds (-1000000002) w).bind fun o17 =>
        some (o17.1, o17.2)
      else
        gd (inB (139 + (3 * (w.1 77 5))) 291) <|
        lw (si w 77 (139 + (3 * (w.1 77 5))).toNatClampNeg v1) fun w11 =>
        gd (inB ((139 + (3 * (w.1 77 5))) + 1) 291) <|
        lw (si w11 77 ((139 + (3 * (w.1 77 5))) + 1).toNatClampNeg v2) fun w13 =>
        gd (inB ((139 + (3 * (w.1 77 5))) + 2) 291) <|
        lw (si w13 77 ((139 + (3 * (w.1 77 5))) + 2).toNatClampNeg (w13.1 77 0)) fun w15 =>
        lw (si w15 77 5 ((w15.1 77 5) + 1)) fun w16 =>
        some ((w16.1 77 5) - 1, w16)
def f_X11_areNear (v0 : Int32) (v1 : Int32) (v2 : Int32) : Option (Int32) :=
  if v2 < (v0 - v1) then
    some 0
  else
    if v2 < (v1 - v0) then
      some 0
    else
      some 1
def f_X11_join_J60 (v1 : Int32) (v2 : Int32) (v100 : Int32) (w : Wd) : Option (Int32) :=
  if v100 = 0 then
    some 0
  else
    (f_X11_about v1 1 w).bind fun o7 =>
    (f_X11_about v2 1 w).bind fun o9 =>
    if o7 = o9 then
      (f_X11_about v1 2 w).bind fun o12 =>
      (f_X11_about v2 2 w).bind fun o14 =>
      (f_X11_areNear o12 o14 3).bind fun o16 =>
      if o16 = 0 then
        some 0
      else
        some 1
    else
      some 0
def f_X11_join_J55 (v1 : Int32) (v2 : Int32) (w : Wd) : Option (Int32) :=
  f_X11_join_J60 v1 v2 1 w
def f_X11_join_J59 (v1 : Int32) (v2 : Int32) (w : Wd) : Option (Int32) :=
  f_X11_join_J60 v1 v2 0 w
def f_X11_join (v1 : Int32) (v2 : Int32) (w : Wd) : Option (Int32) :=
  (f_X11_about v1 0 w).bind fun o1 =>
  (f_X11_about v2 0 w).bind fun o3 =>
  if o1 = o3 then
    f_X11_join_J55 v1 v2 w
  else
    (f_X11_get o1 1 w).bind fun o19 =>
    (f_X11_get o3 1 w).bind fun o21 =>
    if o19 = o21 then
      (f_X11_placeOf o1 w).bind fun o24 =>
      (f_X11_placeOf o3 w).bind fun o26 =>
      (f_X11_areNear o24 o26 1).bind fun o28 =>
      if o28 = 0 then
        f_X11_join_J59 v1 v2 w
      else
        f_X11_join_J55 v1 v2 w
    else
      f_X11_join_J59 v1 v2 w
def f_X11_findGroups_L2  (z : Int32 × Wd) : Option ((Int32 × Wd) ⊕ (Int32 × Wd)) :=
  if (z.2.1 77 5) ≤ z.1 then
    some (.inr (z.1, z.2))
  else
    gd (inB z.1 24) <|
    lw (si z.2 99 z.1.toNatClampNeg z.1) fun w3 =>
    some (.inl (z.1 + 1, w3))
def f_X11_findGroups_J106 (v1 : Int32) (v2 : Int32) (v3 : Int32) (v100 : Int32) (w : Wd) : Option ((Int32 × Int32 × Wd) ⊕ (Int32 × Int32 × Wd)) :=
  gd (inB v2 24) <|
  lw (si w 99 v2.toNatClampNeg v100) fun w20 =>
  gd (inB v3 24) <|
  lw (si w20 99 v3.toNatClampNeg v100) fun w22 =>
  some (.inl (1, v3 + 1, w22))
def f_X11_findGroups_L47 (v2 : Int32) (z : Int32 × Int32 × Wd) : Option ((Int32 × Int32 × Wd) ⊕ (Int32 × Int32 × Wd)) :=
  if v2 ≤ z.2.1 then
    some (.inr (z.1, z.2.1, z.2.2))
  else
    gd (inB v2 24) <|
    gd (inB z.2.1 24) <|
    if (z.2.2.1 99 v2.toNatClampNeg) = (z.2.2.1 99 z.2.1.toNatClampNeg) then
      some (.inl (z.1, z.2.1 + 1, z.2.2))
    else
      (f_X11_join v2 z.2.1 z.2.2).bind fun o12 =>
      if o12 = 0 then
        some (.inl (z.1, z.2.1 + 1, z.2.2))
      else
        gd (inB v2 24) <|
        gd (inB z.2.1 24) <|
        if (z.2.2.1 99 z.2.1.toNatClampNeg) ≤ (z.2.2.1 99 v2.toNatClampNeg) then
          gd (inB z.2.1 24) <|
          f_X11_findGroups_J106 z.1 v2 z.2.1 (z.2.2.1 99 z.2.1.toNatClampNeg) z.2.2
        else
          gd (inB v2 24) <|
          f_X11_findGroups_J106 z.1 v2 z.2.1 (z.2.2.1 99 v2.toNatClampNeg) z.2.2
def f_X11_findGroups_L35  (z : Int32 × Int32 × Wd) : Option ((Int32 × Int32 × Wd) ⊕ (Int32 × Int32 × Wd)) :=
  if (z.2.2.1 77 5) ≤ z.2.1 then
    some (.inr (z.1, z.2.1, z.2.2))
  else
    (lp (f_X11_findGroups_L47 z.2.1) FU (z.1, 0, z.2.2)).bind fun o24 =>
    some (.inl (o24.1, z.2.1 + 1, o24.2.2))
def f_X11_findGroups_L27  (z : Int32 × Wd) : Option ((Int32 × Wd) ⊕ (Int32 × Wd)) :=
  if z.1 = 0 then
    some (.inr (z.1, z.2))
  else
    (lp (f_X11_findGroups_L35) FU (0, 0, z.2)).bind fun o26 =>
    some (.inl (o26.1, o26.2.2))
def f_X11_findGroups (w : Wd) : Option (Wd) :=
  (lp (f_X11_findGroups_L2) FU (0, w)).bind fun o4 =>
  (lp (f_X11_findGroups_L27) FU (1, o4.2)).bind fun o28 =>
  some o28.2
def f_X11_complaint (v1 : Int32) (v2 : Int32) (w : Wd) : Option (Int32 × Wd) :=
  (f_X11_isComplaint v1 w).bind fun o1 =>
  if o1 = 0 then
    (f_X11_finds (-1000000001) w).bind fun o4 =>
    some (o4.1, o4.2)
  else
    (f_X11_in v2 0 3).bind fun o6 =>
    if o6 = 0 then
      (f_X11_finds (-1000000001) w).bind fun o15 =>
      some (o15.1, o15.2)
    else
      if 3 ≤ v2 then
        (f_X11_findGroups w).bind fun o10 =>
        gd (inB v1 24) <|
        some (o10.1 99 v1.toNatClampNeg, o10)
      else
        (f_X11_about v1 v2 w).bind fun o13 =>
        some (o13, w)
def f_X11_joined (v1 : Int32) (v2 : Int32) (w : Wd) : Option (Int32 × Wd) :=
  (f_X11_isComplaint v1 w).bind fun o1 =>
  if o1 = 0 then
    (f_X11_finds (-1000000001) w).bind fun o4 =>
    some (o4.1, o4.2)
  else
    (f_X11_isComplaint v2 w).bind fun o6 =>
    if o6 = 0 then
      (f_X11_finds (-1000000001) w).bind fun o14 =>
      some (o14.1, o14.2)
    else
      (f_X11_findGroups w).bind fun o9 =>
      gd (inB v1 24) <|
      gd (inB v2 24) <|
      if (o9.1 99 v1.toNatClampNeg) = (o9.1 99 v2.toNatClampNeg) then
        some (1, o9)
      else
        some (0, o9)
def f_X11_groups_L24 (v1 : Int32) (w : Wd) (z : Int32 × Int32) : Option ((Int32 × Int32) ⊕ (Int32 × Int32)) :=
  if (w.1 77 5) ≤ z.2 then
    some (.inr (z.1, z.2))
  else
    gd (inB z.2 24) <|
    if (w.1 99 z.2.toNatClampNeg) = z.2 then
      if v1 = 0 then
        some (.inl (z.1 + 1, z.2 + 1))
      else
        (f_X11_about z.2 1 w).bind fun o10 =>
        if o10 = v1 then
          some (.inl (z.1 + 1, z.2 + 1))
        else
          some (.inl (z.1 + 0, z.2 + 1))
    else
      some (.inl (z.1 + 0, z.2 + 1))
def f_X11_groups (v1 : Int32) (w : Wd) : Option (Int32 × Wd) :=
  (f_X11_in v1 0 2).bind fun o1 =>
  if o1 = 0 then
    (f_X11_finds (-1000000001) w).bind fun o15 =>
    some (o15.1, o15.2)
  else
    (f_X11_findGroups w).bind fun o4 =>
    (lp (f_X11_groups_L24 v1 o4) FU (0, 0)).bind fun o13 =>
    some (o13.1, o4)
def f_X11_isSheet (v0 : Int32) : Option (Int32) :=
  (f_X11_in v0 0 3).bind fun o1 =>
  gd (zo o1) <|
  some o1
def f_X11_sheet_L86 (v1 : Int32) (z : Int32 × Wd) : Option ((Int32 × Wd) ⊕ (Int32 × Wd)) :=
  if 40 ≤ z.1 then
    some (.inr (z.1, z.2))
  else
    gd (inB ((40 * v1) + z.1) 160) <|
    lw (sj z.2 102 ((40 * v1) + z.1).toNatClampNeg 0) fun w16 =>
    some (.inl (z.1 + 1, w16))
def f_X11_sheet_J82 (v1 : Int32) (v101 : Int32) (v102 : Int32) (w : Wd) : Option (Int32 × Wd) :=
  gd (inB v101 4) <|
  lw (si w 101 v101.toNatClampNeg v102) fun w13 =>
  (lp (f_X11_sheet_L86 v1) FU (0, w13)).bind fun o17 =>
  gd (inB v1 4) <|
  some (o17.2.1 101 v1.toNatClampNeg, o17.2)
def f_X11_sheet_J36 (v1 : Int32) (v2 : Int32) (v3 : Int32) (w : Wd) : Option (Int32 × Wd) :=
  if 0 ≤ v3 then
    if v3 ≤ 40 then
      gd (inB v1 4) <|
      lw (si w 100 v1.toNatClampNeg v2) fun w10 =>
      if v2 = 0 then
        f_X11_sheet_J82 v1 v1 0 w10
      else
        f_X11_sheet_J82 v1 v1 v3 w10
    else
      (f_X11_finds (-1000000001) w).bind fun o20 =>
      some (o20.1, o20.2)
  else
    (f_X11_finds (-1000000007) w).bind fun o22 =>
    some (o22.1, o22.2)
def f_X11_sheet (v1 : Int32) (v2 : Int32) (v3 : Int32) (w : Wd) : Option (Int32 × Wd) :=
  (f_X11_isSheet v1).bind fun o1 =>
  if o1 = 0 then
    (f_X11_finds (-1000000001) w).bind fun o4 =>
    some (o4.1, o4.2)
  else
    if v2 = 0 then
      f_X11_sheet_J36 v1 v2 v3 w
    else
      if v2 = 8 then
        f_X11_sheet_J36 v1 v2 v3 w
      else
        if v2 = 16 then
          f_X11_sheet_J36 v1 v2 v3 w
        else
          if v2 = 64 then
            f_X11_sheet_J36 v1 v2 v3 w
          else
            (f_X11_finds (-1000000001) w).bind fun o27 =>
            some (o27.1, o27.2)
def f_X11_write (v1 : Int32) (v2 : Int32) (v3 : Int64) (w : Wd) : Option (Int64 × Wd) :=
  (f_X11_isSheet v1).bind fun o1 =>
  if o1 = 0 then
    (f_X11_finds (-1000000001) w).bind fun o25 =>
    some (o25.1.toInt64, o25.2)
  else
    gd (inB v1 4) <|
    if (w.1 100 v1.toNatClampNeg) = 0 then
      (f_X11_finds (-1000000006) w).bind fun o23 =>
      some (o23.1.toInt64, o23.2)
    else
      gd (inB v1 4) <|
      (f_X11_in v2 0 ((w.1 101 v1.toNatClampNeg) - 1)).bind fun o7 =>
      if o7 = 0 then
        (f_X11_finds (-1000000001) w).bind fun o21 =>
        some (o21.1.toInt64, o21.2)
      else
        gd (inB ((40 * v1) + v2) 160) <|
        gd (inB v1 4) <|
        if (w.1 100 v1.toNatClampNeg) = 8 then
          gd (inB ((40 * v1) + v2) 160) <|
          lw (sj w 102 ((40 * v1) + v2).toNatClampNeg v3.toInt32.toInt8.toInt32.toInt64) fun w20 =>
          some (w.2 102 (((40 * v1) + v2).toNatClampNeg), w20)
        else
          gd (inB v1 4) <|
          if (w.1 100 v1.toNatClampNeg) = 16 then
            gd (inB ((40 * v1) + v2) 160) <|
            lw (sj w 102 ((40 * v1) + v2).toNatClampNeg v3.toInt32.toInt16.toInt32.toInt64) fun w18 =>
            some (w.2 102 (((40 * v1) + v2).toNatClampNeg), w18)
          else
            gd (inB ((40 * v1) + v2) 160) <|
            lw (sj w 102 ((40 * v1) + v2).toNatClampNeg v3) fun w16 =>
            some (w.2 102 (((40 * v1) + v2).toNatClampNeg), w16)
def f_X11_has (v1 : Int32) (v2 : Int32) (v3 : Int32) (w : Wd) : Option (Int32) :=
  if v2 < 0 then
    some 0
  else
    if v3 < 0 then
      some 0
    else
      gd (inB v1 4) <|
      if ((w.1 101 v1.toNatClampNeg) - v3) < v2 then
        some 0
      else
        some 1
def f_X11_copy_L102 (v1 : Int32) (v2 : Int32) (v3 : Int32) (v4 : Int32) (v5 : Int32) (z : Int32 × Wd) : Option ((Int32 × Wd) ⊕ (Int32 × Wd)) :=
  if v5 ≤ z.1 then
    some (.inr (z.1, z.2))
  else
    gd (inB (((40 * v1) + v2) + z.1) 160) <|
    gd (inB z.1 40) <|
    lw (sj z.2 103 z.1.toNatClampNeg (z.2.2 102 ((((40 * v1) + v2) + z.1).toNatClampNeg))) fun w29 =>
    some (.inl (z.1 + 1, w29))
def f_X11_copy_L139 (v3 : Int32) (v4 : Int32) (v5 : Int32) (z : Int32 × Wd) : Option ((Int32 × Wd) ⊕ (Int32 × Wd)) :=
  if v5 ≤ z.1 then
    some (.inr (z.1, z.2))
  else
    gd (inB z.1 40) <|
    gd (inB (((40 * v3) + v4) + z.1) 160) <|
    lw (sj z.2 102 (((40 * v3) + v4) + z.1).toNatClampNeg (z.2.2 103 z.1.toNatClampNeg)) fun w35 =>
    some (.inl (z.1 + 1, w35))
def f_X11_copy (v1 : Int32) (v2 : Int32) (v3 : Int32) (v4 : Int32) (v5 : Int32) (w : Wd) : Option (Int32 × Wd) :=
  (f_X11_isSheet v1).bind fun o1 =>
  if o1 = 0 then
    (f_X11_finds (-1000000001) w).bind fun o4 =>
    some (o4.1, o4.2)
  else
    (f_X11_isSheet v3).bind fun o6 =>
    if o6 = 0 then
      (f_X11_finds (-1000000001) w).bind fun o44 =>
      some (o44.1, o44.2)
    else
      gd (inB v1 4) <|
      if (w.1 100 v1.toNatClampNeg) = 0 then
        (f_X11_finds (-1000000006) w).bind fun o11 =>
        some (o11.1, o11.2)
      else
        gd (inB v3 4) <|
        if (w.1 100 v3.toNatClampNeg) = 0 then
          (f_X11_finds (-1000000006) w).bind fun o42 =>
          some (o42.1, o42.2)
        else
          gd (inB v1 4) <|
          gd (inB v3 4) <|
          if (w.1 100 v1.toNatClampNeg) = (w.1 100 v3.toNatClampNeg) then
            (f_X11_has v1 v2 v5 w).bind fun o18 =>
            if o18 = 0 then
              (f_X11_finds (-1000000001) w).bind fun o21 =>
              some (o21.1, o21.2)
            else
              (f_X11_has v3 v4 v5 w).bind fun o23 =>
              if o23 = 0 then
                (f_X11_finds (-1000000001) w).bind fun o38 =>
                some (o38.1, o38.2)
              else
                (lp (f_X11_copy_L102 v1 v2 v3 v4 v5) FU (0, w)).bind fun o30 =>
                (lp (f_X11_copy_L139 v3 v4 v5) FU (0, o30.2)).bind fun o36 =>
                some (v5, o36.2)
          else
            (f_X11_finds (-1000000003) w).bind fun o40 =>
            some (o40.1, o40.2)
def f_X11_weather_L39 (v1 : Int32) (z : Int32 × Int32 × Wd) : Option ((Int32 × Int32 × Wd) ⊕ (Int32 × Int32 × Wd)) :=
  gd (inB v1 4) <|
  if (z.2.2.1 101 v1.toNatClampNeg) ≤ z.2.1 then
    some (.inr (z.1, z.2.1, z.2.2))
  else
    if 2000 ≤ (z.2.2.1 77 0) then
      some (.inr (z.1, z.2.1, z.2.2))
    else
      gd (inB ((40 * v1) + z.2.1) 160) <|
      if (lg_cmp (z.2.2.2 102 (((40 * v1) + z.2.1).toNatClampNeg)) (-300)) < 0 then
        some (.inl (z.1, z.2.1 + 1, z.2.2))
      else
        if 0 < (lg_cmp (z.2.2.2 102 (((40 * v1) + z.2.1).toNatClampNeg)) 400) then
          some (.inl (z.1, z.2.1 + 1, z.2.2))
        else
          lw (si z.2.2 77 1 ((z.2.2.2 102 (((40 * v1) + z.2.1).toNatClampNeg)).toInt32)) fun w14 =>
          (f_X11_anHour w14).bind fun o15 =>
          some (.inl (z.1 + 1, z.2.1 + 1, o15))
def f_X11_weather (v1 : Int32) (w : Wd) : Option (Int32 × Wd) :=
  (f_X11_isSheet v1).bind fun o1 =>
  if o1 = 0 then
    (f_X11_finds (-1000000001) w).bind fun o21 =>
    some (o21.1, o21.2)
  else
    gd (inB v1 4) <|
    if (w.1 100 v1.toNatClampNeg) = 0 then
      (f_X11_finds (-1000000006) w).bind fun o19 =>
      some (o19.1, o19.2)
    else
      (f_X11_setsAside w).bind fun o6 =>
      (lp (f_X11_weather_L39 v1) FU (0, 0, o6)).bind fun o17 =>
      some (o17.1, o17.2.2)
def f_X11_read_L33 (v1 : Int32) (w : Wd) (z : Int32) : Option ((Int32) ⊕ ((Int32) ⊕ (Int32 × Wd))) :=
  gd (inB v1 4) <|
  if (w.1 101 v1.toNatClampNeg) ≤ z then
    some (.inr (.inl z))
  else
    (f_X11_isFlat z w).bind fun o8 =>
    if o8 = 0 then
      some (.inr (.inr (1 + z, w)))
    else
      gd (inB ((40 * v1) + z) 160) <|
      (f_X11_get z 6 w).bind fun o12 =>
      if (lg_cmp (w.2 102 (((40 * v1) + z).toNatClampNeg)) o12.toInt64) = 0 then
        some (.inl (z + 1))
      else
        some (.inr (.inr (1 + z, w)))
def f_X11_read (v1 : Int32) (w : Wd) : Option (Int32 × Wd) :=
  (f_X11_isSheet v1).bind fun o1 =>
  if o1 = 0 then
    (f_X11_finds (-1000000001) w).bind fun o21 =>
    some (o21.1, o21.2)
  else
    gd (inB v1 4) <|
    if (w.1 100 v1.toNatClampNeg) = 0 then
      (f_X11_finds (-1000000006) w).bind fun o19 =>
      some (o19.1, o19.2)
    else
      (lp (f_X11_read_L33 v1 w) FU 0).bind fun o15 =>
      sm o15 (fun x17 =>
        some (0, w)
        ) (fun y18 => some y18)
def f_X11_image_L2  (z : Int32 × Wd) : Option ((Int32 × Wd) ⊕ (Int32 × Wd)) :=
  if 291 ≤ z.1 then
    some (.inr (z.1, z.2))
  else
    gd (inB z.1 291) <|
    gd (inB z.1 291) <|
    lw (si z.2 78 z.1.toNatClampNeg (z.2.1 77 z.1.toNatClampNeg)) fun w4 =>
    some (.inl (z.1 + 1, w4))
def f_X11_image (w : Wd) : Option (Int32 × Wd) :=
  (lp (f_X11_image_L2) FU (0, w)).bind fun o5 =>
  lw (si o5.2 76 2 1) fun w7 =>
  some (1, w7)
def f_X11_undo_L16  (z : Int32 × Wd) : Option ((Int32 × Wd) ⊕ (Int32 × Wd)) :=
  if 291 ≤ z.1 then
    some (.inr (z.1, z.2))
  else
    gd (inB z.1 291) <|
    gd (inB z.1 291) <|
    lw (si z.2 77 z.1.toNatClampNeg (z.2.1 78 z.1.toNatClampNeg)) fun w5 =>
    some (.inl (z.1 + 1, w5))
def f_X11_undo (w : Wd) : Option (Int32 × Wd) :=
  if (w.1 76 2) = 0 then
    (f_X11_finds (-1000000004) w).bind fun o9 =>
    some (o9.1, o9.2)
  else
    (lp (f_X11_undo_L16) FU (0, w)).bind fun o6 =>
    lw (si o6.2 76 30 0) fun w8 =>
    some (w8.1 77 0, w8)
def f_X11_tear (w : Wd) : Option (Int32 × Wd) :=
  lw (si w 76 2 0) fun w1 =>
  if (w.1 76 2) = 0 then
    some (0, w1)
  else
    some (1, w1)
def f_X11_fullest_L17 (v1 : Int32) (v2 : Int32) (v3 : Int32) (w : Wd) (z : Int32 × Int32) : Option ((Int32 × Int32) ⊕ (Int32 × Int32)) :=
  if (w.1 77 4) ≤ z.2 then
    some (.inr (z.1, z.2))
  else
    (f_X11_get z.2 1 w).bind fun o3 =>
    if o3 = v3 then
      some (.inl (z.1 + 1, z.2 + 1))
    else
      some (.inl (z.1 + 0, z.2 + 1))
def f_X11_fullest_J66 (v1 : Int32) (v2 : Int32) (v3 : Int32) (v4 : Int32) (v100 : Int32) (w : Wd) : Option ((Int32 × Int32 × Int32) ⊕ (Int32 × Int32 × Int32)) :=
  if v4 ≤ v2 then
    some (.inl (v100, v2, v3 + 1))
  else
    some (.inl (v100, v4, v3 + 1))
def f_X11_fullest_L6 (w : Wd) (z : Int32 × Int32 × Int32) : Option ((Int32 × Int32 × Int32) ⊕ (Int32 × Int32 × Int32)) :=
  if 4 ≤ z.2.2 then
    some (.inr (z.1, z.2.1, z.2.2))
  else
    (lp (f_X11_fullest_L17 z.1 z.2.1 z.2.2 w) FU (0, 0)).bind fun o6 =>
    if o6.1 ≤ z.2.1 then
      f_X11_fullest_J66 z.1 z.2.1 z.2.2 o6.1 z.1 w
    else
      f_X11_fullest_J66 z.1 z.2.1 z.2.2 o6.1 z.2.2 w
def f_X11_fullest (w : Wd) : Option (Int32) :=
  (lp (f_X11_fullest_L6 w) FU (0, 0, 0)).bind fun o10 =>
  some o10.1
def f_X11_flowAll_L8 (w : Wd) (z : Int32 × Int32) : Option ((Int32 × Int32) ⊕ (Int32 × Int32)) :=
  if (w.1 77 4) ≤ z.2 then
    some (.inr (z.1, z.2))
  else
    gd (inB z.2 12) <|
    some (.inl (z.1 + (w.1 86 z.2.toNatClampNeg), z.2 + 1))
def f_X11_flowAll (w : Wd) : Option (Int32 × Wd) :=
  (f_X11_setsAside w).bind fun o1 =>
  (lp (f_X11_flowAll_L8 o1) FU (0, 0)).bind fun o5 =>
  some (o5.1, o1)
def f_X11_count (v1 : Int32) (w : Wd) : Option (Int32 × Wd) :=
  if v1 = 0 then
    some (w.1 77 0, w)
  else
  if v1 = 1 then
    some (w.1 77 4, w)
  else
  if v1 = 2 then
    (f_X11_sumOf 4 w).bind fun o4 =>
    some (o4, w)
  else
  if v1 = 3 then
    some (w.1 77 5, w)
  else
  if v1 = 4 then
    some (w.1 76 18, w)
  else
  if v1 = 5 then
    (f_X11_sumOf 7 w).bind fun o9 =>
    some (o9, w)
  else
  if v1 = 6 then
    (f_X11_sumOf 8 w).bind fun o12 =>
    some (o12, w)
  else
  if v1 = 7 then
    (f_X11_fullest w).bind fun o15 =>
    some (o15, w)
  else
  if v1 = 8 then
    (f_X11_flowAll w).bind fun o18 =>
    some (o18.1, o18.2)
  else
  (f_X11_finds (-1000000001) w).bind fun o20 =>
  some (o20.1, o20.2)
def f_X11_status (v1 : Int32) (w : Wd) : Option (Int32 × Wd) :=
  (f_X11_in v1 (-1) 6).bind fun o1 =>
  if o1 = 0 then
    (f_X11_finds (-1000000001) w).bind fun o6 =>
    some (o6.1, o6.2)
  else
    if 0 ≤ v1 then
      gd (inB v1 7) <|
      some (w.1 79 v1.toNatClampNeg, w)
    else
      some (w.1 76 4, w)

abbrev zRm (f lo : Nat) : Room := { frames := f, cells := 0, slots := 0, locals := lo }
def f_X0_addDaemon (p1 : Int32) (p2 : Int32) (σ : zS) : Option (Int32 × zS) :=
  if (σ 21 0) < 12 then
    zg (z_in (σ 21 0) 12) <|
    zl (zs σ 22 (σ 21 0).toNatClampNeg p1) fun σ3 =>
    zg (z_in (σ3 21 0) 12) <|
    zl (zs σ3 23 (σ3 21 0).toNatClampNeg p2) fun σ5 =>
    zl (zs σ5 21 0 ((σ5 21 0) + 1)) fun σ6 =>
    some ((σ6 21 0) - 1, σ6)
  else
    some ((-5), σ)
def f_X1_addDeed (p1 : Int32) (p2 : Int32) (p3 : Int32) (σ : zS) : Option (Int32 × zS) :=
  if (σ 5 0) < 40 then
    zg (z_in (σ 5 0) 40) <|
    zl (zs σ 6 (σ 5 0).toNatClampNeg p1) fun σ3 =>
    zg (z_in (σ3 5 0) 40) <|
    zl (zs σ3 7 (σ3 5 0).toNatClampNeg p2) fun σ5 =>
    zg (z_in (σ5 5 0) 40) <|
    zl (zs σ5 8 (σ5 5 0).toNatClampNeg p3) fun σ7 =>
    zg (z_in (σ7 5 0) 40) <|
    zl (zs σ7 9 (σ7 5 0).toNatClampNeg (-1)) fun σ9 =>
    zl (zs σ9 5 0 ((σ9 5 0) + 1)) fun σ10 =>
    some ((σ10 5 0) - 1, σ10)
  else
    some ((-5), σ)
def f_X2_addEvent (p1 : Int32) (p2 : Int32) (p3 : Int32) (σ : zS) : Option (Int32 × zS) :=
  if (σ 11 0) < 12 then
    zg (z_in (σ 11 0) 12) <|
    zl (zs σ 12 (σ 11 0).toNatClampNeg p1) fun σ3 =>
    zg (z_in (σ3 11 0) 12) <|
    zl (zs σ3 13 (σ3 11 0).toNatClampNeg p2) fun σ5 =>
    zg (z_in (σ5 11 0) 12) <|
    zl (zs σ5 14 (σ5 11 0).toNatClampNeg (vp_nar .boolean p3)) fun σ7 =>
    zl (zs σ7 11 0 ((σ7 11 0) + 1)) fun σ8 =>
    some ((σ8 11 0) - 1, σ8)
  else
    some ((-5), σ)
def b_X2_putInOrder_L10 (c1 : Int32) (c2 : Int32) (c3 : Int32) (a0 : Int32 × zS) : Option (Bool × (Int32 × zS)) :=
  if a0.1 ≤ 0 then
    some (false, (a0.1, a0.2))
  else
    zg (z_in (a0.1 - 1) 12) <|
    if (a0.2 16 (a0.1 - 1).toNatClampNeg) ≤ c2 then
      some (false, (a0.1, a0.2))
    else
      zg (z_in (a0.1 - 1) 12) <|
      zg (z_in a0.1 12) <|
      zl (zs a0.2 15 a0.1.toNatClampNeg (a0.2 15 (a0.1 - 1).toNatClampNeg)) fun σ7 =>
      zg (z_in (a0.1 - 1) 12) <|
      zg (z_in a0.1 12) <|
      zl (zs σ7 16 a0.1.toNatClampNeg (σ7 16 (a0.1 - 1).toNatClampNeg)) fun σ10 =>
      some (true, (a0.1 + (-1), σ10))
def f_X2_putInOrder (p1 : Int32) (p2 : Int32) (p3 : Int32) (σ : zS) : Option (Int32 × zS) :=
  if p3 < 12 then
    (z_loop (b_X2_putInOrder_L10 p1 p2 p3) zfuel (p3, σ)).bind fun a11 =>
    zg (z_in a11.1 12) <|
    zl (zs a11.2 15 a11.1.toNatClampNeg p1) fun σ13 =>
    zg (z_in a11.1 12) <|
    zl (zs σ13 16 a11.1.toNatClampNeg p2) fun σ15 =>
    some (0, σ15)
  else
    some (0, σ)
def f_X3_addDoor (p1 : Int32) (p2 : Int32) (σ : zS) : Option (Int32 × zS) :=
  if (σ 1 1) < 15 then
    zg (z_in (σ 1 1) 15) <|
    zl (zs σ 2 (σ 1 1).toNatClampNeg p1) fun σ3 =>
    zg (z_in (σ3 1 1) 15) <|
    zl (zs σ3 3 (σ3 1 1).toNatClampNeg p2) fun σ5 =>
    zl (zs σ5 1 1 ((σ5 1 1) + 1)) fun σ6 =>
    some ((σ6 1 1) - 1, σ6)
  else
    some ((-5), σ)
def f_X3_addRoom (σ : zS) : Option (Int32 × zS) :=
  if (σ 1 0) < 10 then
    zl (zs σ 1 0 ((σ 1 0) + 1)) fun σ2 =>
    some ((σ2 1 0) - 1, σ2)
  else
    some ((-5), σ)
def f_X3_addWalker (σ : zS) : Option (Int32 × zS) :=
  if (σ 1 2) < 4 then
    zl (zs σ 1 2 ((σ 1 2) + 1)) fun σ2 =>
    some ((σ2 1 2) - 1, σ2)
  else
    some ((-5), σ)
def f_X3_beyondDoor (p1 : Int32) (p2 : Int32) (σ : zS) : Option (Int32 × zS) :=
  zg (z_in p1 15) <|
  if (σ 2 p1.toNatClampNeg) = p2 then
    zg (z_in p1 15) <|
    some (σ 3 p1.toNatClampNeg, σ)
  else
    zg (z_in p1 15) <|
    if (σ 3 p1.toNatClampNeg) = p2 then
      zg (z_in p1 15) <|
      some (σ 2 p1.toNatClampNeg, σ)
    else
      some ((-1), σ)
def f_X3_isNearer (p1 : Int32) (p2 : Int32) (σ : zS) : Option (Int32 × zS) :=
  zg (z_in p1 10) <|
  if (σ 4 p1.toNatClampNeg) = (-1) then
    some (0, σ)
  else
    zg (z_in p1 10) <|
    zg (z_in p2 10) <|
    if (σ 4 p2.toNatClampNeg) ≤ (σ 4 p1.toNatClampNeg) then
      some (0, σ)
    else
      some (1, σ)
def f_X3_spread (p1 : Int32) (p2 : Int32) (p3 : Int32) (σ : zS) : Option (Int32 × zS) :=
  zg (z_in p1 10) <|
  if (σ 4 p1.toNatClampNeg) = p3 then
    zg (z_in p2 10) <|
    if (σ 4 p2.toNatClampNeg) = (-1) then
      zg (z_in p2 10) <|
      zl (zs σ 4 p2.toNatClampNeg (p3 + 1)) fun σ6 =>
      some (0, σ6)
    else
      some (0, σ)
  else
    some (0, σ)
def b_X3_measureTo_L2 (c1 : Int32) (a0 : Int32 × zS) : Option (Bool × (Int32 × zS)) :=
  if (a0.2 1 0) ≤ a0.1 then
    some (false, (a0.1, a0.2))
  else
    zg (z_in a0.1 10) <|
    zl (zs a0.2 4 a0.1.toNatClampNeg (-1)) fun σ3 =>
    some (true, (a0.1 + 1, σ3))
def b_X3_measureTo_L43 (c1 : Int32) (c3 : Int32) (a0 : Int32 × zS) : Option (Bool × (Int32 × zS)) :=
  if (a0.2 1 1) ≤ a0.1 then
    some (false, (a0.1, a0.2))
  else
    zg (z_in a0.1 15) <|
    if (a0.2 28 a0.1.toNatClampNeg) = 0 then
      zg (z_in a0.1 15) <|
      zg (z_in a0.1 15) <|
      zb (f_X3_spread (a0.2 2 a0.1.toNatClampNeg) (a0.2 3 a0.1.toNatClampNeg) c3 a0.2) fun r13 σ14 =>
      zg (z_in a0.1 15) <|
      zg (z_in a0.1 15) <|
      zb (f_X3_spread (σ14 3 a0.1.toNatClampNeg) (σ14 2 a0.1.toNatClampNeg) c3 σ14) fun r17 σ18 =>
      some (true, (a0.1 + 1, σ18))
    else
      some (true, (a0.1 + 1, a0.2))
def b_X3_measureTo_L32 (c1 : Int32) (a0 : Int32 × zS) : Option (Bool × (Int32 × zS)) :=
  if (a0.2 1 0) ≤ a0.1 then
    some (false, (a0.1, a0.2))
  else
    (z_loop (b_X3_measureTo_L43 c1 a0.1) zfuel (0, a0.2)).bind fun a19 =>
    some (true, (a0.1 + 1, a19.2))
def f_X3_measureTo (p1 : Int32) (σ : zS) : Option (Int32 × zS) :=
  (z_loop (b_X3_measureTo_L2 p1) zfuel (0, σ)).bind fun a4 =>
  zg (z_in p1 10) <|
  zl (zs a4.2 4 p1.toNatClampNeg 0) fun σ6 =>
  (z_loop (b_X3_measureTo_L32 p1) zfuel (0, σ6)).bind fun a20 =>
  some (0, a20.2)
def b_X3_nextRoom_L12 (c1 : Int32) (c2 : Int32) (a0 : Int32 × Int32 × zS) : Option (Bool × (Int32 × Int32 × zS)) :=
  if (a0.2.2 1 1) ≤ a0.2.1 then
    some (false, (a0.1, a0.2.1, a0.2.2))
  else
    zb (f_X3_beyondDoor a0.2.1 c1 a0.2.2) fun r4 σ5 =>
    zg (z_in a0.2.1 15) <|
    if (σ5 28 a0.2.1.toNatClampNeg) = 0 then
      if r4 = (-1) then
        some (true, (a0.1, a0.2.1 + 1, σ5))
      else
        zb (f_X3_isNearer r4 c1 σ5) fun r9 σ10 =>
        if r9 = 0 then
          some (true, (a0.1, a0.2.1 + 1, σ10))
        else
          if a0.1 = (-1) then
            some (true, (r4, a0.2.1 + 1, σ10))
          else
            if a0.1 ≤ r4 then
              some (true, (a0.1, a0.2.1 + 1, σ10))
            else
              some (true, (r4, a0.2.1 + 1, σ10))
    else
      some (true, (a0.1, a0.2.1 + 1, σ5))
def f_X3_nextRoom (p1 : Int32) (p2 : Int32) (σ : zS) : Option (Int32 × zS) :=
  zb (f_X3_measureTo p2 σ) fun r1 σ2 =>
  (z_loop (b_X3_nextRoom_L12 p1 p2) zfuel ((-1), 0, σ2)).bind fun a14 =>
  some (a14.1, a14.2.2)
def f_X4_addRow (p1 : Int32) (p2 : Int32) (σ : zS) : Option (Int32 × zS) :=
  if 40 ≤ (σ 24 5) then
    some (0, σ)
  else
    zg (z_in (σ 24 5) 40) <|
    zl (zs σ 25 (σ 24 5).toNatClampNeg p1) fun σ3 =>
    zg (z_in (σ3 24 5) 40) <|
    zl (zs σ3 26 (σ3 24 5).toNatClampNeg p2) fun σ5 =>
    zl (zs σ5 24 5 ((σ5 24 5) + 1)) fun σ6 =>
    some (0, σ6)
def b_X4_copyFlags_L2 (k1 : Nat) (k2 : Nat) (kl : Nat) (a0 : Int32 × zS) : Option (Bool × (Int32 × zS)) :=
  if (Int32.ofNat kl) ≤ a0.1 then
    some (false, (a0.1, a0.2))
  else
    if (Int32.ofNat kl) ≤ a0.1 then
      some (false, (a0.1, a0.2))
    else
      zg (z_in a0.1 kl) <|
      zg (z_in a0.1 kl) <|
      zl (zs a0.2 k2 a0.1.toNatClampNeg (vp_nar .boolean (a0.2 k1 a0.1.toNatClampNeg))) fun σ5 =>
      some (true, (a0.1 + 1, σ5))
def f_X4_copyFlags (k1 : Nat) (k2 : Nat) (kl : Nat) (σ : zS) : Option (Int32 × zS) :=
  (z_loop (b_X4_copyFlags_L2 k1 k2 kl) zfuel (0, σ)).bind fun a6 =>
  some (0, a6.2)
def f_X4_copyFrom (a : Nat) (b : Nat) (σ : zS) : Option (Int32 × zS) :=
  zl (zs σ (z_mo a) 0 (σ (z_mo b) 0)) fun σ1 =>
  zl (zs σ1 (z_mo a) 1 (σ1 (z_mo b) 1)) fun σ2 =>
  zl (zs σ2 (z_mo a) 2 (σ2 (z_mo b) 2)) fun σ3 =>
  zl (zs σ3 (z_mo a) 3 (σ3 (z_mo b) 3)) fun σ4 =>
  zl (zs σ4 (z_mo a) 4 (σ4 (z_mo b) 4)) fun σ5 =>
  zl (zs σ5 (z_mo a) 5 (σ5 (z_mo b) 5)) fun σ6 =>
  zl (va_up σ6 (z_mo a + 1) (va_cpy (σ6 (z_mo b + 1)) (σ6 (z_mo a + 1)) 0 0 40)) fun σ7 =>
  zl (va_up σ7 (z_mo a + 2) (va_cpy (σ7 (z_mo b + 2)) (σ7 (z_mo a + 2)) 0 0 40)) fun σ8 =>
  zl (va_up σ8 (z_mo a + 3) (va_cpy (σ8 (z_mo b + 3)) (σ8 (z_mo a + 3)) 0 0 8)) fun σ9 =>
  zb (f_X4_copyFlags (z_mo b + 4) (z_mo a + 4) 15 σ9) fun r10 σ11 =>
  zl (va_up σ11 (z_mo a + 5) (va_cpy (σ11 (z_mo b + 5)) (σ11 (z_mo a + 5)) 0 0 4)) fun σ12 =>
  zl (va_up σ12 (z_mo a + 6) (va_cpy (σ12 (z_mo b + 6)) (σ12 (z_mo a + 6)) 0 0 4)) fun σ13 =>
  zl (va_up σ13 (z_mo a + 7) (va_cpy (σ13 (z_mo b + 7)) (σ13 (z_mo a + 7)) 0 0 12)) fun σ14 =>
  zb (f_X4_copyFlags (z_mo b + 8) (z_mo a + 8) 12 σ14) fun r15 σ16 =>
  zb (f_X4_copyFlags (z_mo b + 9) (z_mo a + 9) 12 σ16) fun r17 σ18 =>
  some (0, σ18)
def f_X4_goOn (p1 : Int32) (σ : zS) : Option (Int32 × zS) :=
  zl (zs σ 24 0 ((σ 24 0) + p1)) fun σ1 =>
  if (σ1 24 0) < 1440 then
    some (0, σ1)
  else
    zl (zs σ1 24 0 ((σ1 24 0) - 1440)) fun σ3 =>
    zl (zs σ3 24 1 ((σ3 24 1) + 1)) fun σ4 =>
    some (0, σ4)
def f_X7_isCounter (p0 : Int32) (σ : zS) : Option (Int32 × zS) :=
  if p0 < 0 then
    some (0, σ)
  else
    if 8 ≤ p0 then
      some (0, σ)
    else
      some (1, σ)
def f_X4_growCounter (p1 : Int32) (p2 : Int32) (σ : zS) : Option (Int32 × zS) :=
  zb (f_X7_isCounter p1 σ) fun r1 σ2 =>
  if r1 = 0 then
    some (0, σ2)
  else
    zg (z_in p1 8) <|
    zg (z_in p1 8) <|
    zl (zs σ2 27 p1.toNatClampNeg (if (-1000) < (if ((σ2 27 p1.toNatClampNeg) + p2) < 1000 then ((σ2 27 p1.toNatClampNeg) + p2) else 1000) then (if ((σ2 27 p1.toNatClampNeg) + p2) < 1000 then ((σ2 27 p1.toNatClampNeg) + p2) else 1000) else (-1000))) fun σ6 =>
    some (0, σ6)
def f_X6_addTimer (p1 : Int32) (p2 : Int32) (p3 : Int32) (σ : zS) : Option (Int32 × zS) :=
  if (σ 17 0) < 12 then
    zg (z_in (σ 17 0) 12) <|
    zl (zs σ 18 (σ 17 0).toNatClampNeg p1) fun σ3 =>
    zg (z_in (σ3 17 0) 12) <|
    zl (zs σ3 19 (σ3 17 0).toNatClampNeg p2) fun σ5 =>
    zg (z_in (σ5 17 0) 12) <|
    zl (zs σ5 20 (σ5 17 0).toNatClampNeg (vp_nar .boolean p3)) fun σ7 =>
    zl (zs σ7 17 0 ((σ7 17 0) + 1)) fun σ8 =>
    some ((σ8 17 0) - 1, σ8)
  else
    some ((-5), σ)
def f_X7_isThere (p0 : Int32) (p1 : Int32) (σ : zS) : Option (Int32 × zS) :=
  if p0 < 0 then
    some (0, σ)
  else
    if p1 ≤ p0 then
      some (0, σ)
    else
      some (1, σ)
def b_X5_dropOldest_L9 (m1 : Nat) (a0 : Int32 × zS) : Option (Bool × (Int32 × zS)) :=
  if 8 ≤ a0.1 then
    some (false, (a0.1, a0.2))
  else
    zg (z_in a0.1 8) <|
    zg ((a0.2 35 a0.1.toNatClampNeg).toNatClampNeg < 9) <|
    zg (z_in (a0.1 - 1) 8) <|
    zl (zs a0.2 35 (a0.1 - 1).toNatClampNeg (a0.2 35 a0.1.toNatClampNeg)) fun σ7 =>
    some (true, (a0.1 + 1, σ7))
def f_X5_dropOldest (σ : zS) : Option (Int32 × zS) :=
  zg (z_in 0 8) <|
  zg ((σ 35 (0 : Int32).toNatClampNeg).toNatClampNeg < 9) <|
  (z_loop (b_X5_dropOldest_L9 ((σ 35 (0 : Int32).toNatClampNeg).toNatClampNeg)) zfuel (1, σ)).bind fun a8 =>
  zg (z_in 7 8) <|
  zl (zs a8.2 35 (7 : Int32).toNatClampNeg (σ 35 (0 : Int32).toNatClampNeg)) fun σ10 =>
  zl (zs σ10 34 0 7) fun σ11 =>
  some (0, σ11)
def f_X5_giveBack (σ : zS) : Option (Int32 × zS) :=
  if (σ 34 0) ≤ 0 then
    some (0, σ)
  else
    zl (zs σ 34 0 ((σ 34 0) - 1)) fun σ2 =>
    zg (z_in (σ2 34 0) 8) <|
    zg ((σ2 35 (σ2 34 0).toNatClampNeg).toNatClampNeg < 9) <|
    zb (f_X4_copyFrom 0 ((σ2 35 (σ2 34 0).toNatClampNeg).toNatClampNeg) σ2) fun r5 σ6 =>
    some (0, σ6)
def f_X5_keep (σ : zS) : Option (Int32 × zS) :=
  if (σ 34 0) < 8 then
    zg (z_in (σ 34 0) 8) <|
    zg ((σ 35 (σ 34 0).toNatClampNeg).toNatClampNeg < 9) <|
    zb (f_X4_copyFrom ((σ 35 (σ 34 0).toNatClampNeg).toNatClampNeg) 0 σ) fun r4 σ5 =>
    zl (zs σ5 34 0 ((σ5 34 0) + 1)) fun σ6 =>
    some (0, σ6)
  else
    zb (f_X5_dropOldest σ) fun r7 σ8 =>
    zg (z_in (σ8 34 0) 8) <|
    zg ((σ8 35 (σ8 34 0).toNatClampNeg).toNatClampNeg < 9) <|
    zb (f_X4_copyFrom ((σ8 35 (σ8 34 0).toNatClampNeg).toNatClampNeg) 0 σ8) fun r11 σ12 =>
    zl (zs σ12 34 0 ((σ12 34 0) + 1)) fun σ13 =>
    some (0, σ13)
def f_X7_startTimer (p1 : Int32) (σ : zS) : Option (Int32 × zS) :=
  zb (f_X7_isThere p1 (σ 17 0) σ) fun r1 σ2 =>
  if r1 = 0 then
    some (0, σ2)
  else
    zg (z_in p1 12) <|
    zg (z_in p1 12) <|
    zl (zs σ2 31 p1.toNatClampNeg (σ2 19 p1.toNatClampNeg)) fun σ6 =>
    zg (z_in p1 12) <|
    zl (zs σ6 116 p1.toNatClampNeg (vp_nar .boolean 1)) fun σ8 =>
    some (0, σ8)
def f_X7_stopTimer (p1 : Int32) (σ : zS) : Option (Int32 × zS) :=
  zb (f_X7_isThere p1 (σ 17 0) σ) fun r1 σ2 =>
  if r1 = 0 then
    some (0, σ2)
  else
    zg (z_in p1 12) <|
    zl (zs σ2 31 p1.toNatClampNeg 0) fun σ5 =>
    some (0, σ5)
def f_X7_switchDaemon (p1 : Int32) (p2 : Int32) (σ : zS) : Option (Int32 × zS) :=
  zb (f_X7_isThere p1 (σ 21 0) σ) fun r1 σ2 =>
  if r1 = 0 then
    some (0, σ2)
  else
    zg (z_in p1 12) <|
    zl (zs σ2 32 p1.toNatClampNeg (vp_nar .boolean p2)) fun σ5 =>
    some (0, σ5)
def f_X7_turnDoor (p1 : Int32) (σ : zS) : Option (Int32 × zS) :=
  zb (f_X7_isThere p1 (σ 1 1) σ) fun r1 σ2 =>
  if r1 = 0 then
    some (0, σ2)
  else
    zg (z_in p1 15) <|
    if (σ2 28 p1.toNatClampNeg) = 0 then
      zg (z_in p1 15) <|
      zl (zs σ2 28 p1.toNatClampNeg (vp_nar .boolean 1)) fun σ9 =>
      some (0, σ9)
    else
      zg (z_in p1 15) <|
      zl (zs σ2 28 p1.toNatClampNeg (vp_nar .boolean 0)) fun σ7 =>
      some (0, σ7)
def f_X7_giveGoal (p1 : Int32) (p2 : Int32) (σ : zS) : Option (Int32 × zS) :=
  zb (f_X7_isThere p1 (σ 1 2) σ) fun r1 σ2 =>
  if r1 = 0 then
    some (0, σ2)
  else
    zb (f_X7_isThere p2 (σ2 1 0) σ2) fun r4 σ5 =>
    if r4 = 0 then
      some (0, σ5)
    else
      zg (z_in p1 4) <|
      if (σ5 29 p1.toNatClampNeg) = p2 then
        zg (z_in p1 4) <|
        zl (zs σ5 30 p1.toNatClampNeg (-1)) fun σ12 =>
        some (0, σ12)
      else
        zg (z_in p1 4) <|
        zl (zs σ5 30 p1.toNatClampNeg p2) fun σ10 =>
        some (0, σ10)
def f_X7_carryOut (p1 : Int32) (p2 : Int32) (p3 : Int32) (σ : zS) : Option (Int32 × zS) :=
  if p1 = 0 then
    zb (f_X4_growCounter p2 p3 σ) fun r2 σ3 =>
    some (0, σ3)
  else
  if p1 = 1 then
    zb (f_X7_startTimer p2 σ) fun r5 σ6 =>
    some (0, σ6)
  else
  if p1 = 2 then
    zb (f_X7_stopTimer p2 σ) fun r8 σ9 =>
    some (0, σ9)
  else
  if p1 = 3 then
    zb (f_X7_switchDaemon p2 1 σ) fun r11 σ12 =>
    some (0, σ12)
  else
  if p1 = 4 then
    zb (f_X7_switchDaemon p2 0 σ) fun r14 σ15 =>
    some (0, σ15)
  else
  if p1 = 5 then
    zb (f_X7_turnDoor p2 σ) fun r17 σ18 =>
    some (0, σ18)
  else
  if p1 = 6 then
    zb (f_X7_giveGoal p2 p3 σ) fun r20 σ21 =>
    some (0, σ21)
  else
  if p1 = 7 then
    zl (zs σ 0 8 1) fun σ23 =>
    some (0, σ23)
  else
  if p1 = 8 then
    zl (zs σ 24 4 (if 600 < ((σ 24 4) + p3) then 600 else ((σ 24 4) + p3))) fun σ25 =>
    some (0, σ25)
  else
    some (0, σ)
def j_X7_doDeed_J38 (v1 : Int32) (v2 : Int32) (σ : zS) : Option (Int32 × zS) :=
  zg (z_in v1 40) <|
  zg (z_in v1 40) <|
  zg (z_in v1 40) <|
  zb (f_X7_carryOut (σ 6 v1.toNatClampNeg) (σ 7 v1.toNatClampNeg) (σ 8 v1.toNatClampNeg) σ) fun r6 σ7 =>
  some (1, σ7)
def f_X7_doDeed (p1 : Int32) (σ : zS) : Option (Int32 × zS) :=
  zg (z_in p1 40) <|
  if (σ 9 p1.toNatClampNeg) = (-1) then
    j_X7_doDeed_J38 p1 (σ 9 p1.toNatClampNeg) σ
  else
    zg (z_in (σ 9 p1.toNatClampNeg) 8) <|
    zg (z_in p1 40) <|
    if (σ 10 p1.toNatClampNeg) ≤ (σ 27 (σ 9 p1.toNatClampNeg).toNatClampNeg) then
      j_X7_doDeed_J38 p1 (σ 9 p1.toNatClampNeg) σ
    else
      some (0, σ)
def f_X7_closePast (p1 : Int32) (σ : zS) : Option (Int32 × zS) :=
  if p1 < 0 then
    some (p1, σ)
  else
    zl (zs σ 34 0 0) fun σ2 =>
    some (p1, σ2)
def f_X7_act (p1 : Int32) (σ : zS) : Option (Int32 × zS) :=
  zb (f_X7_isThere p1 (σ 5 0) σ) fun r1 σ2 =>
  if r1 = 0 then
    some ((-2), σ2)
  else
    zb (f_X7_doDeed p1 σ2) fun r4 σ5 =>
    if r4 = 0 then
      zb (f_X7_closePast 0 σ5) fun r7 σ8 =>
      some (r7, σ8)
    else
      zb (f_X7_closePast 1 σ5) fun r9 σ10 =>
      some (r9, σ10)
def f_X7_asNumber (p0 : Int32) (σ : zS) : Option (Int32 × zS) :=
  if p0 = 0 then
    some (0, σ)
  else
    some (1, σ)
def f_X7_back (σ : zS) : Option (Int32 × zS) :=
  if (σ 34 0) = 0 then
    some ((-4), σ)
  else
    zb (f_X5_giveBack σ) fun r2 σ3 =>
    some (σ3 34 0, σ3)
def j_X7_bringEvent_J25 (v1 : Int32) (s0 : Int32) (s1 : Int32) (σ : zS) : Option (Int32 × zS) :=
  zg (z_in s1 12) <|
  zl (zs σ 33 s1.toNatClampNeg (vp_nar .boolean s0)) fun σ4 =>
  zb (f_X4_addRow 0 v1 σ4) fun r5 σ6 =>
  zg (z_in v1 12) <|
  zb (f_X7_doDeed (σ6 12 v1.toNatClampNeg) σ6) fun r8 σ9 =>
  some (0, σ9)
def f_X7_bringEvent (p1 : Int32) (σ : zS) : Option (Int32 × zS) :=
  zg (z_in p1 12) <|
  if (σ 14 p1.toNatClampNeg) = 0 then
    j_X7_bringEvent_J25 p1 1 p1 σ
  else
    j_X7_bringEvent_J25 p1 0 p1 σ
def f_X7_minutesUntil (p1 : Int32) (σ : zS) : Option (Int32 × zS) :=
  if (p1 - (σ 24 0)) ≤ 0 then
    some ((p1 - (σ 24 0)) + 1440, σ)
  else
    some (p1 - (σ 24 0), σ)
def b_X7_lineUpEvents_L4 (c1 : Int32) (a0 : Int32 × Int32 × zS) : Option (Bool × (Int32 × Int32 × zS)) :=
  if (a0.2.2 11 0) ≤ a0.2.1 then
    some (false, (a0.1, a0.2.1, a0.2.2))
  else
    zg (z_in a0.2.1 12) <|
    zb (f_X7_minutesUntil (a0.2.2 13 a0.2.1.toNatClampNeg) a0.2.2) fun r3 σ4 =>
    zg (z_in a0.2.1 12) <|
    if (σ4 33 a0.2.1.toNatClampNeg) = 0 then
      if c1 < r3 then
        some (true, (a0.1, a0.2.1 + 1, σ4))
      else
        zb (f_X2_putInOrder a0.2.1 r3 a0.1 σ4) fun r8 σ9 =>
        some (true, (a0.1 + 1, a0.2.1 + 1, σ9))
    else
      some (true, (a0.1, a0.2.1 + 1, σ4))
def f_X7_lineUpEvents (p1 : Int32) (σ : zS) : Option (Int32 × zS) :=
  (z_loop (b_X7_lineUpEvents_L4 p1) zfuel (0, 0, σ)).bind fun a10 =>
  some (a10.1, a10.2.2)
def b_X7_bringEvents_L40 (c1 : Int32) (c2 : Int32) (a0 : Int32 × zS) : Option (Bool × (Int32 × zS)) :=
  if c2 ≤ a0.1 then
    some (false, (a0.1, a0.2))
  else
    if (a0.2 0 8) = 0 then
      zg (z_in a0.1 12) <|
      zb (f_X7_bringEvent (a0.2 15 a0.1.toNatClampNeg) a0.2) fun r9 σ10 =>
      some (true, (a0.1 + 1, σ10))
    else
      some (false, (a0.1, a0.2))
def f_X7_bringEvents (σ : zS) : Option (Int32 × zS) :=
  zl (zs σ 24 4 0) fun σ1 =>
  zb (f_X7_lineUpEvents ((σ 24 3) + (σ 24 4)) σ1) fun r2 σ3 =>
  zb (f_X4_goOn ((σ 24 3) + (σ 24 4)) σ3) fun r4 σ5 =>
  (z_loop (b_X7_bringEvents_L40 ((σ 24 3) + (σ 24 4)) r2) zfuel (0, σ5)).bind fun a11 =>
  some (0, a11.2)
def f_X7_isWithin (p0 : Int32) (p1 : Int32) (p2 : Int32) (σ : zS) : Option (Int32 × zS) :=
  if p0 < p1 then
    some (0, σ)
  else
    if p2 < p0 then
      some (0, σ)
    else
      some (1, σ)
def f_X7_isCounterValue (p0 : Int32) (σ : zS) : Option (Int32 × zS) :=
  zb (f_X7_isWithin p0 (-1000) 1000 σ) fun r1 σ2 =>
  zg (r1 = 0 ∨ r1 = 1) <|
  some (r1, σ2)
def j_X7_condition_J29 (v1 : Int32) (v2 : Int32) (v3 : Int32) (σ : zS) : Option (Int32 × zS) :=
  zb (f_X7_isCounterValue v3 σ) fun r5 σ6 =>
  if r5 = 0 then
    some ((-3), σ6)
  else
    zg (z_in v1 40) <|
    zl (zs σ6 9 v1.toNatClampNeg v2) fun σ9 =>
    zg (z_in v1 40) <|
    zl (zs σ9 10 v1.toNatClampNeg v3) fun σ11 =>
    zb (f_X7_closePast 1 σ11) fun r12 σ13 =>
    some (r12, σ13)
def f_X7_condition (p1 : Int32) (p2 : Int32) (p3 : Int32) (σ : zS) : Option (Int32 × zS) :=
  zb (f_X7_isThere p1 (σ 5 0) σ) fun r1 σ2 =>
  if r1 = 0 then
    some ((-2), σ2)
  else
    if p2 = (-1) then
      j_X7_condition_J29 p1 p2 p3 σ2
    else
      zb (f_X7_isCounter p2 σ2) fun r14 σ15 =>
      if r14 = 0 then
        some ((-3), σ15)
      else
        j_X7_condition_J29 p1 p2 p3 σ15
def f_X7_count (p1 : Int32) (σ : zS) : Option (Int32 × zS) :=
  if p1 = 0 then
    some (σ 1 0, σ)
  else
  if p1 = 1 then
    some (σ 1 1, σ)
  else
  if p1 = 2 then
    some (σ 1 2, σ)
  else
  if p1 = 3 then
    some (σ 5 0, σ)
  else
  if p1 = 4 then
    some (σ 11 0, σ)
  else
  if p1 = 5 then
    some (σ 17 0, σ)
  else
  if p1 = 6 then
    some (σ 21 0, σ)
  else
    some ((-3), σ)
def f_X7_counter (p1 : Int32) (σ : zS) : Option (Int32 × zS) :=
  zb (f_X7_isCounter p1 σ) fun r1 σ2 =>
  if r1 = 0 then
    some ((-3), σ2)
  else
    zg (z_in p1 8) <|
    some (σ2 27 p1.toNatClampNeg, σ2)
def f_X7_daemon (p1 : Int32) (p2 : Int32) (σ : zS) : Option (Int32 × zS) :=
  zb (f_X7_isThere p1 (σ 5 0) σ) fun r1 σ2 =>
  if r1 = 0 then
    some ((-2), σ2)
  else
    zb (f_X7_isWithin p2 0 9 σ2) fun r4 σ5 =>
    if r4 = 0 then
      some ((-3), σ5)
    else
      zb (f_X0_addDaemon p1 p2 σ5) fun r7 σ8 =>
      zb (f_X7_closePast r7 σ8) fun r9 σ10 =>
      some (r9, σ10)
def j_X7_deed_J34 (v1 : Int32) (v2 : Int32) (v3 : Int32) (σ : zS) : Option (Int32 × zS) :=
  if v1 = 8 then
    zb (f_X7_isWithin v3 1 600 σ) fun r10 σ11 =>
    if r10 = 0 then
      some ((-3), σ11)
    else
      zb (f_X1_addDeed v1 v2 v3 σ11) fun r13 σ14 =>
      zb (f_X7_closePast r13 σ14) fun r15 σ16 =>
      some (r15, σ16)
  else
    zb (f_X1_addDeed v1 v2 v3 σ) fun r6 σ7 =>
    zb (f_X7_closePast r6 σ7) fun r8 σ9 =>
    some (r8, σ9)
def f_X7_deed (p1 : Int32) (p2 : Int32) (p3 : Int32) (σ : zS) : Option (Int32 × zS) :=
  zb (f_X7_isWithin p1 0 8 σ) fun r1 σ2 =>
  if r1 = 0 then
    some ((-3), σ2)
  else
    if p1 = 0 then
      zb (f_X7_isCounter p2 σ2) fun r17 σ18 =>
      if r17 = 0 then
        some ((-3), σ18)
      else
        zb (f_X7_isCounterValue p3 σ18) fun r20 σ21 =>
        if r20 = 0 then
          some ((-3), σ21)
        else
          j_X7_deed_J34 p1 p2 p3 σ21
    else
      j_X7_deed_J34 p1 p2 p3 σ2
def f_X7_door (p1 : Int32) (p2 : Int32) (σ : zS) : Option (Int32 × zS) :=
  zb (f_X7_isThere p1 (σ 1 0) σ) fun r1 σ2 =>
  if r1 = 0 then
    some ((-2), σ2)
  else
    zb (f_X7_isThere p2 (σ2 1 0) σ2) fun r4 σ5 =>
    if r4 = 0 then
      some ((-2), σ5)
    else
      if p1 = p2 then
        some ((-3), σ5)
      else
        zb (f_X3_addDoor p1 p2 σ5) fun r8 σ9 =>
        zb (f_X7_closePast r8 σ9) fun r10 σ11 =>
        some (r10, σ11)
def f_X7_event (p1 : Int32) (p2 : Int32) (p3 : Int32) (σ : zS) : Option (Int32 × zS) :=
  zb (f_X7_isThere p1 (σ 5 0) σ) fun r1 σ2 =>
  if r1 = 0 then
    some ((-2), σ2)
  else
    zb (f_X7_isWithin p2 0 1439 σ2) fun r4 σ5 =>
    if r4 = 0 then
      some ((-3), σ5)
    else
      zb (f_X2_addEvent p1 p2 p3 σ5) fun r7 σ8 =>
      zb (f_X7_closePast r7 σ8) fun r9 σ10 =>
      some (r9, σ10)
def f_X7_is (p1 : Int32) (p2 : Int32) (σ : zS) : Option (Int32 × zS) :=
  if p1 = 0 then
    zb (f_X7_isThere p2 (σ 21 0) σ) fun r2 σ3 =>
    if r2 = 0 then
      some ((-2), σ3)
    else
      zg (z_in p2 12) <|
      zb (f_X7_asNumber (σ3 32 p2.toNatClampNeg) σ3) fun r6 σ7 =>
      some (r6, σ7)
  else
  if p1 = 1 then
    zb (f_X7_isThere p2 (σ 1 1) σ) fun r9 σ10 =>
    if r9 = 0 then
      some ((-2), σ10)
    else
      zg (z_in p2 15) <|
      if (σ10 28 p2.toNatClampNeg) = 0 then
        zb (f_X7_asNumber 1 σ10) fun r16 σ17 =>
        some (r16, σ17)
      else
        zb (f_X7_asNumber 0 σ10) fun r14 σ15 =>
        some (r14, σ15)
  else
  if p1 = 2 then
    zb (f_X7_isThere p2 (σ 11 0) σ) fun r19 σ20 =>
    if r19 = 0 then
      some ((-2), σ20)
    else
      zg (z_in p2 12) <|
      if (σ20 33 p2.toNatClampNeg) = 0 then
        zb (f_X7_asNumber 1 σ20) fun r26 σ27 =>
        some (r26, σ27)
      else
        zb (f_X7_asNumber 0 σ20) fun r24 σ25 =>
        some (r24, σ25)
  else
    some ((-3), σ)
def f_X7_left (p1 : Int32) (σ : zS) : Option (Int32 × zS) :=
  zb (f_X7_isThere p1 (σ 17 0) σ) fun r1 σ2 =>
  if r1 = 0 then
    some ((-2), σ2)
  else
    zg (z_in p1 12) <|
    some (σ2 31 p1.toNatClampNeg, σ2)
def f_X7_minutes (p1 : Int32) (σ : zS) : Option (Int32 × zS) :=
  zb (f_X7_isThere p1 (σ 11 0) σ) fun r1 σ2 =>
  if r1 = 0 then
    some ((-2), σ2)
  else
    zg (z_in p1 12) <|
    if (σ2 33 p1.toNatClampNeg) = 0 then
      zg (z_in p1 12) <|
      zb (f_X7_minutesUntil (σ2 13 p1.toNatClampNeg) σ2) fun r7 σ8 =>
      some (r7, σ8)
    else
      some ((-1), σ2)
def f_X7_moveWalker (p1 : Int32) (σ : zS) : Option (Int32 × zS) :=
  zg (z_in p1 4) <|
  zg (z_in p1 4) <|
  zb (f_X3_nextRoom (σ 29 p1.toNatClampNeg) (σ 30 p1.toNatClampNeg) σ) fun r3 σ4 =>
  if r3 = (-1) then
    some (0, σ4)
  else
    zg (z_in p1 4) <|
    zl (zs σ4 29 p1.toNatClampNeg r3) fun σ7 =>
    zg (z_in p1 4) <|
    if r3 = (σ7 30 p1.toNatClampNeg) then
      zg (z_in p1 4) <|
      zl (zs σ7 30 p1.toNatClampNeg (-1)) fun σ13 =>
      zb (f_X4_addRow 3 p1 σ13) fun r14 σ15 =>
      some (0, σ15)
    else
      zb (f_X4_addRow 3 p1 σ7) fun r10 σ11 =>
      some (0, σ11)
def b_X7_moveWalkers_L2 (a0 : Int32 × zS) : Option (Bool × (Int32 × zS)) :=
  if (a0.2 1 2) ≤ a0.1 then
    some (false, (a0.1, a0.2))
  else
    if (a0.2 0 8) = 0 then
      zg (z_in a0.1 4) <|
      if (a0.2 30 a0.1.toNatClampNeg) = (-1) then
        some (true, (a0.1 + 1, a0.2))
      else
        zb (f_X7_moveWalker a0.1 a0.2) fun r5 σ6 =>
        some (true, (a0.1 + 1, σ6))
    else
      some (false, (a0.1, a0.2))
def f_X7_moveWalkers (σ : zS) : Option (Int32 × zS) :=
  (z_loop (b_X7_moveWalkers_L2) zfuel (0, σ)).bind fun a7 =>
  some (0, a7.2)
def f_X7_pace (p1 : Int32) (σ : zS) : Option (Int32 × zS) :=
  zb (f_X7_isWithin p1 1 60 σ) fun r1 σ2 =>
  if r1 = 0 then
    some ((-3), σ2)
  else
    zl (zs σ2 24 3 p1) fun σ4 =>
    zb (f_X7_closePast (σ2 24 3) σ4) fun r5 σ6 =>
    some (r5, σ6)
def f_X7_room (σ : zS) : Option (Int32 × zS) :=
  zb (f_X3_addRoom σ) fun r1 σ2 =>
  zb (f_X7_closePast r1 σ2) fun r3 σ4 =>
  some (r3, σ4)
def f_X7_row (p1 : Int32) (p2 : Int32) (σ : zS) : Option (Int32 × zS) :=
  zb (f_X7_isWithin p2 0 1 σ) fun r1 σ2 =>
  if r1 = 0 then
    some ((-3), σ2)
  else
    zb (f_X7_isThere p1 (σ2 24 5) σ2) fun r4 σ5 =>
    if r4 = 0 then
      some ((-1), σ5)
    else
      if p2 = 0 then
        zg (z_in p1 40) <|
        some (σ5 25 p1.toNatClampNeg, σ5)
      else
        zg (z_in p1 40) <|
        some (σ5 26 p1.toNatClampNeg, σ5)
def b_X7_runDaemonsOf_L2 (c1 : Int32) (a0 : Int32 × zS) : Option (Bool × (Int32 × zS)) :=
  if (a0.2 21 0) ≤ a0.1 then
    some (false, (a0.1, a0.2))
  else
    if (a0.2 0 8) = 0 then
      zg (z_in a0.1 12) <|
      if (a0.2 23 a0.1.toNatClampNeg) = c1 then
        zg (z_in a0.1 12) <|
        if (a0.2 32 a0.1.toNatClampNeg) = 0 then
          some (true, (a0.1 + 1, a0.2))
        else
          zb (f_X4_addRow 2 a0.1 a0.2) fun r7 σ8 =>
          zg (z_in a0.1 12) <|
          zb (f_X7_doDeed (σ8 22 a0.1.toNatClampNeg) σ8) fun r10 σ11 =>
          some (true, (a0.1 + 1, σ11))
      else
        some (true, (a0.1 + 1, a0.2))
    else
      some (false, (a0.1, a0.2))
def f_X7_runDaemonsOf (p1 : Int32) (σ : zS) : Option (Int32 × zS) :=
  (z_loop (b_X7_runDaemonsOf_L2 p1) zfuel (0, σ)).bind fun a12 =>
  some (0, a12.2)
def b_X7_runDaemons_L2 (a0 : Int32 × zS) : Option (Bool × (Int32 × zS)) :=
  if 9 < a0.1 then
    some (false, (a0.1, a0.2))
  else
    zb (f_X7_runDaemonsOf a0.1 a0.2) fun r2 σ3 =>
    some (true, (a0.1 + 1, σ3))
def f_X7_runDaemons (σ : zS) : Option (Int32 × zS) :=
  (z_loop (b_X7_runDaemons_L2) zfuel (0, σ)).bind fun a4 =>
  some (0, a4.2)
def f_X7_runTimer (p1 : Int32) (σ : zS) : Option (Int32 × zS) :=
  zg (z_in p1 12) <|
  zg (z_in p1 12) <|
  zl (zs σ 31 p1.toNatClampNeg ((σ 31 p1.toNatClampNeg) - 1)) fun σ3 =>
  zg (z_in p1 12) <|
  if (σ3 31 p1.toNatClampNeg) ≤ 0 then
    zg (z_in p1 12) <|
    if (σ3 20 p1.toNatClampNeg) = 0 then
      zb (f_X4_addRow 1 p1 σ3) fun r8 σ9 =>
      zg (z_in p1 12) <|
      zb (f_X7_doDeed (σ9 18 p1.toNatClampNeg) σ9) fun r11 σ12 =>
      some (0, σ12)
    else
      zg (z_in p1 12) <|
      zg (z_in p1 12) <|
      zl (zs σ3 31 p1.toNatClampNeg (σ3 19 p1.toNatClampNeg)) fun σ15 =>
      zb (f_X4_addRow 1 p1 σ15) fun r16 σ17 =>
      zg (z_in p1 12) <|
      zb (f_X7_doDeed (σ17 18 p1.toNatClampNeg) σ17) fun r19 σ20 =>
      some (0, σ20)
  else
    some (0, σ3)
def b_X7_runTimers_L2 (a0 : Int32 × zS) : Option (Bool × (Int32 × zS)) :=
  if (a0.2 17 0) ≤ a0.1 then
    some (false, (a0.1, a0.2))
  else
    zg (z_in a0.1 12) <|
    zl (zs a0.2 116 a0.1.toNatClampNeg (vp_nar .boolean 0)) fun σ3 =>
    some (true, (a0.1 + 1, σ3))
def b_X7_runTimers_L28 (a0 : Int32 × zS) : Option (Bool × (Int32 × zS)) :=
  if (a0.2 17 0) ≤ a0.1 then
    some (false, (a0.1, a0.2))
  else
    if (a0.2 0 8) = 0 then
      zg (z_in a0.1 12) <|
      if (a0.2 31 a0.1.toNatClampNeg) ≤ 0 then
        some (true, (a0.1 + 1, a0.2))
      else
        zg (z_in a0.1 12) <|
        if (a0.2 116 a0.1.toNatClampNeg) = 0 then
          zb (f_X7_runTimer a0.1 a0.2) fun r11 σ12 =>
          some (true, (a0.1 + 1, σ12))
        else
          some (true, (a0.1 + 1, a0.2))
    else
      some (false, (a0.1, a0.2))
def f_X7_runTimers (σ : zS) : Option (Int32 × zS) :=
  (z_loop (b_X7_runTimers_L2) zfuel (0, σ)).bind fun a4 =>
  (z_loop (b_X7_runTimers_L28) zfuel (0, a4.2)).bind fun a13 =>
  some (0, a13.2)
def f_X7_timer (p1 : Int32) (p2 : Int32) (p3 : Int32) (σ : zS) : Option (Int32 × zS) :=
  zb (f_X7_isThere p1 (σ 5 0) σ) fun r1 σ2 =>
  if r1 = 0 then
    some ((-2), σ2)
  else
    zb (f_X7_isWithin p2 1 50 σ2) fun r4 σ5 =>
    if r4 = 0 then
      some ((-3), σ5)
    else
      zb (f_X6_addTimer p1 p2 p3 σ5) fun r7 σ8 =>
      zb (f_X7_closePast r7 σ8) fun r9 σ10 =>
      some (r9, σ10)
def f_X7_told (p1 : Int32) (σ : zS) : Option (Int32 × zS) :=
  if p1 = 0 then
    some (σ 24 0, σ)
  else
  if p1 = 1 then
    some (σ 24 1, σ)
  else
  if p1 = 2 then
    some (σ 24 2, σ)
  else
  if p1 = 3 then
    some (σ 24 3, σ)
  else
  if p1 = 4 then
    some (σ 24 4, σ)
  else
  if p1 = 5 then
    some (σ 34 0, σ)
  else
  if p1 = 6 then
    some (σ 24 5, σ)
  else
    some ((-3), σ)
def f_X7_turn (σ : zS) : Option (Int32 × zS) :=
  zb (f_X5_keep σ) fun r1 σ2 =>
  zl (zs σ2 24 2 ((σ2 24 2) + 1)) fun σ3 =>
  zl (zs σ3 24 5 0) fun σ4 =>
  zl (zs σ4 0 8 0) fun σ5 =>
  zb (f_X7_bringEvents σ5) fun r6 σ7 =>
  zb (f_X7_runTimers σ7) fun r8 σ9 =>
  zb (f_X7_runDaemons σ9) fun r10 σ11 =>
  zb (f_X7_moveWalkers σ11) fun r12 σ13 =>
  some (σ13 24 5, σ13)
def f_X7_walker (p1 : Int32) (σ : zS) : Option (Int32 × zS) :=
  zb (f_X7_isThere p1 (σ 1 0) σ) fun r1 σ2 =>
  if r1 = 0 then
    some ((-2), σ2)
  else
    zb (f_X3_addWalker σ2) fun r4 σ5 =>
    zb (f_X7_isThere r4 (σ5 1 2) σ5) fun r6 σ7 =>
    if r6 = 0 then
      zb (f_X7_closePast r4 σ7) fun r9 σ10 =>
      some (r9, σ10)
    else
      zg (z_in r4 4) <|
      zl (zs σ7 29 r4.toNatClampNeg p1) fun σ12 =>
      zg (z_in r4 4) <|
      zl (zs σ12 30 r4.toNatClampNeg (-1)) fun σ14 =>
      zb (f_X7_closePast r4 σ14) fun r15 σ16 =>
      some (r15, σ16)
def f_X7_walks (p1 : Int32) (p2 : Int32) (σ : zS) : Option (Int32 × zS) :=
  zb (f_X7_isThere p1 (σ 1 2) σ) fun r1 σ2 =>
  if r1 = 0 then
    some ((-2), σ2)
  else
    if p2 = 0 then
      zg (z_in p1 4) <|
      some (σ2 29 p1.toNatClampNeg, σ2)
    else
    if p2 = 1 then
      zg (z_in p1 4) <|
      some (σ2 30 p1.toNatClampNeg, σ2)
    else
      some ((-3), σ2)
def f_X7_way (p1 : Int32) (p2 : Int32) (σ : zS) : Option (Int32 × zS) :=
  zb (f_X7_isThere p1 (σ 1 0) σ) fun r1 σ2 =>
  if r1 = 0 then
    some ((-2), σ2)
  else
    zb (f_X7_isThere p2 (σ2 1 0) σ2) fun r4 σ5 =>
    if r4 = 0 then
      some ((-2), σ5)
    else
      zb (f_X3_measureTo p2 σ5) fun r7 σ8 =>
      zg (z_in p1 10) <|
      some (σ8 4 p1.toNatClampNeg, σ8)

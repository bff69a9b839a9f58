def f_X8_in (p0 : Int32) (p1 : Int32) (p2 : Int32) (σ : zS) : Option (Int32 × zS) :=
  if p0 < p1 then
    some (0, σ)
  else
    if p2 < p0 then
      some (0, σ)
    else
      some (1, σ)
def f_X8_isOf (p0 : Int32) (p1 : Int32) (σ : zS) : Option (Int32 × zS) :=
  zb (f_X8_in p0 0 (p1 - 1) σ) fun r1 σ2 =>
  zg (r1 = 0 ∨ r1 = 1) <|
  some (r1, σ2)
def f_X8_holds (p1 : Int32) (σ : zS) : Option (Int32 × zS) :=
  zg (z_in p1 40) <|
  if (σ 8 p1.toNatClampNeg) = (-1) then
    some (1, σ)
  else
    zg (z_in p1 40) <|
    zg (z_in (4 + (σ 8 p1.toNatClampNeg)) 192) <|
    zg (z_in p1 40) <|
    if (σ 1 (4 + (σ 8 p1.toNatClampNeg)).toNatClampNeg) < (σ 9 p1.toNatClampNeg) then
      some (0, σ)
    else
      some (1, σ)
def f_X8_bound (p0 : Int32) (p1 : Int32) (p2 : Int32) (σ : zS) : Option (Int32 × zS) :=
  if p1 ≤ p0 then
    if p0 ≤ p2 then
      some (p0, σ)
    else
      some (p2, σ)
  else
    some (p1, σ)
def f_X8_perform (p1 : Int32) (σ : zS) : Option (Int32 × zS) :=
  zb (f_X8_holds p1 σ) fun r1 σ2 =>
  if r1 = 0 then
    some (0, σ2)
  else
    zg (z_in p1 40) <|
    zg (z_in p1 40) <|
    zg (z_in p1 40) <|
    if (σ2 5 p1.toNatClampNeg) = 0 then
      zg (z_in (4 + (σ2 6 p1.toNatClampNeg)) 192) <|
      zb (f_X8_bound ((σ2 1 (4 + (σ2 6 p1.toNatClampNeg)).toNatClampNeg) + (σ2 7 p1.toNatClampNeg)) (-1000) 1000 σ2) fun r9 σ10 =>
      zg (z_in (4 + (σ2 6 p1.toNatClampNeg)) 192) <|
      zl (zs σ10 1 (4 + (σ2 6 p1.toNatClampNeg)).toNatClampNeg r9) fun σ12 =>
      some (0, σ12)
    else
    if (σ2 5 p1.toNatClampNeg) = 1 then
      zb (f_X8_isOf (σ2 6 p1.toNatClampNeg) (σ2 0 19) σ2) fun r14 σ15 =>
      if r14 = 0 then
        some (0, σ15)
      else
        zg (z_in (σ2 6 p1.toNatClampNeg) 12) <|
        zg (z_in (47 + (σ2 6 p1.toNatClampNeg)) 192) <|
        zl (zs σ15 1 (47 + (σ2 6 p1.toNatClampNeg)).toNatClampNeg (σ15 14 (σ2 6 p1.toNatClampNeg).toNatClampNeg)) fun σ19 =>
        zg (z_in (σ2 6 p1.toNatClampNeg) 12) <|
        zl (zs σ19 18 (σ2 6 p1.toNatClampNeg).toNatClampNeg (vp_nar .boolean 1)) fun σ21 =>
        some (0, σ21)
    else
    if (σ2 5 p1.toNatClampNeg) = 2 then
      zb (f_X8_isOf (σ2 6 p1.toNatClampNeg) (σ2 0 19) σ2) fun r23 σ24 =>
      if r23 = 0 then
        some (0, σ24)
      else
        zg (z_in (47 + (σ2 6 p1.toNatClampNeg)) 192) <|
        zl (zs σ24 1 (47 + (σ2 6 p1.toNatClampNeg)).toNatClampNeg 0) fun σ27 =>
        some (0, σ27)
    else
    if (σ2 5 p1.toNatClampNeg) = 3 then
      zb (f_X8_isOf (σ2 6 p1.toNatClampNeg) (σ2 0 23) σ2) fun r29 σ30 =>
      if r29 = 0 then
        some (0, σ30)
      else
        zg (z_in (59 + (σ2 6 p1.toNatClampNeg)) 192) <|
        zl (zs σ30 1 (59 + (σ2 6 p1.toNatClampNeg)).toNatClampNeg 1) fun σ33 =>
        some (0, σ33)
    else
    if (σ2 5 p1.toNatClampNeg) = 4 then
      zb (f_X8_isOf (σ2 6 p1.toNatClampNeg) (σ2 0 23) σ2) fun r35 σ36 =>
      if r35 = 0 then
        some (0, σ36)
      else
        zg (z_in (59 + (σ2 6 p1.toNatClampNeg)) 192) <|
        zl (zs σ36 1 (59 + (σ2 6 p1.toNatClampNeg)).toNatClampNeg 0) fun σ39 =>
        some (0, σ39)
    else
    if (σ2 5 p1.toNatClampNeg) = 5 then
      zb (f_X8_isOf (σ2 6 p1.toNatClampNeg) (σ2 0 5) σ2) fun r41 σ42 =>
      if r41 = 0 then
        some (0, σ42)
      else
        zg (z_in (12 + (σ2 6 p1.toNatClampNeg)) 192) <|
        zg (z_in (12 + (σ2 6 p1.toNatClampNeg)) 192) <|
        zl (zs σ42 1 (12 + (σ2 6 p1.toNatClampNeg)).toNatClampNeg (1 - (σ42 1 (12 + (σ2 6 p1.toNatClampNeg)).toNatClampNeg))) fun σ46 =>
        some (0, σ46)
    else
    if (σ2 5 p1.toNatClampNeg) = 6 then
      zb (f_X8_isOf (σ2 6 p1.toNatClampNeg) (σ2 0 8) σ2) fun r48 σ49 =>
      if r48 = 0 then
        some (0, σ49)
      else
        zb (f_X8_isOf (σ2 7 p1.toNatClampNeg) (σ49 0 4) σ49) fun r51 σ52 =>
        if r51 = 0 then
          some (0, σ52)
        else
          zg (z_in (27 + (σ2 6 p1.toNatClampNeg)) 192) <|
          if (σ52 1 (27 + (σ2 6 p1.toNatClampNeg)).toNatClampNeg) = (σ2 7 p1.toNatClampNeg) then
            zg (z_in (31 + (σ2 6 p1.toNatClampNeg)) 192) <|
            zl (zs σ52 1 (31 + (σ2 6 p1.toNatClampNeg)).toNatClampNeg (-1)) fun σ59 =>
            some (0, σ59)
          else
            zg (z_in (31 + (σ2 6 p1.toNatClampNeg)) 192) <|
            zl (zs σ52 1 (31 + (σ2 6 p1.toNatClampNeg)).toNatClampNeg (σ2 7 p1.toNatClampNeg)) fun σ57 =>
            some (0, σ57)
    else
    if (σ2 5 p1.toNatClampNeg) = 7 then
      zg (σ2 0 26 = 0 ∨ σ2 0 26 = 1) <|
      zl (zs σ2 0 27 (σ2 0 26)) fun σ62 =>
      some (0, σ62)
    else
      zg (z_in 3 192) <|
      zb (f_X8_bound ((σ2 1 (3 : Int32).toNatClampNeg) + (σ2 7 p1.toNatClampNeg)) 0 600 σ2) fun r64 σ65 =>
      zg (z_in 3 192) <|
      zl (zs σ65 1 (3 : Int32).toNatClampNeg r64) fun σ67 =>
      some (0, σ67)
def f_X8_changed (p1 : Int32) (σ : zS) : Option (Int32 × zS) :=
  zl (zs σ 0 2 0) fun σ1 =>
  some (p1, σ1)
def f_X8_act (p1 : Int32) (σ : zS) : Option (Int32 × zS) :=
  zb (f_X8_isOf p1 (σ 0 9) σ) fun r1 σ2 =>
  if r1 = 0 then
    some ((-2), σ2)
  else
    zb (f_X8_holds p1 σ2) fun r4 σ5 =>
    if r4 = 0 then
      zb (f_X8_perform p1 σ5) fun r7 σ8 =>
      zb (f_X8_changed 0 σ8) fun r9 σ10 =>
      some (r9, σ10)
    else
      zb (f_X8_perform p1 σ5) fun r11 σ12 =>
      zb (f_X8_changed 1 σ12) fun r13 σ14 =>
      some (r13, σ14)
def b_X8_back_L22 (a0 : Int32 × zS) : Option (Bool × (Int32 × zS)) :=
  if 192 ≤ a0.1 then
    some (false, (a0.1, a0.2))
  else
    zg (z_in ((192 * (a0.2 0 2)) + a0.1) 1536) <|
    zg (z_in a0.1 192) <|
    zl (zs a0.2 1 a0.1.toNatClampNeg (a0.2 2 ((192 * (a0.2 0 2)) + a0.1).toNatClampNeg)) fun σ6 =>
    some (true, (a0.1 + 1, σ6))
def f_X8_back (σ : zS) : Option (Int32 × zS) :=
  if (σ 0 2) = 0 then
    some ((-4), σ)
  else
    zl (zs σ 0 2 ((σ 0 2) - 1)) fun σ2 =>
    (z_loop (b_X8_back_L22) zfuel (0, σ2)).bind fun a7 =>
    some (a7.2 0 2, a7.2)
def f_X8_condition (p1 : Int32) (p2 : Int32) (p3 : Int32) (σ : zS) : Option (Int32 × zS) :=
  zb (f_X8_isOf p1 (σ 0 9) σ) fun r1 σ2 =>
  if r1 = 0 then
    some ((-2), σ2)
  else
    zb (f_X8_in p2 (-1) 7 σ2) fun r4 σ5 =>
    if r4 = 0 then
      some ((-3), σ5)
    else
      zb (f_X8_in p3 (-1000) 1000 σ5) fun r7 σ8 =>
      if r7 = 0 then
        some ((-3), σ8)
      else
        zg (z_in p1 40) <|
        zl (zs σ8 8 p1.toNatClampNeg p2) fun σ11 =>
        zg (z_in p1 40) <|
        zl (zs σ11 9 p1.toNatClampNeg p3) fun σ13 =>
        zb (f_X8_changed 1 σ13) fun r14 σ15 =>
        some (r14, σ15)
def f_X8_count (p1 : Int32) (σ : zS) : Option (Int32 × zS) :=
  if p1 = 0 then
    some (σ 0 4, σ)
  else
  if p1 = 1 then
    some (σ 0 5, σ)
  else
  if p1 = 2 then
    some (σ 0 8, σ)
  else
  if p1 = 3 then
    some (σ 0 9, σ)
  else
  if p1 = 4 then
    some (σ 0 15, σ)
  else
  if p1 = 5 then
    some (σ 0 19, σ)
  else
    if p1 = 6 then
      some (σ 0 23, σ)
    else
      some ((-3), σ)
def f_X8_counter (p1 : Int32) (σ : zS) : Option (Int32 × zS) :=
  zb (f_X8_in p1 0 7 σ) fun r1 σ2 =>
  if r1 = 0 then
    some ((-3), σ2)
  else
    zg (z_in (4 + p1) 192) <|
    some (σ2 1 (4 + p1).toNatClampNeg, σ2)
def f_X8_daemon (p1 : Int32) (p2 : Int32) (σ : zS) : Option (Int32 × zS) :=
  zb (f_X8_isOf p1 (σ 0 9) σ) fun r1 σ2 =>
  if r1 = 0 then
    some ((-2), σ2)
  else
    zb (f_X8_in p2 0 9 σ2) fun r4 σ5 =>
    if r4 = 0 then
      some ((-3), σ5)
    else
      if (σ5 0 23) = 12 then
        some ((-5), σ5)
      else
        zg (z_in (σ5 0 23) 12) <|
        zl (zs σ5 16 (σ5 0 23).toNatClampNeg p1) fun σ9 =>
        zg (z_in (σ9 0 23) 12) <|
        zl (zs σ9 17 (σ9 0 23).toNatClampNeg p2) fun σ11 =>
        zg (z_in (59 + (σ11 0 23)) 192) <|
        zl (zs σ11 1 (59 + (σ11 0 23)).toNatClampNeg 0) fun σ13 =>
        zl (zs σ13 0 23 ((σ13 0 23) + 1)) fun σ14 =>
        zb (f_X8_changed ((σ14 0 23) - 1) σ14) fun r15 σ16 =>
        some (r15, σ16)
def j_X8_deed_J59 (v1 : Int32) (v2 : Int32) (v3 : Int32) (v4 : Int32) (σ : zS) : Option (Int32 × zS) :=
  if v4 = 0 then
    some ((-3), σ)
  else
    if (σ 0 9) = 40 then
      some ((-5), σ)
    else
      zg (z_in (σ 0 9) 40) <|
      zl (zs σ 5 (σ 0 9).toNatClampNeg v1) fun σ8 =>
      zg (z_in (σ8 0 9) 40) <|
      zl (zs σ8 6 (σ8 0 9).toNatClampNeg v2) fun σ10 =>
      zg (z_in (σ10 0 9) 40) <|
      zl (zs σ10 7 (σ10 0 9).toNatClampNeg v3) fun σ12 =>
      zg (z_in (σ12 0 9) 40) <|
      zl (zs σ12 8 (σ12 0 9).toNatClampNeg (-1)) fun σ14 =>
      zl (zs σ14 0 9 ((σ14 0 9) + 1)) fun σ15 =>
      zb (f_X8_changed ((σ15 0 9) - 1) σ15) fun r16 σ17 =>
      some (r16, σ17)
def j_X8_deed_J43 (v1 : Int32) (v2 : Int32) (v3 : Int32) (v4 : Int32) (σ : zS) : Option (Int32 × zS) :=
  if v1 = 8 then
    zb (f_X8_in v3 1 600 σ) fun r18 σ19 =>
    j_X8_deed_J59 v1 v2 v3 r18 σ19
  else
    j_X8_deed_J59 v1 v2 v3 v4 σ
def j_X8_deed_J41 (v1 : Int32) (v2 : Int32) (v3 : Int32) (v4 : Int32) (s0 : Int32) (σ : zS) : Option (Int32 × zS) :=
  j_X8_deed_J43 v1 v2 v3 s0 σ
def j_X8_deed_J40 (v1 : Int32) (v2 : Int32) (v3 : Int32) (v4 : Int32) (σ : zS) : Option (Int32 × zS) :=
  j_X8_deed_J41 v1 v2 v3 v4 0 σ
def f_X8_deed (p1 : Int32) (p2 : Int32) (p3 : Int32) (σ : zS) : Option (Int32 × zS) :=
  zb (f_X8_in p1 0 8 σ) fun r1 σ2 =>
  if p1 = 0 then
    zb (f_X8_in p2 0 7 σ2) fun r20 σ21 =>
    if r20 = 0 then
      j_X8_deed_J40 p1 p2 p3 r1 σ21
    else
      zb (f_X8_in p3 (-1000) 1000 σ21) fun r23 σ24 =>
      if r23 = 0 then
        j_X8_deed_J40 p1 p2 p3 r1 σ24
      else
        j_X8_deed_J41 p1 p2 p3 r1 1 σ24
  else
    j_X8_deed_J43 p1 p2 p3 r1 σ2
def f_X8_door (p1 : Int32) (p2 : Int32) (σ : zS) : Option (Int32 × zS) :=
  zb (f_X8_isOf p1 (σ 0 4) σ) fun r1 σ2 =>
  if r1 = 0 then
    some ((-2), σ2)
  else
    zb (f_X8_isOf p2 (σ2 0 4) σ2) fun r4 σ5 =>
    if r4 = 0 then
      some ((-2), σ5)
    else
      if p1 = p2 then
        some ((-3), σ5)
      else
        if (σ5 0 5) = 15 then
          some ((-5), σ5)
        else
          zg (z_in (σ5 0 5) 15) <|
          zl (zs σ5 3 (σ5 0 5).toNatClampNeg p1) fun σ10 =>
          zg (z_in (σ10 0 5) 15) <|
          zl (zs σ10 4 (σ10 0 5).toNatClampNeg p2) fun σ12 =>
          zg (z_in (12 + (σ12 0 5)) 192) <|
          zl (zs σ12 1 (12 + (σ12 0 5)).toNatClampNeg 1) fun σ14 =>
          zl (zs σ14 0 5 ((σ14 0 5) + 1)) fun σ15 =>
          zb (f_X8_changed ((σ15 0 5) - 1) σ15) fun r16 σ17 =>
          some (r16, σ17)
def f_X8_event (p1 : Int32) (p2 : Int32) (p3 : Int32) (σ : zS) : Option (Int32 × zS) :=
  zb (f_X8_isOf p1 (σ 0 9) σ) fun r1 σ2 =>
  if r1 = 0 then
    some ((-2), σ2)
  else
    zb (f_X8_in p2 0 1439 σ2) fun r4 σ5 =>
    if r4 = 0 then
      some ((-3), σ5)
    else
      if (σ5 0 15) = 12 then
        some ((-5), σ5)
      else
        zg (z_in (σ5 0 15) 12) <|
        zl (zs σ5 10 (σ5 0 15).toNatClampNeg p1) fun σ9 =>
        zg (z_in (σ9 0 15) 12) <|
        zl (zs σ9 11 (σ9 0 15).toNatClampNeg p2) fun σ11 =>
        zg (z_in (σ11 0 15) 12) <|
        zl (zs σ11 12 (σ11 0 15).toNatClampNeg (vp_nar .boolean p3)) fun σ13 =>
        zg (z_in (35 + (σ13 0 15)) 192) <|
        zl (zs σ13 1 (35 + (σ13 0 15)).toNatClampNeg 0) fun σ15 =>
        zl (zs σ15 0 15 ((σ15 0 15) + 1)) fun σ16 =>
        zb (f_X8_changed ((σ16 0 15) - 1) σ16) fun r17 σ18 =>
        some (r17, σ18)
def f_X8_step (p1 : Int32) (p2 : Int32) (σ : zS) : Option (Int32 × zS) :=
  zg (z_in p1 10) <|
  if (σ 20 p1.toNatClampNeg) = (-1) then
    some (0, σ)
  else
    zg (z_in p2 10) <|
    if (σ 20 p2.toNatClampNeg) = (-1) then
      zg (z_in p1 10) <|
      zg (z_in p2 10) <|
      zl (zs σ 20 p2.toNatClampNeg ((σ 20 p1.toNatClampNeg) + 1)) fun σ7 =>
      some (0, σ7)
    else
      zg (z_in p2 10) <|
      zg (z_in p1 10) <|
      if (σ 20 p2.toNatClampNeg) ≤ ((σ 20 p1.toNatClampNeg) + 1) then
        some (0, σ)
      else
        zg (z_in p1 10) <|
        zg (z_in p2 10) <|
        zl (zs σ 20 p2.toNatClampNeg ((σ 20 p1.toNatClampNeg) + 1)) fun σ13 =>
        some (0, σ13)
def b_X8_findWays_L2 (c1 : Int32) (a0 : Int32 × zS) : Option (Bool × (Int32 × zS)) :=
  if (a0.2 0 4) ≤ a0.1 then
    some (false, (a0.1, a0.2))
  else
    if a0.1 = c1 then
      zg (z_in a0.1 10) <|
      zl (zs a0.2 20 a0.1.toNatClampNeg 0) fun σ6 =>
      some (true, (a0.1 + 1, σ6))
    else
      zg (z_in a0.1 10) <|
      zl (zs a0.2 20 a0.1.toNatClampNeg (-1)) fun σ4 =>
      some (true, (a0.1 + 1, σ4))
def b_X8_findWays_L44 (c1 : Int32) (c2 : Int32) (a0 : Int32 × zS) : Option (Bool × (Int32 × zS)) :=
  if (a0.2 0 5) ≤ a0.1 then
    some (false, (a0.1, a0.2))
  else
    zg (z_in (12 + a0.1) 192) <|
    if (a0.2 1 (12 + a0.1).toNatClampNeg) = 1 then
      zg (z_in a0.1 15) <|
      zg (z_in a0.1 15) <|
      zb (f_X8_step (a0.2 3 a0.1.toNatClampNeg) (a0.2 4 a0.1.toNatClampNeg) a0.2) fun r14 σ15 =>
      zg (z_in a0.1 15) <|
      zg (z_in a0.1 15) <|
      zb (f_X8_step (σ15 4 a0.1.toNatClampNeg) (σ15 3 a0.1.toNatClampNeg) σ15) fun r18 σ19 =>
      some (true, (a0.1 + 1, σ19))
    else
      some (true, (a0.1 + 1, a0.2))
def b_X8_findWays_L34 (c1 : Int32) (a0 : Int32 × zS) : Option (Bool × (Int32 × zS)) :=
  if (a0.2 0 4) ≤ a0.1 then
    some (false, (a0.1, a0.2))
  else
    (z_loop (b_X8_findWays_L44 c1 a0.1) zfuel (0, a0.2)).bind fun a20 =>
    some (true, (a0.1 + 1, a20.2))
def f_X8_findWays (p1 : Int32) (σ : zS) : Option (Int32 × zS) :=
  (z_loop (b_X8_findWays_L2 p1) zfuel (0, σ)).bind fun a7 =>
  (z_loop (b_X8_findWays_L34 p1) zfuel (0, a7.2)).bind fun a21 =>
  some (0, a21.2)
def f_X8_tell (p1 : Int32) (p2 : Int32) (σ : zS) : Option (Int32 × zS) :=
  zl (zs σ 0 28 ((σ 0 28) + 1)) fun σ1 =>
  zg (z_in 71 192) <|
  if 60 ≤ (σ1 1 (71 : Int32).toNatClampNeg) then
    some (0, σ1)
  else
    zg (z_in 71 192) <|
    zg (z_in (72 + (2 * (σ1 1 (71 : Int32).toNatClampNeg))) 192) <|
    zl (zs σ1 1 (72 + (2 * (σ1 1 (71 : Int32).toNatClampNeg))).toNatClampNeg p1) fun σ6 =>
    zg (z_in 71 192) <|
    zg (z_in ((72 + (2 * (σ6 1 (71 : Int32).toNatClampNeg))) + 1) 192) <|
    zl (zs σ6 1 ((72 + (2 * (σ6 1 (71 : Int32).toNatClampNeg))) + 1).toNatClampNeg p2) fun σ9 =>
    zg (z_in 71 192) <|
    zg (z_in 71 192) <|
    zl (zs σ9 1 (71 : Int32).toNatClampNeg ((σ9 1 (71 : Int32).toNatClampNeg) + 1)) fun σ12 =>
    some (0, σ12)
def b_X8_goDaemons_L10 (c1 : Int32) (a0 : Int32 × zS) : Option (Bool × (Int32 × zS)) :=
  if (a0.2 0 23) ≤ a0.1 then
    some (false, (a0.1, a0.2))
  else
    if (a0.2 0 27) = 0 then
      zg (z_in a0.1 12) <|
      if (a0.2 17 a0.1.toNatClampNeg) = c1 then
        zg (z_in (59 + a0.1) 192) <|
        if (a0.2 1 (59 + a0.1).toNatClampNeg) = 1 then
          zb (f_X8_tell 2 a0.1 a0.2) fun r8 σ9 =>
          zg (z_in a0.1 12) <|
          zb (f_X8_perform (σ9 16 a0.1.toNatClampNeg) σ9) fun r11 σ12 =>
          some (true, (a0.1 + 1, σ12))
        else
          some (true, (a0.1 + 1, a0.2))
      else
        some (true, (a0.1 + 1, a0.2))
    else
      some (false, (a0.1, a0.2))
def b_X8_goDaemons_L2 (a0 : Int32 × zS) : Option (Bool × (Int32 × zS)) :=
  if 9 < a0.1 then
    some (false, (a0.1, a0.2))
  else
    (z_loop (b_X8_goDaemons_L10 a0.1) zfuel (0, a0.2)).bind fun a13 =>
    some (true, (a0.1 + 1, a13.2))
def f_X8_goDaemons (σ : zS) : Option (Int32 × zS) :=
  (z_loop (b_X8_goDaemons_L2) zfuel (0, σ)).bind fun a14 =>
  some (0, a14.2)
def b_X8_goTime_L90 (c1 : Int32) (c2 : Int32) (c3 : Int32) (c4 : Int32) (c5 : Int32) (a0 : Int32 × zS) : Option (Bool × (Int32 × zS)) :=
  if (a0.2 0 15) ≤ a0.1 then
    some (false, (a0.1, a0.2))
  else
    if (a0.2 0 27) = 0 then
      zg (z_in a0.1 12) <|
      if (a0.2 11 a0.1.toNatClampNeg) = c5 then
        zg (z_in (35 + a0.1) 192) <|
        if (a0.2 1 (35 + a0.1).toNatClampNeg) = 0 then
          zg (z_in a0.1 12) <|
          if (a0.2 12 a0.1.toNatClampNeg) = 0 then
            zg (z_in (35 + a0.1) 192) <|
            zl (zs a0.2 1 (35 + a0.1).toNatClampNeg 1) fun σ21 =>
            zb (f_X8_tell 0 a0.1 σ21) fun r22 σ23 =>
            zg (z_in a0.1 12) <|
            zb (f_X8_perform (σ23 10 a0.1.toNatClampNeg) σ23) fun r25 σ26 =>
            some (true, (a0.1 + 1, σ26))
          else
            zg (z_in (35 + a0.1) 192) <|
            zl (zs a0.2 1 (35 + a0.1).toNatClampNeg 0) fun σ28 =>
            zb (f_X8_tell 0 a0.1 σ28) fun r29 σ30 =>
            zg (z_in a0.1 12) <|
            zb (f_X8_perform (σ30 10 a0.1.toNatClampNeg) σ30) fun r32 σ33 =>
            some (true, (a0.1 + 1, σ33))
        else
          some (true, (a0.1 + 1, a0.2))
      else
        some (true, (a0.1 + 1, a0.2))
    else
      some (false, (a0.1, a0.2))
def b_X8_goTime_L64 (c1 : Int32) (c2 : Int32) (c3 : Int32) (a0 : Int32 × zS) : Option (Bool × (Int32 × zS)) :=
  if c1 < a0.1 then
    some (false, (a0.1, a0.2))
  else
    if (a0.2 0 27) = 0 then
      (z_loop (b_X8_goTime_L90 c1 c2 c3 a0.1 ((c3 + a0.1) - (c3 + a0.1) / 1440 * 1440)) zfuel (0, a0.2)).bind fun a34 =>
      some (true, (a0.1 + 1, a34.2))
    else
      some (false, (a0.1, a0.2))
def f_X8_goTime (σ : zS) : Option (Int32 × zS) :=
  zg (z_in 3 192) <|
  zg (z_in 1 192) <|
  zg (z_in 0 192) <|
  zg (z_in 3 192) <|
  zl (zs σ 1 (3 : Int32).toNatClampNeg 0) fun σ5 =>
  zg (z_in 0 192) <|
  zl (zs σ5 1 (0 : Int32).toNatClampNeg (((σ 1 (0 : Int32).toNatClampNeg) + ((σ 0 3) + (σ 1 (3 : Int32).toNatClampNeg))) - ((σ 1 (0 : Int32).toNatClampNeg) + ((σ 0 3) + (σ 1 (3 : Int32).toNatClampNeg))) / 1440 * 1440)) fun σ7 =>
  zg (z_in 1 192) <|
  zl (zs σ7 1 (1 : Int32).toNatClampNeg ((σ 1 (1 : Int32).toNatClampNeg) + (((σ 1 (0 : Int32).toNatClampNeg) + ((σ 0 3) + (σ 1 (3 : Int32).toNatClampNeg))) / 1440))) fun σ9 =>
  (z_loop (b_X8_goTime_L64 ((σ 0 3) + (σ 1 (3 : Int32).toNatClampNeg)) (σ 1 (1 : Int32).toNatClampNeg) (σ 1 (0 : Int32).toNatClampNeg)) zfuel (1, σ9)).bind fun a35 =>
  some (0, a35.2)
def b_X8_goTimers_L2 (a0 : Int32 × zS) : Option (Bool × (Int32 × zS)) :=
  if (a0.2 0 19) ≤ a0.1 then
    some (false, (a0.1, a0.2))
  else
    zg (z_in (47 + a0.1) 192) <|
    if (a0.2 1 (47 + a0.1).toNatClampNeg) ≤ 0 then
      zg (z_in a0.1 12) <|
      zl (zs a0.2 19 a0.1.toNatClampNeg (vp_nar .boolean 0)) fun σ5 =>
      zg (z_in a0.1 12) <|
      zl (zs σ5 18 a0.1.toNatClampNeg (vp_nar .boolean 0)) fun σ7 =>
      some (true, (a0.1 + 1, σ7))
    else
      zg (z_in a0.1 12) <|
      zl (zs a0.2 19 a0.1.toNatClampNeg (vp_nar .boolean 1)) fun σ9 =>
      zg (z_in a0.1 12) <|
      zl (zs σ9 18 a0.1.toNatClampNeg (vp_nar .boolean 0)) fun σ11 =>
      some (true, (a0.1 + 1, σ11))
def b_X8_goTimers_L48 (a0 : Int32 × zS) : Option (Bool × (Int32 × zS)) :=
  if (a0.2 0 19) ≤ a0.1 then
    some (false, (a0.1, a0.2))
  else
    if (a0.2 0 27) = 0 then
      zg (z_in a0.1 12) <|
      if (a0.2 19 a0.1.toNatClampNeg) = 0 then
        some (true, (a0.1 + 1, a0.2))
      else
        zg (z_in a0.1 12) <|
        if (a0.2 18 a0.1.toNatClampNeg) = 0 then
          zg (z_in (47 + a0.1) 192) <|
          if (a0.2 1 (47 + a0.1).toNatClampNeg) ≤ 0 then
            some (true, (a0.1 + 1, a0.2))
          else
            zg (z_in (47 + a0.1) 192) <|
            zg (z_in (47 + a0.1) 192) <|
            zl (zs a0.2 1 (47 + a0.1).toNatClampNeg ((a0.2 1 (47 + a0.1).toNatClampNeg) - 1)) fun σ23 =>
            zg (z_in (47 + a0.1) 192) <|
            if (σ23 1 (47 + a0.1).toNatClampNeg) = 0 then
              zg (z_in a0.1 12) <|
              if (σ23 15 a0.1.toNatClampNeg) = 0 then
                zg (z_in (47 + a0.1) 192) <|
                zl (zs σ23 1 (47 + a0.1).toNatClampNeg 0) fun σ29 =>
                zb (f_X8_tell 1 a0.1 σ29) fun r30 σ31 =>
                zg (z_in a0.1 12) <|
                zb (f_X8_perform (σ31 13 a0.1.toNatClampNeg) σ31) fun r33 σ34 =>
                some (true, (a0.1 + 1, σ34))
              else
                zg (z_in a0.1 12) <|
                zg (z_in (47 + a0.1) 192) <|
                zl (zs σ23 1 (47 + a0.1).toNatClampNeg (σ23 14 a0.1.toNatClampNeg)) fun σ37 =>
                zb (f_X8_tell 1 a0.1 σ37) fun r38 σ39 =>
                zg (z_in a0.1 12) <|
                zb (f_X8_perform (σ39 13 a0.1.toNatClampNeg) σ39) fun r41 σ42 =>
                some (true, (a0.1 + 1, σ42))
            else
              some (true, (a0.1 + 1, σ23))
        else
          some (true, (a0.1 + 1, a0.2))
    else
      some (false, (a0.1, a0.2))
def f_X8_goTimers (σ : zS) : Option (Int32 × zS) :=
  (z_loop (b_X8_goTimers_L2) zfuel (0, σ)).bind fun a12 =>
  (z_loop (b_X8_goTimers_L48) zfuel (0, a12.2)).bind fun a43 =>
  some (0, a43.2)
def j_X8_isJoined_J63 (v1 : Int32) (v2 : Int32) (v3 : Int32) (v4 : Int32) (s0 : Int32) (σ : zS) : Option (Bool × (Int32 × Int32 × zS)) :=
  if v3 = 0 then
    if s0 = 0 then
      some (true, (0, v4 + 1, σ))
    else
      zg (z_in (12 + v4) 192) <|
      if (σ 1 (12 + v4).toNatClampNeg) = 1 then
        some (true, (1, v4 + 1, σ))
      else
        some (true, (0, v4 + 1, σ))
  else
    some (true, (1, v4 + 1, σ))
def j_X8_isJoined_J62 (v1 : Int32) (v2 : Int32) (v3 : Int32) (v4 : Int32) (σ : zS) : Option (Bool × (Int32 × Int32 × zS)) :=
  j_X8_isJoined_J63 v1 v2 v3 v4 0 σ
def j_X8_isJoined_J58 (v1 : Int32) (v2 : Int32) (v3 : Int32) (v4 : Int32) (σ : zS) : Option (Bool × (Int32 × Int32 × zS)) :=
  j_X8_isJoined_J63 v1 v2 v3 v4 1 σ
def j_X8_isJoined_J36 (v1 : Int32) (v2 : Int32) (v3 : Int32) (v4 : Int32) (σ : zS) : Option (Bool × (Int32 × Int32 × zS)) :=
  zg (z_in v4 15) <|
  if (σ 3 v4.toNatClampNeg) = v2 then
    zg (z_in v4 15) <|
    if (σ 4 v4.toNatClampNeg) = v1 then
      j_X8_isJoined_J58 v1 v2 v3 v4 σ
    else
      j_X8_isJoined_J62 v1 v2 v3 v4 σ
  else
    j_X8_isJoined_J62 v1 v2 v3 v4 σ
def b_X8_isJoined_L5 (c1 : Int32) (c2 : Int32) (a0 : Int32 × Int32 × zS) : Option (Bool × (Int32 × Int32 × zS)) :=
  if (a0.2.2 0 5) ≤ a0.2.1 then
    some (false, (a0.1, a0.2.1, a0.2.2))
  else
    zg (z_in a0.2.1 15) <|
    if (a0.2.2 3 a0.2.1.toNatClampNeg) = c1 then
      zg (z_in a0.2.1 15) <|
      if (a0.2.2 4 a0.2.1.toNatClampNeg) = c2 then
        j_X8_isJoined_J58 c1 c2 a0.1 a0.2.1 a0.2.2
      else
        j_X8_isJoined_J36 c1 c2 a0.1 a0.2.1 a0.2.2
    else
      j_X8_isJoined_J36 c1 c2 a0.1 a0.2.1 a0.2.2
def f_X8_isJoined (p1 : Int32) (p2 : Int32) (σ : zS) : Option (Int32 × zS) :=
  (z_loop (b_X8_isJoined_L5 p1 p2) zfuel (0, 0, σ)).bind fun a14 =>
  zg (a14.1 = 0 ∨ a14.1 = 1) <|
  some (a14.1, a14.2.2)
def b_X8_goWalkers_L58 (c1 : Int32) (c2 : Int32) (c3 : Int32) (a0 : Int32 × Int32 × zS) : Option (Bool × (Int32 × Int32 × zS)) :=
  if a0.2.1 < 0 then
    some (false, (a0.1, a0.2.1, a0.2.2))
  else
    if c2 = (-1) then
      some (false, (a0.1, a0.2.1, a0.2.2))
    else
      zg (z_in c3 10) <|
      if (a0.2.2 20 c3.toNatClampNeg) ≤ 0 then
        some (true, (a0.1, a0.2.1 + (-1), a0.2.2))
      else
        zg (z_in a0.2.1 10) <|
        zg (z_in c3 10) <|
        if (a0.2.2 20 a0.2.1.toNatClampNeg) = ((a0.2.2 20 c3.toNatClampNeg) - 1) then
          zb (f_X8_isJoined c3 a0.2.1 a0.2.2) fun r13 σ14 =>
          if r13 = 0 then
            some (true, (a0.1, a0.2.1 + (-1), σ14))
          else
            some (true, (a0.2.1, a0.2.1 + (-1), σ14))
        else
          some (true, (a0.1, a0.2.1 + (-1), a0.2.2))
def j_X8_goWalkers_J120 (v1 : Int32) (v2 : Int32) (v3 : Int32) (v4 : Int32) (v5 : Int32) (σ : zS) : Option (Bool × (Int32 × zS)) :=
  if v4 = (-1) then
    some (true, (v1 + 1, σ))
  else
    zg (z_in (27 + v1) 192) <|
    zl (zs σ 1 (27 + v1).toNatClampNeg v4) fun σ19 =>
    if v4 = v2 then
      zg (z_in (31 + v1) 192) <|
      zl (zs σ19 1 (31 + v1).toNatClampNeg (-1)) fun σ26 =>
      zb (f_X8_tell 3 v1 σ26) fun r27 σ28 =>
      some (true, (v1 + 1, σ28))
    else
      zg (z_in (31 + v1) 192) <|
      zl (zs σ19 1 (31 + v1).toNatClampNeg v2) fun σ22 =>
      zb (f_X8_tell 3 v1 σ22) fun r23 σ24 =>
      some (true, (v1 + 1, σ24))
def j_X8_goWalkers_J50 (v1 : Int32) (v2 : Int32) (v3 : Int32) (v4 : Int32) (σ : zS) : Option (Bool × (Int32 × zS)) :=
  (z_loop (b_X8_goWalkers_L58 v1 v2 v3) zfuel (v4, (σ 0 4) - 1, σ)).bind fun a16 =>
  j_X8_goWalkers_J120 v1 v2 v3 a16.1 a16.2.1 a16.2.2
def b_X8_goWalkers_L2 (a0 : Int32 × zS) : Option (Bool × (Int32 × zS)) :=
  if (a0.2 0 8) ≤ a0.1 then
    some (false, (a0.1, a0.2))
  else
    if (a0.2 0 27) = 0 then
      zg (z_in (31 + a0.1) 192) <|
      zg (z_in (27 + a0.1) 192) <|
      if (a0.2 1 (31 + a0.1).toNatClampNeg) = (-1) then
        j_X8_goWalkers_J50 a0.1 (a0.2 1 (31 + a0.1).toNatClampNeg) (a0.2 1 (27 + a0.1).toNatClampNeg) (-1) a0.2
      else
        zb (f_X8_findWays (a0.2 1 (31 + a0.1).toNatClampNeg) a0.2) fun r29 σ30 =>
        j_X8_goWalkers_J50 a0.1 (a0.2 1 (31 + a0.1).toNatClampNeg) (a0.2 1 (27 + a0.1).toNatClampNeg) (-1) σ30
    else
      some (false, (a0.1, a0.2))
def f_X8_goWalkers (σ : zS) : Option (Int32 × zS) :=
  (z_loop (b_X8_goWalkers_L2) zfuel (0, σ)).bind fun a31 =>
  some (0, a31.2)
def j_X8_is_J40 (v1 : Int32) (v2 : Int32) (s0 : Int32) (s1 : Int32) (σ : zS) : Option (Int32 × zS) :=
  zb (f_X8_isOf s1 s0 σ) fun r6 σ7 =>
  if r6 = 0 then
    some ((-2), σ7)
  else
    if v1 = 0 then
      zg (z_in (59 + v2) 192) <|
      some (σ7 1 (59 + v2).toNatClampNeg, σ7)
    else
      if v1 = 1 then
        zg (z_in (12 + v2) 192) <|
        some (σ7 1 (12 + v2).toNatClampNeg, σ7)
      else
        zg (z_in (35 + v2) 192) <|
        some (1 - (σ7 1 (35 + v2).toNatClampNeg), σ7)
def f_X8_is (p1 : Int32) (p2 : Int32) (σ : zS) : Option (Int32 × zS) :=
  zb (f_X8_in p1 0 2 σ) fun r1 σ2 =>
  if r1 = 0 then
    some ((-3), σ2)
  else
    if p1 = 0 then
      j_X8_is_J40 p1 p2 (σ2 0 23) p2 σ2
    else
      if p1 = 1 then
        j_X8_is_J40 p1 p2 (σ2 0 5) p2 σ2
      else
        j_X8_is_J40 p1 p2 (σ2 0 15) p2 σ2
def f_X8_left (p1 : Int32) (σ : zS) : Option (Int32 × zS) :=
  zb (f_X8_isOf p1 (σ 0 19) σ) fun r1 σ2 =>
  if r1 = 0 then
    some ((-2), σ2)
  else
    zg (z_in (47 + p1) 192) <|
    some (σ2 1 (47 + p1).toNatClampNeg, σ2)
def f_X8_minutes (p1 : Int32) (σ : zS) : Option (Int32 × zS) :=
  zb (f_X8_isOf p1 (σ 0 15) σ) fun r1 σ2 =>
  if r1 = 0 then
    some ((-2), σ2)
  else
    zg (z_in p1 12) <|
    zg (z_in 0 192) <|
    zg (z_in (35 + p1) 192) <|
    if (σ2 1 (35 + p1).toNatClampNeg) = 1 then
      some ((-1), σ2)
    else
      if ((((σ2 11 p1.toNatClampNeg) - (σ2 1 (0 : Int32).toNatClampNeg)) + 1440) - (((σ2 11 p1.toNatClampNeg) - (σ2 1 (0 : Int32).toNatClampNeg)) + 1440) / 1440 * 1440) = 0 then
        some (1440, σ2)
      else
        some ((((σ2 11 p1.toNatClampNeg) - (σ2 1 (0 : Int32).toNatClampNeg)) + 1440) - (((σ2 11 p1.toNatClampNeg) - (σ2 1 (0 : Int32).toNatClampNeg)) + 1440) / 1440 * 1440, σ2)
def f_X8_pace (p1 : Int32) (σ : zS) : Option (Int32 × zS) :=
  zb (f_X8_in p1 1 60 σ) fun r1 σ2 =>
  if r1 = 0 then
    some ((-3), σ2)
  else
    zl (zs σ2 0 3 p1) fun σ4 =>
    zb (f_X8_changed (σ2 0 3) σ4) fun r5 σ6 =>
    some (r5, σ6)
def f_X8_room (σ : zS) : Option (Int32 × zS) :=
  if (σ 0 4) = 10 then
    some ((-5), σ)
  else
    zl (zs σ 0 4 ((σ 0 4) + 1)) fun σ2 =>
    zb (f_X8_changed ((σ2 0 4) - 1) σ2) fun r3 σ4 =>
    some (r3, σ4)
def f_X8_row (p1 : Int32) (p2 : Int32) (σ : zS) : Option (Int32 × zS) :=
  zb (f_X8_in p2 0 1 σ) fun r1 σ2 =>
  if r1 = 0 then
    some ((-3), σ2)
  else
    zg (z_in 71 192) <|
    zb (f_X8_isOf p1 (σ2 1 (71 : Int32).toNatClampNeg) σ2) fun r5 σ6 =>
    if r5 = 0 then
      some ((-1), σ6)
    else
      zg (z_in ((72 + (2 * p1)) + p2) 192) <|
      some (σ6 1 ((72 + (2 * p1)) + p2).toNatClampNeg, σ6)
def f_X8_timer (p1 : Int32) (p2 : Int32) (p3 : Int32) (σ : zS) : Option (Int32 × zS) :=
  zb (f_X8_isOf p1 (σ 0 9) σ) fun r1 σ2 =>
  if r1 = 0 then
    some ((-2), σ2)
  else
    zb (f_X8_in p2 1 50 σ2) fun r4 σ5 =>
    if r4 = 0 then
      some ((-3), σ5)
    else
      if (σ5 0 19) = 12 then
        some ((-5), σ5)
      else
        zg (z_in (σ5 0 19) 12) <|
        zl (zs σ5 13 (σ5 0 19).toNatClampNeg p1) fun σ9 =>
        zg (z_in (σ9 0 19) 12) <|
        zl (zs σ9 14 (σ9 0 19).toNatClampNeg p2) fun σ11 =>
        zg (z_in (σ11 0 19) 12) <|
        zl (zs σ11 15 (σ11 0 19).toNatClampNeg (vp_nar .boolean p3)) fun σ13 =>
        zg (z_in (47 + (σ13 0 19)) 192) <|
        zl (zs σ13 1 (47 + (σ13 0 19)).toNatClampNeg 0) fun σ15 =>
        zl (zs σ15 0 19 ((σ15 0 19) + 1)) fun σ16 =>
        zb (f_X8_changed ((σ16 0 19) - 1) σ16) fun r17 σ18 =>
        some (r17, σ18)
def f_X8_told (p1 : Int32) (σ : zS) : Option (Int32 × zS) :=
  if p1 = 0 then
    zg (z_in 0 192) <|
    some (σ 1 (0 : Int32).toNatClampNeg, σ)
  else
  if p1 = 1 then
    zg (z_in 1 192) <|
    some (σ 1 (1 : Int32).toNatClampNeg, σ)
  else
  if p1 = 2 then
    zg (z_in 2 192) <|
    some (σ 1 (2 : Int32).toNatClampNeg, σ)
  else
  if p1 = 3 then
    some (σ 0 3, σ)
  else
  if p1 = 4 then
    zg (z_in 3 192) <|
    some (σ 1 (3 : Int32).toNatClampNeg, σ)
  else
  if p1 = 5 then
    some (σ 0 2, σ)
  else
    if p1 = 6 then
      zg (z_in 71 192) <|
      some (σ 1 (71 : Int32).toNatClampNeg, σ)
    else
      some ((-3), σ)
def b_X8_turn_L48 (a0 : Int32 × zS) : Option (Bool × (Int32 × zS)) :=
  if 192 ≤ a0.1 then
    some (false, (a0.1, a0.2))
  else
    zg (z_in a0.1 192) <|
    zg (z_in ((192 * (a0.2 0 2)) + a0.1) 1536) <|
    zl (zs a0.2 2 ((192 * (a0.2 0 2)) + a0.1).toNatClampNeg (a0.2 1 a0.1.toNatClampNeg)) fun σ5 =>
    some (true, (a0.1 + 1, σ5))
def j_X8_turn_J46 (σ : zS) : Option (Int32 × zS) :=
  (z_loop (b_X8_turn_L48) zfuel (0, σ)).bind fun a6 =>
  zl (zs a6.2 0 2 ((a6.2 0 2) + 1)) fun σ7 =>
  zl (zs σ7 0 26 1) fun σ8 =>
  zl (zs σ8 0 27 0) fun σ9 =>
  zl (zs σ9 0 28 0) fun σ10 =>
  zg (z_in 71 192) <|
  zl (zs σ10 1 (71 : Int32).toNatClampNeg 0) fun σ12 =>
  zg (z_in 2 192) <|
  zg (z_in 2 192) <|
  zl (zs σ12 1 (2 : Int32).toNatClampNeg ((σ12 1 (2 : Int32).toNatClampNeg) + 1)) fun σ15 =>
  zb (f_X8_goTime σ15) fun r16 σ17 =>
  zb (f_X8_goTimers σ17) fun r18 σ19 =>
  zb (f_X8_goDaemons σ19) fun r20 σ21 =>
  zb (f_X8_goWalkers σ21) fun r22 σ23 =>
  zl (zs σ23 0 26 0) fun σ24 =>
  zl (zs σ24 0 27 0) fun σ25 =>
  some (σ25 0 28, σ25)
def b_X8_turn_L11 (a0 : Int32 × zS) : Option (Bool × (Int32 × zS)) :=
  if 1344 ≤ a0.1 then
    some (false, (a0.1, a0.2))
  else
    zg (z_in (a0.1 + 192) 1536) <|
    zg (z_in a0.1 1536) <|
    zl (zs a0.2 2 a0.1.toNatClampNeg (a0.2 2 (a0.1 + 192).toNatClampNeg)) fun σ29 =>
    some (true, (a0.1 + 1, σ29))
def f_X8_turn (σ : zS) : Option (Int32 × zS) :=
  if (σ 0 2) = 8 then
    (z_loop (b_X8_turn_L11) zfuel (0, σ)).bind fun a30 =>
    zl (zs a30.2 0 2 7) fun σ31 =>
    j_X8_turn_J46 σ31
  else
    j_X8_turn_J46 σ
def f_X8_walker (p1 : Int32) (σ : zS) : Option (Int32 × zS) :=
  zb (f_X8_isOf p1 (σ 0 4) σ) fun r1 σ2 =>
  if r1 = 0 then
    some ((-2), σ2)
  else
    if (σ2 0 8) = 4 then
      some ((-5), σ2)
    else
      zg (z_in (27 + (σ2 0 8)) 192) <|
      zl (zs σ2 1 (27 + (σ2 0 8)).toNatClampNeg p1) fun σ6 =>
      zg (z_in (31 + (σ6 0 8)) 192) <|
      zl (zs σ6 1 (31 + (σ6 0 8)).toNatClampNeg (-1)) fun σ8 =>
      zl (zs σ8 0 8 ((σ8 0 8) + 1)) fun σ9 =>
      zb (f_X8_changed ((σ9 0 8) - 1) σ9) fun r10 σ11 =>
      some (r10, σ11)
def f_X8_walks (p1 : Int32) (p2 : Int32) (σ : zS) : Option (Int32 × zS) :=
  zb (f_X8_isOf p1 (σ 0 8) σ) fun r1 σ2 =>
  if r1 = 0 then
    some ((-2), σ2)
  else
    if p2 = 0 then
      zg (z_in (27 + p1) 192) <|
      some (σ2 1 (27 + p1).toNatClampNeg, σ2)
    else
      if p2 = 1 then
        zg (z_in (31 + p1) 192) <|
        some (σ2 1 (31 + p1).toNatClampNeg, σ2)
      else
        some ((-3), σ2)
def f_X8_way (p1 : Int32) (p2 : Int32) (σ : zS) : Option (Int32 × zS) :=
  zb (f_X8_isOf p1 (σ 0 4) σ) fun r1 σ2 =>
  if r1 = 0 then
    some ((-2), σ2)
  else
    zb (f_X8_isOf p2 (σ2 0 4) σ2) fun r4 σ5 =>
    if r4 = 0 then
      some ((-2), σ5)
    else
      zb (f_X8_findWays p2 σ5) fun r7 σ8 =>
      zg (z_in p1 10) <|
      some (σ8 20 p1.toNatClampNeg, σ8)

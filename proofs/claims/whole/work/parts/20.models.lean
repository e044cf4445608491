def m_XI_bitCount (N : Nat) (Λ : Lay) (μ : Mem) (v0 : Int32) : Option (Int32) :=
  lt (v0 - ((iushr v0 1) &&& 1431655765)) fun y1 =>
  lt ((y1 &&& 858993459) + ((iushr y1 2) &&& 858993459)) fun y3 =>
  lt ((y3 + (iushr y3 4)) &&& 252645135) fun y5 =>
  lt (y5 + (iushr y5 8)) fun y7 =>
  lt (y7 + (iushr y7 16)) fun y9 =>
  some (y9 &&& 63)
def jn_XI_ntz_74 (N : Nat) (Λ : Lay) (μ : Mem) (v0 : Int32) (v1 : Int32) : Option (Int32) :=
  some (v1 + (iushr v0 1))
def jn_XI_ntz_62 (N : Nat) (Λ : Lay) (μ : Mem) (v0 : Int32) (v1 : Int32) : Option (Int32) :=
  if v0 ≤ 4 then
    (jn_XI_ntz_74 N Λ μ v0 v1)
  else
    (lt (v1 + 2) fun y2 =>
    lt (iushr v0 2) fun y4 =>
    jn_XI_ntz_74 N Λ μ y4 y2)
def jn_XI_ntz_49 (N : Nat) (Λ : Lay) (μ : Mem) (v0 : Int32) (v1 : Int32) : Option (Int32) :=
  if v0 ≤ 16 then
    (jn_XI_ntz_62 N Λ μ v0 v1)
  else
    (lt (v1 + 4) fun y2 =>
    lt (iushr v0 4) fun y4 =>
    jn_XI_ntz_62 N Λ μ y4 y2)
def jn_XI_ntz_34 (N : Nat) (Λ : Lay) (μ : Mem) (v0 : Int32) (v1 : Int32) : Option (Int32) :=
  if v0 ≤ 256 then
    (jn_XI_ntz_49 N Λ μ v0 v1)
  else
    (lt (v1 + 8) fun y2 =>
    lt (iushr v0 8) fun y4 =>
    jn_XI_ntz_49 N Λ μ y4 y2)
def m_XI_ntz (N : Nat) (Λ : Lay) (μ : Mem) (v0 : Int32) : Option (Int32) :=
  lt ((v0 ^^^ (-1)) &&& (v0 - 1)) fun y1 =>
  if 0 < y1 then
    (if y1 ≤ 65536 then
      (jn_XI_ntz_34 N Λ μ y1 1)
    else
      (lt (1 + 16) fun y5 =>
      lt (iushr y1 16) fun y7 =>
      jn_XI_ntz_34 N Λ μ y7 y5))
  else
    (some (y1 &&& 32))
def jn_XG_ntz_25 (N : Nat) (Λ : Lay) (μ : Mem) (s0 : Int32) : Option (Int32) :=
  some s0
def m_XG_ntz (N : Nat) (Λ : Lay) (μ : Mem) (v0 : Int64) : Option (Int32) :=
  lt (Int64.toInt32 v0) fun y1 =>
  if y1 = 0 then
    ((m_XI_ntz N Λ μ (Int64.toInt32 ((v0.toUInt64 >>> ((Int32.toInt64 32).toUInt64 &&& Int64.toUInt64 63)).toInt64))).bind fun r6 =>
    jn_XG_ntz_25 N Λ μ (32 + r6))
  else
    ((m_XI_ntz N Λ μ y1).bind fun r4 =>
    jn_XG_ntz_25 N Λ μ r4)
def jn_X10_sign_26 (N : Nat) (Λ : Lay) (μ : Mem) (s0 : Int32) : Option (Int32) :=
  some s0
def jn_X10_sign_25 (N : Nat) (Λ : Lay) (μ : Mem) : Option (Int32) :=
  jn_X10_sign_26 N Λ μ (-1)
def m_X10_sign (N : Nat) (Λ : Lay) (μ : Mem) (v0 : Nat) (v1 : Int32) : Option (Int32) :=
  if v1 < 0 then
    (jn_X10_sign_25 N Λ μ)
  else
    (if (μ.1 v0 1) ≤ v1 then
      (jn_X10_sign_25 N Λ μ)
    else
      ((dr Λ v0 0 12).bind fun q3 =>
      gd (inb v1 (aZ Λ q3)) <|
      jn_X10_sign_26 N Λ μ ((μ.1 q3 v1.toNatClampNeg) &&& 255)))
def jn_X0_read_23 (N : Nat) (Λ : Lay) (μ : Mem) : Option (Int32 × Mem) :=
  some (0, μ)
def jn_X0_read_63 (N : Nat) (Λ : Lay) (μ : Mem) : Option (Int32 × Mem) :=
  some (0, μ)
def bd_X0_read_27 (N : Nat) (Λ : Lay) (μ : Mem) (k27 : Int32 × Mem → Option (Int32 × Mem)) (v0 : Nat) (v1 : Nat) (v2 : Int32) : Option (Int32 × Mem) :=
  if (μ.1 v1 1) ≤ v2 then
    (some (1, μ))
  else
    ((m_X10_sign N Λ μ v1 v2).bind fun r2 =>
    (m_X10_sign N Λ μ v1 (v2 + 1)).bind fun r4 =>
    if 99 < r2 then
      (jn_X0_read_63 N Λ μ)
    else
      (if r4 ≤ 30 then
        ((dr Λ v0 3 13).bind fun q8 =>
        gd (inb (μ.1 v0 2) (aZ Λ q8)) <|
        lt (mset μ q8 (μ.1 v0 2).toNatClampNeg (irem r2 12)) fun μ11 =>
        (dr Λ v0 4 13).bind fun q13 =>
        gd (inb (μ11.1 v0 2) (aZ Λ q13)) <|
        lt (mset μ11 q13 (μ11.1 v0 2).toNatClampNeg r4) fun μ16 =>
        lt (mset μ16 v0 2 ((μ16.1 v0 2) + 1)) fun μ18 =>
        lt (v2 + 2) fun y20 =>
        k27 (y20, μ18))
      else
        (jn_X0_read_63 N Λ μ)))
def lp_X0_read_27 (N : Nat) (Λ : Lay) (v0 : Nat) (v1 : Nat) (s : Int32 × Mem) : Option (Int32 × Mem) := cw (fun k s => bd_X0_read_27 N Λ (s.2) k v0 v1 s.1) N s
def m_X0_read (N : Nat) (Λ : Lay) (μ : Mem) (v0 : Nat) (v1 : Nat) : Option (Int32 × Mem) :=
  lt (mset μ v0 2 0) fun μ1 =>
  if 40 < (μ1.1 v1 1) then
    (jn_X0_read_23 N Λ μ1)
  else
    (if (irem (μ1.1 v1 1) 2) = 0 then
      (lp_X0_read_27 N Λ v0 v1 (0, μ1))
    else
      (jn_X0_read_23 N Λ μ1))
def m_X0_heightAt (N : Nat) (Λ : Lay) (μ : Mem) (v0 : Nat) (v1 : Int32) (v2 : Int32) : Option (Int32) :=
  (dr Λ v0 5 13).bind fun q1 =>
  gd (inb (irem (v1 + v2) 12) 12) <|
  gd (inb (swT (irem (v1 + v2) 12).toNatClampNeg) (aZ Λ q1)) <|
  some (μ.1 q1 (swT (irem (v1 + v2) 12).toNatClampNeg).toNatClampNeg)
def bd_X0_fits_2 (N : Nat) (Λ : Lay) (μ : Mem) (k2 : Int32 → Option (Int32)) (v0 : Nat) (v1 : Int32) (v2 : Int32) : Option (Int32) :=
  if (μ.1 v0 2) ≤ v2 then
    (some 1)
  else
    ((dr Λ v0 3 13).bind fun q2 =>
    gd (inb v2 (aZ Λ q2)) <|
    (m_X0_heightAt N Λ μ v0 (μ.1 q2 v2.toNatClampNeg) v1).bind fun r5 =>
    (dr Λ v0 4 13).bind fun q7 =>
    gd (inb v2 (aZ Λ q7)) <|
    if r5 = (μ.1 q7 v2.toNatClampNeg) then
      (lt (v2 + 1) fun y11 =>
      k2 y11)
    else
      (some 0))
def lp_X0_fits_2 (N : Nat) (Λ : Lay) (μ : Mem) (v0 : Nat) (v1 : Int32) (s : Int32) : Option (Int32) := cw (fun k s => bd_X0_fits_2 N Λ μ k v0 v1 s) N s
def m_X0_fits (N : Nat) (Λ : Lay) (μ : Mem) (v0 : Nat) (v1 : Int32) : Option (Int32) :=
  lp_X0_fits_2 N Λ μ v0 v1 0
def bd_X0_part_2 (N : Nat) (Λ : Lay) (μ : Mem) (k2 : Int32 × Mem → Option (Mem)) (v0 : Nat) (v1 : Int32) (v2 : Int32) : Option (Mem) :=
  if 12 ≤ v2 then
    (some μ)
  else
    ((dr Λ v0 6 13).bind fun q2 =>
    (m_X0_heightAt N Λ μ v0 v2 v1).bind fun r4 =>
    gd (inb ((v2 * 31) + r4) (aZ Λ q2)) <|
    gd (inb ((v2 * 31) + r4) (aZ Λ q2)) <|
    lt (mset μ q2 ((v2 * 31) + r4).toNatClampNeg ((μ.1 q2 ((v2 * 31) + r4).toNatClampNeg) + 1)) fun μ8 =>
    lt (v2 + 1) fun y10 =>
    k2 (y10, μ8))
def lp_X0_part_2 (N : Nat) (Λ : Lay) (v0 : Nat) (v1 : Int32) (s : Int32 × Mem) : Option (Mem) := cw (fun k s => bd_X0_part_2 N Λ (s.2) k v0 v1 s.1) N s
def m_X0_part (N : Nat) (Λ : Lay) (μ : Mem) (v0 : Nat) (v1 : Int32) : Option (Mem) :=
  lp_X0_part_2 N Λ v0 v1 (0, μ)
def jn_X0_searchLate_97 (N : Nat) (Λ : Lay) (μ : Mem) (k37 : Int32 × Mem → Option (Mem)) (v0 : Nat) (v1 : Int32) (v2 : Int32) (v3 : Int32) (v4 : Int32) : Option (Mem) :=
  lt (v4 + 1) fun y1 =>
  k37 (y1, μ)
def jn_X0_searchLate_77 (N : Nat) (Λ : Lay) (μ : Mem) (k37 : Int32 × Mem → Option (Mem)) (v0 : Nat) (v1 : Int32) (v2 : Int32) (v3 : Int32) (v4 : Int32) : Option (Mem) :=
  lt (mset μ v0 0 ((μ.1 v0 0) + 1)) fun μ1 =>
  if v3 = 0 then
    (jn_X0_searchLate_97 N Λ μ1 k37 v0 v1 v2 v3 v4)
  else
    ((m_X0_part N Λ μ1 v0 v4).bind fun r4 =>
    jn_X0_searchLate_97 N Λ r4 k37 v0 v1 v2 v3 v4)
def bd_X0_searchLate_37 (N : Nat) (Λ : Lay) (μ : Mem) (k37 : Int32 × Mem → Option (Mem)) (v0 : Nat) (v1 : Int32) (v2 : Int32) (v3 : Int32) (v4 : Int32) : Option (Mem) :=
  if 12 ≤ v4 then
    (some μ)
  else
    ((m_X0_fits N Λ μ v0 v4).bind fun r2 =>
    if r2 = 0 then
      (jn_X0_searchLate_97 N Λ μ k37 v0 v1 v2 v3 v4)
    else
      (if (μ.1 v0 0) = 0 then
        (lt (mset μ v0 1 (((372 * v1) + (12 * v2)) + v4)) fun μ6 =>
        jn_X0_searchLate_77 N Λ μ6 k37 v0 v1 v2 v3 v4)
      else
        (jn_X0_searchLate_77 N Λ μ k37 v0 v1 v2 v3 v4)))
def lp_X0_searchLate_37 (N : Nat) (Λ : Lay) (v0 : Nat) (v1 : Int32) (v2 : Int32) (v3 : Int32) (s : Int32 × Mem) : Option (Mem) := cw (fun k s => bd_X0_searchLate_37 N Λ (s.2) k v0 v1 v2 v3 s.1) N s
def bd_X0_searchLate_3 (N : Nat) (Λ : Lay) (μ : Mem) (k3 : Int32 × Mem → Option (Mem)) (v0 : Nat) (v1 : Int32) (v2 : Int32) (v3 : Int32) (v4 : Int32) : Option (Mem) :=
  if 6 < v4 then
    (lp_X0_searchLate_37 N Λ v0 v1 v2 v3 (0, μ))
  else
    ((dr Λ v0 5 13).bind fun q2 =>
    gd (inb v4 (aZ Λ q2)) <|
    lt (mset μ q2 v4.toNatClampNeg (v1 + (((v2 - v1) * v4) / 6))) fun μ5 =>
    lt (v4 + 1) fun y7 =>
    k3 (y7, μ5))
def lp_X0_searchLate_3 (N : Nat) (Λ : Lay) (v0 : Nat) (v1 : Int32) (v2 : Int32) (v3 : Int32) (s : Int32 × Mem) : Option (Mem) := cw (fun k s => bd_X0_searchLate_3 N Λ (s.2) k v0 v1 v2 v3 s.1) N s
def m_X0_searchLate (N : Nat) (Λ : Lay) (μ : Mem) (v0 : Nat) (v1 : Int32) (v2 : Int32) (v3 : Int32) : Option (Mem) :=
  lp_X0_searchLate_3 N Λ v0 v1 v2 v3 (0, μ)
def bd_X0_search_42 (N : Nat) (Λ : Lay) (μ : Mem) (k34 : Int32 × Mem → Option (Mem)) (k42 : Int32 × Mem → Option (Mem)) (v0 : Nat) (v1 : Int32) (v2 : Int32) (v3 : Int32) : Option (Mem) :=
  if 30 < v3 then
    (lt (v2 + 1) fun y2 =>
    k34 (y2, μ))
  else
    ((m_X0_searchLate N Λ μ v0 v2 v3 v1).bind fun r4 =>
    lt (v3 + 1) fun y6 =>
    k42 (y6, r4))
def lp_X0_search_42 (N : Nat) (Λ : Lay) (k34 : Int32 × Mem → Option (Mem)) (v0 : Nat) (v1 : Int32) (v2 : Int32) (s : Int32 × Mem) : Option (Mem) := cw (fun k s => bd_X0_search_42 N Λ (s.2) k34 k v0 v1 v2 s.1) N s
def bd_X0_search_34 (N : Nat) (Λ : Lay) (μ : Mem) (k34 : Int32 × Mem → Option (Mem)) (v0 : Nat) (v1 : Int32) (v2 : Int32) : Option (Mem) :=
  if 30 < v2 then
    (some μ)
  else
    (lp_X0_search_42 N Λ k34 v0 v1 v2 (v2, μ))
def lp_X0_search_34 (N : Nat) (Λ : Lay) (v0 : Nat) (v1 : Int32) (s : Int32 × Mem) : Option (Mem) := cw (fun k s => bd_X0_search_34 N Λ (s.2) k v0 v1 s.1) N s
def bd_X0_search_12 (N : Nat) (Λ : Lay) (μ : Mem) (k12 : Int32 × Mem → Option (Mem)) (v0 : Nat) (v1 : Int32) (v2 : Int32) : Option (Mem) :=
  if 372 ≤ v2 then
    (lp_X0_search_34 N Λ v0 v1 (0, μ))
  else
    ((dr Λ v0 6 13).bind fun q2 =>
    gd (inb v2 (aZ Λ q2)) <|
    lt (mset μ q2 v2.toNatClampNeg 0) fun μ5 =>
    lt (v2 + 1) fun y7 =>
    k12 (y7, μ5))
def lp_X0_search_12 (N : Nat) (Λ : Lay) (v0 : Nat) (v1 : Int32) (s : Int32 × Mem) : Option (Mem) := cw (fun k s => bd_X0_search_12 N Λ (s.2) k v0 v1 s.1) N s
def m_X0_search (N : Nat) (Λ : Lay) (μ : Mem) (v0 : Nat) (v1 : Int32) : Option (Mem) :=
  lt (mset μ v0 0 0) fun μ1 =>
  lt (mset μ1 v0 1 (-1)) fun μ3 =>
  lp_X0_search_12 N Λ v0 v1 (0, μ3)
def bd_X0_greatestPart_4 (N : Nat) (Λ : Lay) (μ : Mem) (k4 : Int32 × Int32 → Option (Int32)) (v0 : Nat) (v1 : Int32) (v2 : Int32) (v3 : Int32) : Option (Int32) :=
  if 31 ≤ v3 then
    (some v2)
  else
    ((dr Λ v0 6 13).bind fun q2 =>
    gd (inb ((v1 * 31) + v3) (aZ Λ q2)) <|
    lt (imax v2 (μ.1 q2 ((v1 * 31) + v3).toNatClampNeg)) fun y5 =>
    lt (v3 + 1) fun y7 =>
    k4 (y5, y7))
def lp_X0_greatestPart_4 (N : Nat) (Λ : Lay) (μ : Mem) (v0 : Nat) (v1 : Int32) (s : Int32 × Int32) : Option (Int32) := cw (fun k s => bd_X0_greatestPart_4 N Λ μ k v0 v1 s.1 s.2) N s
def m_X0_greatestPart (N : Nat) (Λ : Lay) (μ : Mem) (v0 : Nat) (v1 : Int32) : Option (Int32) :=
  lp_X0_greatestPart_4 N Λ μ v0 v1 (0, 0)
def jn_X0_bestHour_46 (N : Nat) (Λ : Lay) (μ : Mem) (k9 : Int32 × Int32 × Int32 → Option (Int32)) (v0 : Nat) (v1 : Int32) (v2 : Int32) (v3 : Int32) : Option (Int32) :=
  lt (v3 + 1) fun y1 =>
  k9 (v1, v2, y1)
def jn_X0_bestHour_41 (N : Nat) (Λ : Lay) (μ : Mem) (k9 : Int32 × Int32 × Int32 → Option (Int32)) (v0 : Nat) (v3 : Int32) (v4 : Int32) : Option (Int32) :=
  jn_X0_bestHour_46 N Λ μ k9 v0 v3 v4 v3
def jn_X0_bestHour_52 (N : Nat) (Λ : Lay) (μ : Mem) (v1 : Int32) : Option (Int32) :=
  some v1
def bd_X0_bestHour_9 (N : Nat) (Λ : Lay) (μ : Mem) (k9 : Int32 × Int32 × Int32 → Option (Int32)) (v0 : Nat) (v1 : Int32) (v2 : Int32) (v3 : Int32) : Option (Int32) :=
  if 12 ≤ v3 then
    (jn_X0_bestHour_52 N Λ μ v1)
  else
    (if (μ.1 v0 0) < 2 then
      (jn_X0_bestHour_52 N Λ μ v1)
    else
      ((m_X0_greatestPart N Λ μ v0 v3).bind fun r3 =>
      if v1 = (-1) then
        (jn_X0_bestHour_41 N Λ μ k9 v0 v3 r3)
      else
        (if v2 ≤ r3 then
          (jn_X0_bestHour_46 N Λ μ k9 v0 v1 v2 v3)
        else
          (jn_X0_bestHour_41 N Λ μ k9 v0 v3 r3))))
def lp_X0_bestHour_9 (N : Nat) (Λ : Lay) (μ : Mem) (v0 : Nat) (s : Int32 × Int32 × Int32) : Option (Int32) := cw (fun k s => bd_X0_bestHour_9 N Λ μ k v0 s.1 s.2.1 s.2.2) N s
def m_X0_bestHour (N : Nat) (Λ : Lay) (μ : Mem) (v0 : Nat) : Option (Int32) :=
  lt (μ.1 v0 0) fun y1 =>
  lp_X0_bestHour_9 N Λ μ v0 ((-1), y1, 0)
def jn_X7_takeWord_43 (N : Nat) (Λ : Lay) (μ : Mem) : Option (Int32 × Mem) :=
  some (0, μ)
def bd_X7_takeWord_48 (N : Nat) (Λ : Lay) (μ : Mem) (k48 : Int32 × Mem → Option (Int32 × Mem)) (v0 : Nat) (v1 : Nat) (v2 : Int32) (v3 : Int32) (v4 : Int32) : Option (Int32 × Mem) :=
  if v3 ≤ v4 then
    (lt (mset μ v0 1 ((μ.1 v0 1) + 1)) fun μ2 =>
    some (1, μ2))
  else
    ((dr Λ v0 0 9).bind fun q4 =>
    (dr Λ q4 0 12).bind fun q6 =>
    gd (inb (v2 + v4) (aZ Λ q6)) <|
    gd (inb v4 (lenWS.getD v1 0)) <|
    if (μ.1 q6 (v2 + v4).toNatClampNeg) = (sch v1 v4.toNatClampNeg) then
      (lt (v4 + 1) fun y11 =>
      k48 (y11, μ))
    else
      (some (0, μ)))
def lp_X7_takeWord_48 (N : Nat) (Λ : Lay) (v0 : Nat) (v1 : Nat) (v2 : Int32) (v3 : Int32) (s : Int32 × Mem) : Option (Int32 × Mem) := cw (fun k s => bd_X7_takeWord_48 N Λ (s.2) k v0 v1 v2 v3 s.1) N s
def m_X7_takeWord (N : Nat) (Λ : Lay) (μ : Mem) (v0 : Nat) (v1 : Nat) : Option (Int32 × Mem) :=
  (dr Λ v0 5 13).bind fun q1 =>
  gd (inb (μ.1 v0 1) (aZ Λ q1)) <|
  lt (μ.1 q1 (μ.1 v0 1).toNatClampNeg) fun y4 =>
  (dr Λ v0 6 13).bind fun q6 =>
  gd (inb (μ.1 v0 1) (aZ Λ q6)) <|
  lt ((μ.1 q6 (μ.1 v0 1).toNatClampNeg) - y4) fun y9 =>
  (dr Λ v0 4 13).bind fun q11 =>
  gd (inb (μ.1 v0 1) (aZ Λ q11)) <|
  if (μ.1 q11 (μ.1 v0 1).toNatClampNeg) = 1 then
    (if y9 = (slen v1) then
      (lp_X7_takeWord_48 N Λ v0 v1 y4 y9 (0, μ))
    else
      (jn_X7_takeWord_43 N Λ μ))
  else
    (jn_X7_takeWord_43 N Λ μ)
def jn_X7_takeNumber_42 (N : Nat) (Λ : Lay) (μ : Mem) : Option (Int32 × Mem) :=
  some (0, μ)
def jn_X7_takeNumber_98 (N : Nat) (Λ : Lay) (μ : Mem) : Option (Int32 × Mem) :=
  some (0, μ)
def bd_X7_takeNumber_50 (N : Nat) (Λ : Lay) (μ : Mem) (k50 : Int32 × Int32 × Mem → Option (Int32 × Mem)) (v0 : Nat) (v1 : Int32) (v2 : Int32) (v3 : Int32) (v4 : Int32) (v5 : Int32) (v6 : Int32) : Option (Int32 × Mem) :=
  if v4 ≤ v6 then
    (if v5 < v1 then
      (jn_X7_takeNumber_98 N Λ μ)
    else
      (if v5 ≤ v2 then
        (lt (mset μ v0 2 v5) fun μ4 =>
        lt (mset μ4 v0 1 ((μ4.1 v0 1) + 1)) fun μ6 =>
        some (1, μ6))
      else
        (jn_X7_takeNumber_98 N Λ μ)))
  else
    ((dr Λ v0 0 9).bind fun q8 =>
    (dr Λ q8 0 12).bind fun q10 =>
    gd (inb (v3 + v6) (aZ Λ q10)) <|
    lt (((10 * v5) + (μ.1 q10 (v3 + v6).toNatClampNeg)) - 48) fun y13 =>
    lt (v6 + 1) fun y15 =>
    k50 (y13, y15, μ))
def lp_X7_takeNumber_50 (N : Nat) (Λ : Lay) (v0 : Nat) (v1 : Int32) (v2 : Int32) (v3 : Int32) (v4 : Int32) (s : Int32 × Int32 × Mem) : Option (Int32 × Mem) := cw (fun k s => bd_X7_takeNumber_50 N Λ (s.2.2) k v0 v1 v2 v3 v4 s.1 s.2.1) N s
def m_X7_takeNumber (N : Nat) (Λ : Lay) (μ : Mem) (v0 : Nat) (v1 : Int32) (v2 : Int32) : Option (Int32 × Mem) :=
  (dr Λ v0 5 13).bind fun q1 =>
  gd (inb (μ.1 v0 1) (aZ Λ q1)) <|
  lt (μ.1 q1 (μ.1 v0 1).toNatClampNeg) fun y4 =>
  (dr Λ v0 6 13).bind fun q6 =>
  gd (inb (μ.1 v0 1) (aZ Λ q6)) <|
  lt ((μ.1 q6 (μ.1 v0 1).toNatClampNeg) - y4) fun y9 =>
  (dr Λ v0 4 13).bind fun q11 =>
  gd (inb (μ.1 v0 1) (aZ Λ q11)) <|
  if (μ.1 q11 (μ.1 v0 1).toNatClampNeg) = 2 then
    (if y9 ≤ 3 then
      (lp_X7_takeNumber_50 N Λ v0 v1 v2 y4 y9 (0, 0, μ))
    else
      (jn_X7_takeNumber_42 N Λ μ))
  else
    (jn_X7_takeNumber_42 N Λ μ)
def m_X11_placeBits (N : Nat) (Λ : Lay) (μ : Mem) (v0 : Int32) (v1 : Int32) : Option (Int32) :=
  some (ishl ((ishl 1 v1) - 1) v0)
def jn_X9_takenPlaces_42 (N : Nat) (Λ : Lay) (μ : Mem) (k4 : Int32 × Int32 → Option (Int32)) (v0 : Nat) (v2 : Int32) (s0 : Int32) (s1 : Int32) : Option (Int32) :=
  lt (s0 ||| s1) fun y1 =>
  lt (v2 + 1) fun y3 =>
  k4 (y1, y3)
def bd_X9_takenPlaces_4 (N : Nat) (Λ : Lay) (μ : Mem) (k4 : Int32 × Int32 → Option (Int32)) (v0 : Nat) (v1 : Int32) (v2 : Int32) : Option (Int32) :=
  if (μ.1 v0 8) ≤ v2 then
    (some v1)
  else
    ((dr Λ v0 16 13).bind fun q2 =>
    gd (inb v2 (aZ Λ q2)) <|
    if (μ.1 q2 v2.toNatClampNeg) = 1 then
      ((dr Λ v0 17 13).bind fun q6 =>
      gd (inb v2 (aZ Λ q6)) <|
      (dr Λ v0 13 13).bind fun q9 =>
      gd (inb v2 (aZ Λ q9)) <|
      (m_X11_placeBits N Λ μ (μ.1 q6 v2.toNatClampNeg) (μ.1 q9 v2.toNatClampNeg)).bind fun r12 =>
      jn_X9_takenPlaces_42 N Λ μ k4 v0 v2 v1 r12)
    else
      (jn_X9_takenPlaces_42 N Λ μ k4 v0 v2 v1 0))
def lp_X9_takenPlaces_4 (N : Nat) (Λ : Lay) (μ : Mem) (v0 : Nat) (s : Int32 × Int32) : Option (Int32) := cw (fun k s => bd_X9_takenPlaces_4 N Λ μ k v0 s.1 s.2) N s
def m_X9_takenPlaces (N : Nat) (Λ : Lay) (μ : Mem) (v0 : Nat) : Option (Int32) :=
  lp_X9_takenPlaces_4 N Λ μ v0 (0, 0)
def jn_X11_isRoom_23 (N : Nat) (Λ : Lay) (μ : Mem) (s0 : Int32) : Option (Int32) :=
  gd (zb s0) <|
  some s0
def jn_X11_isRoom_22 (N : Nat) (Λ : Lay) (μ : Mem) : Option (Int32) :=
  jn_X11_isRoom_23 N Λ μ 0
def m_X11_isRoom (N : Nat) (Λ : Lay) (μ : Mem) (v0 : Int32) (v1 : Int32) (v2 : Int32) : Option (Int32) :=
  if 24 < (v1 + v2) then
    (jn_X11_isRoom_22 N Λ μ)
  else
    ((m_X11_placeBits N Λ μ v1 v2).bind fun r2 =>
    if (v0 &&& r2) = 0 then
      (jn_X11_isRoom_23 N Λ μ 1)
    else
      (jn_X11_isRoom_22 N Λ μ))
def m_X1_takeFreePlace (N : Nat) (Λ : Lay) (μ : Mem) (v0 : Nat) (v1 : Int32) : Option (Int32 × Mem) :=
  lt (μ.1 v0 1) fun y1 =>
  (m_X7_takeNumber N Λ μ v0 0 23).bind fun r3 =>
  if r3.1 = 0 then
    (some (0, r3.2))
  else
    ((dr Λ v0 7 8).bind fun q6 =>
    (m_X9_takenPlaces N Λ r3.2 q6).bind fun r8 =>
    (m_X11_isRoom N Λ r3.2 r8 (r3.2.1 v0 2) v1).bind fun r10 =>
    if r10 = 0 then
      (lt (mset r3.2 v0 1 y1) fun μ13 =>
      some (0, μ13))
    else
      (some (1, r3.2)))
def jn_X9_addShip_58 (N : Nat) (Λ : Lay) (μ : Mem) (v0 : Nat) (v4 : Int32) (v5 : Int32) (s0 : Nat) (s1 : Int32) (s2 : Int32) : Option (Int32 × Mem) :=
  gd (inb s1 (aZ Λ s0)) <|
  lt (mset μ s0 s1.toNatClampNeg s2) fun μ2 =>
  (dr Λ v0 17 13).bind fun q4 =>
  gd (inb v5 (aZ Λ q4)) <|
  lt (mset μ2 q4 v5.toNatClampNeg v4) fun μ7 =>
  lt (mset μ7 v0 8 ((μ7.1 v0 8) + 1)) fun μ9 =>
  some (v5, μ9)
def m_X9_addShip (N : Nat) (Λ : Lay) (μ : Mem) (v0 : Nat) (v1 : Int32) (v2 : Int32) (v3 : Int32) (v4 : Int32) : Option (Int32 × Mem) :=
  if (μ.1 v0 8) < 8 then
    (lt (μ.1 v0 8) fun y2 =>
    (dr Λ v0 13 13).bind fun q4 =>
    gd (inb y2 (aZ Λ q4)) <|
    lt (mset μ q4 y2.toNatClampNeg v1) fun μ7 =>
    (dr Λ v0 14 13).bind fun q9 =>
    gd (inb y2 (aZ Λ q9)) <|
    lt (mset μ7 q9 y2.toNatClampNeg v2) fun μ12 =>
    (dr Λ v0 15 13).bind fun q14 =>
    gd (inb y2 (aZ Λ q14)) <|
    lt (mset μ12 q14 y2.toNatClampNeg v3) fun μ17 =>
    (dr Λ v0 16 13).bind fun q19 =>
    if v4 = (-1) then
      (jn_X9_addShip_58 N Λ μ17 v0 v4 y2 q19 y2 0)
    else
      (jn_X9_addShip_58 N Λ μ17 v0 v4 y2 q19 y2 1))
  else
    (some ((-1), μ))
def jn_X1_readShip_38 (N : Nat) (Λ : Lay) (μ : Mem) : Option (Int32 × Mem) :=
  some (0, μ)
def jn_X1_readShip_64 (N : Nat) (Λ : Lay) (μ : Mem) : Option (Int32 × Mem) :=
  some (0, μ)
def jn_X1_readShip_129 (N : Nat) (Λ : Lay) (μ : Mem) (v0 : Nat) (v2 : Int32) (v3 : Int32) (v4 : Int32) (v5 : Int32) : Option (Int32 × Mem) :=
  (dr Λ v0 7 8).bind fun q1 =>
  (m_X9_addShip N Λ μ q1 v2 v3 v4 v5).bind fun r3 =>
  some (1, r3.2)
def jn_X1_readShip_101 (N : Nat) (Λ : Lay) (μ : Mem) (v0 : Nat) (v2 : Int32) (v3 : Int32) (v4 : Int32) : Option (Int32 × Mem) :=
  (m_X7_takeWord N Λ μ v0 1).bind fun r1 =>
  if r1.1 = 0 then
    (jn_X1_readShip_129 N Λ r1.2 v0 v2 v3 v4 (-1))
  else
    ((m_X1_takeFreePlace N Λ r1.2 v0 v2).bind fun r4 =>
    if r4.1 = 0 then
      (some (0, r4.2))
    else
      (lt (r4.2.1 v0 2) fun y7 =>
      jn_X1_readShip_129 N Λ r4.2 v0 v2 v3 v4 y7))
def m_X1_readShip (N : Nat) (Λ : Lay) (μ : Mem) (v0 : Nat) (v1 : Int32) : Option (Int32 × Mem) :=
  (dr Λ v0 7 8).bind fun q1 =>
  if (μ.1 q1 8) < 8 then
    ((m_X7_takeWord N Λ μ v0 11).bind fun r4 =>
    if r4.1 = 0 then
      (jn_X1_readShip_38 N Λ r4.2)
    else
      ((m_X7_takeNumber N Λ r4.2 v0 1 12).bind fun r7 =>
      if r7.1 = 0 then
        (jn_X1_readShip_38 N Λ r7.2)
      else
        (lt (r7.2.1 v0 2) fun y10 =>
        (m_X7_takeWord N Λ r7.2 v0 3).bind fun r12 =>
        if r12.1 = 0 then
          (jn_X1_readShip_64 N Λ r12.2)
        else
          ((m_X7_takeNumber N Λ r12.2 v0 1 20).bind fun r15 =>
          if r15.1 = 0 then
            (jn_X1_readShip_64 N Λ r15.2)
          else
            (lt (r15.2.1 v0 2) fun y18 =>
            (m_X7_takeWord N Λ r15.2 v0 22).bind fun r20 =>
            if r20.1 = 0 then
              (jn_X1_readShip_101 N Λ r20.2 v0 y10 y18 0)
            else
              ((m_X7_takeNumber N Λ r20.2 v0 0 99).bind fun r23 =>
              if r23.1 = 0 then
                (some (0, r23.2))
              else
                (lt (r23.2.1 v0 2) fun y26 =>
                jn_X1_readShip_101 N Λ r23.2 v0 y10 y18 y26)))))))
  else
    (lt (mset μ v0 1 v1) fun μ28 =>
    some (0, μ28))
def jn_X7_atNumber_18 (N : Nat) (Λ : Lay) (μ : Mem) (s0 : Int32) : Option (Int32) :=
  gd (zb s0) <|
  some s0
def m_X7_atNumber (N : Nat) (Λ : Lay) (μ : Mem) (v0 : Nat) : Option (Int32) :=
  (dr Λ v0 4 13).bind fun q1 =>
  gd (inb (μ.1 v0 1) (aZ Λ q1)) <|
  if (μ.1 q1 (μ.1 v0 1).toNatClampNeg) = 2 then
    (jn_X7_atNumber_18 N Λ μ 1)
  else
    (jn_X7_atNumber_18 N Λ μ 0)
def bd_X1_readTides_2 (N : Nat) (Λ : Lay) (μ : Mem) (k2 : Int32 × Mem → Option (Int32 × Mem)) (v0 : Nat) (v1 : Int32) : Option (Int32 × Mem) :=
  if 12 ≤ v1 then
    (some (0, μ))
  else
    ((m_X7_takeNumber N Λ μ v0 0 30).bind fun r2 =>
    if r2.1 = 0 then
      (some (0, r2.2))
    else
      ((dr Λ v0 7 8).bind fun q5 =>
      (dr Λ q5 12 13).bind fun q7 =>
      gd (inb v1 (aZ Λ q7)) <|
      lt (mset r2.2 q7 v1.toNatClampNeg (r2.2.1 v0 2)) fun μ10 =>
      (m_X7_atNumber N Λ μ10 v0).bind fun r12 =>
      if r12 = 0 then
        (some (1, μ10))
      else
        (lt (v1 + 1) fun y15 =>
        k2 (y15, μ10))))
def lp_X1_readTides_2 (N : Nat) (Λ : Lay) (v0 : Nat) (s : Int32 × Mem) : Option (Int32 × Mem) := cw (fun k s => bd_X1_readTides_2 N Λ (s.2) k v0 s.1) N s
def m_X1_readTides (N : Nat) (Λ : Lay) (μ : Mem) (v0 : Nat) : Option (Int32 × Mem) :=
  lp_X1_readTides_2 N Λ v0 (0, μ)
def bd_X1_readBlocks_2 (N : Nat) (Λ : Lay) (μ : Mem) (k2 : Int32 × Mem → Option (Int32 × Mem)) (v0 : Nat) (v1 : Int32) : Option (Int32 × Mem) :=
  if 12 ≤ v1 then
    (some (0, μ))
  else
    ((m_X7_takeNumber N Λ μ v0 0 23).bind fun r2 =>
    if r2.1 = 0 then
      (some (0, r2.2))
    else
      ((dr Λ v0 7 8).bind fun q5 =>
      lt (mset r2.2 q5 9 ((r2.2.1 q5 9) ||| (ishl 1 (r2.2.1 v0 2)))) fun μ7 =>
      (m_X7_atNumber N Λ μ7 v0).bind fun r9 =>
      if r9 = 0 then
        (some (1, μ7))
      else
        (lt (v1 + 1) fun y12 =>
        k2 (y12, μ7))))
def lp_X1_readBlocks_2 (N : Nat) (Λ : Lay) (v0 : Nat) (s : Int32 × Mem) : Option (Int32 × Mem) := cw (fun k s => bd_X1_readBlocks_2 N Λ (s.2) k v0 s.1) N s
def m_X1_readBlocks (N : Nat) (Λ : Lay) (μ : Mem) (v0 : Nat) : Option (Int32 × Mem) :=
  lp_X1_readBlocks_2 N Λ v0 (0, μ)
def jn_X1_setLevel_30 (N : Nat) (Λ : Lay) (μ : Mem) (v1 : Int32) (s0 : Nat) (s1 : Int32) : Option (Int32 × Mem) :=
  lt (mset μ s0 0 s1) fun μ1 =>
  gd (zb v1) <|
  some (v1, μ1)
def m_X1_setLevel (N : Nat) (Λ : Lay) (μ : Mem) (v0 : Nat) : Option (Int32 × Mem) :=
  (m_X7_takeNumber N Λ μ v0 0 40).bind fun r1 =>
  (dr Λ v0 7 8).bind fun q3 =>
  if r1.1 = 0 then
    ((dr Λ v0 7 8).bind fun q6 =>
    jn_X1_setLevel_30 N Λ r1.2 r1.1 q3 (r1.2.1 q6 0))
  else
    (jn_X1_setLevel_30 N Λ r1.2 r1.1 q3 (r1.2.1 v0 2))
def jn_X1_setPumps_30 (N : Nat) (Λ : Lay) (μ : Mem) (v1 : Int32) (s0 : Nat) (s1 : Int32) : Option (Int32 × Mem) :=
  lt (mset μ s0 2 s1) fun μ1 =>
  gd (zb v1) <|
  some (v1, μ1)
def m_X1_setPumps (N : Nat) (Λ : Lay) (μ : Mem) (v0 : Nat) : Option (Int32 × Mem) :=
  (m_X7_takeNumber N Λ μ v0 0 9).bind fun r1 =>
  (dr Λ v0 7 8).bind fun q3 =>
  if r1.1 = 0 then
    ((dr Λ v0 7 8).bind fun q6 =>
    jn_X1_setPumps_30 N Λ r1.2 r1.1 q3 (r1.2.1 q6 2))
  else
    (jn_X1_setPumps_30 N Λ r1.2 r1.1 q3 (r1.2.1 v0 2))
def jn_X1_setHands_30 (N : Nat) (Λ : Lay) (μ : Mem) (v1 : Int32) (s0 : Nat) (s1 : Int32) : Option (Int32 × Mem) :=
  lt (mset μ s0 3 s1) fun μ1 =>
  gd (zb v1) <|
  some (v1, μ1)
def m_X1_setHands (N : Nat) (Λ : Lay) (μ : Mem) (v0 : Nat) : Option (Int32 × Mem) :=
  (m_X7_takeNumber N Λ μ v0 0 9).bind fun r1 =>
  (dr Λ v0 7 8).bind fun q3 =>
  if r1.1 = 0 then
    ((dr Λ v0 7 8).bind fun q6 =>
    jn_X1_setHands_30 N Λ r1.2 r1.1 q3 (r1.2.1 q6 3))
  else
    (jn_X1_setHands_30 N Λ r1.2 r1.1 q3 (r1.2.1 v0 2))
def jn_X1_setSurge_29 (N : Nat) (Λ : Lay) (μ : Mem) (v1 : Int32) (s0 : Nat) (s1 : Int32) : Option (Int32 × Mem) :=
  lt (mset μ s0 4 s1) fun μ1 =>
  gd (zb v1) <|
  some (v1, μ1)
def m_X1_setSurge (N : Nat) (Λ : Lay) (μ : Mem) (v0 : Nat) : Option (Int32 × Mem) :=
  (m_X7_takeNumber N Λ μ v0 0 5).bind fun r1 =>
  (dr Λ v0 7 8).bind fun q3 =>
  if r1.1 = 0 then
    ((dr Λ v0 7 8).bind fun q6 =>
    jn_X1_setSurge_29 N Λ r1.2 r1.1 q3 (r1.2.1 q6 4))
  else
    (jn_X1_setSurge_29 N Λ r1.2 r1.1 q3 (r1.2.1 v0 2))
def jn_X1_setHour_31 (N : Nat) (Λ : Lay) (μ : Mem) (v1 : Int32) (s0 : Nat) (s1 : Int32) : Option (Int32 × Mem) :=
  lt (mset μ s0 1 s1) fun μ1 =>
  gd (zb v1) <|
  some (v1, μ1)
def m_X1_setHour (N : Nat) (Λ : Lay) (μ : Mem) (v0 : Nat) : Option (Int32 × Mem) :=
  (m_X7_takeNumber N Λ μ v0 0 999).bind fun r1 =>
  (dr Λ v0 7 8).bind fun q3 =>
  if r1.1 = 0 then
    ((dr Λ v0 7 8).bind fun q6 =>
    jn_X1_setHour_31 N Λ r1.2 r1.1 q3 (r1.2.1 q6 1))
  else
    (jn_X1_setHour_31 N Λ r1.2 r1.1 q3 (r1.2.1 v0 2))
def jn_X1_readSetting_77 (N : Nat) (Λ : Lay) (μ : Mem) (s0 : Int32) : Option (Int32 × Mem) :=
  gd (zb s0) <|
  some (s0, μ)
def jn_X1_readSetting_76 (N : Nat) (Λ : Lay) (μ : Mem) : Option (Int32 × Mem) :=
  jn_X1_readSetting_77 N Λ μ 0
def m_X1_readSetting (N : Nat) (Λ : Lay) (μ : Mem) (v0 : Nat) : Option (Int32 × Mem) :=
  (m_X7_takeWord N Λ μ v0 12).bind fun r1 =>
  if r1.1 = 0 then
    ((m_X7_takeWord N Λ r1.2 v0 17).bind fun r4 =>
    if r4.1 = 0 then
      ((m_X7_takeWord N Λ r4.2 v0 6).bind fun r7 =>
      if r7.1 = 0 then
        ((m_X7_takeWord N Λ r7.2 v0 20).bind fun r10 =>
        if r10.1 = 0 then
          ((m_X7_takeWord N Λ r10.2 v0 7).bind fun r13 =>
          if r13.1 = 0 then
            (jn_X1_readSetting_76 N Λ r13.2)
          else
            ((m_X1_setHour N Λ r13.2 v0).bind fun r16 =>
            if r16.1 = 0 then
              (jn_X1_readSetting_76 N Λ r16.2)
            else
              (jn_X1_readSetting_77 N Λ r16.2 1)))
        else
          ((m_X1_setSurge N Λ r10.2 v0).bind fun r19 =>
          gd (zb r19.1) <|
          some (r19.1, r19.2)))
      else
        ((m_X1_setHands N Λ r7.2 v0).bind fun r22 =>
        gd (zb r22.1) <|
        some (r22.1, r22.2)))
    else
      ((m_X1_setPumps N Λ r4.2 v0).bind fun r25 =>
      gd (zb r25.1) <|
      some (r25.1, r25.2)))
  else
    ((m_X1_setLevel N Λ r1.2 v0).bind fun r28 =>
    gd (zb r28.1) <|
    some (r28.1, r28.2))
def m_X1_readLine (N : Nat) (Λ : Lay) (μ : Mem) (v0 : Nat) : Option (Int32 × Mem) :=
  lt (μ.1 v0 1) fun y1 =>
  (m_X7_takeWord N Λ μ v0 18).bind fun r3 =>
  if r3.1 = 0 then
    ((m_X7_takeWord N Λ r3.2 v0 21).bind fun r6 =>
    if r6.1 = 0 then
      ((m_X7_takeWord N Λ r6.2 v0 2).bind fun r9 =>
      if r9.1 = 0 then
        ((m_X7_takeWord N Λ r9.2 v0 19).bind fun r12 =>
        if r12.1 = 0 then
          ((m_X1_readSetting N Λ r12.2 v0).bind fun r15 =>
          gd (zb r15.1) <|
          some (r15.1, r15.2))
        else
          ((dr Λ v0 7 8).bind fun q18 =>
          lt (mset r12.2 q18 11 0) fun μ20 =>
          some (1, μ20)))
      else
        ((m_X1_readBlocks N Λ r9.2 v0).bind fun r22 =>
        gd (zb r22.1) <|
        some (r22.1, r22.2)))
    else
      ((m_X1_readTides N Λ r6.2 v0).bind fun r25 =>
      gd (zb r25.1) <|
      some (r25.1, r25.2)))
  else
    ((m_X1_readShip N Λ r3.2 v0 y1).bind fun r28 =>
    gd (zb r28.1) <|
    some (r28.1, r28.2))
def m_X2_copy (N : Nat) (Λ : Lay) (μ : Mem) (v0 : Nat) (v1 : Nat) : Option (Mem) :=
  lt (mset μ v0 0 (μ.1 v1 0)) fun μ1 =>
  lt (mset μ1 v0 1 (μ1.1 v1 1)) fun μ3 =>
  (dr Λ v1 2 13).bind fun q5 =>
  (dr Λ v0 2 13).bind fun q7 =>
  gd (cpyOk Λ q5 q7 0 0 12) <|
  lt (mrow μ3 q7 (va_cpy (μ3.1 q5) (μ3.1 q7) (0 : Int32).toNatClampNeg (0 : Int32).toNatClampNeg (12 : Int32).toNatClampNeg)) fun μ10 =>
  (dr Λ v1 3 13).bind fun q12 =>
  (dr Λ v0 3 13).bind fun q14 =>
  gd (cpyOk Λ q12 q14 0 0 12) <|
  lt (mrow μ10 q14 (va_cpy (μ10.1 q12) (μ10.1 q14) (0 : Int32).toNatClampNeg (0 : Int32).toNatClampNeg (12 : Int32).toNatClampNeg)) fun μ17 =>
  (dr Λ v1 4 13).bind fun q19 =>
  (dr Λ v0 4 13).bind fun q21 =>
  gd (cpyOk Λ q19 q21 0 0 12) <|
  lt (mrow μ17 q21 (va_cpy (μ17.1 q19) (μ17.1 q21) (0 : Int32).toNatClampNeg (0 : Int32).toNatClampNeg (12 : Int32).toNatClampNeg)) fun μ24 =>
  (dr Λ v1 5 13).bind fun q26 =>
  (dr Λ v0 5 13).bind fun q28 =>
  gd (cpyOk Λ q26 q28 0 0 400) <|
  lt (mrow μ24 q28 (va_cpy (μ24.1 q26) (μ24.1 q28) (0 : Int32).toNatClampNeg (0 : Int32).toNatClampNeg (400 : Int32).toNatClampNeg)) fun μ31 =>
  some μ31
def m_X2_clear (N : Nat) (Λ : Lay) (μ : Mem) (v0 : Nat) : Option (Mem) :=
  lt (mset μ v0 0 0) fun μ1 =>
  lt (mset μ1 v0 1 0) fun μ3 =>
  some μ3
def jn_X2_beginLine_29 (N : Nat) (Λ : Lay) (μ : Mem) : Option (Mem) :=
  some μ
def m_X2_beginLine (N : Nat) (Λ : Lay) (μ : Mem) (v0 : Nat) (v1 : Int32) (v2 : Int32) : Option (Mem) :=
  if 12 ≤ (μ.1 v0 0) then
    (jn_X2_beginLine_29 N Λ μ)
  else
    ((dr Λ v0 2 13).bind fun q2 =>
    gd (inb (μ.1 v0 0) (aZ Λ q2)) <|
    lt (mset μ q2 (μ.1 v0 0).toNatClampNeg v1) fun μ5 =>
    (dr Λ v0 3 13).bind fun q7 =>
    gd (inb (μ5.1 v0 0) (aZ Λ q7)) <|
    lt (mset μ5 q7 (μ5.1 v0 0).toNatClampNeg v2) fun μ10 =>
    jn_X2_beginLine_29 N Λ μ10)
def jn_X2_endLine_32 (N : Nat) (Λ : Lay) (μ : Mem) : Option (Mem) :=
  some μ
def m_X2_endLine (N : Nat) (Λ : Lay) (μ : Mem) (v0 : Nat) : Option (Mem) :=
  if 12 ≤ (μ.1 v0 0) then
    (jn_X2_endLine_32 N Λ μ)
  else
    ((dr Λ v0 4 13).bind fun q2 =>
    gd (inb (μ.1 v0 0) (aZ Λ q2)) <|
    lt (mset μ q2 (μ.1 v0 0).toNatClampNeg (μ.1 v0 1)) fun μ5 =>
    lt (mset μ5 v0 0 ((μ5.1 v0 0) + 1)) fun μ7 =>
    jn_X2_endLine_32 N Λ μ7)
def jn_X2_add_30 (N : Nat) (Λ : Lay) (μ : Mem) : Option (Int32 × Mem) :=
  some (1, μ)
def m_X2_add (N : Nat) (Λ : Lay) (μ : Mem) (v0 : Nat) (v1 : Int32) : Option (Int32 × Mem) :=
  if 400 ≤ (μ.1 v0 1) then
    (jn_X2_add_30 N Λ μ)
  else
    ((dr Λ v0 5 13).bind fun q2 =>
    gd (inb (μ.1 v0 1) (aZ Λ q2)) <|
    lt (mset μ q2 (μ.1 v0 1).toNatClampNeg v1) fun μ5 =>
    lt (mset μ5 v0 1 ((μ5.1 v0 1) + 1)) fun μ7 =>
    jn_X2_add_30 N Λ μ7)
def jn_X2_joined_58 (N : Nat) (Λ : Lay) (μ : Mem) (s0 : Int32) : Option (Int32) :=
  some s0
def jn_X2_joined_69 (N : Nat) (Λ : Lay) (μ : Mem) (s0 : Int32) : Option (Int32) :=
  some s0
def m_X2_joined (N : Nat) (Λ : Lay) (μ : Mem) (v0 : Int32) (v1 : Int32) (v2 : Int32) : Option (Int32) :=
  if v0 = (-16) then
    (if v1 ≤ v2 then
      (jn_X2_joined_69 N Λ μ 0)
    else
      (jn_X2_joined_69 N Λ μ 1))
  else
  if v0 = (-15) then
    (if v2 ≤ v1 then
      (jn_X2_joined_58 N Λ μ 0)
    else
      (jn_X2_joined_58 N Λ μ 1))
  else
  if v0 = (-14) then
    (some (v1 + v2))
  else
  if v0 = (-13) then
    (some (v1 ||| v2))
  else
  if v0 = (-12) then
    (some (v1 &&& v2))
  else
    (some 0)
def jn_X2_measure_90 (N : Nat) (Λ : Lay) (μ : Mem) (s0 : Int32) : Option (Int32) :=
  some s0
def jn_X2_measure_105 (N : Nat) (Λ : Lay) (μ : Mem) (s0 : Int32) : Option (Int32) :=
  some s0
def jn_X2_measure_120 (N : Nat) (Λ : Lay) (μ : Mem) (s0 : Int32) : Option (Int32) :=
  some s0
def jn_X2_measure_135 (N : Nat) (Λ : Lay) (μ : Mem) (s0 : Int32) : Option (Int32) :=
  some s0
def jn_X2_measure_164 (N : Nat) (Λ : Lay) (μ : Mem) (s0 : Int32) : Option (Int32) :=
  some s0
def jn_X2_measure_178 (N : Nat) (Λ : Lay) (μ : Mem) (s0 : Int32) : Option (Int32) :=
  some s0
def jn_X2_measure_195 (N : Nat) (Λ : Lay) (μ : Mem) (s0 : Int32) : Option (Int32) :=
  some s0
def jn_X2_measure_15 (N : Nat) (Λ : Lay) (μ : Mem) (v0 : Int32) (v1 : Nat) (v2 : Int32) (s0 : Int32) : Option (Int32) :=
  lt (irem (μ.1 v1 1) 12) fun y1 =>
  if v0 = (-10) then
    (if s0 = 0 then
      (jn_X2_measure_195 N Λ μ ((ishr (μ.1 v1 10) v2) &&& 1))
    else
      (jn_X2_measure_195 N Λ μ 0))
  else
  if v0 = (-9) then
    (if 2 < (μ.1 v1 0) then
      (jn_X2_measure_178 N Λ μ 0)
    else
      (jn_X2_measure_178 N Λ μ 1))
  else
  if v0 = (-8) then
    (if (μ.1 v1 11) = 0 then
      (jn_X2_measure_164 N Λ μ 0)
    else
      (jn_X2_measure_164 N Λ μ 1))
  else
  if v0 = (-7) then
    (some y1)
  else
  if v0 = (-6) then
    ((dr Λ v1 12 13).bind fun q11 =>
    gd (inb y1 (aZ Λ q11)) <|
    some (μ.1 q11 y1.toNatClampNeg))
  else
  if v0 = (-5) then
    (some (μ.1 v1 0))
  else
  if v0 = (-4) then
    (if s0 = 0 then
      ((dr Λ v1 15 13).bind fun q17 =>
      gd (inb v2 (aZ Λ q17)) <|
      jn_X2_measure_135 N Λ μ (μ.1 q17 v2.toNatClampNeg))
    else
      (jn_X2_measure_135 N Λ μ 0))
  else
  if v0 = (-3) then
    (if s0 = 0 then
      ((dr Λ v1 14 13).bind fun q22 =>
      gd (inb v2 (aZ Λ q22)) <|
      jn_X2_measure_120 N Λ μ (μ.1 q22 v2.toNatClampNeg))
    else
      (jn_X2_measure_120 N Λ μ 0))
  else
  if v0 = (-2) then
    (if s0 = 0 then
      ((dr Λ v1 13 13).bind fun q27 =>
      gd (inb v2 (aZ Λ q27)) <|
      jn_X2_measure_105 N Λ μ (μ.1 q27 v2.toNatClampNeg))
    else
      (jn_X2_measure_105 N Λ μ 0))
  else
  if v0 = (-1) then
    (if s0 = 0 then
      (jn_X2_measure_90 N Λ μ v2)
    else
      (jn_X2_measure_90 N Λ μ 9))
  else
    (some 0)
def jn_X2_measure_10 (N : Nat) (Λ : Lay) (μ : Mem) (v0 : Int32) (v1 : Nat) (v2 : Int32) : Option (Int32) :=
  jn_X2_measure_15 N Λ μ v0 v1 v2 1
def m_X2_measure (N : Nat) (Λ : Lay) (μ : Mem) (v0 : Int32) (v1 : Nat) (v2 : Int32) : Option (Int32) :=
  if v2 < 0 then
    (jn_X2_measure_10 N Λ μ v0 v1 v2)
  else
    (if v2 < 8 then
      (jn_X2_measure_15 N Λ μ v0 v1 v2 0)
    else
      (jn_X2_measure_10 N Λ μ v0 v1 v2))
def jn_X2_holds_148 (N : Nat) (Λ : Lay) (μ : Mem) (k6 : Int32 × Int32 × Mem → Option (Int32 × Mem)) (v0 : Nat) (v2 : Int32) (v3 : Nat) (v4 : Int32) (v5 : Int32) (v6 : Int32) : Option (Int32 × Mem) :=
  lt (v6 + 1) fun y1 =>
  k6 (v5, y1, μ)
def jn_X2_holds_144 (N : Nat) (Λ : Lay) (μ : Mem) (k6 : Int32 × Int32 × Mem → Option (Int32 × Mem)) (v0 : Nat) (v2 : Int32) (v3 : Nat) (v4 : Int32) (v5 : Int32) (v6 : Int32) (s0 : Nat) (s1 : Int32) (s2 : Int32) : Option (Int32 × Mem) :=
  gd (inb s1 (aZ Λ s0)) <|
  lt (mset μ s0 s1.toNatClampNeg s2) fun μ2 =>
  lt (v5 + 1) fun y4 =>
  jn_X2_holds_148 N Λ μ2 k6 v0 v2 v3 v4 y4 v6
def jn_X2_holds_106 (N : Nat) (Λ : Lay) (μ : Mem) (k6 : Int32 × Int32 × Mem → Option (Int32 × Mem)) (v0 : Nat) (v2 : Int32) (v3 : Nat) (v4 : Int32) (v5 : Int32) (v6 : Int32) (v7 : Int32) : Option (Int32 × Mem) :=
  if v7 ≤ (-11) then
    (jn_X2_holds_148 N Λ μ k6 v0 v2 v3 v4 v5 v6)
  else
    (if 32 ≤ v5 then
      (jn_X2_holds_148 N Λ μ k6 v0 v2 v3 v4 v5 v6)
    else
      ((dr Λ v0 6 13).bind fun q3 =>
      if v7 < 0 then
        ((m_X2_measure N Λ μ v7 v3 v4).bind fun r6 =>
        jn_X2_holds_144 N Λ μ k6 v0 v2 v3 v4 v5 v6 q3 v5 r6)
      else
        (jn_X2_holds_144 N Λ μ k6 v0 v2 v3 v4 v5 v6 q3 v5 v7)))
def jn_X2_holds_57 (N : Nat) (Λ : Lay) (μ : Mem) (k6 : Int32 × Int32 × Mem → Option (Int32 × Mem)) (v0 : Nat) (v2 : Int32) (v3 : Nat) (v4 : Int32) (v5 : Int32) (v6 : Int32) (v7 : Int32) : Option (Int32 × Mem) :=
  if (-11) ≤ v7 then
    (jn_X2_holds_106 N Λ μ k6 v0 v2 v3 v4 v5 v6 v7)
  else
    (if v5 < 2 then
      (jn_X2_holds_106 N Λ μ k6 v0 v2 v3 v4 v5 v6 v7)
    else
      (lt (v5 + (-1)) fun y3 =>
      (dr Λ v0 6 13).bind fun q5 =>
      (dr Λ v0 6 13).bind fun q7 =>
      gd (inb (y3 - 1) (aZ Λ q7)) <|
      (dr Λ v0 6 13).bind fun q10 =>
      gd (inb y3 (aZ Λ q10)) <|
      (m_X2_joined N Λ μ v7 (μ.1 q7 (y3 - 1).toNatClampNeg) (μ.1 q10 y3.toNatClampNeg)).bind fun r13 =>
      gd (inb (y3 - 1) (aZ Λ q5)) <|
      lt (mset μ q5 (y3 - 1).toNatClampNeg r13) fun μ16 =>
      jn_X2_holds_148 N Λ μ16 k6 v0 v2 v3 v4 y3 v6))
def jn_X2_holds_173 (N : Nat) (Λ : Lay) (μ : Mem) (s0 : Int32) : Option (Int32 × Mem) :=
  gd (zb s0) <|
  some (s0, μ)
def jn_X2_holds_168 (N : Nat) (Λ : Lay) (μ : Mem) : Option (Int32 × Mem) :=
  jn_X2_holds_173 N Λ μ 1
def bd_X2_holds_6 (N : Nat) (Λ : Lay) (μ : Mem) (k6 : Int32 × Int32 × Mem → Option (Int32 × Mem)) (v0 : Nat) (v2 : Int32) (v3 : Nat) (v4 : Int32) (v5 : Int32) (v6 : Int32) : Option (Int32 × Mem) :=
  if v2 ≤ v6 then
    (if v5 = 0 then
      (jn_X2_holds_168 N Λ μ)
    else
      ((dr Λ v0 6 13).bind fun q3 =>
      gd (inb 0 (aZ Λ q3)) <|
      if (μ.1 q3 (0 : Int32).toNatClampNeg) = 0 then
        (jn_X2_holds_173 N Λ μ 0)
      else
        (jn_X2_holds_168 N Λ μ)))
  else
    ((dr Λ v0 5 13).bind fun q7 =>
    gd (inb v6 (aZ Λ q7)) <|
    lt (μ.1 q7 v6.toNatClampNeg) fun y10 =>
    if y10 = (-11) then
      (if v5 < 1 then
        (jn_X2_holds_57 N Λ μ k6 v0 v2 v3 v4 v5 v6 y10)
      else
        ((dr Λ v0 6 13).bind fun q14 =>
        (dr Λ v0 6 13).bind fun q16 =>
        gd (inb (v5 - 1) (aZ Λ q16)) <|
        gd (inb (v5 - 1) (aZ Λ q14)) <|
        lt (mset μ q14 (v5 - 1).toNatClampNeg (1 - (μ.1 q16 (v5 - 1).toNatClampNeg))) fun μ20 =>
        jn_X2_holds_148 N Λ μ20 k6 v0 v2 v3 v4 v5 v6))
    else
      (jn_X2_holds_57 N Λ μ k6 v0 v2 v3 v4 v5 v6 y10))
def lp_X2_holds_6 (N : Nat) (Λ : Lay) (v0 : Nat) (v2 : Int32) (v3 : Nat) (v4 : Int32) (s : Int32 × Int32 × Mem) : Option (Int32 × Mem) := cw (fun k s => bd_X2_holds_6 N Λ (s.2.2) k v0 v2 v3 v4 s.1 s.2.1) N s
def m_X2_holds (N : Nat) (Λ : Lay) (μ : Mem) (v0 : Nat) (v1 : Int32) (v2 : Int32) (v3 : Nat) (v4 : Int32) : Option (Int32 × Mem) :=
  lp_X2_holds_6 N Λ v0 v2 v3 v4 (0, v1, μ)
def jn_X2_sumOf_59 (N : Nat) (Λ : Lay) (μ : Mem) (k9 : Int32 × Int32 × Int32 × Mem → Option (Int32 × Mem)) (v0 : Nat) (v1 : Int32) (v2 : Nat) (v3 : Int32) (v4 : Int32) (v6 : Int32) : Option (Int32 × Mem) :=
  (dr Λ v0 4 13).bind fun q1 =>
  gd (inb v6 (aZ Λ q1)) <|
  lt (μ.1 q1 v6.toNatClampNeg) fun y4 =>
  lt (v6 + 1) fun y6 =>
  k9 (v4, y4, y6, μ)
def bd_X2_sumOf_9 (N : Nat) (Λ : Lay) (μ : Mem) (k9 : Int32 × Int32 × Int32 × Mem → Option (Int32 × Mem)) (v0 : Nat) (v1 : Int32) (v2 : Nat) (v3 : Int32) (v4 : Int32) (v5 : Int32) (v6 : Int32) : Option (Int32 × Mem) :=
  if (μ.1 v0 0) ≤ v6 then
    (some (v4, μ))
  else
    ((dr Λ v0 2 13).bind fun q2 =>
    gd (inb v6 (aZ Λ q2)) <|
    if (μ.1 q2 v6.toNatClampNeg) = v1 then
      ((dr Λ v0 4 13).bind fun q6 =>
      gd (inb v6 (aZ Λ q6)) <|
      (m_X2_holds N Λ μ v0 v5 (μ.1 q6 v6.toNatClampNeg) v2 v3).bind fun r9 =>
      if r9.1 = 0 then
        (jn_X2_sumOf_59 N Λ r9.2 k9 v0 v1 v2 v3 v4 v6)
      else
        ((dr Λ v0 3 13).bind fun q12 =>
        gd (inb v6 (aZ Λ q12)) <|
        lt (v4 + (r9.2.1 q12 v6.toNatClampNeg)) fun y15 =>
        jn_X2_sumOf_59 N Λ r9.2 k9 v0 v1 v2 v3 y15 v6))
    else
      (jn_X2_sumOf_59 N Λ μ k9 v0 v1 v2 v3 v4 v6))
def lp_X2_sumOf_9 (N : Nat) (Λ : Lay) (v0 : Nat) (v1 : Int32) (v2 : Nat) (v3 : Int32) (s : Int32 × Int32 × Int32 × Mem) : Option (Int32 × Mem) := cw (fun k s => bd_X2_sumOf_9 N Λ (s.2.2.2) k v0 v1 v2 v3 s.1 s.2.1 s.2.2.1) N s
def m_X2_sumOf (N : Nat) (Λ : Lay) (μ : Mem) (v0 : Nat) (v1 : Int32) (v2 : Nat) (v3 : Int32) : Option (Int32 × Mem) :=
  lp_X2_sumOf_9 N Λ v0 v1 v2 v3 (0, 0, 0, μ)
def jn_X3_takeKind_36 (N : Nat) (Λ : Lay) (μ : Mem) (s0 : Int32) : Option (Int32 × Mem) :=
  some (s0, μ)
def m_X3_takeKind (N : Nat) (Λ : Lay) (μ : Mem) (v0 : Nat) : Option (Int32 × Mem) :=
  (m_X7_takeWord N Λ μ v0 16).bind fun r1 =>
  if r1.1 = 0 then
    ((m_X7_takeWord N Λ r1.2 v0 10).bind fun r4 =>
    if r4.1 = 0 then
      ((m_X7_takeWord N Λ r4.2 v0 5).bind fun r7 =>
      if r7.1 = 0 then
        (jn_X3_takeKind_36 N Λ r7.2 (-1))
      else
        (jn_X3_takeKind_36 N Λ r7.2 2))
    else
      (some (1, r4.2)))
  else
    (some (0, r1.2))
def jn_X7_takeSign_36 (N : Nat) (Λ : Lay) (μ : Mem) : Option (Int32 × Mem) :=
  some (0, μ)
def m_X7_takeSign (N : Nat) (Λ : Lay) (μ : Mem) (v0 : Nat) (v1 : Int32) : Option (Int32 × Mem) :=
  (dr Λ v0 5 13).bind fun q1 =>
  gd (inb (μ.1 v0 1) (aZ Λ q1)) <|
  lt (μ.1 q1 (μ.1 v0 1).toNatClampNeg) fun y4 =>
  (dr Λ v0 4 13).bind fun q6 =>
  gd (inb (μ.1 v0 1) (aZ Λ q6)) <|
  if (μ.1 q6 (μ.1 v0 1).toNatClampNeg) = 3 then
    ((dr Λ v0 0 9).bind fun q10 =>
    (dr Λ q10 0 12).bind fun q12 =>
    gd (inb y4 (aZ Λ q12)) <|
    if (μ.1 q12 y4.toNatClampNeg) = v1 then
      (lt (mset μ v0 1 ((μ.1 v0 1) + 1)) fun μ16 =>
      some (1, μ16))
    else
      (jn_X7_takeSign_36 N Λ μ))
  else
    (jn_X7_takeSign_36 N Λ μ)
def jn_X3_readPart_162 (N : Nat) (Λ : Lay) (μ : Mem) (s0 : Int32) : Option (Int32 × Mem) :=
  gd (zb s0) <|
  some (s0, μ)
def jn_X3_readPart_161 (N : Nat) (Λ : Lay) (μ : Mem) : Option (Int32 × Mem) :=
  jn_X3_readPart_162 N Λ μ 0
def m_X3_readPart (N : Nat) (Λ : Lay) (μ : Mem) (v0 : Nat) : Option (Int32 × Mem) :=
  (m_X7_takeNumber N Λ μ v0 0 999).bind fun r1 =>
  if r1.1 = 0 then
    ((m_X7_takeWord N Λ r1.2 v0 18).bind fun r4 =>
    if r4.1 = 0 then
      ((m_X7_takeWord N Λ r4.2 v0 11).bind fun r7 =>
      if r7.1 = 0 then
        ((m_X7_takeWord N Λ r7.2 v0 3).bind fun r10 =>
        if r10.1 = 0 then
          ((m_X7_takeWord N Λ r10.2 v0 22).bind fun r13 =>
          if r13.1 = 0 then
            ((m_X7_takeWord N Λ r13.2 v0 12).bind fun r16 =>
            if r16.1 = 0 then
              ((m_X7_takeWord N Λ r16.2 v0 21).bind fun r19 =>
              if r19.1 = 0 then
                ((m_X7_takeWord N Λ r19.2 v0 7).bind fun r22 =>
                if r22.1 = 0 then
                  (jn_X3_readPart_161 N Λ r22.2)
                else
                  ((dr Λ v0 7 2).bind fun q25 =>
                  (m_X2_add N Λ r22.2 q25 (-7)).bind fun r27 =>
                  if r27.1 = 0 then
                    (jn_X3_readPart_161 N Λ r27.2)
                  else
                    (jn_X3_readPart_162 N Λ r27.2 1)))
              else
                ((dr Λ v0 7 2).bind fun q30 =>
                (m_X2_add N Λ r19.2 q30 (-6)).bind fun r32 =>
                gd (zb r32.1) <|
                some (r32.1, r32.2)))
            else
              ((dr Λ v0 7 2).bind fun q35 =>
              (m_X2_add N Λ r16.2 q35 (-5)).bind fun r37 =>
              gd (zb r37.1) <|
              some (r37.1, r37.2)))
          else
            ((dr Λ v0 7 2).bind fun q40 =>
            (m_X2_add N Λ r13.2 q40 (-4)).bind fun r42 =>
            gd (zb r42.1) <|
            some (r42.1, r42.2)))
        else
          ((dr Λ v0 7 2).bind fun q45 =>
          (m_X2_add N Λ r10.2 q45 (-3)).bind fun r47 =>
          gd (zb r47.1) <|
          some (r47.1, r47.2)))
      else
        ((dr Λ v0 7 2).bind fun q50 =>
        (m_X2_add N Λ r7.2 q50 (-2)).bind fun r52 =>
        gd (zb r52.1) <|
        some (r52.1, r52.2)))
    else
      ((dr Λ v0 7 2).bind fun q55 =>
      (m_X2_add N Λ r4.2 q55 (-1)).bind fun r57 =>
      gd (zb r57.1) <|
      some (r57.1, r57.2)))
  else
    ((dr Λ v0 7 2).bind fun q60 =>
    (m_X2_add N Λ r1.2 q60 (r1.2.1 v0 2)).bind fun r62 =>
    gd (zb r62.1) <|
    some (r62.1, r62.2))
def jn_X3_readSum_52 (N : Nat) (Λ : Lay) (μ : Mem) : Option (Int32 × Mem) :=
  some (1, μ)
def bd_X3_readSum_11 (N : Nat) (Λ : Lay) (μ : Mem) (k11 : Int32 × Mem → Option (Int32 × Mem)) (v0 : Nat) (v1 : Int32) : Option (Int32 × Mem) :=
  if 400 ≤ v1 then
    (jn_X3_readSum_52 N Λ μ)
  else
    ((m_X7_takeSign N Λ μ v0 43).bind fun r2 =>
    if r2.1 = 0 then
      (jn_X3_readSum_52 N Λ r2.2)
    else
      ((m_X3_readPart N Λ r2.2 v0).bind fun r5 =>
      if r5.1 = 0 then
        (some (0, r5.2))
      else
        ((dr Λ v0 7 2).bind fun q8 =>
        (m_X2_add N Λ r5.2 q8 (-14)).bind fun r10 =>
        lt (v1 + 1) fun y12 =>
        k11 (y12, r10.2))))
def lp_X3_readSum_11 (N : Nat) (Λ : Lay) (v0 : Nat) (s : Int32 × Mem) : Option (Int32 × Mem) := cw (fun k s => bd_X3_readSum_11 N Λ (s.2) k v0 s.1) N s
def m_X3_readSum (N : Nat) (Λ : Lay) (μ : Mem) (v0 : Nat) : Option (Int32 × Mem) :=
  (m_X3_readPart N Λ μ v0).bind fun r1 =>
  if r1.1 = 0 then
    (some (0, r1.2))
  else
    (lp_X3_readSum_11 N Λ v0 (0, r1.2))
def jn_X3_readComparison_64 (N : Nat) (Λ : Lay) (μ : Mem) (s0 : Int32) : Option (Int32 × Mem) :=
  gd (zb s0) <|
  some (s0, μ)
def jn_X3_readComparison_63 (N : Nat) (Λ : Lay) (μ : Mem) : Option (Int32 × Mem) :=
  jn_X3_readComparison_64 N Λ μ 0
def jn_X3_readComparison_53 (N : Nat) (Λ : Lay) (μ : Mem) (s0 : Nat) (s1 : Int32) : Option (Int32 × Mem) :=
  (m_X2_add N Λ μ s0 s1).bind fun r1 =>
  if r1.1 = 0 then
    (jn_X3_readComparison_63 N Λ r1.2)
  else
    (jn_X3_readComparison_64 N Λ r1.2 1)
def jn_X3_readComparison_31 (N : Nat) (Λ : Lay) (μ : Mem) (v0 : Nat) (v1 : Int32) : Option (Int32 × Mem) :=
  (m_X3_readSum N Λ μ v0).bind fun r1 =>
  if r1.1 = 0 then
    (jn_X3_readComparison_63 N Λ r1.2)
  else
    ((dr Λ v0 7 2).bind fun q4 =>
    if v1 = 0 then
      (jn_X3_readComparison_53 N Λ r1.2 q4 (-16))
    else
      (jn_X3_readComparison_53 N Λ r1.2 q4 (-15)))
def m_X3_readComparison (N : Nat) (Λ : Lay) (μ : Mem) (v0 : Nat) : Option (Int32 × Mem) :=
  (m_X3_readSum N Λ μ v0).bind fun r1 =>
  if r1.1 = 0 then
    (some (0, r1.2))
  else
    ((m_X7_takeSign N Λ r1.2 v0 60).bind fun r4 =>
    if r4.1 = 0 then
      ((m_X7_takeSign N Λ r4.2 v0 62).bind fun r7 =>
      if r7.1 = 0 then
        (some (0, r7.2))
      else
        (jn_X3_readComparison_31 N Λ r7.2 v0 r4.1))
    else
      (jn_X3_readComparison_31 N Λ r4.2 v0 r4.1))
def jn_X3_readAll_54 (N : Nat) (Λ : Lay) (fA : Mem → Nat → Int32 → Option (Int32 × Mem)) (μ : Mem) : Option (Int32 × Mem) :=
  some (1, μ)
def bd_X3_readAll_12 (N : Nat) (Λ : Lay) (fA : Mem → Nat → Int32 → Option (Int32 × Mem)) (μ : Mem) (k12 : Int32 × Mem → Option (Int32 × Mem)) (v0 : Nat) (v1 : Int32) (v2 : Int32) : Option (Int32 × Mem) :=
  if 400 ≤ v2 then
    (jn_X3_readAll_54 N Λ fA μ)
  else
    ((m_X7_takeWord N Λ μ v0 0).bind fun r2 =>
    if r2.1 = 0 then
      (jn_X3_readAll_54 N Λ fA r2.2)
    else
      ((fA r2.2 v0 v1).bind fun r5 =>
      if r5.1 = 0 then
        (some (0, r5.2))
      else
        ((dr Λ v0 7 2).bind fun q8 =>
        (m_X2_add N Λ r5.2 q8 (-12)).bind fun r10 =>
        lt (v2 + 1) fun y12 =>
        k12 (y12, r10.2))))
def lp_X3_readAll_12 (N : Nat) (Λ : Lay) (fA : Mem → Nat → Int32 → Option (Int32 × Mem)) (v0 : Nat) (v1 : Int32) (s : Int32 × Mem) : Option (Int32 × Mem) := cw (fun k s => bd_X3_readAll_12 N Λ fA (s.2) k v0 v1 s.1) N s
def m_X3_readAll (N : Nat) (Λ : Lay) (fA : Mem → Nat → Int32 → Option (Int32 × Mem)) (μ : Mem) (v0 : Nat) (v1 : Int32) : Option (Int32 × Mem) :=
  (fA μ v0 v1).bind fun r1 =>
  if r1.1 = 0 then
    (some (0, r1.2))
  else
    (lp_X3_readAll_12 N Λ fA v0 v1 (0, r1.2))
def jn_X3_readAny_54 (N : Nat) (Λ : Lay) (fA : Mem → Nat → Int32 → Option (Int32 × Mem)) (μ : Mem) : Option (Int32 × Mem) :=
  some (1, μ)
def bd_X3_readAny_12 (N : Nat) (Λ : Lay) (fA : Mem → Nat → Int32 → Option (Int32 × Mem)) (μ : Mem) (k12 : Int32 × Mem → Option (Int32 × Mem)) (v0 : Nat) (v1 : Int32) (v2 : Int32) : Option (Int32 × Mem) :=
  if 400 ≤ v2 then
    (jn_X3_readAny_54 N Λ fA μ)
  else
    ((m_X7_takeWord N Λ μ v0 15).bind fun r2 =>
    if r2.1 = 0 then
      (jn_X3_readAny_54 N Λ fA r2.2)
    else
      ((m_X3_readAll N Λ fA r2.2 v0 v1).bind fun r5 =>
      if r5.1 = 0 then
        (some (0, r5.2))
      else
        ((dr Λ v0 7 2).bind fun q8 =>
        (m_X2_add N Λ r5.2 q8 (-13)).bind fun r10 =>
        lt (v2 + 1) fun y12 =>
        k12 (y12, r10.2))))
def lp_X3_readAny_12 (N : Nat) (Λ : Lay) (fA : Mem → Nat → Int32 → Option (Int32 × Mem)) (v0 : Nat) (v1 : Int32) (s : Int32 × Mem) : Option (Int32 × Mem) := cw (fun k s => bd_X3_readAny_12 N Λ fA (s.2) k v0 v1 s.1) N s
def m_X3_readAny (N : Nat) (Λ : Lay) (fA : Mem → Nat → Int32 → Option (Int32 × Mem)) (μ : Mem) (v0 : Nat) (v1 : Int32) : Option (Int32 × Mem) :=
  (m_X3_readAll N Λ fA μ v0 v1).bind fun r1 =>
  if r1.1 = 0 then
    (some (0, r1.2))
  else
    (lp_X3_readAny_12 N Λ fA v0 v1 (0, r1.2))
def jn_X3_readAtom_85 (N : Nat) (Λ : Lay) (fA : Mem → Nat → Int32 → Option (Int32 × Mem)) (μ : Mem) (s0 : Int32) : Option (Int32 × Mem) :=
  gd (zb s0) <|
  some (s0, μ)
def jn_X3_readAtom_84 (N : Nat) (Λ : Lay) (fA : Mem → Nat → Int32 → Option (Int32 × Mem)) (μ : Mem) : Option (Int32 × Mem) :=
  jn_X3_readAtom_85 N Λ fA μ 0
def jn_X3_readAtom_115 (N : Nat) (Λ : Lay) (fA : Mem → Nat → Int32 → Option (Int32 × Mem)) (μ : Mem) (s0 : Int32) : Option (Int32 × Mem) :=
  gd (zb s0) <|
  some (s0, μ)
def jn_X3_readAtom_114 (N : Nat) (Λ : Lay) (fA : Mem → Nat → Int32 → Option (Int32 × Mem)) (μ : Mem) : Option (Int32 × Mem) :=
  jn_X3_readAtom_115 N Λ fA μ 0
def jn_X3_readAtom_54 (N : Nat) (Λ : Lay) (fA : Mem → Nat → Int32 → Option (Int32 × Mem)) (μ : Mem) (v0 : Nat) (v1 : Int32) (v3 : Int32) (v4 : Int32) : Option (Int32 × Mem) :=
  if v3 = 0 then
    (if v4 = 0 then
      ((m_X7_takeWord N Λ μ v0 14).bind fun r3 =>
      if r3.1 = 0 then
        ((m_X7_takeWord N Λ r3.2 v0 4).bind fun r6 =>
        if r6.1 = 0 then
          ((m_X7_takeWord N Λ r6.2 v0 8).bind fun r9 =>
          if r9.1 = 0 then
            ((m_X3_readComparison N Λ r9.2 v0).bind fun r12 =>
            gd (zb r12.1) <|
            some (r12.1, r12.2))
          else
            ((dr Λ v0 7 2).bind fun q15 =>
            (m_X2_add N Λ r9.2 q15 (-10)).bind fun r17 =>
            gd (zb r17.1) <|
            some (r17.1, r17.2)))
        else
          ((dr Λ v0 7 2).bind fun q20 =>
          (m_X2_add N Λ r6.2 q20 (-9)).bind fun r22 =>
          gd (zb r22.1) <|
          some (r22.1, r22.2)))
      else
        ((dr Λ v0 7 2).bind fun q25 =>
        (m_X2_add N Λ r3.2 q25 (-8)).bind fun r27 =>
        gd (zb r27.1) <|
        some (r27.1, r27.2)))
    else
      ((m_X3_readAny N Λ fA μ v0 (v1 + 1)).bind fun r30 =>
      if r30.1 = 0 then
        (jn_X3_readAtom_114 N Λ fA r30.2)
      else
        ((m_X7_takeSign N Λ r30.2 v0 41).bind fun r33 =>
        if r33.1 = 0 then
          (jn_X3_readAtom_114 N Λ fA r33.2)
        else
          (jn_X3_readAtom_115 N Λ fA r33.2 1))))
  else
    ((fA μ v0 (v1 + 1)).bind fun r36 =>
    if r36.1 = 0 then
      (jn_X3_readAtom_84 N Λ fA r36.2)
    else
      ((dr Λ v0 7 2).bind fun q39 =>
      (m_X2_add N Λ r36.2 q39 (-11)).bind fun r41 =>
      if r41.1 = 0 then
        (jn_X3_readAtom_84 N Λ fA r41.2)
      else
        (jn_X3_readAtom_85 N Λ fA r41.2 1)))
def jn_X3_readAtom_41 (N : Nat) (Λ : Lay) (fA : Mem → Nat → Int32 → Option (Int32 × Mem)) (μ : Mem) (v0 : Nat) (v1 : Int32) (v2 : Int32) (v3 : Int32) (v4 : Int32) : Option (Int32 × Mem) :=
  if v1 < 6 then
    (jn_X3_readAtom_54 N Λ fA μ v0 v1 v3 v4)
  else
    (lt (mset μ v0 1 v2) fun μ2 =>
    some (0, μ2))
def jn_X3_readAtom_30 (N : Nat) (Λ : Lay) (fA : Mem → Nat → Int32 → Option (Int32 × Mem)) (μ : Mem) (v0 : Nat) (v1 : Int32) (v2 : Int32) (v3 : Int32) (s0 : Int32) : Option (Int32 × Mem) :=
  if v3 = 0 then
    (if s0 = 0 then
      (jn_X3_readAtom_54 N Λ fA μ v0 v1 v3 s0)
    else
      (jn_X3_readAtom_41 N Λ fA μ v0 v1 v2 v3 s0))
  else
    (jn_X3_readAtom_41 N Λ fA μ v0 v1 v2 v3 s0)
def jn_X3_readAtom_29 (N : Nat) (Λ : Lay) (fA : Mem → Nat → Int32 → Option (Int32 × Mem)) (μ : Mem) (v0 : Nat) (v1 : Int32) (v2 : Int32) (v3 : Int32) : Option (Int32 × Mem) :=
  jn_X3_readAtom_30 N Λ fA μ v0 v1 v2 v3 0
def o_X3_readAtom (N : Nat) (Λ : Lay) (fA : Mem → Nat → Int32 → Option (Int32 × Mem)) (μ : Mem) (v0 : Nat) (v1 : Int32) : Option (Int32 × Mem) :=
  lt (μ.1 v0 1) fun y1 =>
  (m_X7_takeWord N Λ μ v0 13).bind fun r3 =>
  if r3.1 = 0 then
    ((m_X7_takeSign N Λ r3.2 v0 40).bind fun r6 =>
    if r6.1 = 0 then
      (jn_X3_readAtom_29 N Λ fA r6.2 v0 v1 y1 r3.1)
    else
      (jn_X3_readAtom_30 N Λ fA r6.2 v0 v1 y1 r3.1 1))
  else
    (jn_X3_readAtom_29 N Λ fA r3.2 v0 v1 y1 r3.1)
def m_X3_readAtom (N : Nat) (Λ : Lay) : Nat → Mem → Nat → Int32 → Option (Int32 × Mem)
  | 0, _, _, _ => none
  | d + 1, μ, v0, v1 => o_X3_readAtom N Λ (m_X3_readAtom N Λ d) μ v0 v1
def jn_X3_readLine_20 (N : Nat) (Λ : Lay) (μ : Mem) : Option (Int32 × Mem) :=
  some (0, μ)
def jn_X3_readLine_53 (N : Nat) (Λ : Lay) (μ : Mem) (v0 : Nat) : Option (Int32 × Mem) :=
  (dr Λ v0 7 2).bind fun q1 =>
  (m_X2_endLine N Λ μ q1).bind fun r3 =>
  some (1, r3)
def m_X3_readLine (N : Nat) (Λ : Lay) (μ : Mem) (v0 : Nat) : Option (Int32 × Mem) :=
  (m_X3_takeKind N Λ μ v0).bind fun r1 =>
  if r1.1 = (-1) then
    (jn_X3_readLine_20 N Λ r1.2)
  else
    ((m_X7_takeNumber N Λ r1.2 v0 0 40).bind fun r4 =>
    if r4.1 = 0 then
      (jn_X3_readLine_20 N Λ r4.2)
    else
      ((dr Λ v0 7 2).bind fun q7 =>
      (m_X2_beginLine N Λ r4.2 q7 r1.1 (r4.2.1 v0 2)).bind fun r9 =>
      (m_X7_takeWord N Λ r9 v0 9).bind fun r11 =>
      if r11.1 = 0 then
        (jn_X3_readLine_53 N Λ r11.2 v0)
      else
        ((m_X3_readAny N Λ (m_X3_readAtom N Λ 8) r11.2 v0 0).bind fun r14 =>
        if r14.1 = 0 then
          (some (0, r14.2))
        else
          (jn_X3_readLine_53 N Λ r14.2 v0))))
def m_X4_copy (N : Nat) (Λ : Lay) (μ : Mem) (v0 : Nat) (v1 : Nat) : Option (Mem) :=
  lt (mset μ v0 0 (μ.1 v1 0)) fun μ1 =>
  lt (mset μ1 v0 1 (μ1.1 v1 1)) fun μ3 =>
  (dr Λ v1 2 13).bind fun q5 =>
  (dr Λ v0 2 13).bind fun q7 =>
  gd (cpyOk Λ q5 q7 0 0 300) <|
  lt (mrow μ3 q7 (va_cpy (μ3.1 q5) (μ3.1 q7) (0 : Int32).toNatClampNeg (0 : Int32).toNatClampNeg (300 : Int32).toNatClampNeg)) fun μ10 =>
  some μ10
def m_X4_add (N : Nat) (Λ : Lay) (μ : Mem) (v0 : Nat) (v1 : Int32) (v2 : Int32) (v3 : Int32) (v4 : Int32) (v5 : Int32) : Option (Mem) :=
  lt ((μ.1 v0 1) * 5) fun y1 =>
  (dr Λ v0 2 13).bind fun q3 =>
  gd (inb y1 (aZ Λ q3)) <|
  lt (mset μ q3 y1.toNatClampNeg v1) fun μ6 =>
  (dr Λ v0 2 13).bind fun q8 =>
  gd (inb (y1 + 1) (aZ Λ q8)) <|
  lt (mset μ6 q8 (y1 + 1).toNatClampNeg v2) fun μ11 =>
  (dr Λ v0 2 13).bind fun q13 =>
  gd (inb (y1 + 2) (aZ Λ q13)) <|
  lt (mset μ11 q13 (y1 + 2).toNatClampNeg v3) fun μ16 =>
  (dr Λ v0 2 13).bind fun q18 =>
  gd (inb (y1 + 3) (aZ Λ q18)) <|
  lt (mset μ16 q18 (y1 + 3).toNatClampNeg v4) fun μ21 =>
  (dr Λ v0 2 13).bind fun q23 =>
  gd (inb (y1 + 4) (aZ Λ q23)) <|
  lt (mset μ21 q23 (y1 + 4).toNatClampNeg v5) fun μ26 =>
  lt (mset μ26 v0 1 (irem ((μ26.1 v0 1) + 1) 60)) fun μ28 =>
  lt (mset μ28 v0 0 (imin ((μ28.1 v0 0) + 1) 60)) fun μ30 =>
  some μ30
def jn_X4_cell_21 (N : Nat) (Λ : Lay) (μ : Mem) : Option (Int32) :=
  some (-1)
def m_X4_cell (N : Nat) (Λ : Lay) (μ : Mem) (v0 : Nat) (v1 : Int32) (v2 : Int32) : Option (Int32) :=
  if v1 < 0 then
    (jn_X4_cell_21 N Λ μ)
  else
    (if (μ.1 v0 0) ≤ v1 then
      (jn_X4_cell_21 N Λ μ)
    else
      (if v2 < 0 then
        (jn_X4_cell_21 N Λ μ)
      else
        (if v2 < 5 then
          ((dr Λ v0 2 13).bind fun q5 =>
          gd (inb (((irem ((((μ.1 v0 1) + 60) - 1) - v1) 60) * 5) + v2) (aZ Λ q5)) <|
          some (μ.1 q5 (((irem ((((μ.1 v0 1) + 60) - 1) - v1) 60) * 5) + v2).toNatClampNeg))
        else
          (jn_X4_cell_21 N Λ μ))))
def jn_X4_rowsOf_25 (N : Nat) (Λ : Lay) (μ : Mem) (k4 : Int32 × Int32 → Option (Int32)) (v0 : Nat) (v1 : Int32) (v2 : Int32) (v3 : Int32) : Option (Int32) :=
  lt (v3 + 1) fun y1 =>
  k4 (v2, y1)
def bd_X4_rowsOf_4 (N : Nat) (Λ : Lay) (μ : Mem) (k4 : Int32 × Int32 → Option (Int32)) (v0 : Nat) (v1 : Int32) (v2 : Int32) (v3 : Int32) : Option (Int32) :=
  if (μ.1 v0 0) ≤ v3 then
    (some v2)
  else
    ((m_X4_cell N Λ μ v0 v3 1).bind fun r2 =>
    if r2 = v1 then
      (lt (v2 + 1) fun y5 =>
      jn_X4_rowsOf_25 N Λ μ k4 v0 v1 y5 v3)
    else
      (jn_X4_rowsOf_25 N Λ μ k4 v0 v1 v2 v3))
def lp_X4_rowsOf_4 (N : Nat) (Λ : Lay) (μ : Mem) (v0 : Nat) (v1 : Int32) (s : Int32 × Int32) : Option (Int32) := cw (fun k s => bd_X4_rowsOf_4 N Λ μ k v0 v1 s.1 s.2) N s
def m_X4_rowsOf (N : Nat) (Λ : Lay) (μ : Mem) (v0 : Nat) (v1 : Int32) : Option (Int32) :=
  lp_X4_rowsOf_4 N Λ μ v0 v1 (0, 0)
def bd_X4_latestHourOf_2 (N : Nat) (Λ : Lay) (μ : Mem) (k2 : Int32 → Option (Int32)) (v0 : Nat) (v1 : Int32) (v2 : Int32) : Option (Int32) :=
  if (μ.1 v0 0) ≤ v2 then
    (some (-1))
  else
    ((m_X4_cell N Λ μ v0 v2 1).bind fun r2 =>
    if r2 = v1 then
      ((m_X4_cell N Λ μ v0 v2 0).bind fun r7 =>
      some r7)
    else
      (lt (v2 + 1) fun y5 =>
      k2 y5))
def lp_X4_latestHourOf_2 (N : Nat) (Λ : Lay) (μ : Mem) (v0 : Nat) (v1 : Int32) (s : Int32) : Option (Int32) := cw (fun k s => bd_X4_latestHourOf_2 N Λ μ k v0 v1 s) N s
def m_X4_latestHourOf (N : Nat) (Λ : Lay) (μ : Mem) (v0 : Nat) (v1 : Int32) : Option (Int32) :=
  lp_X4_latestHourOf_2 N Λ μ v0 v1 0
def m_X9_copy (N : Nat) (Λ : Lay) (μ : Mem) (v0 : Nat) (v1 : Nat) : Option (Mem) :=
  lt (mset μ v0 0 (μ.1 v1 0)) fun μ1 =>
  lt (mset μ1 v0 1 (μ1.1 v1 1)) fun μ3 =>
  lt (mset μ3 v0 2 (μ3.1 v1 2)) fun μ5 =>
  lt (mset μ5 v0 3 (μ5.1 v1 3)) fun μ7 =>
  lt (mset μ7 v0 4 (μ7.1 v1 4)) fun μ9 =>
  lt (mset μ9 v0 5 (μ9.1 v1 5)) fun μ11 =>
  lt (mset μ11 v0 6 (μ11.1 v1 6)) fun μ13 =>
  lt (mset μ13 v0 7 (μ13.1 v1 7)) fun μ15 =>
  lt (mset μ15 v0 8 (μ15.1 v1 8)) fun μ17 =>
  lt (mset μ17 v0 9 (μ17.1 v1 9)) fun μ19 =>
  lt (mset μ19 v0 10 (μ19.1 v1 10)) fun μ21 =>
  gd (zb (μ21.1 v1 11)) <|
  lt (mset μ21 v0 11 (μ21.1 v1 11)) fun μ24 =>
  (dr Λ v1 12 13).bind fun q26 =>
  (dr Λ v0 12 13).bind fun q28 =>
  gd (cpyOk Λ q26 q28 0 0 12) <|
  lt (mrow μ24 q28 (va_cpy (μ24.1 q26) (μ24.1 q28) (0 : Int32).toNatClampNeg (0 : Int32).toNatClampNeg (12 : Int32).toNatClampNeg)) fun μ31 =>
  (dr Λ v1 13 13).bind fun q33 =>
  (dr Λ v0 13 13).bind fun q35 =>
  gd (cpyOk Λ q33 q35 0 0 8) <|
  lt (mrow μ31 q35 (va_cpy (μ31.1 q33) (μ31.1 q35) (0 : Int32).toNatClampNeg (0 : Int32).toNatClampNeg (8 : Int32).toNatClampNeg)) fun μ38 =>
  (dr Λ v1 14 13).bind fun q40 =>
  (dr Λ v0 14 13).bind fun q42 =>
  gd (cpyOk Λ q40 q42 0 0 8) <|
  lt (mrow μ38 q42 (va_cpy (μ38.1 q40) (μ38.1 q42) (0 : Int32).toNatClampNeg (0 : Int32).toNatClampNeg (8 : Int32).toNatClampNeg)) fun μ45 =>
  (dr Λ v1 15 13).bind fun q47 =>
  (dr Λ v0 15 13).bind fun q49 =>
  gd (cpyOk Λ q47 q49 0 0 8) <|
  lt (mrow μ45 q49 (va_cpy (μ45.1 q47) (μ45.1 q49) (0 : Int32).toNatClampNeg (0 : Int32).toNatClampNeg (8 : Int32).toNatClampNeg)) fun μ52 =>
  (dr Λ v1 16 13).bind fun q54 =>
  (dr Λ v0 16 13).bind fun q56 =>
  gd (cpyOk Λ q54 q56 0 0 8) <|
  lt (mrow μ52 q56 (va_cpy (μ52.1 q54) (μ52.1 q56) (0 : Int32).toNatClampNeg (0 : Int32).toNatClampNeg (8 : Int32).toNatClampNeg)) fun μ59 =>
  (dr Λ v1 17 13).bind fun q61 =>
  (dr Λ v0 17 13).bind fun q63 =>
  gd (cpyOk Λ q61 q63 0 0 8) <|
  lt (mrow μ59 q63 (va_cpy (μ59.1 q61) (μ59.1 q63) (0 : Int32).toNatClampNeg (0 : Int32).toNatClampNeg (8 : Int32).toNatClampNeg)) fun μ66 =>
  (dr Λ v0 18 4).bind fun q68 =>
  (dr Λ v1 18 4).bind fun q70 =>
  (m_X4_copy N Λ μ66 q68 q70).bind fun r72 =>
  some r72
def m_X5_remember (N : Nat) (Λ : Lay) (μ : Mem) (v0 : Nat) (v1 : Nat) : Option (Mem) :=
  (dr Λ v0 2 16).bind fun q1 =>
  gd (inb (μ.1 v0 1) (aZ Λ q1)) <|
  (dr Λ q1 (μ.1 v0 1).toNatClampNeg 8).bind fun q4 =>
  (m_X9_copy N Λ μ q4 v1).bind fun r6 =>
  lt (mset r6 v0 1 (irem ((r6.1 v0 1) + 1) 12)) fun μ8 =>
  lt (mset μ8 v0 0 (imin ((μ8.1 v0 0) + 1) 12)) fun μ10 =>
  some μ10
def m_X5_recall (N : Nat) (Λ : Lay) (μ : Mem) (v0 : Nat) (v1 : Nat) : Option (Int32 × Mem) :=
  if (μ.1 v0 0) = 0 then
    (some (0, μ))
  else
    (lt (mset μ v0 1 (irem (((μ.1 v0 1) + 12) - 1) 12)) fun μ2 =>
    lt (mset μ2 v0 0 ((μ2.1 v0 0) - 1)) fun μ4 =>
    (dr Λ v0 2 16).bind fun q6 =>
    gd (inb (μ4.1 v0 1) (aZ Λ q6)) <|
    (dr Λ q6 (μ4.1 v0 1).toNatClampNeg 8).bind fun q9 =>
    (m_X9_copy N Λ μ4 v1 q9).bind fun r11 =>
    some (1, r11))
def m_X5_forget (N : Nat) (Λ : Lay) (μ : Mem) (v0 : Nat) : Option (Mem) :=
  lt (mset μ v0 0 0) fun μ1 =>
  some μ1
def jn_X6_findBins_86 (N : Nat) (Λ : Lay) (μ : Mem) (k9 : Int32 × Int32 × Mem → Option (Mem)) (v0 : Nat) (v1 : Int32) (v3 : Int32) (s0 : Int32) : Option (Mem) :=
  lt (v3 + 1) fun y1 =>
  k9 (s0, y1, μ)
def jn_X6_findBins_74 (N : Nat) (Λ : Lay) (μ : Mem) (k9 : Int32 × Int32 × Mem → Option (Mem)) (v0 : Nat) (v1 : Int32) (v2 : Int32) (v3 : Int32) (v4 : Int32) : Option (Mem) :=
  if v4 = 0 then
    (jn_X6_findBins_86 N Λ μ k9 v0 v1 v3 0)
  else
    (jn_X6_findBins_86 N Λ μ k9 v0 v1 v3 (v2 + 1))
def jn_X6_findBins_34 (N : Nat) (Λ : Lay) (μ : Mem) (k9 : Int32 × Int32 × Mem → Option (Mem)) (v0 : Nat) (v1 : Int32) (v2 : Int32) (v3 : Int32) (s0 : Int32) : Option (Mem) :=
  if s0 = 0 then
    (if v2 ≤ 0 then
      (jn_X6_findBins_74 N Λ μ k9 v0 v1 v2 v3 s0)
    else
      (if 24 ≤ (μ.1 v0 3) then
        (jn_X6_findBins_74 N Λ μ k9 v0 v1 v2 v3 s0)
      else
        ((dr Λ v0 4 13).bind fun q4 =>
        gd (inb (μ.1 v0 3) (aZ Λ q4)) <|
        lt (mset μ q4 (μ.1 v0 3).toNatClampNeg v2) fun μ7 =>
        lt (mset μ7 v0 3 ((μ7.1 v0 3) + 1)) fun μ9 =>
        jn_X6_findBins_74 N Λ μ9 k9 v0 v1 v2 v3 s0)))
  else
    (jn_X6_findBins_74 N Λ μ k9 v0 v1 v2 v3 s0)
def jn_X6_findBins_33 (N : Nat) (Λ : Lay) (μ : Mem) (k9 : Int32 × Int32 × Mem → Option (Mem)) (v0 : Nat) (v1 : Int32) (v2 : Int32) (v3 : Int32) : Option (Mem) :=
  jn_X6_findBins_34 N Λ μ k9 v0 v1 v2 v3 0
def bd_X6_findBins_9 (N : Nat) (Λ : Lay) (μ : Mem) (k9 : Int32 × Int32 × Mem → Option (Mem)) (v0 : Nat) (v1 : Int32) (v2 : Int32) (v3 : Int32) : Option (Mem) :=
  if 24 < v3 then
    (some μ)
  else
    (if 24 ≤ v3 then
      (jn_X6_findBins_33 N Λ μ k9 v0 v1 v2 v3)
    else
      (if ((ishr v1 v3) &&& 1) = 0 then
        (jn_X6_findBins_34 N Λ μ k9 v0 v1 v2 v3 1)
      else
        (jn_X6_findBins_33 N Λ μ k9 v0 v1 v2 v3)))
def lp_X6_findBins_9 (N : Nat) (Λ : Lay) (v0 : Nat) (v1 : Int32) (s : Int32 × Int32 × Mem) : Option (Mem) := cw (fun k s => bd_X6_findBins_9 N Λ (s.2.2) k v0 v1 s.1 s.2.1) N s
def m_X6_findBins (N : Nat) (Λ : Lay) (μ : Mem) (v0 : Nat) (v1 : Int32) : Option (Mem) :=
  lt (mset μ v0 3 0) fun μ1 =>
  lp_X6_findBins_9 N Λ v0 v1 (0, 0, μ1)
def m_X9_feeOf (N : Nat) (Λ : Lay) (μ : Mem) (v0 : Nat) (v1 : Int32) (v2 : Nat) : Option (Int32 × Mem) :=
  (dr Λ v0 13 13).bind fun q1 =>
  gd (inb v1 (aZ Λ q1)) <|
  (m_X2_sumOf N Λ μ v2 2 v0 v1).bind fun r4 =>
  some ((3 * (μ.1 q1 v1.toNatClampNeg)) + r4.1, r4.2)
def jn_X6_findFees_31 (N : Nat) (Λ : Lay) (μ : Mem) (k2 : Int32 × Mem → Option (Mem)) (v0 : Nat) (v1 : Nat) (v2 : Nat) (v3 : Int32) (s0 : Nat) (s1 : Int32) (s2 : Int32) : Option (Mem) :=
  gd (inb s1 (aZ Λ s0)) <|
  lt (mset μ s0 s1.toNatClampNeg s2) fun μ2 =>
  lt (v3 + 1) fun y4 =>
  k2 (y4, μ2)
def bd_X6_findFees_2 (N : Nat) (Λ : Lay) (μ : Mem) (k2 : Int32 × Mem → Option (Mem)) (v0 : Nat) (v1 : Nat) (v2 : Nat) (v3 : Int32) : Option (Mem) :=
  if 8 ≤ v3 then
    (some μ)
  else
    ((dr Λ v0 5 13).bind fun q2 =>
    if (μ.1 v1 8) ≤ v3 then
      (jn_X6_findFees_31 N Λ μ k2 v0 v1 v2 v3 q2 v3 0)
    else
      ((m_X9_feeOf N Λ μ v1 v3 v2).bind fun r5 =>
      jn_X6_findFees_31 N Λ r5.2 k2 v0 v1 v2 v3 q2 v3 r5.1))
def lp_X6_findFees_2 (N : Nat) (Λ : Lay) (v0 : Nat) (v1 : Nat) (v2 : Nat) (s : Int32 × Mem) : Option (Mem) := cw (fun k s => bd_X6_findFees_2 N Λ (s.2) k v0 v1 v2 s.1) N s
def m_X6_findFees (N : Nat) (Λ : Lay) (μ : Mem) (v0 : Nat) (v1 : Nat) (v2 : Nat) : Option (Mem) :=
  lp_X6_findFees_2 N Λ v0 v1 v2 (0, μ)
def bd_X6_filledBy_11 (N : Nat) (Λ : Lay) (μ : Mem) (k11 : Int32 × Int32 → Option (Int32)) (v0 : Nat) (v2 : Int32) (v3 : Int32) (v4 : Int32) : Option (Int32) :=
  if (μ.1 v0 3) ≤ v4 then
    (some 1048576)
  else
    ((dr Λ v0 4 13).bind fun q2 =>
    gd (inb v4 (aZ Λ q2)) <|
    if (μ.1 q2 v4.toNatClampNeg) < (v3 + v2) then
      (lt (v4 + 1) fun y6 =>
      k11 (0, y6))
    else
      (some (((v4 * 32) + v3) + v2)))
def lp_X6_filledBy_11 (N : Nat) (Λ : Lay) (μ : Mem) (v0 : Nat) (v2 : Int32) (s : Int32 × Int32) : Option (Int32) := cw (fun k s => bd_X6_filledBy_11 N Λ μ k v0 v2 s.1 s.2) N s
def m_X6_filledBy (N : Nat) (Λ : Lay) (μ : Mem) (v0 : Nat) (v1 : Int32) (v2 : Int32) : Option (Int32) :=
  lt (irem v1 32) fun y1 =>
  lt (v1 / 32) fun y3 =>
  lp_X6_filledBy_11 N Λ μ v0 v2 (y1, y3)
def jn_X6_leastFilling_50 (N : Nat) (Λ : Lay) (μ : Mem) (k6 : Int32 × Int32 → Option (Int32)) (v0 : Nat) (v1 : Int32) (v2 : Nat) (v3 : Int32) (v4 : Int32) : Option (Int32) :=
  lt (v4 + 1) fun y1 =>
  k6 (v3, y1)
def bd_X6_leastFilling_6 (N : Nat) (Λ : Lay) (μ : Mem) (k6 : Int32 × Int32 → Option (Int32)) (v0 : Nat) (v1 : Int32) (v2 : Nat) (v3 : Int32) (v4 : Int32) : Option (Int32) :=
  if 8 ≤ v4 then
    (some v3)
  else
    (if ((ishr v1 v4) &&& 1) = 1 then
      ((dr Λ v0 6 13).bind fun q3 =>
      gd (inb (v1 ^^^ (ishl 1 v4)) (aZ Λ q3)) <|
      (dr Λ v2 13 13).bind fun q6 =>
      gd (inb v4 (aZ Λ q6)) <|
      (m_X6_filledBy N Λ μ v0 (μ.1 q3 (v1 ^^^ (ishl 1 v4)).toNatClampNeg) (μ.1 q6 v4.toNatClampNeg)).bind fun r9 =>
      lt (imin v3 r9) fun y11 =>
      jn_X6_leastFilling_50 N Λ μ k6 v0 v1 v2 y11 v4)
    else
      (jn_X6_leastFilling_50 N Λ μ k6 v0 v1 v2 v3 v4))
def lp_X6_leastFilling_6 (N : Nat) (Λ : Lay) (μ : Mem) (v0 : Nat) (v1 : Int32) (v2 : Nat) (s : Int32 × Int32) : Option (Int32) := cw (fun k s => bd_X6_leastFilling_6 N Λ μ k v0 v1 v2 s.1 s.2) N s
def m_X6_leastFilling (N : Nat) (Λ : Lay) (μ : Mem) (v0 : Nat) (v1 : Int32) (v2 : Nat) : Option (Int32) :=
  lp_X6_leastFilling_6 N Λ μ v0 v1 v2 (1048576, 0)
def bd_X6_feesOf_4 (N : Nat) (Λ : Lay) (μ : Mem) (k4 : Int32 × Int32 → Option (Int32)) (v0 : Nat) (v1 : Int32) (v2 : Int32) (v3 : Int32) : Option (Int32) :=
  if 8 ≤ v3 then
    (some v2)
  else
    ((dr Λ v0 5 13).bind fun q2 =>
    gd (inb v3 (aZ Λ q2)) <|
    lt (v2 + (((ishr v1 v3) &&& 1) * (μ.1 q2 v3.toNatClampNeg))) fun y5 =>
    lt (v3 + 1) fun y7 =>
    k4 (y5, y7))
def lp_X6_feesOf_4 (N : Nat) (Λ : Lay) (μ : Mem) (v0 : Nat) (v1 : Int32) (s : Int32 × Int32) : Option (Int32) := cw (fun k s => bd_X6_feesOf_4 N Λ μ k v0 v1 s.1 s.2) N s
def m_X6_feesOf (N : Nat) (Λ : Lay) (μ : Mem) (v0 : Nat) (v1 : Int32) : Option (Int32) :=
  lp_X6_feesOf_4 N Λ μ v0 v1 (0, 0)
def jn_X6_fillDock_61 (N : Nat) (Λ : Lay) (μ : Mem) (k19 : Int32 × Int32 × Mem → Option (Mem)) (v0 : Nat) (v1 : Nat) (v4 : Int32) (s0 : Int32) (s1 : Int32) : Option (Mem) :=
  lt (s0 ||| s1) fun y1 =>
  lt (v4 + 1) fun y3 =>
  k19 (y1, y3, μ)
def jn_X6_fillDock_60 (N : Nat) (Λ : Lay) (μ : Mem) (k19 : Int32 × Int32 × Mem → Option (Mem)) (v0 : Nat) (v1 : Nat) (v4 : Int32) (s0 : Int32) : Option (Mem) :=
  jn_X6_fillDock_61 N Λ μ k19 v0 v1 v4 s0 0
def jn_X6_fillDock_166 (N : Nat) (Λ : Lay) (μ : Mem) (k89 : Int32 × Mem → Option (Mem)) (v0 : Nat) (v1 : Nat) (v3 : Int32) (v4 : Int32) : Option (Mem) :=
  lt (v4 + 1) fun y1 =>
  k89 (y1, μ)
def jn_X6_fillDock_124 (N : Nat) (Λ : Lay) (μ : Mem) (k89 : Int32 × Mem → Option (Mem)) (v0 : Nat) (v1 : Nat) (v3 : Int32) (v4 : Int32) (s0 : Nat) (s1 : Int32) (s2 : Int32) : Option (Mem) :=
  gd (inb s1 (aZ Λ s0)) <|
  lt (mset μ s0 s1.toNatClampNeg s2) fun μ2 =>
  (dr Λ v0 6 13).bind fun q4 =>
  gd (inb v4 (aZ Λ q4)) <|
  if (μ2.1 q4 v4.toNatClampNeg) = 1048576 then
    (jn_X6_fillDock_166 N Λ μ2 k89 v0 v1 v3 v4)
  else
    ((m_X6_feesOf N Λ μ2 v0 v4).bind fun r8 =>
    if r8 ≤ (μ2.1 v0 0) then
      (jn_X6_fillDock_166 N Λ μ2 k89 v0 v1 v3 v4)
    else
      ((m_X6_feesOf N Λ μ2 v0 v4).bind fun r11 =>
      lt (mset μ2 v0 0 r11) fun μ13 =>
      lt (mset μ13 v0 1 v4) fun μ15 =>
      jn_X6_fillDock_166 N Λ μ15 k89 v0 v1 v3 v4))
def bd_X6_fillDock_89 (N : Nat) (Λ : Lay) (μ : Mem) (k89 : Int32 × Mem → Option (Mem)) (v0 : Nat) (v1 : Nat) (v3 : Int32) (v4 : Int32) : Option (Mem) :=
  if 256 ≤ v4 then
    (some μ)
  else
    ((dr Λ v0 6 13).bind fun q2 =>
    if (v4 &&& (v3 ^^^ (-1))) = 0 then
      ((m_X6_leastFilling N Λ μ v0 v4 v1).bind fun r5 =>
      jn_X6_fillDock_124 N Λ μ k89 v0 v1 v3 v4 q2 v4 r5)
    else
      (jn_X6_fillDock_124 N Λ μ k89 v0 v1 v3 v4 q2 v4 1048576))
def lp_X6_fillDock_89 (N : Nat) (Λ : Lay) (v0 : Nat) (v1 : Nat) (v3 : Int32) (s : Int32 × Mem) : Option (Mem) := cw (fun k s => bd_X6_fillDock_89 N Λ (s.2) k v0 v1 v3 s.1) N s
def bd_X6_fillDock_19 (N : Nat) (Λ : Lay) (μ : Mem) (k19 : Int32 × Int32 × Mem → Option (Mem)) (v0 : Nat) (v1 : Nat) (v3 : Int32) (v4 : Int32) : Option (Mem) :=
  if (μ.1 v1 8) ≤ v4 then
    (lt (mset μ v0 0 0) fun μ2 =>
    lt (mset μ2 v0 1 0) fun μ4 =>
    (dr Λ v0 6 13).bind fun q6 =>
    gd (inb 0 (aZ Λ q6)) <|
    lt (mset μ4 q6 (0 : Int32).toNatClampNeg 0) fun μ9 =>
    lp_X6_fillDock_89 N Λ v0 v1 v3 (1, μ9))
  else
    ((dr Λ v1 16 13).bind fun q11 =>
    gd (inb v4 (aZ Λ q11)) <|
    if (μ.1 q11 v4.toNatClampNeg) = 0 then
      ((dr Λ v1 14 13).bind fun q15 =>
      gd (inb v4 (aZ Λ q15)) <|
      if (μ.1 v1 0) < (μ.1 q15 v4.toNatClampNeg) then
        (jn_X6_fillDock_60 N Λ μ k19 v0 v1 v4 v3)
      else
        (jn_X6_fillDock_61 N Λ μ k19 v0 v1 v4 v3 (ishl 1 v4)))
    else
      (jn_X6_fillDock_60 N Λ μ k19 v0 v1 v4 v3))
def lp_X6_fillDock_19 (N : Nat) (Λ : Lay) (v0 : Nat) (v1 : Nat) (s : Int32 × Int32 × Mem) : Option (Mem) := cw (fun k s => bd_X6_fillDock_19 N Λ (s.2.2) k v0 v1 s.1 s.2.1) N s
def m_X6_fillDock (N : Nat) (Λ : Lay) (μ : Mem) (v0 : Nat) (v1 : Nat) (v2 : Nat) : Option (Mem) :=
  (m_X9_takenPlaces N Λ μ v1).bind fun r1 =>
  (m_X6_findBins N Λ μ v0 r1).bind fun r3 =>
  (m_X6_findFees N Λ r3 v0 v1 v2).bind fun r5 =>
  lp_X6_fillDock_19 N Λ v0 v1 (0, 0, r5)
def jn_X9_busyDocked_39 (N : Nat) (Λ : Lay) (μ : Mem) (k4 : Int32 × Int32 → Option (Int32)) (v0 : Nat) (v2 : Int32) (s0 : Int32) (s1 : Int32) : Option (Int32) :=
  lt (s0 ||| s1) fun y1 =>
  lt (v2 + 1) fun y3 =>
  k4 (y1, y3)
def jn_X9_busyDocked_38 (N : Nat) (Λ : Lay) (μ : Mem) (k4 : Int32 × Int32 → Option (Int32)) (v0 : Nat) (v2 : Int32) (s0 : Int32) : Option (Int32) :=
  jn_X9_busyDocked_39 N Λ μ k4 v0 v2 s0 0
def bd_X9_busyDocked_4 (N : Nat) (Λ : Lay) (μ : Mem) (k4 : Int32 × Int32 → Option (Int32)) (v0 : Nat) (v1 : Int32) (v2 : Int32) : Option (Int32) :=
  if (μ.1 v0 8) ≤ v2 then
    (some v1)
  else
    ((dr Λ v0 16 13).bind fun q2 =>
    gd (inb v2 (aZ Λ q2)) <|
    if (μ.1 q2 v2.toNatClampNeg) = 1 then
      ((dr Λ v0 15 13).bind fun q6 =>
      gd (inb v2 (aZ Λ q6)) <|
      if (μ.1 q6 v2.toNatClampNeg) ≤ 0 then
        (jn_X9_busyDocked_38 N Λ μ k4 v0 v2 v1)
      else
        (jn_X9_busyDocked_39 N Λ μ k4 v0 v2 v1 (ishl 1 v2)))
    else
      (jn_X9_busyDocked_38 N Λ μ k4 v0 v2 v1))
def lp_X9_busyDocked_4 (N : Nat) (Λ : Lay) (μ : Mem) (v0 : Nat) (s : Int32 × Int32) : Option (Int32) := cw (fun k s => bd_X9_busyDocked_4 N Λ μ k v0 s.1 s.2) N s
def m_X9_busyDocked (N : Nat) (Λ : Lay) (μ : Mem) (v0 : Nat) : Option (Int32) :=
  lp_X9_busyDocked_4 N Λ μ v0 (0, 0)
def jn_X6_roundedUp_15 (N : Nat) (Λ : Lay) (μ : Mem) (s0 : Int32) : Option (Int32) :=
  some s0
def m_X6_roundedUp (N : Nat) (Λ : Lay) (μ : Mem) (v0 : Int32) (v1 : Int32) : Option (Int32) :=
  if v1 ≤ 0 then
    (jn_X6_roundedUp_15 N Λ μ 0)
  else
    (gd (decide (¬ v1 = 0)) <|
    jn_X6_roundedUp_15 N Λ μ (((v0 + v1) - 1) / v1))
def jn_X6_orderRest_143 (N : Nat) (Λ : Lay) (μ : Mem) (k46 : Int32 × Mem → Option (Mem)) (v0 : Nat) (v1 : Int32) (v2 : Int32) (v3 : Nat) (v4 : Int32) (v5 : Int32) : Option (Mem) :=
  lt (v5 + 1) fun y1 =>
  k46 (y1, μ)
def jn_X6_orderRest_129 (N : Nat) (Λ : Lay) (μ : Mem) (k46 : Int32 × Mem → Option (Mem)) (v0 : Nat) (v1 : Int32) (v2 : Int32) (v3 : Nat) (v4 : Int32) (v5 : Int32) (v7 : Int32) : Option (Mem) :=
  (dr Λ v0 6 13).bind fun q1 =>
  gd (inb v1 (aZ Λ q1)) <|
  lt (mset μ q1 v1.toNatClampNeg v7) fun μ4 =>
  lt (mset μ4 v0 1 v5) fun μ6 =>
  jn_X6_orderRest_143 N Λ μ6 k46 v0 v1 v2 v3 v4 v5
def bd_X6_orderRest_46 (N : Nat) (Λ : Lay) (μ : Mem) (k46 : Int32 × Mem → Option (Mem)) (v0 : Nat) (v1 : Int32) (v2 : Int32) (v3 : Nat) (v4 : Int32) (v5 : Int32) : Option (Mem) :=
  if 8 ≤ v5 then
    (some μ)
  else
    (if ((ishr (v2 &&& (v1 ^^^ (-1))) v5) &&& 1) = 1 then
      ((dr Λ v3 15 13).bind fun q3 =>
      gd (inb v5 (aZ Λ q3)) <|
      (m_X6_roundedUp N Λ μ (v4 + (μ.1 q3 v5.toNatClampNeg)) (μ.1 v3 3)).bind fun r6 =>
      (dr Λ v0 5 13).bind fun q8 =>
      gd (inb v5 (aZ Λ q8)) <|
      (dr Λ v0 6 13).bind fun q11 =>
      gd (inb (v1 ||| (ishl 1 v5)) (aZ Λ q11)) <|
      lt (((μ.1 q8 v5.toNatClampNeg) * r6) + (μ.1 q11 (v1 ||| (ishl 1 v5)).toNatClampNeg)) fun y14 =>
      if (μ.1 v0 1) = (-1) then
        (jn_X6_orderRest_129 N Λ μ k46 v0 v1 v2 v3 v4 v5 y14)
      else
        ((dr Λ v0 6 13).bind fun q17 =>
        gd (inb v1 (aZ Λ q17)) <|
        if (μ.1 q17 v1.toNatClampNeg) ≤ y14 then
          (jn_X6_orderRest_143 N Λ μ k46 v0 v1 v2 v3 v4 v5)
        else
          (jn_X6_orderRest_129 N Λ μ k46 v0 v1 v2 v3 v4 v5 y14)))
    else
      (jn_X6_orderRest_143 N Λ μ k46 v0 v1 v2 v3 v4 v5))
def lp_X6_orderRest_46 (N : Nat) (Λ : Lay) (v0 : Nat) (v1 : Int32) (v2 : Int32) (v3 : Nat) (v4 : Int32) (s : Int32 × Mem) : Option (Mem) := cw (fun k s => bd_X6_orderRest_46 N Λ (s.2) k v0 v1 v2 v3 v4 s.1) N s
def bd_X6_orderRest_6 (N : Nat) (Λ : Lay) (μ : Mem) (k6 : Int32 × Int32 × Mem → Option (Mem)) (v0 : Nat) (v1 : Int32) (v2 : Int32) (v3 : Nat) (v4 : Int32) (v5 : Int32) : Option (Mem) :=
  if 8 ≤ v5 then
    (lt (mset μ v0 1 (-1)) fun μ2 =>
    lp_X6_orderRest_46 N Λ v0 v1 v2 v3 v4 (0, μ2))
  else
    ((dr Λ v3 15 13).bind fun q4 =>
    gd (inb v5 (aZ Λ q4)) <|
    lt (v4 + (((ishr v1 v5) &&& 1) * (μ.1 q4 v5.toNatClampNeg))) fun y7 =>
    lt (v5 + 1) fun y9 =>
    k6 (y7, y9, μ))
def lp_X6_orderRest_6 (N : Nat) (Λ : Lay) (v0 : Nat) (v1 : Int32) (v2 : Int32) (v3 : Nat) (s : Int32 × Int32 × Mem) : Option (Mem) := cw (fun k s => bd_X6_orderRest_6 N Λ (s.2.2) k v0 v1 v2 v3 s.1 s.2.1) N s
def m_X6_orderRest (N : Nat) (Λ : Lay) (μ : Mem) (v0 : Nat) (v1 : Int32) (v2 : Int32) (v3 : Nat) : Option (Mem) :=
  lp_X6_orderRest_6 N Λ v0 v1 v2 v3 (0, 0, μ)
def jn_X6_orderWork_73 (N : Nat) (Λ : Lay) (μ : Mem) (k51 : Int32 × Mem → Option (Mem)) (v0 : Nat) (v1 : Nat) (v3 : Int32) (v4 : Int32) : Option (Mem) :=
  lt (v4 + (-1)) fun y1 =>
  k51 (y1, μ)
def bd_X6_orderWork_51 (N : Nat) (Λ : Lay) (μ : Mem) (k51 : Int32 × Mem → Option (Mem)) (v0 : Nat) (v1 : Nat) (v3 : Int32) (v4 : Int32) : Option (Mem) :=
  if v4 < 0 then
    ((dr Λ v0 6 13).bind fun q2 =>
    gd (inb 0 (aZ Λ q2)) <|
    lt (mset μ v0 0 (μ.1 q2 (0 : Int32).toNatClampNeg)) fun μ5 =>
    some μ5)
  else
    (if (v4 &&& (v3 ^^^ (-1))) = 0 then
      ((m_X6_orderRest N Λ μ v0 v4 v3 v1).bind fun r8 =>
      jn_X6_orderWork_73 N Λ r8 k51 v0 v1 v3 v4)
    else
      (jn_X6_orderWork_73 N Λ μ k51 v0 v1 v3 v4))
def lp_X6_orderWork_51 (N : Nat) (Λ : Lay) (v0 : Nat) (v1 : Nat) (v3 : Int32) (s : Int32 × Mem) : Option (Mem) := cw (fun k s => bd_X6_orderWork_51 N Λ (s.2) k v0 v1 v3 s.1) N s
def m_X6_orderWork (N : Nat) (Λ : Lay) (μ : Mem) (v0 : Nat) (v1 : Nat) (v2 : Nat) : Option (Mem) :=
  (m_X9_busyDocked N Λ μ v1).bind fun r1 =>
  lt (mset μ v0 0 0) fun μ3 =>
  lt (mset μ3 v0 1 (-1)) fun μ5 =>
  if r1 = 0 then
    (some μ5)
  else
    (if 0 < (μ5.1 v1 3) then
      ((m_X6_findFees N Λ μ5 v0 v1 v2).bind fun r9 =>
      (dr Λ v0 6 13).bind fun q11 =>
      gd (inb r1 (aZ Λ q11)) <|
      lt (mset r9 q11 r1.toNatClampNeg 0) fun μ14 =>
      lt (r1 - 1) fun y16 =>
      lp_X6_orderWork_51 N Λ v0 v1 r1 (y16, μ14))
    else
      (lt (mset μ5 v0 0 (-1)) fun μ18 =>
      some μ18))
def m_X6_bed (N : Nat) (Λ : Lay) (μ : Mem) (v0 : Int32) (v1 : Int32) : Option (Int32) :=
  some ((v0 * 25) + v1)
def jn_X6_beddedAt_28 (N : Nat) (Λ : Lay) (μ : Mem) : Option (Int32) :=
  some (-1)
def m_X6_beddedAt (N : Nat) (Λ : Lay) (μ : Mem) (v0 : Nat) (v1 : Nat) (v2 : Int32) (v3 : Int32) (v4 : Int32) : Option (Int32) :=
  (dr Λ v1 13 13).bind fun q1 =>
  gd (inb v3 (aZ Λ q1)) <|
  lt (μ.1 q1 v3.toNatClampNeg) fun y4 =>
  (dr Λ v1 16 13).bind fun q6 =>
  gd (inb v3 (aZ Λ q6)) <|
  if (μ.1 q6 v3.toNatClampNeg) = 0 then
    ((m_X11_isRoom N Λ μ v2 v4 y4).bind fun r10 =>
    if r10 = 0 then
      (jn_X6_beddedAt_28 N Λ μ)
    else
      ((dr Λ v0 7 13).bind fun q13 =>
      (m_X6_bed N Λ μ (v3 + 1) (v4 + y4)).bind fun r15 =>
      gd (inb r15 (aZ Λ q13)) <|
      some (y4 + (μ.1 q13 r15.toNatClampNeg))))
  else
    (jn_X6_beddedAt_28 N Λ μ)
def jn_X6_findBeds_91 (N : Nat) (Λ : Lay) (μ : Mem) (k5 : Int32 × Int32 × Mem → Option (Mem)) (k38 : Int32 × Int32 × Mem → Option (Mem)) (v0 : Nat) (v1 : Nat) (v2 : Int32) (v3 : Int32) (v4 : Int32) (v5 : Int32) (v6 : Int32) : Option (Mem) :=
  lt (v6 + 1) fun y1 =>
  k38 (v3, y1, μ)
def jn_X6_findBeds_97 (N : Nat) (Λ : Lay) (μ : Mem) (k5 : Int32 × Int32 × Mem → Option (Mem)) (v0 : Nat) (v1 : Nat) (v2 : Int32) (v3 : Int32) (v4 : Int32) : Option (Mem) :=
  lt (v4 + 1) fun y1 =>
  k5 (v3, y1, μ)
def bd_X6_findBeds_38 (N : Nat) (Λ : Lay) (μ : Mem) (k5 : Int32 × Int32 × Mem → Option (Mem)) (k38 : Int32 × Int32 × Mem → Option (Mem)) (v0 : Nat) (v1 : Nat) (v2 : Int32) (v3 : Int32) (v4 : Int32) (v5 : Int32) (v6 : Int32) : Option (Mem) :=
  if 24 ≤ v6 then
    (jn_X6_findBeds_97 N Λ μ k5 v0 v1 v2 v3 v4)
  else
    ((dr Λ v0 2 13).bind fun q2 =>
    gd (inb v4 (aZ Λ q2)) <|
    if (μ.1 q2 v4.toNatClampNeg) = (-1) then
      ((m_X6_beddedAt N Λ μ v0 v1 v2 v4 v6).bind fun r6 =>
      if r6 = v5 then
        ((dr Λ v0 2 13).bind fun q9 =>
        gd (inb v4 (aZ Λ q9)) <|
        lt (mset μ q9 v4.toNatClampNeg v6) fun μ12 =>
        (dr Λ v1 13 13).bind fun q14 =>
        gd (inb v4 (aZ Λ q14)) <|
        lt (v6 + (μ12.1 q14 v4.toNatClampNeg)) fun y17 =>
        jn_X6_findBeds_91 N Λ μ12 k5 k38 v0 v1 v2 y17 v4 v5 v6)
      else
        (jn_X6_findBeds_91 N Λ μ k5 k38 v0 v1 v2 v3 v4 v5 v6))
    else
      (jn_X6_findBeds_97 N Λ μ k5 v0 v1 v2 v3 v4))
def lp_X6_findBeds_38 (N : Nat) (Λ : Lay) (k5 : Int32 × Int32 × Mem → Option (Mem)) (v0 : Nat) (v1 : Nat) (v2 : Int32) (v4 : Int32) (v5 : Int32) (s : Int32 × Int32 × Mem) : Option (Mem) := cw (fun k s => bd_X6_findBeds_38 N Λ (s.2.2) k5 k v0 v1 v2 s.1 v4 v5 s.2.1) N s
def bd_X6_findBeds_5 (N : Nat) (Λ : Lay) (μ : Mem) (k5 : Int32 × Int32 × Mem → Option (Mem)) (v0 : Nat) (v1 : Nat) (v2 : Int32) (v3 : Int32) (v4 : Int32) : Option (Mem) :=
  if (μ.1 v1 8) ≤ v4 then
    (some μ)
  else
    ((dr Λ v0 7 13).bind fun q2 =>
    (m_X6_bed N Λ μ v4 v3).bind fun r4 =>
    gd (inb r4 (aZ Λ q2)) <|
    lt (μ.1 q2 r4.toNatClampNeg) fun y7 =>
    (dr Λ v0 2 13).bind fun q9 =>
    gd (inb v4 (aZ Λ q9)) <|
    lt (mset μ q9 v4.toNatClampNeg (-1)) fun μ12 =>
    lp_X6_findBeds_38 N Λ k5 v0 v1 v2 v4 y7 (v3, v3, μ12))
def lp_X6_findBeds_5 (N : Nat) (Λ : Lay) (v0 : Nat) (v1 : Nat) (v2 : Int32) (s : Int32 × Int32 × Mem) : Option (Mem) := cw (fun k s => bd_X6_findBeds_5 N Λ (s.2.2) k v0 v1 v2 s.1 s.2.1) N s
def m_X6_findBeds (N : Nat) (Λ : Lay) (μ : Mem) (v0 : Nat) (v1 : Nat) (v2 : Int32) : Option (Mem) :=
  lp_X6_findBeds_5 N Λ v0 v1 v2 (0, 0, μ)
def jn_X6_putToBeds_86 (N : Nat) (Λ : Lay) (μ : Mem) (k34 : Int32 × Mem → Option (Mem)) (k42 : Int32 × Mem → Option (Mem)) (v0 : Nat) (v1 : Nat) (v2 : Int32) (v3 : Int32) (v4 : Int32) (v5 : Int32) (s0 : Int32) : Option (Mem) :=
  (m_X6_beddedAt N Λ μ v0 v1 v2 v3 v4).bind fun r1 =>
  (dr Λ v0 7 13).bind fun q3 =>
  (m_X6_bed N Λ μ v3 v4).bind fun r5 =>
  gd (inb r5 (aZ Λ q3)) <|
  lt (mset μ q3 r5.toNatClampNeg (imax v5 (imax s0 r1))) fun μ8 =>
  lt (v4 + (-1)) fun y10 =>
  k42 (y10, μ8)
def bd_X6_putToBeds_42 (N : Nat) (Λ : Lay) (μ : Mem) (k34 : Int32 × Mem → Option (Mem)) (k42 : Int32 × Mem → Option (Mem)) (v0 : Nat) (v1 : Nat) (v2 : Int32) (v3 : Int32) (v4 : Int32) : Option (Mem) :=
  if v4 < 0 then
    (lt (v3 + (-1)) fun y2 =>
    k34 (y2, μ))
  else
    ((dr Λ v0 7 13).bind fun q4 =>
    (m_X6_bed N Λ μ (v3 + 1) v4).bind fun r6 =>
    gd (inb r6 (aZ Λ q4)) <|
    lt (μ.1 q4 r6.toNatClampNeg) fun y9 =>
    if 24 ≤ v4 then
      (jn_X6_putToBeds_86 N Λ μ k34 k42 v0 v1 v2 v3 v4 y9 0)
    else
      ((dr Λ v0 7 13).bind fun q12 =>
      (m_X6_bed N Λ μ v3 (v4 + 1)).bind fun r14 =>
      gd (inb r14 (aZ Λ q12)) <|
      jn_X6_putToBeds_86 N Λ μ k34 k42 v0 v1 v2 v3 v4 y9 (μ.1 q12 r14.toNatClampNeg)))
def lp_X6_putToBeds_42 (N : Nat) (Λ : Lay) (k34 : Int32 × Mem → Option (Mem)) (v0 : Nat) (v1 : Nat) (v2 : Int32) (v3 : Int32) (s : Int32 × Mem) : Option (Mem) := cw (fun k s => bd_X6_putToBeds_42 N Λ (s.2) k34 k v0 v1 v2 v3 s.1) N s
def bd_X6_putToBeds_34 (N : Nat) (Λ : Lay) (μ : Mem) (k34 : Int32 × Mem → Option (Mem)) (v0 : Nat) (v1 : Nat) (v2 : Int32) (v3 : Int32) : Option (Mem) :=
  if v3 < 0 then
    ((dr Λ v0 7 13).bind fun q2 =>
    gd (inb 0 (aZ Λ q2)) <|
    lt (mset μ v0 0 (μ.1 q2 (0 : Int32).toNatClampNeg)) fun μ5 =>
    (m_X6_findBeds N Λ μ5 v0 v1 v2).bind fun r7 =>
    some r7)
  else
    (lp_X6_putToBeds_42 N Λ k34 v0 v1 v2 v3 (24, μ))
def lp_X6_putToBeds_34 (N : Nat) (Λ : Lay) (v0 : Nat) (v1 : Nat) (v2 : Int32) (s : Int32 × Mem) : Option (Mem) := cw (fun k s => bd_X6_putToBeds_34 N Λ (s.2) k v0 v1 v2 s.1) N s
def bd_X6_putToBeds_7 (N : Nat) (Λ : Lay) (μ : Mem) (k7 : Int32 × Mem → Option (Mem)) (v0 : Nat) (v1 : Nat) (v2 : Int32) (v3 : Int32) : Option (Mem) :=
  if 225 ≤ v3 then
    (lt ((μ.1 v1 8) - 1) fun y2 =>
    lp_X6_putToBeds_34 N Λ v0 v1 v2 (y2, μ))
  else
    ((dr Λ v0 7 13).bind fun q4 =>
    gd (inb v3 (aZ Λ q4)) <|
    lt (mset μ q4 v3.toNatClampNeg 0) fun μ7 =>
    lt (v3 + 1) fun y9 =>
    k7 (y9, μ7))
def lp_X6_putToBeds_7 (N : Nat) (Λ : Lay) (v0 : Nat) (v1 : Nat) (v2 : Int32) (s : Int32 × Mem) : Option (Mem) := cw (fun k s => bd_X6_putToBeds_7 N Λ (s.2) k v0 v1 v2 s.1) N s
def m_X6_putToBeds (N : Nat) (Λ : Lay) (μ : Mem) (v0 : Nat) (v1 : Nat) : Option (Mem) :=
  (m_X9_takenPlaces N Λ μ v1).bind fun r1 =>
  lp_X6_putToBeds_7 N Λ v0 v1 r1 (0, μ)
def jn_X6_pairedWith_28 (N : Nat) (Λ : Lay) (μ : Mem) : Option (Int32) :=
  some (-1)
def m_X6_pairedWith (N : Nat) (Λ : Lay) (μ : Mem) (v0 : Nat) (v1 : Int32) (v2 : Int32) (v3 : Int32) (v4 : Nat) : Option (Int32) :=
  if ((ishr v3 v2) &&& 1) = 0 then
    (jn_X6_pairedWith_28 N Λ μ)
  else
    ((dr Λ v4 13 13).bind fun q2 =>
    gd (inb v1 (aZ Λ q2)) <|
    (dr Λ v4 13 13).bind fun q5 =>
    gd (inb v2 (aZ Λ q5)) <|
    if ((μ.1 q2 v1.toNatClampNeg) + (μ.1 q5 v2.toNatClampNeg)) ≤ 12 then
      ((dr Λ v4 15 13).bind fun q9 =>
      gd (inb v1 (aZ Λ q9)) <|
      (dr Λ v4 15 13).bind fun q12 =>
      gd (inb v2 (aZ Λ q12)) <|
      (dr Λ v0 6 13).bind fun q15 =>
      gd (inb (v3 ^^^ (ishl 1 v2)) (aZ Λ q15)) <|
      some (((μ.1 q9 v1.toNatClampNeg) + (μ.1 q12 v2.toNatClampNeg)) + (μ.1 q15 (v3 ^^^ (ishl 1 v2)).toNatClampNeg)))
    else
      (jn_X6_pairedWith_28 N Λ μ))
def bd_X6_pairedWork_26 (N : Nat) (Λ : Lay) (μ : Mem) (k26 : Int32 × Int32 → Option (Int32)) (v0 : Nat) (v2 : Nat) (v3 : Int32) (v4 : Int32) (v5 : Int32) (v6 : Int32) : Option (Int32) :=
  if 8 ≤ v6 then
    (some v5)
  else
    ((m_X6_pairedWith N Λ μ v0 v3 v6 v4 v2).bind fun r2 =>
    lt (imax v5 r2) fun y4 =>
    lt (v6 + 1) fun y6 =>
    k26 (y4, y6))
def lp_X6_pairedWork_26 (N : Nat) (Λ : Lay) (μ : Mem) (v0 : Nat) (v2 : Nat) (v3 : Int32) (v4 : Int32) (s : Int32 × Int32) : Option (Int32) := cw (fun k s => bd_X6_pairedWork_26 N Λ μ k v0 v2 v3 v4 s.1 s.2) N s
def m_X6_pairedWork (N : Nat) (Λ : Lay) (μ : Mem) (v0 : Nat) (v1 : Int32) (v2 : Nat) : Option (Int32) :=
  (m_XI_ntz N Λ μ v1).bind fun r1 =>
  lt (v1 &&& (v1 - 1)) fun y3 =>
  (dr Λ v0 6 13).bind fun q5 =>
  gd (inb y3 (aZ Λ q5)) <|
  lt (μ.1 q5 y3.toNatClampNeg) fun y8 =>
  lt (r1 + 1) fun y10 =>
  lp_X6_pairedWork_26 N Λ μ v0 v2 r1 y3 (y8, y10)
def bd_X6_findMate_5 (N : Nat) (Λ : Lay) (μ : Mem) (k5 : Int32 × Mem → Option (Int32 × Mem)) (v0 : Nat) (v1 : Int32) (v2 : Int32) (v3 : Int32) (v4 : Nat) (v5 : Int32) : Option (Int32 × Mem) :=
  if (μ.1 v4 8) ≤ v5 then
    (some (v1, μ))
  else
    ((m_X6_pairedWith N Λ μ v0 v1 v5 v2 v4).bind fun r2 =>
    if r2 = v3 then
      ((dr Λ v0 2 13).bind fun q7 =>
      gd (inb v1 (aZ Λ q7)) <|
      lt (mset μ q7 v1.toNatClampNeg v5) fun μ10 =>
      (dr Λ v0 2 13).bind fun q12 =>
      gd (inb v5 (aZ Λ q12)) <|
      lt (mset μ10 q12 v5.toNatClampNeg v1) fun μ15 =>
      some (v5, μ15))
    else
      (lt (v5 + 1) fun y5 =>
      k5 (y5, μ)))
def lp_X6_findMate_5 (N : Nat) (Λ : Lay) (v0 : Nat) (v1 : Int32) (v2 : Int32) (v3 : Int32) (v4 : Nat) (s : Int32 × Mem) : Option (Int32 × Mem) := cw (fun k s => bd_X6_findMate_5 N Λ (s.2) k v0 v1 v2 v3 v4 s.1) N s
def m_X6_findMate (N : Nat) (Λ : Lay) (μ : Mem) (v0 : Nat) (v1 : Int32) (v2 : Int32) (v3 : Int32) (v4 : Nat) : Option (Int32 × Mem) :=
  lt (v1 + 1) fun y1 =>
  lp_X6_findMate_5 N Λ v0 v1 v2 v3 v4 (y1, μ)
def jn_X6_findMates_65 (N : Nat) (Λ : Lay) (μ : Mem) (k5 : Int32 × Int32 × Mem → Option (Mem)) (v0 : Nat) (v2 : Nat) (v3 : Int32) (v4 : Int32) : Option (Mem) :=
  lt (v4 + 1) fun y1 =>
  k5 (v3, y1, μ)
def bd_X6_findMates_5 (N : Nat) (Λ : Lay) (μ : Mem) (k5 : Int32 × Int32 × Mem → Option (Mem)) (v0 : Nat) (v2 : Nat) (v3 : Int32) (v4 : Int32) : Option (Mem) :=
  if (μ.1 v2 8) ≤ v4 then
    (some μ)
  else
    (if ((ishr v3 v4) &&& 1) = 1 then
      ((dr Λ v0 6 13).bind fun q3 =>
      gd (inb v3 (aZ Λ q3)) <|
      lt (μ.1 q3 v3.toNatClampNeg) fun y6 =>
      lt (v3 ^^^ (ishl 1 v4)) fun y8 =>
      (dr Λ v0 6 13).bind fun q10 =>
      gd (inb y8 (aZ Λ q10)) <|
      if (μ.1 q10 y8.toNatClampNeg) = y6 then
        (jn_X6_findMates_65 N Λ μ k5 v0 v2 y8 v4)
      else
        ((m_X6_findMate N Λ μ v0 v4 y8 y6 v2).bind fun r14 =>
        lt (y8 ^^^ (ishl 1 r14.1)) fun y16 =>
        jn_X6_findMates_65 N Λ r14.2 k5 v0 v2 y16 v4))
    else
      (jn_X6_findMates_65 N Λ μ k5 v0 v2 v3 v4))
def lp_X6_findMates_5 (N : Nat) (Λ : Lay) (v0 : Nat) (v2 : Nat) (s : Int32 × Int32 × Mem) : Option (Mem) := cw (fun k s => bd_X6_findMates_5 N Λ (s.2.2) k v0 v2 s.1 s.2.1) N s
def m_X6_findMates (N : Nat) (Λ : Lay) (μ : Mem) (v0 : Nat) (v1 : Int32) (v2 : Nat) : Option (Mem) :=
  lp_X6_findMates_5 N Λ v0 v2 (v1, 0, μ)
def jn_X6_pairShips_30 (N : Nat) (Λ : Lay) (μ : Mem) (k4 : Int32 × Int32 × Mem → Option (Mem)) (v0 : Nat) (v1 : Nat) (v3 : Int32) (s0 : Int32) (s1 : Int32) : Option (Mem) :=
  lt (s0 ||| s1) fun y1 =>
  (dr Λ v0 2 13).bind fun q3 =>
  gd (inb v3 (aZ Λ q3)) <|
  lt (mset μ q3 v3.toNatClampNeg (-1)) fun μ6 =>
  lt (v3 + 1) fun y8 =>
  k4 (y1, y8, μ6)
def jn_X6_pairShips_79 (N : Nat) (Λ : Lay) (μ : Mem) (k54 : Int32 × Mem → Option (Mem)) (v0 : Nat) (v1 : Nat) (v2 : Int32) (v3 : Int32) : Option (Mem) :=
  lt (v3 + 1) fun y1 =>
  k54 (y1, μ)
def bd_X6_pairShips_54 (N : Nat) (Λ : Lay) (μ : Mem) (k54 : Int32 × Mem → Option (Mem)) (v0 : Nat) (v1 : Nat) (v2 : Int32) (v3 : Int32) : Option (Mem) :=
  if v2 < v3 then
    ((dr Λ v0 6 13).bind fun q2 =>
    gd (inb v2 (aZ Λ q2)) <|
    lt (mset μ v0 0 (μ.1 q2 v2.toNatClampNeg)) fun μ5 =>
    (m_X6_findMates N Λ μ5 v0 v2 v1).bind fun r7 =>
    some r7)
  else
    (if (v3 &&& (v2 ^^^ (-1))) = 0 then
      ((dr Λ v0 6 13).bind fun q10 =>
      (m_X6_pairedWork N Λ μ v0 v3 v1).bind fun r12 =>
      gd (inb v3 (aZ Λ q10)) <|
      lt (mset μ q10 v3.toNatClampNeg r12) fun μ15 =>
      jn_X6_pairShips_79 N Λ μ15 k54 v0 v1 v2 v3)
    else
      (jn_X6_pairShips_79 N Λ μ k54 v0 v1 v2 v3))
def lp_X6_pairShips_54 (N : Nat) (Λ : Lay) (v0 : Nat) (v1 : Nat) (v2 : Int32) (s : Int32 × Mem) : Option (Mem) := cw (fun k s => bd_X6_pairShips_54 N Λ (s.2) k v0 v1 v2 s.1) N s
def bd_X6_pairShips_4 (N : Nat) (Λ : Lay) (μ : Mem) (k4 : Int32 × Int32 × Mem → Option (Mem)) (v0 : Nat) (v1 : Nat) (v2 : Int32) (v3 : Int32) : Option (Mem) :=
  if (μ.1 v1 8) ≤ v3 then
    ((dr Λ v0 6 13).bind fun q2 =>
    gd (inb 0 (aZ Λ q2)) <|
    lt (mset μ q2 (0 : Int32).toNatClampNeg 0) fun μ5 =>
    lp_X6_pairShips_54 N Λ v0 v1 v2 (1, μ5))
  else
    ((dr Λ v1 16 13).bind fun q7 =>
    gd (inb v3 (aZ Λ q7)) <|
    if (μ.1 q7 v3.toNatClampNeg) = 2 then
      (jn_X6_pairShips_30 N Λ μ k4 v0 v1 v3 v2 0)
    else
      (jn_X6_pairShips_30 N Λ μ k4 v0 v1 v3 v2 (ishl 1 v3)))
def lp_X6_pairShips_4 (N : Nat) (Λ : Lay) (v0 : Nat) (v1 : Nat) (s : Int32 × Int32 × Mem) : Option (Mem) := cw (fun k s => bd_X6_pairShips_4 N Λ (s.2.2) k v0 v1 s.1 s.2.1) N s
def m_X6_pairShips (N : Nat) (Λ : Lay) (μ : Mem) (v0 : Nat) (v1 : Nat) : Option (Mem) :=
  lp_X6_pairShips_4 N Λ v0 v1 (0, 0, μ)
def jn_X6_knockValue_43 (N : Nat) (Λ : Lay) (μ : Mem) (k6 : Int32 × Int32 × Int32 → Option (Int32)) (v0 : Int32) (v1 : Int32) (v2 : Int32) (v3 : Int32) : Option (Int32) :=
  lt (v3 + 1) fun y1 =>
  k6 (v1, v2, y1)
def jn_X6_knockValue_33 (N : Nat) (Λ : Lay) (μ : Mem) (k6 : Int32 × Int32 × Int32 → Option (Int32)) (v0 : Int32) (v1 : Int32) (v2 : Int32) (v3 : Int32) : Option (Int32) :=
  gd (inb v2 25) <|
  lt (v1 ^^^ (rvT v2.toNatClampNeg)) fun y2 =>
  jn_X6_knockValue_43 N Λ μ k6 v0 y2 0 v3
def bd_X6_knockValue_6 (N : Nat) (Λ : Lay) (μ : Mem) (k6 : Int32 × Int32 × Int32 → Option (Int32)) (v0 : Int32) (v1 : Int32) (v2 : Int32) (v3 : Int32) : Option (Int32) :=
  if 24 < v3 then
    (some v1)
  else
    (if 24 ≤ v3 then
      (jn_X6_knockValue_33 N Λ μ k6 v0 v1 v2 v3)
    else
      (if ((ishr v0 v3) &&& 1) = 1 then
        (lt (v2 + 1) fun y4 =>
        jn_X6_knockValue_43 N Λ μ k6 v0 v1 y4 v3)
      else
        (jn_X6_knockValue_33 N Λ μ k6 v0 v1 v2 v3)))
def lp_X6_knockValue_6 (N : Nat) (Λ : Lay) (μ : Mem) (v0 : Int32) (s : Int32 × Int32 × Int32) : Option (Int32) := cw (fun k s => bd_X6_knockValue_6 N Λ μ k v0 s.1 s.2.1 s.2.2) N s
def m_X6_knockValue (N : Nat) (Λ : Lay) (μ : Mem) (v0 : Int32) : Option (Int32) :=
  lp_X6_knockValue_6 N Λ μ v0 (0, 0, 0)
def jn_X6_winningKnock_44 (N : Nat) (Λ : Lay) (μ : Mem) (k2 : Int32 → Option (Int32)) (v0 : Int32) (v1 : Int32) : Option (Int32) :=
  lt (v1 + 1) fun y1 =>
  k2 y1
def jn_X6_winningKnock_19 (N : Nat) (Λ : Lay) (μ : Mem) (k2 : Int32 → Option (Int32)) (v0 : Int32) (v1 : Int32) (s0 : Int32) : Option (Int32) :=
  lt (ishl s0 (v1 / 2)) fun y1 =>
  if (v0 &&& y1) = y1 then
    ((m_X6_knockValue N Λ μ (v0 &&& (y1 ^^^ (-1)))).bind fun r4 =>
    if r4 = 0 then
      (some v1)
    else
      (jn_X6_winningKnock_44 N Λ μ k2 v0 v1))
  else
    (jn_X6_winningKnock_44 N Λ μ k2 v0 v1)
def bd_X6_winningKnock_2 (N : Nat) (Λ : Lay) (μ : Mem) (k2 : Int32 → Option (Int32)) (v0 : Int32) (v1 : Int32) : Option (Int32) :=
  if 48 ≤ v1 then
    (some (-1))
  else
    (if (irem v1 2) = 0 then
      (jn_X6_winningKnock_19 N Λ μ k2 v0 v1 1)
    else
      (jn_X6_winningKnock_19 N Λ μ k2 v0 v1 3))
def lp_X6_winningKnock_2 (N : Nat) (Λ : Lay) (μ : Mem) (v0 : Int32) (s : Int32) : Option (Int32) := cw (fun k s => bd_X6_winningKnock_2 N Λ μ k v0 s) N s
def m_X6_winningKnock (N : Nat) (Λ : Lay) (μ : Mem) (v0 : Int32) : Option (Int32) :=
  lp_X6_winningKnock_2 N Λ μ v0 0
def m_X6_mastersShare (N : Nat) (Λ : Lay) (μ : Mem) (v0 : Int32) (v1 : Int32) (v2 : Int32) (v3 : Int32) : Option (Int32) :=
  if v0 = 0 then
    (some v1)
  else
  if v0 = 1 then
    (some (-3))
  else
  if v0 = 2 then
    (some (-v2))
  else
    (some v3)
def m_X6_pilotsShare (N : Nat) (Λ : Lay) (μ : Mem) (v0 : Int32) : Option (Int32) :=
  if v0 = 0 then
    (some 2)
  else
  if v0 = 2 then
    (some (-1))
  else
    (some 1)
def jn_X6_restingChoices_80 (N : Nat) (Λ : Lay) (μ : Mem) (k5 : Int32 × Int32 → Option (Int32)) (v0 : Int32) (v1 : Int32) (v2 : Int32) (v4 : Int32) (s0 : Int32) (s1 : Int32) : Option (Int32) :=
  lt (s0 ||| s1) fun y1 =>
  lt (v4 + 1) fun y3 =>
  k5 (y1, y3)
def jn_X6_restingChoices_79 (N : Nat) (Λ : Lay) (μ : Mem) (k5 : Int32 × Int32 → Option (Int32)) (v0 : Int32) (v1 : Int32) (v2 : Int32) (v4 : Int32) (s0 : Int32) : Option (Int32) :=
  jn_X6_restingChoices_80 N Λ μ k5 v0 v1 v2 v4 s0 0
def jn_X6_restingChoices_59 (N : Nat) (Λ : Lay) (μ : Mem) (k5 : Int32 × Int32 → Option (Int32)) (v0 : Int32) (v1 : Int32) (v2 : Int32) (v3 : Int32) (v4 : Int32) (v5 : Int32) (s0 : Int32) : Option (Int32) :=
  if v5 = 0 then
    (jn_X6_restingChoices_79 N Λ μ k5 v0 v1 v2 v4 v3)
  else
    (if s0 = 0 then
      (jn_X6_restingChoices_79 N Λ μ k5 v0 v1 v2 v4 v3)
    else
      (jn_X6_restingChoices_80 N Λ μ k5 v0 v1 v2 v4 v3 (ishl 1 v4)))
def jn_X6_restingChoices_37 (N : Nat) (Λ : Lay) (μ : Mem) (k5 : Int32 × Int32 → Option (Int32)) (v0 : Int32) (v1 : Int32) (v2 : Int32) (v3 : Int32) (v4 : Int32) (s0 : Int32) : Option (Int32) :=
  (m_X6_pilotsShare N Λ μ v4).bind fun r1 =>
  (m_X6_pilotsShare N Λ μ (v4 ^^^ 1)).bind fun r3 =>
  if r1 < r3 then
    (jn_X6_restingChoices_59 N Λ μ k5 v0 v1 v2 v3 v4 s0 0)
  else
    (jn_X6_restingChoices_59 N Λ μ k5 v0 v1 v2 v3 v4 s0 1)
def bd_X6_restingChoices_5 (N : Nat) (Λ : Lay) (μ : Mem) (k5 : Int32 × Int32 → Option (Int32)) (v0 : Int32) (v1 : Int32) (v2 : Int32) (v3 : Int32) (v4 : Int32) : Option (Int32) :=
  if 4 ≤ v4 then
    (some v3)
  else
    ((m_X6_mastersShare N Λ μ v4 v0 v1 v2).bind fun r2 =>
    (m_X6_mastersShare N Λ μ (v4 ^^^ 2) v0 v1 v2).bind fun r4 =>
    if r2 < r4 then
      (jn_X6_restingChoices_37 N Λ μ k5 v0 v1 v2 v3 v4 0)
    else
      (jn_X6_restingChoices_37 N Λ μ k5 v0 v1 v2 v3 v4 1))
def lp_X6_restingChoices_5 (N : Nat) (Λ : Lay) (μ : Mem) (v0 : Int32) (v1 : Int32) (v2 : Int32) (s : Int32 × Int32) : Option (Int32) := cw (fun k s => bd_X6_restingChoices_5 N Λ μ k v0 v1 v2 s.1 s.2) N s
def m_X6_restingChoices (N : Nat) (Λ : Lay) (μ : Mem) (v0 : Int32) (v1 : Int32) (v2 : Int32) : Option (Int32) :=
  lp_X6_restingChoices_5 N Λ μ v0 v1 v2 (0, 0)
def bd_X6_choices_4 (N : Nat) (Λ : Lay) (μ : Mem) (k4 : Int32 × Int32 → Option (Int32)) (v0 : Int32) (v1 : Int32) (v2 : Int32) (v3 : Int32) : Option (Int32) :=
  if v1 < v3 then
    (some v2)
  else
    (gd (decide (¬ v3 = 0)) <|
    lt ((v2 * ((v0 - v1) + v3)) / v3) fun y3 =>
    lt (v3 + 1) fun y5 =>
    k4 (y3, y5))
def lp_X6_choices_4 (N : Nat) (Λ : Lay) (μ : Mem) (v0 : Int32) (v1 : Int32) (s : Int32 × Int32) : Option (Int32) := cw (fun k s => bd_X6_choices_4 N Λ μ k v0 v1 s.1 s.2) N s
def m_X6_choices (N : Nat) (Λ : Lay) (μ : Mem) (v0 : Int32) (v1 : Int32) : Option (Int32) :=
  lp_X6_choices_4 N Λ μ v0 v1 (1, 1)
def bd_X6_power_4 (N : Nat) (Λ : Lay) (μ : Mem) (k4 : Int32 × Int32 → Option (Int32)) (v0 : Int32) (v1 : Int32) (v2 : Int32) (v3 : Int32) : Option (Int32) :=
  if v1 ≤ v3 then
    (some v2)
  else
    (lt (v2 * v0) fun y2 =>
    lt (v3 + 1) fun y4 =>
    k4 (y2, y4))
def lp_X6_power_4 (N : Nat) (Λ : Lay) (μ : Mem) (v0 : Int32) (v1 : Int32) (s : Int32 × Int32) : Option (Int32) := cw (fun k s => bd_X6_power_4 N Λ μ k v0 v1 s.1 s.2) N s
def m_X6_power (N : Nat) (Λ : Lay) (μ : Mem) (v0 : Int32) (v1 : Int32) : Option (Int32) :=
  lp_X6_power_4 N Λ μ v0 v1 (1, 0)
def jn_X6_oddsOf_75 (N : Nat) (Λ : Lay) (μ : Mem) (s0 : Int32) : Option (Int32) :=
  some s0
def bd_X6_oddsOf_29 (N : Nat) (Λ : Lay) (μ : Mem) (k29 : Int32 × Int32 → Option (Int32)) (v0 : Int32) (v2 : Int32) (v3 : Int32) (v4 : Int32) (v5 : Int32) : Option (Int32) :=
  if v0 < v5 then
    (if v3 ≤ 0 then
      (jn_X6_oddsOf_75 N Λ μ 0)
    else
      (gd (decide (¬ v3 = 0)) <|
      jn_X6_oddsOf_75 N Λ μ ((10000 * v4) / v3)))
  else
    ((m_X6_choices N Λ μ v0 v5).bind fun r4 =>
    (m_X6_power N Λ μ v2 v5).bind fun r6 =>
    lt (v4 + (r4 * r6)) fun y8 =>
    lt (v5 + 1) fun y10 =>
    k29 (y8, y10))
def lp_X6_oddsOf_29 (N : Nat) (Λ : Lay) (μ : Mem) (v0 : Int32) (v2 : Int32) (v3 : Int32) (s : Int32 × Int32) : Option (Int32) := cw (fun k s => bd_X6_oddsOf_29 N Λ μ k v0 v2 v3 s.1 s.2) N s
def bd_X6_oddsOf_5 (N : Nat) (Λ : Lay) (μ : Mem) (k5 : Int32 × Int32 → Option (Int32)) (v0 : Int32) (v1 : Int32) (v2 : Int32) (v3 : Int32) (v4 : Int32) : Option (Int32) :=
  if v0 ≤ v4 then
    (lp_X6_oddsOf_29 N Λ μ v0 v2 v3 (0, v1))
  else
    (lt (v3 * (v2 + 1)) fun y2 =>
    lt (v4 + 1) fun y4 =>
    k5 (y2, y4))
def lp_X6_oddsOf_5 (N : Nat) (Λ : Lay) (μ : Mem) (v0 : Int32) (v1 : Int32) (v2 : Int32) (s : Int32 × Int32) : Option (Int32) := cw (fun k s => bd_X6_oddsOf_5 N Λ μ k v0 v1 v2 s.1 s.2) N s
def m_X6_oddsOf (N : Nat) (Λ : Lay) (μ : Mem) (v0 : Int32) (v1 : Int32) (v2 : Int32) : Option (Int32) :=
  lp_X6_oddsOf_5 N Λ μ v0 v1 v2 (1, 0)
def jn_X7_kindOf_39 (N : Nat) (Λ : Lay) (μ : Mem) (s0 : Int32) : Option (Int32) :=
  some s0
def jn_X7_kindOf_28 (N : Nat) (Λ : Lay) (μ : Mem) (v0 : Int32) : Option (Int32) :=
  if v0 = 32 then
    (jn_X7_kindOf_39 N Λ μ 0)
  else
    (jn_X7_kindOf_39 N Λ μ 3)
def jn_X7_kindOf_14 (N : Nat) (Λ : Lay) (μ : Mem) (v0 : Int32) : Option (Int32) :=
  if v0 < 48 then
    (jn_X7_kindOf_28 N Λ μ v0)
  else
    (if 57 < v0 then
      (jn_X7_kindOf_28 N Λ μ v0)
    else
      (some 2))
def m_X7_kindOf (N : Nat) (Λ : Lay) (μ : Mem) (v0 : Int32) : Option (Int32) :=
  if v0 < 97 then
    (jn_X7_kindOf_14 N Λ μ v0)
  else
    (if 122 < v0 then
      (jn_X7_kindOf_14 N Λ μ v0)
    else
      (some 1))
def jn_X7_split_123 (N : Nat) (Λ : Lay) (μ : Mem) (k14 : Int32 × Int32 × Mem → Option (Mem)) (v0 : Nat) (v2 : Int32) (v3 : Int32) : Option (Mem) :=
  lt (v2 + 1) fun y1 =>
  k14 (v3, y1, μ)
def jn_X7_split_60 (N : Nat) (Λ : Lay) (μ : Mem) (k14 : Int32 × Int32 × Mem → Option (Mem)) (v0 : Nat) (v2 : Int32) (v3 : Int32) : Option (Mem) :=
  (dr Λ v0 6 13).bind fun q1 =>
  gd (inb ((μ.1 v0 3) - 1) (aZ Λ q1)) <|
  lt (mset μ q1 ((μ.1 v0 3) - 1).toNatClampNeg (v2 + 1)) fun μ4 =>
  jn_X7_split_123 N Λ μ4 k14 v0 v2 v3
def jn_X7_split_77 (N : Nat) (Λ : Lay) (μ : Mem) (k14 : Int32 × Int32 × Mem → Option (Mem)) (v0 : Nat) (v2 : Int32) (v3 : Int32) : Option (Mem) :=
  if v3 = 0 then
    (jn_X7_split_123 N Λ μ k14 v0 v2 v3)
  else
    ((dr Λ v0 4 13).bind fun q2 =>
    gd (inb (μ.1 v0 3) (aZ Λ q2)) <|
    lt (mset μ q2 (μ.1 v0 3).toNatClampNeg v3) fun μ5 =>
    (dr Λ v0 5 13).bind fun q7 =>
    gd (inb (μ5.1 v0 3) (aZ Λ q7)) <|
    lt (mset μ5 q7 (μ5.1 v0 3).toNatClampNeg v2) fun μ10 =>
    (dr Λ v0 6 13).bind fun q12 =>
    gd (inb (μ10.1 v0 3) (aZ Λ q12)) <|
    lt (mset μ10 q12 (μ10.1 v0 3).toNatClampNeg (v2 + 1)) fun μ15 =>
    lt (mset μ15 v0 3 ((μ15.1 v0 3) + 1)) fun μ17 =>
    jn_X7_split_123 N Λ μ17 k14 v0 v2 v3)
def bd_X7_split_14 (N : Nat) (Λ : Lay) (μ : Mem) (k14 : Int32 × Int32 × Mem → Option (Mem)) (v0 : Nat) (v1 : Int32) (v2 : Int32) : Option (Mem) :=
  (dr Λ v0 0 9).bind fun q1 =>
  if (μ.1 q1 1) ≤ v2 then
    ((dr Λ v0 4 13).bind fun q4 =>
    gd (inb (μ.1 v0 3) (aZ Λ q4)) <|
    lt (mset μ q4 (μ.1 v0 3).toNatClampNeg 0) fun μ7 =>
    (dr Λ v0 5 13).bind fun q9 =>
    (dr Λ v0 0 9).bind fun q11 =>
    gd (inb (μ7.1 v0 3) (aZ Λ q9)) <|
    lt (mset μ7 q9 (μ7.1 v0 3).toNatClampNeg (μ7.1 q11 1)) fun μ14 =>
    (dr Λ v0 6 13).bind fun q16 =>
    (dr Λ v0 0 9).bind fun q18 =>
    gd (inb (μ14.1 v0 3) (aZ Λ q16)) <|
    lt (mset μ14 q16 (μ14.1 v0 3).toNatClampNeg (μ14.1 q18 1)) fun μ21 =>
    some μ21)
  else
    ((dr Λ v0 0 9).bind fun q23 =>
    (dr Λ q23 0 12).bind fun q25 =>
    gd (inb v2 (aZ Λ q25)) <|
    (m_X7_kindOf N Λ μ (μ.1 q25 v2.toNatClampNeg)).bind fun r28 =>
    if (μ.1 v0 3) ≤ 0 then
      (jn_X7_split_77 N Λ μ k14 v0 v2 r28)
    else
      (if r28 = v1 then
        (if r28 = 1 then
          (jn_X7_split_60 N Λ μ k14 v0 v2 r28)
        else
          (if r28 = 2 then
            (jn_X7_split_60 N Λ μ k14 v0 v2 r28)
          else
            (jn_X7_split_77 N Λ μ k14 v0 v2 r28)))
      else
        (jn_X7_split_77 N Λ μ k14 v0 v2 r28)))
def lp_X7_split_14 (N : Nat) (Λ : Lay) (v0 : Nat) (s : Int32 × Int32 × Mem) : Option (Mem) := cw (fun k s => bd_X7_split_14 N Λ (s.2.2) k v0 s.1 s.2.1) N s
def m_X7_split (N : Nat) (Λ : Lay) (μ : Mem) (v0 : Nat) : Option (Mem) :=
  lt (mset μ v0 1 0) fun μ1 =>
  lt (mset μ1 v0 3 0) fun μ3 =>
  lp_X7_split_14 N Λ v0 (0, 0, μ3)
def bd_X7_readLines_1_15 (N : Nat) (Λ : Lay) (μ : Mem) (k15 : Int32 × Mem → Option (Int32 × Mem)) (v0 : Nat) (v1 : Int32) (v2 : Int32) : Option (Int32 × Mem) :=
  if v1 ≤ v2 then
    ((dr Λ v0 5 13).bind fun q2 =>
    gd (inb (μ.1 v0 1) (aZ Λ q2)) <|
    some (μ.1 q2 (μ.1 v0 1).toNatClampNeg, μ))
  else
    ((m_X1_readLine N Λ μ v0).bind fun r5 =>
    if r5.1 = 0 then
      ((dr Λ v0 5 13).bind fun q17 =>
      gd (inb (r5.2.1 v0 1) (aZ Λ q17)) <|
      some (r5.2.1 q17 (r5.2.1 v0 1).toNatClampNeg, r5.2))
    else
      (if (r5.2.1 v0 1) = (r5.2.1 v0 3) then
        (some ((-1), r5.2))
      else
        ((m_X7_takeSign N Λ r5.2 v0 59).bind fun r9 =>
        if r9.1 = 0 then
          ((dr Λ v0 5 13).bind fun q14 =>
          gd (inb (r9.2.1 v0 1) (aZ Λ q14)) <|
          some (r9.2.1 q14 (r9.2.1 v0 1).toNatClampNeg, r9.2))
        else
          (lt (v2 + 1) fun y12 =>
          k15 (y12, r9.2)))))
def lp_X7_readLines_1_15 (N : Nat) (Λ : Lay) (v0 : Nat) (v1 : Int32) (s : Int32 × Mem) : Option (Int32 × Mem) := cw (fun k s => bd_X7_readLines_1_15 N Λ (s.2) k v0 v1 s.1) N s
def m_X7_readLines_1 (N : Nat) (Λ : Lay) (μ : Mem) (v0 : Nat) (v1 : Int32) : Option (Int32 × Mem) :=
  (m_X7_split N Λ μ v0).bind fun r1 =>
  if (r1.1 v0 3) = 0 then
    (some ((-1), r1))
  else
    (lp_X7_readLines_1_15 N Λ v0 v1 (0, r1))
def bd_X7_readLines_3_15 (N : Nat) (Λ : Lay) (μ : Mem) (k15 : Int32 × Mem → Option (Int32 × Mem)) (v0 : Nat) (v1 : Int32) (v2 : Int32) : Option (Int32 × Mem) :=
  if v1 ≤ v2 then
    ((dr Λ v0 5 13).bind fun q2 =>
    gd (inb (μ.1 v0 1) (aZ Λ q2)) <|
    some (μ.1 q2 (μ.1 v0 1).toNatClampNeg, μ))
  else
    ((m_X3_readLine N Λ μ v0).bind fun r5 =>
    if r5.1 = 0 then
      ((dr Λ v0 5 13).bind fun q17 =>
      gd (inb (r5.2.1 v0 1) (aZ Λ q17)) <|
      some (r5.2.1 q17 (r5.2.1 v0 1).toNatClampNeg, r5.2))
    else
      (if (r5.2.1 v0 1) = (r5.2.1 v0 3) then
        (some ((-1), r5.2))
      else
        ((m_X7_takeSign N Λ r5.2 v0 59).bind fun r9 =>
        if r9.1 = 0 then
          ((dr Λ v0 5 13).bind fun q14 =>
          gd (inb (r9.2.1 v0 1) (aZ Λ q14)) <|
          some (r9.2.1 q14 (r9.2.1 v0 1).toNatClampNeg, r9.2))
        else
          (lt (v2 + 1) fun y12 =>
          k15 (y12, r9.2)))))
def lp_X7_readLines_3_15 (N : Nat) (Λ : Lay) (v0 : Nat) (v1 : Int32) (s : Int32 × Mem) : Option (Int32 × Mem) := cw (fun k s => bd_X7_readLines_3_15 N Λ (s.2) k v0 v1 s.1) N s
def m_X7_readLines_3 (N : Nat) (Λ : Lay) (μ : Mem) (v0 : Nat) (v1 : Int32) : Option (Int32 × Mem) :=
  (m_X7_split N Λ μ v0).bind fun r1 =>
  if (r1.1 v0 3) = 0 then
    (some ((-1), r1))
  else
    (lp_X7_readLines_3_15 N Λ v0 v1 (0, r1))
def jn_X8_read_23 (N : Nat) (Λ : Lay) (μ : Mem) : Option (Int32 × Mem) :=
  some (0, μ)
def jn_X8_read_56 (N : Nat) (Λ : Lay) (μ : Mem) : Option (Int32 × Mem) :=
  some (0, μ)
def jn_X8_read_96 (N : Nat) (Λ : Lay) (μ : Mem) (k27 : Int32 × Mem → Option (Int32 × Mem)) (v0 : Nat) (v1 : Nat) (v2 : Int32) (s0 : Nat) (s1 : Int32) (s2 : Int32) : Option (Int32 × Mem) :=
  gd (inb s1 (aZ Λ s0)) <|
  lt (mset μ s0 s1.toNatClampNeg (s2 &&& 1)) fun μ2 =>
  lt (mset μ2 v0 3 ((μ2.1 v0 3) + 1)) fun μ4 =>
  lt (v2 + 2) fun y6 =>
  k27 (y6, μ4)
def bd_X8_read_27 (N : Nat) (Λ : Lay) (μ : Mem) (k27 : Int32 × Mem → Option (Int32 × Mem)) (v0 : Nat) (v1 : Nat) (v2 : Int32) : Option (Int32 × Mem) :=
  if (μ.1 v1 1) ≤ v2 then
    (some (1, μ))
  else
    ((m_X10_sign N Λ μ v1 v2).bind fun r2 =>
    if 24 ≤ r2 then
      (jn_X8_read_56 N Λ μ)
    else
      ((m_X10_sign N Λ μ v1 (v2 + 1)).bind fun r5 =>
      if r5 ≤ 1 then
        ((dr Λ v0 4 13).bind fun q8 =>
        (m_X10_sign N Λ μ v1 v2).bind fun r10 =>
        gd (inb (μ.1 v0 3) (aZ Λ q8)) <|
        lt (mset μ q8 (μ.1 v0 3).toNatClampNeg r10) fun μ13 =>
        (dr Λ v0 5 15).bind fun q15 =>
        (m_X10_sign N Λ μ13 v1 (v2 + 1)).bind fun r17 =>
        if r17 = 1 then
          (jn_X8_read_96 N Λ μ13 k27 v0 v1 v2 q15 (μ13.1 v0 3) 1)
        else
          (jn_X8_read_96 N Λ μ13 k27 v0 v1 v2 q15 (μ13.1 v0 3) 0))
      else
        (jn_X8_read_56 N Λ μ)))
def lp_X8_read_27 (N : Nat) (Λ : Lay) (v0 : Nat) (v1 : Nat) (s : Int32 × Mem) : Option (Int32 × Mem) := cw (fun k s => bd_X8_read_27 N Λ (s.2) k v0 v1 s.1) N s
def m_X8_read (N : Nat) (Λ : Lay) (μ : Mem) (v0 : Nat) (v1 : Nat) : Option (Int32 × Mem) :=
  lt (mset μ v0 3 0) fun μ1 =>
  if 40 < (μ1.1 v1 1) then
    (jn_X8_read_23 N Λ μ1)
  else
    (if (irem (μ1.1 v1 1) 2) = 0 then
      (lp_X8_read_27 N Λ v0 v1 (0, μ1))
    else
      (jn_X8_read_23 N Λ μ1))
def jn_X8_wrongRows_60 (N : Nat) (Λ : Lay) (μ : Mem) (k5 : Int32 × Int32 → Option (Int32)) (v0 : Nat) (v1 : Int32) (v2 : Int32) (v3 : Int32) (v4 : Int32) : Option (Int32) :=
  lt (v4 + 1) fun y1 =>
  k5 (v3, y1)
def jn_X8_wrongRows_43 (N : Nat) (Λ : Lay) (μ : Mem) (k5 : Int32 × Int32 → Option (Int32)) (v0 : Nat) (v1 : Int32) (v2 : Int32) (v3 : Int32) (v4 : Int32) (s0 : Int32) : Option (Int32) :=
  (dr Λ v0 5 15).bind fun q1 =>
  gd (inb v4 (aZ Λ q1)) <|
  if s0 = (μ.1 q1 v4.toNatClampNeg) then
    (jn_X8_wrongRows_60 N Λ μ k5 v0 v1 v2 v3 v4)
  else
    (lt (v3 + 1) fun y5 =>
    jn_X8_wrongRows_60 N Λ μ k5 v0 v1 v2 y5 v4)
def jn_X8_wrongRows_42 (N : Nat) (Λ : Lay) (μ : Mem) (k5 : Int32 × Int32 → Option (Int32)) (v0 : Nat) (v1 : Int32) (v2 : Int32) (v3 : Int32) (v4 : Int32) : Option (Int32) :=
  jn_X8_wrongRows_43 N Λ μ k5 v0 v1 v2 v3 v4 0
def bd_X8_wrongRows_5 (N : Nat) (Λ : Lay) (μ : Mem) (k5 : Int32 × Int32 → Option (Int32)) (v0 : Nat) (v1 : Int32) (v2 : Int32) (v3 : Int32) (v4 : Int32) : Option (Int32) :=
  if (μ.1 v0 3) ≤ v4 then
    (some v3)
  else
    ((dr Λ v0 4 13).bind fun q2 =>
    gd (inb v4 (aZ Λ q2)) <|
    if (μ.1 q2 v4.toNatClampNeg) < v1 then
      (jn_X8_wrongRows_42 N Λ μ k5 v0 v1 v2 v3 v4)
    else
      ((dr Λ v0 4 13).bind fun q6 =>
      gd (inb v4 (aZ Λ q6)) <|
      if (v1 + v2) ≤ (μ.1 q6 v4.toNatClampNeg) then
        (jn_X8_wrongRows_42 N Λ μ k5 v0 v1 v2 v3 v4)
      else
        (jn_X8_wrongRows_43 N Λ μ k5 v0 v1 v2 v3 v4 1)))
def lp_X8_wrongRows_5 (N : Nat) (Λ : Lay) (μ : Mem) (v0 : Nat) (v1 : Int32) (v2 : Int32) (s : Int32 × Int32) : Option (Int32) := cw (fun k s => bd_X8_wrongRows_5 N Λ μ k v0 v1 v2 s.1 s.2) N s
def m_X8_wrongRows (N : Nat) (Λ : Lay) (μ : Mem) (v0 : Nat) (v1 : Int32) (v2 : Int32) : Option (Int32) :=
  lp_X8_wrongRows_5 N Λ μ v0 v1 v2 (0, 0)
def jn_X8_weigh_83 (N : Nat) (Λ : Lay) (μ : Mem) : Option (Mem) :=
  some μ
def bd_X8_weigh_51 (N : Nat) (Λ : Lay) (μ : Mem) (k51 : Int32 × Mem → Option (Mem)) (v0 : Nat) (v1 : Int32) (v2 : Int32) (v4 : Int32) : Option (Mem) :=
  if (v1 + v2) ≤ v4 then
    (jn_X8_weigh_83 N Λ μ)
  else
    (if 24 ≤ v4 then
      (jn_X8_weigh_83 N Λ μ)
    else
      ((dr Λ v0 6 13).bind fun q3 =>
      gd (inb v4 (aZ Λ q3)) <|
      gd (inb v4 (aZ Λ q3)) <|
      lt (mset μ q3 v4.toNatClampNeg ((μ.1 q3 v4.toNatClampNeg) + 1)) fun μ7 =>
      lt (v4 + 1) fun y9 =>
      k51 (y9, μ7)))
def lp_X8_weigh_51 (N : Nat) (Λ : Lay) (v0 : Nat) (v1 : Int32) (v2 : Int32) (s : Int32 × Mem) : Option (Mem) := cw (fun k s => bd_X8_weigh_51 N Λ (s.2) k v0 v1 v2 s.1) N s
def jn_X8_weigh_48 (N : Nat) (Λ : Lay) (μ : Mem) (v0 : Nat) (v1 : Int32) (v2 : Int32) : Option (Mem) :=
  lp_X8_weigh_51 N Λ v0 v1 v2 (v1, μ)
def m_X8_weigh (N : Nat) (Λ : Lay) (μ : Mem) (v0 : Nat) (v1 : Int32) (v2 : Int32) : Option (Mem) :=
  (m_X8_wrongRows N Λ μ v0 v1 v2).bind fun r1 =>
  if r1 ≤ 1 then
    (lt (mset μ v0 0 ((μ.1 v0 0) + 1)) fun μ4 =>
    if (μ4.1 v0 2) ≤ r1 then
      (jn_X8_weigh_48 N Λ μ4 v0 v1 v2)
    else
      (lt (mset μ4 v0 2 r1) fun μ7 =>
      lt (mset μ7 v0 1 (((12 * v1) + v2) - 1)) fun μ9 =>
      jn_X8_weigh_48 N Λ μ9 v0 v1 v2))
  else
    (some μ)
def jn_X8_search_72 (N : Nat) (Λ : Lay) (μ : Mem) (k38 : Int32 × Mem → Option (Mem)) (v0 : Nat) (v1 : Int32) : Option (Mem) :=
  lt (v1 + 1) fun y1 =>
  k38 (y1, μ)
def bd_X8_search_46 (N : Nat) (Λ : Lay) (μ : Mem) (k38 : Int32 × Mem → Option (Mem)) (k46 : Int32 × Mem → Option (Mem)) (v0 : Nat) (v1 : Int32) (v2 : Int32) : Option (Mem) :=
  if 12 < v2 then
    (jn_X8_search_72 N Λ μ k38 v0 v1)
  else
    (if 24 < (v1 + v2) then
      (jn_X8_search_72 N Λ μ k38 v0 v1)
    else
      ((m_X8_weigh N Λ μ v0 v1 v2).bind fun r3 =>
      lt (v2 + 1) fun y5 =>
      k46 (y5, r3)))
def lp_X8_search_46 (N : Nat) (Λ : Lay) (k38 : Int32 × Mem → Option (Mem)) (v0 : Nat) (v1 : Int32) (s : Int32 × Mem) : Option (Mem) := cw (fun k s => bd_X8_search_46 N Λ (s.2) k38 k v0 v1 s.1) N s
def bd_X8_search_38 (N : Nat) (Λ : Lay) (μ : Mem) (k38 : Int32 × Mem → Option (Mem)) (v0 : Nat) (v1 : Int32) : Option (Mem) :=
  if 24 ≤ v1 then
    (some μ)
  else
    (lp_X8_search_46 N Λ k38 v0 v1 (1, μ))
def lp_X8_search_38 (N : Nat) (Λ : Lay) (v0 : Nat) (s : Int32 × Mem) : Option (Mem) := cw (fun k s => bd_X8_search_38 N Λ (s.2) k v0 s.1) N s
def bd_X8_search_17 (N : Nat) (Λ : Lay) (μ : Mem) (k17 : Int32 × Mem → Option (Mem)) (v0 : Nat) (v1 : Int32) : Option (Mem) :=
  if 24 ≤ v1 then
    (lp_X8_search_38 N Λ v0 (0, μ))
  else
    ((dr Λ v0 6 13).bind fun q2 =>
    gd (inb v1 (aZ Λ q2)) <|
    lt (mset μ q2 v1.toNatClampNeg 0) fun μ5 =>
    lt (v1 + 1) fun y7 =>
    k17 (y7, μ5))
def lp_X8_search_17 (N : Nat) (Λ : Lay) (v0 : Nat) (s : Int32 × Mem) : Option (Mem) := cw (fun k s => bd_X8_search_17 N Λ (s.2) k v0 s.1) N s
def m_X8_search (N : Nat) (Λ : Lay) (μ : Mem) (v0 : Nat) : Option (Mem) :=
  lt (mset μ v0 0 0) fun μ1 =>
  lt (mset μ1 v0 1 (-1)) fun μ3 =>
  lt (mset μ3 v0 2 2) fun μ5 =>
  lp_X8_search_17 N Λ v0 (0, μ5)
def jn_X8_bestPlace_61 (N : Nat) (Λ : Lay) (μ : Mem) (k9 : Int32 × Int32 × Int32 → Option (Int32)) (v0 : Nat) (v1 : Int32) (v2 : Int32) (v3 : Int32) : Option (Int32) :=
  lt (v3 + 1) fun y1 =>
  k9 (v1, v2, y1)
def jn_X8_bestPlace_56 (N : Nat) (Λ : Lay) (μ : Mem) (k9 : Int32 × Int32 × Int32 → Option (Int32)) (v0 : Nat) (v3 : Int32) (v4 : Int32) : Option (Int32) :=
  jn_X8_bestPlace_61 N Λ μ k9 v0 v3 v4 v3
def jn_X8_bestPlace_67 (N : Nat) (Λ : Lay) (μ : Mem) (v1 : Int32) : Option (Int32) :=
  some v1
def bd_X8_bestPlace_9 (N : Nat) (Λ : Lay) (μ : Mem) (k9 : Int32 × Int32 × Int32 → Option (Int32)) (v0 : Nat) (v1 : Int32) (v2 : Int32) (v3 : Int32) : Option (Int32) :=
  if 24 ≤ v3 then
    (jn_X8_bestPlace_67 N Λ μ v1)
  else
    (if (μ.1 v0 0) < 2 then
      (jn_X8_bestPlace_67 N Λ μ v1)
    else
      ((dr Λ v0 6 13).bind fun q3 =>
      gd (inb v3 (aZ Λ q3)) <|
      (dr Λ v0 6 13).bind fun q6 =>
      gd (inb v3 (aZ Λ q6)) <|
      lt (imax (μ.1 q3 v3.toNatClampNeg) ((μ.1 v0 0) - (μ.1 q6 v3.toNatClampNeg))) fun y9 =>
      if v1 = (-1) then
        (jn_X8_bestPlace_56 N Λ μ k9 v0 v3 y9)
      else
        (if v2 ≤ y9 then
          (jn_X8_bestPlace_61 N Λ μ k9 v0 v1 v2 v3)
        else
          (jn_X8_bestPlace_56 N Λ μ k9 v0 v3 y9))))
def lp_X8_bestPlace_9 (N : Nat) (Λ : Lay) (μ : Mem) (v0 : Nat) (s : Int32 × Int32 × Int32) : Option (Int32) := cw (fun k s => bd_X8_bestPlace_9 N Λ μ k v0 s.1 s.2.1 s.2.2) N s
def m_X8_bestPlace (N : Nat) (Λ : Lay) (μ : Mem) (v0 : Nat) : Option (Int32) :=
  lt (μ.1 v0 0) fun y1 =>
  lp_X8_bestPlace_9 N Λ μ v0 ((-1), y1, 0)
def m_X9_tideNow (N : Nat) (Λ : Lay) (μ : Mem) (v0 : Nat) : Option (Int32) :=
  (dr Λ v0 12 13).bind fun q1 =>
  gd (inb (irem (μ.1 v0 1) 12) (aZ Λ q1)) <|
  some (μ.1 q1 (irem (μ.1 v0 1) 12).toNatClampNeg)
def jn_X9_isEven_21 (N : Nat) (Λ : Lay) (μ : Mem) (s0 : Int32) : Option (Int32) :=
  gd (zb s0) <|
  some s0
def m_X9_isEven (N : Nat) (Λ : Lay) (μ : Mem) (v0 : Nat) : Option (Int32) :=
  (m_X9_tideNow N Λ μ v0).bind fun r1 =>
  if 1 < (iabs ((μ.1 v0 0) - r1)) then
    (jn_X9_isEven_21 N Λ μ 0)
  else
    (jn_X9_isEven_21 N Λ μ 1)
def m_X9_pulling (N : Nat) (Λ : Lay) (μ : Mem) (v0 : Nat) (v1 : Nat) : Option (Int32 × Mem) :=
  (m_X2_sumOf N Λ μ v1 0 v0 (-1)).bind fun r1 =>
  some ((μ.1 v0 2) + r1.1, r1.2)
def jn_X9_leaking_16 (N : Nat) (Λ : Lay) (μ : Mem) (v0 : Nat) (v1 : Nat) (s0 : Int32) : Option (Int32 × Mem) :=
  (m_X2_sumOf N Λ μ v1 1 v0 (-1)).bind fun r1 =>
  some (s0 + r1.1, r1.2)
def m_X9_leaking (N : Nat) (Λ : Lay) (μ : Mem) (v0 : Nat) (v1 : Nat) : Option (Int32 × Mem) :=
  (m_X9_tideNow N Λ μ v0).bind fun r1 =>
  if r1 ≤ (μ.1 v0 0) then
    (jn_X9_leaking_16 N Λ μ v0 v1 0)
  else
    (jn_X9_leaking_16 N Λ μ v0 v1 1)
def jn_X9_nextSurge_46 (N : Nat) (Λ : Lay) (μ : Mem) (s0 : Int32) : Option (Int32 × Mem) :=
  some (s0, μ)
def m_X9_nextSurge (N : Nat) (Λ : Lay) (μ : Mem) (v0 : Nat) : Option (Int32 × Mem) :=
  lt (mset μ v0 6 ((1103515245 * (μ.1 v0 6)) + 12345)) fun μ1 =>
  lt ((iushr (μ1.1 v0 6) 16) &&& 32767) fun y3 =>
  if (μ1.1 v0 4) ≤ 0 then
    (jn_X9_nextSurge_46 N Λ μ1 0)
  else
    (gd (decide (¬ ((μ1.1 v0 4) + 1) = 0)) <|
    jn_X9_nextSurge_46 N Λ μ1 (irem y3 ((μ1.1 v0 4) + 1)))
def jn_X9_sits_28 (N : Nat) (Λ : Lay) (μ : Mem) (s0 : Int32) : Option (Int32) :=
  gd (zb s0) <|
  some s0
def jn_X9_sits_27 (N : Nat) (Λ : Lay) (μ : Mem) : Option (Int32) :=
  jn_X9_sits_28 N Λ μ 0
def m_X9_sits (N : Nat) (Λ : Lay) (μ : Mem) (v0 : Nat) (v1 : Int32) : Option (Int32) :=
  (dr Λ v0 16 13).bind fun q1 =>
  gd (inb v1 (aZ Λ q1)) <|
  if (μ.1 q1 v1.toNatClampNeg) = 1 then
    ((dr Λ v0 14 13).bind fun q5 =>
    gd (inb v1 (aZ Λ q5)) <|
    if (μ.1 q5 v1.toNatClampNeg) ≤ (μ.1 v0 0) then
      (jn_X9_sits_27 N Λ μ)
    else
      (jn_X9_sits_28 N Λ μ 1))
  else
    (jn_X9_sits_27 N Λ μ)
def jn_X9_isHurt_17 (N : Nat) (Λ : Lay) (μ : Mem) (s0 : Int32) : Option (Int32) :=
  gd (zb s0) <|
  some s0
def m_X9_isHurt (N : Nat) (Λ : Lay) (μ : Mem) (v0 : Nat) (v1 : Int32) : Option (Int32) :=
  if ((ishr (μ.1 v0 10) v1) &&& 1) = 1 then
    (jn_X9_isHurt_17 N Λ μ 1)
  else
    (jn_X9_isHurt_17 N Λ μ 0)
def jn_X9_wedgesOf_50 (N : Nat) (Λ : Lay) (μ : Mem) (s0 : Int32) : Option (Int32) :=
  some s0
def jn_X9_wedgesOf_107 (N : Nat) (Λ : Lay) (μ : Mem) (k58 : Int32 × Int32 × Int32 → Option (Int32)) (v0 : Nat) (v1 : Int32) (v2 : Int32) (v3 : Int32) (v4 : Int32) : Option (Int32) :=
  lt (v4 + 1) fun y1 =>
  k58 (v2, v3, y1)
def jn_X9_wedgesOf_96 (N : Nat) (Λ : Lay) (μ : Mem) (k58 : Int32 × Int32 × Int32 → Option (Int32)) (v0 : Nat) (v1 : Int32) (v3 : Int32) (v4 : Int32) (s0 : Int32) : Option (Int32) :=
  if s0 = 3 then
    (lt (v3 + 1) fun y2 =>
    jn_X9_wedgesOf_107 N Λ μ k58 v0 v1 0 y2 v4)
  else
    (jn_X9_wedgesOf_107 N Λ μ k58 v0 v1 s0 v3 v4)
def bd_X9_wedgesOf_58 (N : Nat) (Λ : Lay) (μ : Mem) (k58 : Int32 × Int32 × Int32 → Option (Int32)) (v0 : Nat) (v1 : Int32) (v2 : Int32) (v3 : Int32) (v4 : Int32) : Option (Int32) :=
  (dr Λ v0 13 13).bind fun q1 =>
  gd (inb v1 (aZ Λ q1)) <|
  if (μ.1 q1 v1.toNatClampNeg) ≤ v4 then
    (some v3)
  else
    ((dr Λ v0 17 13).bind fun q5 =>
    gd (inb v1 (aZ Λ q5)) <|
    if ((ishr (μ.1 v0 9) ((μ.1 q5 v1.toNatClampNeg) + v4)) &&& 1) = 1 then
      (jn_X9_wedgesOf_96 N Λ μ k58 v0 v1 v3 v4 0)
    else
      (jn_X9_wedgesOf_96 N Λ μ k58 v0 v1 v3 v4 (v2 + 1)))
def lp_X9_wedgesOf_58 (N : Nat) (Λ : Lay) (μ : Mem) (v0 : Nat) (v1 : Int32) (s : Int32 × Int32 × Int32) : Option (Int32) := cw (fun k s => bd_X9_wedgesOf_58 N Λ μ k v0 v1 s.1 s.2.1 s.2.2) N s
def m_X9_wedgesOf (N : Nat) (Λ : Lay) (μ : Mem) (v0 : Nat) (v1 : Int32) : Option (Int32) :=
  (dr Λ v0 16 13).bind fun q1 =>
  gd (inb v1 (aZ Λ q1)) <|
  if (μ.1 q1 v1.toNatClampNeg) = 1 then
    ((dr Λ v0 13 13).bind fun q5 =>
    gd (inb v1 (aZ Λ q5)) <|
    if 3 ≤ (μ.1 q5 v1.toNatClampNeg) then
      (lp_X9_wedgesOf_58 N Λ μ v0 v1 (0, 0, 0))
    else
      ((dr Λ v0 17 13).bind fun q9 =>
      gd (inb v1 (aZ Λ q9)) <|
      (dr Λ v0 13 13).bind fun q12 =>
      gd (inb v1 (aZ Λ q12)) <|
      (m_X11_placeBits N Λ μ (μ.1 q9 v1.toNatClampNeg) (μ.1 q12 v1.toNatClampNeg)).bind fun r15 =>
      if ((μ.1 v0 9) &&& r15) = 0 then
        (jn_X9_wedgesOf_50 N Λ μ 1)
      else
        (jn_X9_wedgesOf_50 N Λ μ 0)))
  else
    (some (-1))
def jn_X9_isBorne_13 (N : Nat) (Λ : Lay) (μ : Mem) (s0 : Int32) : Option (Int32) :=
  gd (zb s0) <|
  some s0
def m_X9_isBorne (N : Nat) (Λ : Lay) (μ : Mem) (v0 : Nat) (v1 : Int32) : Option (Int32) :=
  (m_X9_wedgesOf N Λ μ v0 v1).bind fun r1 =>
  if r1 = 0 then
    (jn_X9_isBorne_13 N Λ μ 1)
  else
    (jn_X9_isBorne_13 N Λ μ 0)
def jn_X9_hurtUnborne_88 (N : Nat) (Λ : Lay) (μ : Mem) (k2 : Int32 × Mem → Option (Mem)) (v0 : Nat) (v1 : Int32) : Option (Mem) :=
  lt (v1 + 1) fun y1 =>
  k2 (y1, μ)
def bd_X9_hurtUnborne_2 (N : Nat) (Λ : Lay) (μ : Mem) (k2 : Int32 × Mem → Option (Mem)) (v0 : Nat) (v1 : Int32) : Option (Mem) :=
  if (μ.1 v0 8) ≤ v1 then
    (some μ)
  else
    ((m_X9_sits N Λ μ v0 v1).bind fun r2 =>
    if r2 = 0 then
      (jn_X9_hurtUnborne_88 N Λ μ k2 v0 v1)
    else
      ((m_X9_isHurt N Λ μ v0 v1).bind fun r5 =>
      if r5 = 0 then
        ((m_X9_isBorne N Λ μ v0 v1).bind fun r8 =>
        if r8 = 0 then
          (lt (mset μ v0 10 ((μ.1 v0 10) ||| (ishl 1 v1))) fun μ11 =>
          (dr Λ v0 15 13).bind fun q13 =>
          (dr Λ v0 15 13).bind fun q15 =>
          gd (inb v1 (aZ Λ q15)) <|
          gd (inb v1 (aZ Λ q13)) <|
          lt (mset μ11 q13 v1.toNatClampNeg (imin ((μ11.1 q15 v1.toNatClampNeg) + 5) 99)) fun μ19 =>
          (dr Λ v0 18 4).bind fun q21 =>
          (dr Λ v0 17 13).bind fun q23 =>
          gd (inb v1 (aZ Λ q23)) <|
          (m_X4_add N Λ μ19 q21 (μ19.1 v0 1) v1 2 (μ19.1 q23 v1.toNatClampNeg) (μ19.1 v0 0)).bind fun r26 =>
          jn_X9_hurtUnborne_88 N Λ r26 k2 v0 v1)
        else
          (jn_X9_hurtUnborne_88 N Λ μ k2 v0 v1))
      else
        (jn_X9_hurtUnborne_88 N Λ μ k2 v0 v1)))
def lp_X9_hurtUnborne_2 (N : Nat) (Λ : Lay) (v0 : Nat) (s : Int32 × Mem) : Option (Mem) := cw (fun k s => bd_X9_hurtUnborne_2 N Λ (s.2) k v0 s.1) N s
def m_X9_hurtUnborne (N : Nat) (Λ : Lay) (μ : Mem) (v0 : Nat) : Option (Mem) :=
  lp_X9_hurtUnborne_2 N Λ v0 (0, μ)
def jn_X9_workHands_84 (N : Nat) (Λ : Lay) (μ : Mem) (k7 : Int32 × Int32 × Mem → Option (Int32 × Mem)) (v0 : Nat) (v1 : Int32) (v2 : Int32) : Option (Int32 × Mem) :=
  lt (v2 + 1) fun y1 =>
  k7 (v1, y1, μ)
def bd_X9_workHands_7 (N : Nat) (Λ : Lay) (μ : Mem) (k7 : Int32 × Int32 × Mem → Option (Int32 × Mem)) (v0 : Nat) (v1 : Int32) (v2 : Int32) : Option (Int32 × Mem) :=
  if (μ.1 v0 8) ≤ v2 then
    (some ((μ.1 v0 3) - v1, μ))
  else
    ((m_X9_sits N Λ μ v0 v2).bind fun r2 =>
    if r2 = 0 then
      (jn_X9_workHands_84 N Λ μ k7 v0 v1 v2)
    else
      ((dr Λ v0 15 13).bind fun q5 =>
      gd (inb v2 (aZ Λ q5)) <|
      lt (imin v1 (μ.1 q5 v2.toNatClampNeg)) fun y8 =>
      lt (v1 - y8) fun y10 =>
      (dr Λ v0 15 13).bind fun q12 =>
      gd (inb v2 (aZ Λ q12)) <|
      gd (inb v2 (aZ Λ q12)) <|
      lt (mset μ q12 v2.toNatClampNeg ((μ.1 q12 v2.toNatClampNeg) - y8)) fun μ16 =>
      if y8 ≤ 0 then
        (jn_X9_workHands_84 N Λ μ16 k7 v0 y10 v2)
      else
        ((dr Λ v0 15 13).bind fun q19 =>
        gd (inb v2 (aZ Λ q19)) <|
        if (μ16.1 q19 v2.toNatClampNeg) = 0 then
          ((dr Λ v0 18 4).bind fun q23 =>
          (dr Λ v0 17 13).bind fun q25 =>
          gd (inb v2 (aZ Λ q25)) <|
          (m_X4_add N Λ μ16 q23 (μ16.1 v0 1) v2 3 (μ16.1 q25 v2.toNatClampNeg) (μ16.1 v0 0)).bind fun r28 =>
          jn_X9_workHands_84 N Λ r28 k7 v0 y10 v2)
        else
          (jn_X9_workHands_84 N Λ μ16 k7 v0 y10 v2))))
def lp_X9_workHands_7 (N : Nat) (Λ : Lay) (v0 : Nat) (s : Int32 × Int32 × Mem) : Option (Int32 × Mem) := cw (fun k s => bd_X9_workHands_7 N Λ (s.2.2) k v0 s.1 s.2.1) N s
def m_X9_workHands (N : Nat) (Λ : Lay) (μ : Mem) (v0 : Nat) : Option (Int32 × Mem) :=
  lt (μ.1 v0 3) fun y1 =>
  lp_X9_workHands_7 N Λ v0 (y1, 0, μ)
def jn_X9_step_96 (N : Nat) (Λ : Lay) (μ : Mem) (s0 : Int32) : Option (Int32 × Mem) :=
  some (s0, μ)
def jn_X9_step_76 (N : Nat) (Λ : Lay) (μ : Mem) (v0 : Nat) : Option (Int32 × Mem) :=
  (m_X9_hurtUnborne N Λ μ v0).bind fun r1 =>
  if 2 < (r1.1 v0 0) then
    (jn_X9_step_96 N Λ r1 0)
  else
    ((m_X9_workHands N Λ r1 v0).bind fun r4 =>
    jn_X9_step_96 N Λ r4.2 r4.1)
def jn_X9_step_40 (N : Nat) (Λ : Lay) (μ : Mem) (v0 : Nat) (s0 : Nat) (s1 : Int32) (s2 : Int32) : Option (Int32 × Mem) :=
  lt (mset μ s0 0 (s1 + s2)) fun μ1 =>
  jn_X9_step_76 N Λ μ1 v0
def m_X9_step (N : Nat) (Λ : Lay) (μ : Mem) (v0 : Nat) (v1 : Nat) (v2 : Int32) : Option (Int32 × Mem) :=
  lt (mset μ v0 1 (imin ((μ.1 v0 1) + 1) 9999)) fun μ1 =>
  if (μ1.1 v0 11) = 0 then
    ((m_X9_leaking N Λ μ1 v0 v1).bind fun r4 =>
    (m_X9_pulling N Λ r4.2 v0 v1).bind fun r6 =>
    lt (mset r6.2 v0 0 (imax 0 (imin 40 (((μ1.1 v0 0) + r4.1) - r6.1)))) fun μ8 =>
    jn_X9_step_76 N Λ μ8 v0)
  else
    ((m_X9_tideNow N Λ μ1 v0).bind fun r10 =>
    if v2 = 0 then
      (jn_X9_step_40 N Λ μ1 v0 v0 r10 0)
    else
      ((m_X9_nextSurge N Λ μ1 v0).bind fun r13 =>
      jn_X9_step_40 N Λ r13.2 v0 v0 r10 r13.1))
def bd_X9_pass_6 (N : Nat) (Λ : Lay) (μ : Mem) (k6 : Int32 × Int32 × Mem → Option (Int32 × Mem)) (v0 : Nat) (v1 : Int32) (v2 : Nat) (v3 : Int32) (v4 : Int32) (v5 : Int32) : Option (Int32 × Mem) :=
  if v1 ≤ v5 then
    (some (v4, μ))
  else
    ((m_X9_step N Λ μ v0 v2 v3).bind fun r2 =>
    lt (v4 + r2.1) fun y4 =>
    lt (v5 + 1) fun y6 =>
    k6 (y4, y6, r2.2))
def lp_X9_pass_6 (N : Nat) (Λ : Lay) (v0 : Nat) (v1 : Int32) (v2 : Nat) (v3 : Int32) (s : Int32 × Int32 × Mem) : Option (Int32 × Mem) := cw (fun k s => bd_X9_pass_6 N Λ (s.2.2) k v0 v1 v2 v3 s.1 s.2.1) N s
def m_X9_pass (N : Nat) (Λ : Lay) (μ : Mem) (v0 : Nat) (v1 : Int32) (v2 : Nat) (v3 : Int32) : Option (Int32 × Mem) :=
  lp_X9_pass_6 N Λ v0 v1 v2 v3 (0, 0, μ)
def jn_X9_reaches_41 (N : Nat) (Λ : Lay) (μ : Mem) (s0 : Int32) : Option (Int32) :=
  gd (zb s0) <|
  some s0
def jn_X9_reaches_54 (N : Nat) (Λ : Lay) (μ : Mem) (s0 : Int32) : Option (Int32) :=
  gd (zb s0) <|
  some s0
def jn_X9_reaches_74 (N : Nat) (Λ : Lay) (μ : Mem) (s0 : Int32) : Option (Int32) :=
  gd (zb s0) <|
  some s0
def jn_X9_reaches_69 (N : Nat) (Λ : Lay) (μ : Mem) : Option (Int32) :=
  jn_X9_reaches_74 N Λ μ 1
def m_X9_reaches (N : Nat) (Λ : Lay) (μ : Mem) (v0 : Nat) (v1 : Int32) : Option (Int32) :=
  if v1 = 0 then
    (if 2 < (μ.1 v0 0) then
      (jn_X9_reaches_41 N Λ μ 0)
    else
      (jn_X9_reaches_41 N Λ μ 1))
  else
  if v1 = 1 then
    ((m_X9_busyDocked N Λ μ v0).bind fun r4 =>
    if r4 = 0 then
      (jn_X9_reaches_54 N Λ μ 1)
    else
      (jn_X9_reaches_54 N Λ μ 0))
  else
    (if (μ.1 v0 11) = 0 then
      ((m_X9_isEven N Λ μ v0).bind fun r8 =>
      if r8 = 0 then
        (jn_X9_reaches_74 N Λ μ 0)
      else
        (jn_X9_reaches_69 N Λ μ))
    else
      (jn_X9_reaches_69 N Λ μ))
def m_X9_letIn (N : Nat) (Λ : Lay) (μ : Mem) (v0 : Nat) (v1 : Int32) (v2 : Int32) : Option (Mem) :=
  (dr Λ v0 16 13).bind fun q1 =>
  gd (inb v1 (aZ Λ q1)) <|
  lt (mset μ q1 v1.toNatClampNeg 1) fun μ4 =>
  (dr Λ v0 17 13).bind fun q6 =>
  gd (inb v1 (aZ Λ q6)) <|
  lt (mset μ4 q6 v1.toNatClampNeg v2) fun μ9 =>
  (dr Λ v0 18 4).bind fun q11 =>
  (m_X4_add N Λ μ9 q11 (μ9.1 v0 1) v1 0 v2 (μ9.1 v0 0)).bind fun r13 =>
  some r13
def m_X9_letOut (N : Nat) (Λ : Lay) (μ : Mem) (v0 : Nat) (v1 : Int32) (v2 : Nat) : Option (Int32 × Mem) :=
  (m_X9_feeOf N Λ μ v0 v1 v2).bind fun r1 =>
  (dr Λ v0 18 4).bind fun q3 =>
  (dr Λ v0 17 13).bind fun q5 =>
  gd (inb v1 (aZ Λ q5)) <|
  (m_X4_add N Λ r1.2 q3 (r1.2.1 v0 1) v1 1 (r1.2.1 q5 v1.toNatClampNeg) (r1.2.1 v0 0)).bind fun r8 =>
  (dr Λ v0 16 13).bind fun q10 =>
  gd (inb v1 (aZ Λ q10)) <|
  lt (mset r8 q10 v1.toNatClampNeg 2) fun μ13 =>
  (dr Λ v0 17 13).bind fun q15 =>
  gd (inb v1 (aZ Λ q15)) <|
  lt (mset μ13 q15 v1.toNatClampNeg (-1)) fun μ18 =>
  lt (mset μ18 v0 5 (imin ((μ18.1 v0 5) + r1.1) 9999)) fun μ20 =>
  some (r1.1, μ20)
def jn_X9_floats_28 (N : Nat) (Λ : Lay) (μ : Mem) (s0 : Int32) : Option (Int32) :=
  gd (zb s0) <|
  some s0
def jn_X9_floats_27 (N : Nat) (Λ : Lay) (μ : Mem) : Option (Int32) :=
  jn_X9_floats_28 N Λ μ 0
def m_X9_floats (N : Nat) (Λ : Lay) (μ : Mem) (v0 : Nat) (v1 : Int32) : Option (Int32) :=
  (dr Λ v0 16 13).bind fun q1 =>
  gd (inb v1 (aZ Λ q1)) <|
  if (μ.1 q1 v1.toNatClampNeg) = 1 then
    ((dr Λ v0 14 13).bind fun q5 =>
    gd (inb v1 (aZ Λ q5)) <|
    if (μ.1 v0 0) < (μ.1 q5 v1.toNatClampNeg) then
      (jn_X9_floats_27 N Λ μ)
    else
      (jn_X9_floats_28 N Λ μ 1))
  else
    (jn_X9_floats_27 N Λ μ)
def bd_X9_whenFor_2 (N : Nat) (Λ : Lay) (μ : Mem) (k2 : Int32 → Option (Int32)) (v0 : Nat) (v1 : Int32) (v2 : Int32) : Option (Int32) :=
  if 60 < v2 then
    (some (-1))
  else
    ((dr Λ v0 12 13).bind fun q2 =>
    gd (inb (irem ((μ.1 v0 1) + v2) 12) (aZ Λ q2)) <|
    (dr Λ v0 14 13).bind fun q5 =>
    gd (inb v1 (aZ Λ q5)) <|
    if (μ.1 q2 (irem ((μ.1 v0 1) + v2) 12).toNatClampNeg) < (μ.1 q5 v1.toNatClampNeg) then
      (lt (v2 + 1) fun y9 =>
      k2 y9)
    else
      (some v2))
def lp_X9_whenFor_2 (N : Nat) (Λ : Lay) (μ : Mem) (v0 : Nat) (v1 : Int32) (s : Int32) : Option (Int32) := cw (fun k s => bd_X9_whenFor_2 N Λ μ k v0 v1 s) N s
def m_X9_whenFor (N : Nat) (Λ : Lay) (μ : Mem) (v0 : Nat) (v1 : Int32) : Option (Int32) :=
  lp_X9_whenFor_2 N Λ μ v0 v1 0
def jn_X9_fitsAt_38 (N : Nat) (Λ : Lay) (μ : Mem) (k7 : Int32 → Option (Int32)) (v0 : Nat) (v1 : Int32) (v2 : Int32) (v3 : Int32) : Option (Int32) :=
  lt (v3 + 1) fun y1 =>
  k7 y1
def bd_X9_fitsAt_7 (N : Nat) (Λ : Lay) (μ : Mem) (k7 : Int32 → Option (Int32)) (v0 : Nat) (v1 : Int32) (v2 : Int32) (v3 : Int32) : Option (Int32) :=
  if 24 ≤ v3 then
    (some (-1))
  else
    ((dr Λ v0 16 13).bind fun q2 =>
    gd (inb v1 (aZ Λ q2)) <|
    if (μ.1 q2 v1.toNatClampNeg) = 0 then
      ((dr Λ v0 13 13).bind fun q6 =>
      gd (inb v1 (aZ Λ q6)) <|
      (m_X11_isRoom N Λ μ v2 v3 (μ.1 q6 v1.toNatClampNeg)).bind fun r9 =>
      if r9 = 0 then
        (jn_X9_fitsAt_38 N Λ μ k7 v0 v1 v2 v3)
      else
        (some v3))
    else
      (jn_X9_fitsAt_38 N Λ μ k7 v0 v1 v2 v3))
def lp_X9_fitsAt_7 (N : Nat) (Λ : Lay) (μ : Mem) (v0 : Nat) (v1 : Int32) (v2 : Int32) (s : Int32) : Option (Int32) := cw (fun k s => bd_X9_fitsAt_7 N Λ μ k v0 v1 v2 s) N s
def m_X9_fitsAt (N : Nat) (Λ : Lay) (μ : Mem) (v0 : Nat) (v1 : Int32) : Option (Int32) :=
  (m_X9_takenPlaces N Λ μ v0).bind fun r1 =>
  lp_X9_fitsAt_7 N Λ μ v0 v1 r1 0
def jn_X9_shareOf_33 (N : Nat) (Λ : Lay) (μ : Mem) (k4 : Int32 × Int32 → Option (Int32)) (v0 : Nat) (v1 : Int32) (v3 : Int32) (s0 : Int32) (s1 : Int32) : Option (Int32) :=
  lt (s0 + s1) fun y1 =>
  lt (v3 + 1) fun y3 =>
  k4 (y1, y3)
def jn_X9_shareOf_70 (N : Nat) (Λ : Lay) (μ : Mem) (s0 : Int32) : Option (Int32) :=
  some s0
def jn_X9_shareOf_69 (N : Nat) (Λ : Lay) (μ : Mem) : Option (Int32) :=
  jn_X9_shareOf_70 N Λ μ 0
def bd_X9_shareOf_4 (N : Nat) (Λ : Lay) (μ : Mem) (k4 : Int32 × Int32 → Option (Int32)) (v0 : Nat) (v1 : Int32) (v2 : Int32) (v3 : Int32) : Option (Int32) :=
  if (μ.1 v0 8) ≤ v3 then
    (if v2 ≤ 0 then
      (jn_X9_shareOf_69 N Λ μ)
    else
      ((dr Λ v0 16 13).bind fun q3 =>
      gd (inb v1 (aZ Λ q3)) <|
      if (μ.1 q3 v1.toNatClampNeg) = 2 then
        (jn_X9_shareOf_69 N Λ μ)
      else
        ((dr Λ v0 15 13).bind fun q7 =>
        gd (inb v1 (aZ Λ q7)) <|
        gd (decide (¬ v2 = 0)) <|
        jn_X9_shareOf_70 N Λ μ ((100 * (μ.1 q7 v1.toNatClampNeg)) / v2))))
  else
    ((dr Λ v0 16 13).bind fun q11 =>
    gd (inb v3 (aZ Λ q11)) <|
    if (μ.1 q11 v3.toNatClampNeg) = 2 then
      (jn_X9_shareOf_33 N Λ μ k4 v0 v1 v3 v2 0)
    else
      ((dr Λ v0 15 13).bind fun q15 =>
      gd (inb v3 (aZ Λ q15)) <|
      jn_X9_shareOf_33 N Λ μ k4 v0 v1 v3 v2 (μ.1 q15 v3.toNatClampNeg)))
def lp_X9_shareOf_4 (N : Nat) (Λ : Lay) (μ : Mem) (v0 : Nat) (v1 : Int32) (s : Int32 × Int32) : Option (Int32) := cw (fun k s => bd_X9_shareOf_4 N Λ μ k v0 v1 s.1 s.2) N s
def m_X9_shareOf (N : Nat) (Λ : Lay) (μ : Mem) (v0 : Nat) (v1 : Int32) : Option (Int32) :=
  lp_X9_shareOf_4 N Λ μ v0 v1 (0, 0)
def jn_X9_standing_30 (N : Nat) (Λ : Lay) (μ : Mem) (k4 : Int32 × Int32 → Option (Int32)) (v0 : Nat) (v1 : Int32) (v3 : Int32) (s0 : Int32) (s1 : Int32) : Option (Int32) :=
  lt (s0 ||| s1) fun y1 =>
  lt (v3 + 1) fun y3 =>
  k4 (y1, y3)
def bd_X9_standing_4 (N : Nat) (Λ : Lay) (μ : Mem) (k4 : Int32 × Int32 → Option (Int32)) (v0 : Nat) (v1 : Int32) (v2 : Int32) (v3 : Int32) : Option (Int32) :=
  if (μ.1 v0 8) ≤ v3 then
    (some v2)
  else
    ((dr Λ v0 16 13).bind fun q2 =>
    gd (inb v3 (aZ Λ q2)) <|
    if (μ.1 q2 v3.toNatClampNeg) = v1 then
      (jn_X9_standing_30 N Λ μ k4 v0 v1 v3 v2 (ishl 1 v3))
    else
      (jn_X9_standing_30 N Λ μ k4 v0 v1 v3 v2 0))
def lp_X9_standing_4 (N : Nat) (Λ : Lay) (μ : Mem) (v0 : Nat) (v1 : Int32) (s : Int32 × Int32) : Option (Int32) := cw (fun k s => bd_X9_standing_4 N Λ μ k v0 v1 s.1 s.2) N s
def m_X9_standing (N : Nat) (Λ : Lay) (μ : Mem) (v0 : Nat) (v1 : Int32) : Option (Int32) :=
  lp_X9_standing_4 N Λ μ v0 v1 (0, 0)
def m_X9_freePlaces (N : Nat) (Λ : Lay) (μ : Mem) (v0 : Nat) : Option (Int32) :=
  (m_X9_takenPlaces N Λ μ v0).bind fun r1 =>
  (m_XI_bitCount N Λ μ r1).bind fun r3 =>
  some (24 - r3)
def jn_X9_shipOn_49 (N : Nat) (Λ : Lay) (μ : Mem) (k2 : Int32 → Option (Int32)) (v0 : Nat) (v1 : Int32) (v2 : Int32) : Option (Int32) :=
  lt (v2 + 1) fun y1 =>
  k2 y1
def bd_X9_shipOn_2 (N : Nat) (Λ : Lay) (μ : Mem) (k2 : Int32 → Option (Int32)) (v0 : Nat) (v1 : Int32) (v2 : Int32) : Option (Int32) :=
  if (μ.1 v0 8) ≤ v2 then
    (some (-1))
  else
    ((dr Λ v0 16 13).bind fun q2 =>
    gd (inb v2 (aZ Λ q2)) <|
    if (μ.1 q2 v2.toNatClampNeg) = 1 then
      ((dr Λ v0 17 13).bind fun q6 =>
      gd (inb v2 (aZ Λ q6)) <|
      if v1 < (μ.1 q6 v2.toNatClampNeg) then
        (jn_X9_shipOn_49 N Λ μ k2 v0 v1 v2)
      else
        ((dr Λ v0 17 13).bind fun q10 =>
        gd (inb v2 (aZ Λ q10)) <|
        (dr Λ v0 13 13).bind fun q13 =>
        gd (inb v2 (aZ Λ q13)) <|
        if ((μ.1 q10 v2.toNatClampNeg) + (μ.1 q13 v2.toNatClampNeg)) ≤ v1 then
          (jn_X9_shipOn_49 N Λ μ k2 v0 v1 v2)
        else
          (some v2)))
    else
      (jn_X9_shipOn_49 N Λ μ k2 v0 v1 v2))
def lp_X9_shipOn_2 (N : Nat) (Λ : Lay) (μ : Mem) (v0 : Nat) (v1 : Int32) (s : Int32) : Option (Int32) := cw (fun k s => bd_X9_shipOn_2 N Λ μ k v0 v1 s) N s
def m_X9_shipOn (N : Nat) (Λ : Lay) (μ : Mem) (v0 : Nat) (v1 : Int32) : Option (Int32) :=
  lp_X9_shipOn_2 N Λ μ v0 v1 0
def bd_X9_allWork_4 (N : Nat) (Λ : Lay) (μ : Mem) (k4 : Int32 × Int32 → Option (Int32)) (v0 : Nat) (v1 : Int32) (v2 : Int32) : Option (Int32) :=
  if (μ.1 v0 8) ≤ v2 then
    (some v1)
  else
    ((dr Λ v0 15 13).bind fun q2 =>
    gd (inb v2 (aZ Λ q2)) <|
    lt (v1 + (μ.1 q2 v2.toNatClampNeg)) fun y5 =>
    lt (v2 + 1) fun y7 =>
    k4 (y5, y7))
def lp_X9_allWork_4 (N : Nat) (Λ : Lay) (μ : Mem) (v0 : Nat) (s : Int32 × Int32) : Option (Int32) := cw (fun k s => bd_X9_allWork_4 N Λ μ k v0 s.1 s.2) N s
def m_X9_allWork (N : Nat) (Λ : Lay) (μ : Mem) (v0 : Nat) : Option (Int32) :=
  lp_X9_allWork_4 N Λ μ v0 (0, 0)
def jn_X9_greatest_38 (N : Nat) (Λ : Lay) (μ : Mem) (k4 : Int32 × Int32 → Option (Int32)) (v0 : Nat) (v1 : Nat) (v2 : Int32) (v3 : Int32) : Option (Int32) :=
  lt (v3 + 1) fun y1 =>
  k4 (v2, y1)
def jn_X9_greatest_36 (N : Nat) (Λ : Lay) (μ : Mem) (k4 : Int32 × Int32 → Option (Int32)) (v0 : Nat) (v1 : Nat) (v3 : Int32) : Option (Int32) :=
  jn_X9_greatest_38 N Λ μ k4 v0 v1 v3 v3
def bd_X9_greatest_4 (N : Nat) (Λ : Lay) (μ : Mem) (k4 : Int32 × Int32 → Option (Int32)) (v0 : Nat) (v1 : Nat) (v2 : Int32) (v3 : Int32) : Option (Int32) :=
  if (μ.1 v0 8) ≤ v3 then
    (some v2)
  else
    ((dr Λ v0 16 13).bind fun q2 =>
    gd (inb v3 (aZ Λ q2)) <|
    if (μ.1 q2 v3.toNatClampNeg) = 2 then
      (jn_X9_greatest_38 N Λ μ k4 v0 v1 v2 v3)
    else
      (if v2 = (-1) then
        (jn_X9_greatest_36 N Λ μ k4 v0 v1 v3)
      else
        (gd (inb v3 (aZ Λ v1)) <|
        gd (inb v2 (aZ Λ v1)) <|
        if (μ.1 v1 v3.toNatClampNeg) ≤ (μ.1 v1 v2.toNatClampNeg) then
          (jn_X9_greatest_38 N Λ μ k4 v0 v1 v2 v3)
        else
          (jn_X9_greatest_36 N Λ μ k4 v0 v1 v3))))
def lp_X9_greatest_4 (N : Nat) (Λ : Lay) (μ : Mem) (v0 : Nat) (v1 : Nat) (s : Int32 × Int32) : Option (Int32) := cw (fun k s => bd_X9_greatest_4 N Λ μ k v0 v1 s.1 s.2) N s
def m_X9_greatest (N : Nat) (Λ : Lay) (μ : Mem) (v0 : Nat) (v1 : Nat) : Option (Int32) :=
  lp_X9_greatest_4 N Λ μ v0 v1 ((-1), 0)
def jn_X10_addFour_40 (N : Nat) (Λ : Lay) (μ : Mem) (k3 : Int32 × Mem → Option (Mem)) (v0 : Nat) (v1 : Int32) (v2 : Int32) : Option (Mem) :=
  lt (v2 + (-8)) fun y1 =>
  k3 (y1, μ)
def bd_X10_addFour_3 (N : Nat) (Λ : Lay) (μ : Mem) (k3 : Int32 × Mem → Option (Mem)) (v0 : Nat) (v1 : Int32) (v2 : Int32) : Option (Mem) :=
  if v2 < 0 then
    (some μ)
  else
    (if 400 ≤ (μ.1 v0 1) then
      (jn_X10_addFour_40 N Λ μ k3 v0 v1 v2)
    else
      ((dr Λ v0 0 12).bind fun q3 =>
      gd (inb (μ.1 v0 1) (aZ Λ q3)) <|
      lt (mset μ q3 (μ.1 v0 1).toNatClampNeg (((ishr v1 v2).toInt8.toInt32).toInt8.toInt32)) fun μ6 =>
      lt (mset μ6 v0 1 ((μ6.1 v0 1) + 1)) fun μ8 =>
      jn_X10_addFour_40 N Λ μ8 k3 v0 v1 v2))
def lp_X10_addFour_3 (N : Nat) (Λ : Lay) (v0 : Nat) (v1 : Int32) (s : Int32 × Mem) : Option (Mem) := cw (fun k s => bd_X10_addFour_3 N Λ (s.2) k v0 v1 s.1) N s
def m_X10_addFour (N : Nat) (Λ : Lay) (μ : Mem) (v0 : Nat) (v1 : Int32) : Option (Mem) :=
  lp_X10_addFour_3 N Λ v0 v1 (24, μ)
def m_X11_feed (N : Nat) (Λ : Lay) (μ : Mem) (v0 : Nat) (v1 : Int32) (v2 : Int32) (v3 : Int32) (v4 : Int32) (v5 : Int32) : Option (Int32 × Mem) :=
  (dr Λ v0 0 9).bind fun q1 =>
  if ((μ.1 q1 1) + 20) ≤ 400 then
    ((dr Λ v0 0 9).bind fun q4 =>
    (m_X10_addFour N Λ μ q4 v1).bind fun r6 =>
    (dr Λ v0 0 9).bind fun q8 =>
    (m_X10_addFour N Λ r6 q8 v2).bind fun r10 =>
    (dr Λ v0 0 9).bind fun q12 =>
    (m_X10_addFour N Λ r10 q12 v3).bind fun r14 =>
    (dr Λ v0 0 9).bind fun q16 =>
    (m_X10_addFour N Λ r14 q16 v4).bind fun r18 =>
    (dr Λ v0 0 9).bind fun q20 =>
    (m_X10_addFour N Λ r18 q20 v5).bind fun r22 =>
    (dr Λ v0 0 9).bind fun q24 =>
    some (r22.1 q24 1, r22))
  else
    (some ((-1), μ))
def jn_X11_end_15 (N : Nat) (Λ : Lay) (μ : Mem) : Option (Int32 × Mem) :=
  some (0, μ)
def m_X11_end (N : Nat) (Λ : Lay) (μ : Mem) (v0 : Nat) (v1 : Int32) : Option (Int32 × Mem) :=
  if v1 < 0 then
    (jn_X11_end_15 N Λ μ)
  else
    ((dr Λ v0 0 9).bind fun q2 =>
    if v1 ≤ (μ.1 q2 1) then
      ((dr Λ v0 0 9).bind fun q5 =>
      lt (mset μ q5 1 v1) fun μ7 =>
      some (1, μ7))
    else
      (jn_X11_end_15 N Λ μ))
def m_X11_dock (N : Nat) (Λ : Lay) (μ : Mem) (v0 : Nat) : Option (RX_) :=
  (dr Λ v0 2 8).bind fun q1 =>
  (dr Λ v0 1 8).bind fun q3 =>
  (m_X9_copy N Λ μ q1 q3).bind fun r5 =>
  (dr Λ v0 7 1).bind fun q7 =>
  (m_X7_readLines_1 N Λ r5 q7 14).bind fun r9 =>
  lt (mset r9.2 v0 14 r9.1) fun μ11 =>
  (dr Λ v0 0 9).bind fun q13 =>
  lt (mset μ11 q13 1 0) fun μ15 =>
  if (μ15.1 v0 14) = (-1) then
    ((dr Λ v0 1 8).bind fun q18 =>
    if (μ15.1 q18 7) < 12 then
      ((dr Λ v0 1 8).bind fun q21 =>
      (dr Λ v0 2 8).bind fun q23 =>
      (m_X9_copy N Λ μ15 q21 q23).bind fun r25 =>
      (dr Λ v0 1 8).bind fun q27 =>
      lt (mset r25 q27 7 ((r25.1 q27 7) + 1)) fun μ29 =>
      (dr Λ v0 9 5).bind fun q31 =>
      (m_X5_forget N Λ μ29 q31).bind fun r33 =>
      (dr Λ v0 1 8).bind fun q35 =>
      some (0, r33.1 q35 7, r33))
    else
      (some (2, 0, μ15)))
  else
    (some (1, 0, μ15))
def m_X11_law (N : Nat) (Λ : Lay) (μ : Mem) (v0 : Nat) : Option (RX_) :=
  (dr Λ v0 5 2).bind fun q1 =>
  (m_X2_clear N Λ μ q1).bind fun r3 =>
  (dr Λ v0 8 3).bind fun q5 =>
  (m_X7_readLines_3 N Λ r3 q5 12).bind fun r7 =>
  lt (mset r7.2 v0 14 r7.1) fun μ9 =>
  (dr Λ v0 0 9).bind fun q11 =>
  lt (mset μ9 q11 1 0) fun μ13 =>
  if (μ13.1 v0 14) = (-1) then
    ((dr Λ v0 4 2).bind fun q16 =>
    (dr Λ v0 5 2).bind fun q18 =>
    (m_X2_copy N Λ μ13 q16 q18).bind fun r20 =>
    (dr Λ v0 9 5).bind fun q22 =>
    (m_X5_forget N Λ r20 q22).bind fun r24 =>
    (dr Λ v0 4 2).bind fun q26 =>
    some (0, r24.1 q26 0, r24))
  else
    (some (1, 0, μ13))
def m_X11_fault (N : Nat) (Λ : Lay) (μ : Mem) (v0 : Nat) : Option (Int32) :=
  some (μ.1 v0 14)
def jn_X11_needShip_15 (N : Nat) (Λ : Lay) (μ : Mem) : Option (RX_) :=
  some (3, 0, μ)
def m_X11_needShip (N : Nat) (Λ : Lay) (μ : Mem) (v0 : Nat) (v1 : Int32) : Option (RX_) :=
  if v1 < 0 then
    (jn_X11_needShip_15 N Λ μ)
  else
    ((dr Λ v0 1 8).bind fun q2 =>
    if v1 < (μ.1 q2 8) then
      (some (0, 0, μ))
    else
      (jn_X11_needShip_15 N Λ μ))
def jn_X11_ship_138 (N : Nat) (Λ : Lay) (μ : Mem) (s0 : Int32) : Option (RX_) :=
  some (0, s0, μ)
def jn_X11_ship_168 (N : Nat) (Λ : Lay) (μ : Mem) (s0 : Int32) : Option (RX_) :=
  some (0, s0, μ)
def jn_X11_ship_185 (N : Nat) (Λ : Lay) (μ : Mem) (s0 : Int32) : Option (RX_) :=
  some (0, s0, μ)
def m_X11_ship (N : Nat) (Λ : Lay) (μ : Mem) (v0 : Nat) (v1 : Int32) (v2 : Int32) : Option (RX_) :=
  (m_X11_needShip N Λ μ v0 v1).bind fun r1 =>
  thn (r1.1 = 0) (some (r1.1, 0, r1.2.2)) <|
  if v2 = 0 then
    ((dr Λ v0 1 8).bind fun q5 =>
    (dr Λ q5 13 13).bind fun q7 =>
    gd (inb v1 (aZ Λ q7)) <|
    some (0, r1.2.2.1 q7 v1.toNatClampNeg, r1.2.2))
  else
  if v2 = 1 then
    ((dr Λ v0 1 8).bind fun q11 =>
    (dr Λ q11 14 13).bind fun q13 =>
    gd (inb v1 (aZ Λ q13)) <|
    some (0, r1.2.2.1 q13 v1.toNatClampNeg, r1.2.2))
  else
  if v2 = 2 then
    ((dr Λ v0 1 8).bind fun q17 =>
    (dr Λ q17 15 13).bind fun q19 =>
    gd (inb v1 (aZ Λ q19)) <|
    some (0, r1.2.2.1 q19 v1.toNatClampNeg, r1.2.2))
  else
  if v2 = 3 then
    ((dr Λ v0 1 8).bind fun q23 =>
    (dr Λ q23 16 13).bind fun q25 =>
    gd (inb v1 (aZ Λ q25)) <|
    some (0, r1.2.2.1 q25 v1.toNatClampNeg, r1.2.2))
  else
  if v2 = 4 then
    ((dr Λ v0 1 8).bind fun q29 =>
    (dr Λ q29 17 13).bind fun q31 =>
    gd (inb v1 (aZ Λ q31)) <|
    some (0, r1.2.2.1 q31 v1.toNatClampNeg, r1.2.2))
  else
  if v2 = 5 then
    ((dr Λ v0 1 8).bind fun q35 =>
    (m_X9_isHurt N Λ r1.2.2 q35 v1).bind fun r37 =>
    if r37 = 0 then
      (jn_X11_ship_138 N Λ r1.2.2 0)
    else
      (jn_X11_ship_138 N Λ r1.2.2 1))
  else
  if v2 = 6 then
    ((dr Λ v0 1 8).bind fun q41 =>
    (dr Λ v0 4 2).bind fun q43 =>
    (m_X9_feeOf N Λ r1.2.2 q41 v1 q43).bind fun r45 =>
    some (0, r45.1, r45.2))
  else
  if v2 = 7 then
    ((dr Λ v0 1 8).bind fun q48 =>
    (m_X9_floats N Λ r1.2.2 q48 v1).bind fun r50 =>
    if r50 = 0 then
      (jn_X11_ship_168 N Λ r1.2.2 0)
    else
      (jn_X11_ship_168 N Λ r1.2.2 1))
  else
  if v2 = 8 then
    ((dr Λ v0 1 8).bind fun q54 =>
    (m_X9_isBorne N Λ r1.2.2 q54 v1).bind fun r56 =>
    if r56 = 0 then
      (jn_X11_ship_185 N Λ r1.2.2 0)
    else
      (jn_X11_ship_185 N Λ r1.2.2 1))
  else
  if v2 = 9 then
    ((dr Λ v0 1 8).bind fun q60 =>
    (m_X9_wedgesOf N Λ r1.2.2 q60 v1).bind fun r62 =>
    some (0, r62, r1.2.2))
  else
  if v2 = 10 then
    ((dr Λ v0 1 8).bind fun q65 =>
    (m_X9_whenFor N Λ r1.2.2 q65 v1).bind fun r67 =>
    some (0, r67, r1.2.2))
  else
  if v2 = 11 then
    ((dr Λ v0 1 8).bind fun q70 =>
    (m_X9_fitsAt N Λ r1.2.2 q70 v1).bind fun r72 =>
    some (0, r72, r1.2.2))
  else
  if v2 = 12 then
    ((dr Λ v0 1 8).bind fun q75 =>
    (m_X9_shareOf N Λ r1.2.2 q75 v1).bind fun r77 =>
    some (0, r77, r1.2.2))
  else
    (some (4, 0, r1.2.2))
def jn_X11_needPlace_10 (N : Nat) (Λ : Lay) (μ : Mem) : Option (RX_) :=
  some (3, 0, μ)
def m_X11_needPlace (N : Nat) (Λ : Lay) (μ : Mem) (v0 : Nat) (v1 : Int32) : Option (RX_) :=
  if v1 < 0 then
    (jn_X11_needPlace_10 N Λ μ)
  else
    (if v1 < 24 then
      (some (0, 0, μ))
    else
      (jn_X11_needPlace_10 N Λ μ))
def m_X11_place (N : Nat) (Λ : Lay) (μ : Mem) (v0 : Nat) (v1 : Int32) (v2 : Int32) : Option (RX_) :=
  (m_X11_needPlace N Λ μ v0 v1).bind fun r1 =>
  thn (r1.1 = 0) (some (r1.1, 0, r1.2.2)) <|
  if v2 = 0 then
    ((dr Λ v0 1 8).bind fun q5 =>
    some (0, (ishr (r1.2.2.1 q5 9) v1) &&& 1, r1.2.2))
  else
  if v2 = 1 then
    ((dr Λ v0 1 8).bind fun q8 =>
    (m_X9_shipOn N Λ r1.2.2 q8 v1).bind fun r10 =>
    some (0, r10, r1.2.2))
  else
    (some (4, 0, r1.2.2))
def jn_X11_needTide_10 (N : Nat) (Λ : Lay) (μ : Mem) : Option (RX_) :=
  some (3, 0, μ)
def m_X11_needTide (N : Nat) (Λ : Lay) (μ : Mem) (v0 : Nat) (v1 : Int32) : Option (RX_) :=
  if v1 < 0 then
    (jn_X11_needTide_10 N Λ μ)
  else
    (if v1 < 12 then
      (some (0, 0, μ))
    else
      (jn_X11_needTide_10 N Λ μ))
def m_X11_tide (N : Nat) (Λ : Lay) (μ : Mem) (v0 : Nat) (v1 : Int32) : Option (RX_) :=
  (m_X11_needTide N Λ μ v0 v1).bind fun r1 =>
  thn (r1.1 = 0) (some (r1.1, 0, r1.2.2)) <|
  (dr Λ v0 1 8).bind fun q4 =>
  (dr Λ q4 12 13).bind fun q6 =>
  gd (inb v1 (aZ Λ q6)) <|
  some (0, r1.2.2.1 q6 v1.toNatClampNeg, r1.2.2)
def jn_X11_hours_11 (N : Nat) (Λ : Lay) (μ : Mem) : Option (RX_) :=
  some (1, 0, μ)
def m_X11_hours (N : Nat) (Λ : Lay) (μ : Mem) (v0 : Nat) (v1 : Int32) : Option (RX_) :=
  if v1 < 1 then
    (jn_X11_hours_11 N Λ μ)
  else
    (if v1 ≤ 60 then
      ((dr Λ v0 9 5).bind fun q3 =>
      (dr Λ v0 1 8).bind fun q5 =>
      (m_X5_remember N Λ μ q3 q5).bind fun r7 =>
      (dr Λ v0 1 8).bind fun q9 =>
      (dr Λ v0 4 2).bind fun q11 =>
      (m_X9_pass N Λ r7 q9 v1 q11 1).bind fun r13 =>
      some (0, r13.1, r13.2))
    else
      (jn_X11_hours_11 N Λ μ))
def jn_X11_gate_61 (N : Nat) (Λ : Lay) (μ : Mem) (v0 : Nat) (v1 : Int32) (s0 : Int32) : Option (RX_) :=
  (dr Λ v0 1 8).bind fun q1 =>
  gd (zb v1) <|
  lt (mset μ q1 11 v1) fun μ4 =>
  gd (zb s0) <|
  some (0, s0, μ4)
def jn_X11_gate_34 (N : Nat) (Λ : Lay) (μ : Mem) (v0 : Nat) (v1 : Int32) : Option (RX_) :=
  (dr Λ v0 9 5).bind fun q1 =>
  (dr Λ v0 1 8).bind fun q3 =>
  (m_X5_remember N Λ μ q1 q3).bind fun r5 =>
  (dr Λ v0 1 8).bind fun q7 =>
  if (r5.1 q7 11) = v1 then
    (jn_X11_gate_61 N Λ r5 v0 v1 0)
  else
    (jn_X11_gate_61 N Λ r5 v0 v1 1)
def m_X11_gate (N : Nat) (Λ : Lay) (μ : Mem) (v0 : Nat) (v1 : Int32) : Option (RX_) :=
  if v1 = 0 then
    (jn_X11_gate_34 N Λ μ v0 v1)
  else
    ((dr Λ v0 1 8).bind fun q2 =>
    if (μ.1 q2 11) = 0 then
      ((dr Λ v0 1 8).bind fun q5 =>
      (m_X9_isEven N Λ μ q5).bind fun r7 =>
      if r7 = 0 then
        (some (5, 0, μ))
      else
        (jn_X11_gate_34 N Λ μ v0 v1))
    else
      (jn_X11_gate_34 N Λ μ v0 v1))
def jn_X11_enter_74 (N : Nat) (Λ : Lay) (μ : Mem) : Option (RX_) :=
  some (5, 0, μ)
def m_X11_enter (N : Nat) (Λ : Lay) (μ : Mem) (v0 : Nat) (v1 : Int32) (v2 : Int32) : Option (RX_) :=
  (m_X11_needShip N Λ μ v0 v1).bind fun r1 =>
  thn (r1.1 = 0) (some (r1.1, 0, r1.2.2)) <|
  (m_X11_needPlace N Λ r1.2.2 v0 v2).bind fun r4 =>
  thn (r4.1 = 0) (some (r4.1, 0, r4.2.2)) <|
  (dr Λ v0 1 8).bind fun q7 =>
  if (r4.2.2.1 q7 11) = 0 then
    (jn_X11_enter_74 N Λ r4.2.2)
  else
    ((dr Λ v0 1 8).bind fun q10 =>
    (dr Λ q10 16 13).bind fun q12 =>
    gd (inb v1 (aZ Λ q12)) <|
    if (r4.2.2.1 q12 v1.toNatClampNeg) = 0 then
      ((dr Λ v0 1 8).bind fun q16 =>
      (dr Λ q16 14 13).bind fun q18 =>
      gd (inb v1 (aZ Λ q18)) <|
      (dr Λ v0 1 8).bind fun q21 =>
      if (r4.2.2.1 q21 0) < (r4.2.2.1 q18 v1.toNatClampNeg) then
        (jn_X11_enter_74 N Λ r4.2.2)
      else
        ((dr Λ v0 1 8).bind fun q24 =>
        (m_X9_takenPlaces N Λ r4.2.2 q24).bind fun r26 =>
        (dr Λ v0 1 8).bind fun q28 =>
        (dr Λ q28 13 13).bind fun q30 =>
        gd (inb v1 (aZ Λ q30)) <|
        (m_X11_isRoom N Λ r4.2.2 r26 v2 (r4.2.2.1 q30 v1.toNatClampNeg)).bind fun r33 =>
        if r33 = 0 then
          (jn_X11_enter_74 N Λ r4.2.2)
        else
          ((dr Λ v0 9 5).bind fun q36 =>
          (dr Λ v0 1 8).bind fun q38 =>
          (m_X5_remember N Λ r4.2.2 q36 q38).bind fun r40 =>
          (dr Λ v0 1 8).bind fun q42 =>
          (m_X9_letIn N Λ r40 q42 v1 v2).bind fun r44 =>
          (dr Λ v0 1 8).bind fun q46 =>
          (m_X9_freePlaces N Λ r44 q46).bind fun r48 =>
          some (0, r48, r44))))
    else
      (jn_X11_enter_74 N Λ r4.2.2))
def jn_X11_leave_26 (N : Nat) (Λ : Lay) (μ : Mem) : Option (RX_) :=
  some (5, 0, μ)
def m_X11_leave (N : Nat) (Λ : Lay) (μ : Mem) (v0 : Nat) (v1 : Int32) : Option (RX_) :=
  (m_X11_needShip N Λ μ v0 v1).bind fun r1 =>
  thn (r1.1 = 0) (some (r1.1, 0, r1.2.2)) <|
  (dr Λ v0 1 8).bind fun q4 =>
  if (r1.2.2.1 q4 11) = 0 then
    (jn_X11_leave_26 N Λ r1.2.2)
  else
    ((dr Λ v0 1 8).bind fun q7 =>
    (m_X9_floats N Λ r1.2.2 q7 v1).bind fun r9 =>
    if r9 = 0 then
      (jn_X11_leave_26 N Λ r1.2.2)
    else
      ((dr Λ v0 9 5).bind fun q12 =>
      (dr Λ v0 1 8).bind fun q14 =>
      (m_X5_remember N Λ r1.2.2 q12 q14).bind fun r16 =>
      (dr Λ v0 1 8).bind fun q18 =>
      (dr Λ v0 4 2).bind fun q20 =>
      (m_X9_letOut N Λ r16 q18 v1 q20).bind fun r22 =>
      some (0, r22.1, r22.2)))
def jn_X11_comes_32 (N : Nat) (Λ : Lay) (μ : Mem) : Option (RX_) :=
  some (1, 0, μ)
def m_X11_comes (N : Nat) (Λ : Lay) (μ : Mem) (v0 : Nat) (v1 : Int32) (v2 : Int32) (v3 : Int32) : Option (RX_) :=
  if v1 < 1 then
    (jn_X11_comes_32 N Λ μ)
  else
    (if 12 < v1 then
      (jn_X11_comes_32 N Λ μ)
    else
      (if v2 < 1 then
        (jn_X11_comes_32 N Λ μ)
      else
        (if 20 < v2 then
          (jn_X11_comes_32 N Λ μ)
        else
          (if v3 < 0 then
            (jn_X11_comes_32 N Λ μ)
          else
            (if v3 ≤ 99 then
              ((dr Λ v0 1 8).bind fun q7 =>
              if (μ.1 q7 8) < 8 then
                ((dr Λ v0 9 5).bind fun q10 =>
                (dr Λ v0 1 8).bind fun q12 =>
                (m_X5_remember N Λ μ q10 q12).bind fun r14 =>
                (dr Λ v0 1 8).bind fun q16 =>
                (m_X9_addShip N Λ r14 q16 v1 v2 v3 (-1)).bind fun r18 =>
                some (0, r18.1, r18.2))
              else
                (some (5, 0, μ)))
            else
              (jn_X11_comes_32 N Λ μ))))))
def jn_X11_block_69 (N : Nat) (Λ : Lay) (μ : Mem) (s0 : Int32) : Option (RX_) :=
  gd (zb s0) <|
  some (0, s0, μ)
def jn_X11_block_50 (N : Nat) (Λ : Lay) (μ : Mem) (v0 : Nat) (v3 : Int32) (s0 : Nat) (s1 : Int32) : Option (RX_) :=
  lt (mset μ s0 9 s1) fun μ1 =>
  (dr Λ v0 1 8).bind fun q3 =>
  if (μ1.1 q3 9) = v3 then
    (jn_X11_block_69 N Λ μ1 0)
  else
    (jn_X11_block_69 N Λ μ1 1)
def m_X11_block (N : Nat) (Λ : Lay) (μ : Mem) (v0 : Nat) (v1 : Int32) (v2 : Int32) : Option (RX_) :=
  (m_X11_needPlace N Λ μ v0 v1).bind fun r1 =>
  thn (r1.1 = 0) (some (r1.1, 0, r1.2.2)) <|
  (dr Λ v0 9 5).bind fun q4 =>
  (dr Λ v0 1 8).bind fun q6 =>
  (m_X5_remember N Λ r1.2.2 q4 q6).bind fun r8 =>
  (dr Λ v0 1 8).bind fun q10 =>
  lt (r8.1 q10 9) fun y12 =>
  lt (ishl 1 v1) fun y14 =>
  (dr Λ v0 1 8).bind fun q16 =>
  if v2 = 0 then
    (jn_X11_block_50 N Λ r8 v0 y12 q16 (y12 &&& (y14 ^^^ (-1))))
  else
    (jn_X11_block_50 N Λ r8 v0 y12 q16 (y12 ||| y14))
def jn_X11_needNumber_9 (N : Nat) (Λ : Lay) (μ : Mem) : Option (RX_) :=
  some (1, 0, μ)
def m_X11_needNumber (N : Nat) (Λ : Lay) (μ : Mem) (v0 : Nat) (v1 : Int32) (v2 : Int32) : Option (RX_) :=
  if v1 < 0 then
    (jn_X11_needNumber_9 N Λ μ)
  else
    (if v1 ≤ v2 then
      (some (0, 0, μ))
    else
      (jn_X11_needNumber_9 N Λ μ))
def m_X11_pumps (N : Nat) (Λ : Lay) (μ : Mem) (v0 : Nat) (v1 : Int32) : Option (RX_) :=
  (m_X11_needNumber N Λ μ v0 v1 9).bind fun r1 =>
  thn (r1.1 = 0) (some (r1.1, 0, r1.2.2)) <|
  (dr Λ v0 9 5).bind fun q4 =>
  (dr Λ v0 1 8).bind fun q6 =>
  (m_X5_remember N Λ r1.2.2 q4 q6).bind fun r8 =>
  (dr Λ v0 1 8).bind fun q10 =>
  lt (r8.1 q10 2) fun y12 =>
  (dr Λ v0 1 8).bind fun q14 =>
  lt (mset r8 q14 2 v1) fun μ16 =>
  some (0, y12, μ16)
def m_X11_hands (N : Nat) (Λ : Lay) (μ : Mem) (v0 : Nat) (v1 : Int32) : Option (RX_) :=
  (m_X11_needNumber N Λ μ v0 v1 9).bind fun r1 =>
  thn (r1.1 = 0) (some (r1.1, 0, r1.2.2)) <|
  (dr Λ v0 9 5).bind fun q4 =>
  (dr Λ v0 1 8).bind fun q6 =>
  (m_X5_remember N Λ r1.2.2 q4 q6).bind fun r8 =>
  (dr Λ v0 1 8).bind fun q10 =>
  lt (r8.1 q10 3) fun y12 =>
  (dr Λ v0 1 8).bind fun q14 =>
  lt (mset r8 q14 3 v1) fun μ16 =>
  some (0, y12, μ16)
def m_X11_flow (N : Nat) (Λ : Lay) (μ : Mem) (v0 : Nat) (v1 : Int32) (v2 : Int32) : Option (RX_) :=
  (m_X11_needTide N Λ μ v0 v1).bind fun r1 =>
  thn (r1.1 = 0) (some (r1.1, 0, r1.2.2)) <|
  (m_X11_needNumber N Λ r1.2.2 v0 v2 30).bind fun r4 =>
  thn (r4.1 = 0) (some (r4.1, 0, r4.2.2)) <|
  (dr Λ v0 9 5).bind fun q7 =>
  (dr Λ v0 1 8).bind fun q9 =>
  (m_X5_remember N Λ r4.2.2 q7 q9).bind fun r11 =>
  (dr Λ v0 1 8).bind fun q13 =>
  (dr Λ q13 12 13).bind fun q15 =>
  gd (inb v1 (aZ Λ q15)) <|
  lt (r11.1 q15 v1.toNatClampNeg) fun y18 =>
  (dr Λ v0 1 8).bind fun q20 =>
  (dr Λ q20 12 13).bind fun q22 =>
  gd (inb v1 (aZ Λ q22)) <|
  lt (mset r11 q22 v1.toNatClampNeg v2) fun μ25 =>
  some (0, y18, μ25)
def m_X11_pulls (N : Nat) (Λ : Lay) (μ : Mem) (v0 : Nat) : Option (Int32 × Mem) :=
  (dr Λ v0 1 8).bind fun q1 =>
  (dr Λ v0 4 2).bind fun q3 =>
  (m_X9_pulling N Λ μ q1 q3).bind fun r5 =>
  some (r5.1, r5.2)
def m_X11_leaks (N : Nat) (Λ : Lay) (μ : Mem) (v0 : Nat) : Option (Int32 × Mem) :=
  (dr Λ v0 1 8).bind fun q1 =>
  (dr Λ v0 4 2).bind fun q3 =>
  (m_X9_leaking N Λ μ q1 q3).bind fun r5 =>
  some (r5.1, r5.2)
def m_X11_even (N : Nat) (Λ : Lay) (μ : Mem) (v0 : Nat) : Option (Int32) :=
  (dr Λ v0 1 8).bind fun q1 =>
  (m_X9_isEven N Λ μ q1).bind fun r3 =>
  gd (zb r3) <|
  some r3
def jn_X11_room_38 (N : Nat) (Λ : Lay) (μ : Mem) (k15 : Int32 × Int32 × Int32 → Option (Int32)) (v1 : Int32) (v3 : Int32) (v4 : Int32) (s0 : Int32) : Option (Int32) :=
  lt (imax v3 s0) fun y1 =>
  lt (v4 + 1) fun y3 =>
  k15 (s0, y1, y3)
def bd_X11_room_15 (N : Nat) (Λ : Lay) (μ : Mem) (k15 : Int32 × Int32 × Int32 → Option (Int32)) (v1 : Int32) (v2 : Int32) (v3 : Int32) (v4 : Int32) : Option (Int32) :=
  if 24 ≤ v4 then
    (some v3)
  else
    (if ((ishr v1 v4) &&& 1) = 0 then
      (jn_X11_room_38 N Λ μ k15 v1 v3 v4 (v2 + 1))
    else
      (jn_X11_room_38 N Λ μ k15 v1 v3 v4 0))
def lp_X11_room_15 (N : Nat) (Λ : Lay) (μ : Mem) (v1 : Int32) (s : Int32 × Int32 × Int32) : Option (Int32) := cw (fun k s => bd_X11_room_15 N Λ μ k v1 s.1 s.2.1 s.2.2) N s
def m_X11_room (N : Nat) (Λ : Lay) (μ : Mem) (v0 : Nat) : Option (Int32) :=
  (dr Λ v0 1 8).bind fun q1 =>
  (m_X9_takenPlaces N Λ μ q1).bind fun r3 =>
  lp_X11_room_15 N Λ μ r3 (0, 0, 0)
def m_X11_load (N : Nat) (Λ : Lay) (μ : Mem) (v0 : Nat) : Option (Int32 × Mem) :=
  (dr Λ v0 12 6).bind fun q1 =>
  (dr Λ v0 1 8).bind fun q3 =>
  (dr Λ v0 4 2).bind fun q5 =>
  (m_X6_fillDock N Λ μ q1 q3 q5).bind fun r7 =>
  (dr Λ v0 12 6).bind fun q9 =>
  some (r7.1 q9 0, r7)
def m_X11_which (N : Nat) (Λ : Lay) (μ : Mem) (v0 : Nat) : Option (Int32 × Mem) :=
  (dr Λ v0 12 6).bind fun q1 =>
  (dr Λ v0 1 8).bind fun q3 =>
  (dr Λ v0 4 2).bind fun q5 =>
  (m_X6_fillDock N Λ μ q1 q3 q5).bind fun r7 =>
  (dr Λ v0 12 6).bind fun q9 =>
  some (r7.1 q9 1, r7)
def bd_X11_firstHour_13 (N : Nat) (Λ : Lay) (μ : Mem) (k13 : Int32 × Mem → Option (Int32 × Mem)) (v0 : Nat) (v1 : Int32) (v2 : Int32) : Option (Int32 × Mem) :=
  if 60 < v2 then
    (some ((-1), μ))
  else
    ((dr Λ v0 2 8).bind fun q2 =>
    (m_X9_reaches N Λ μ q2 v1).bind fun r4 =>
    if r4 = 0 then
      ((dr Λ v0 2 8).bind fun q7 =>
      (dr Λ v0 4 2).bind fun q9 =>
      (m_X9_step N Λ μ q7 q9 0).bind fun r11 =>
      lt (v2 + 1) fun y13 =>
      k13 (y13, r11.2))
    else
      (some (v2, μ)))
def lp_X11_firstHour_13 (N : Nat) (Λ : Lay) (v0 : Nat) (v1 : Int32) (s : Int32 × Mem) : Option (Int32 × Mem) := cw (fun k s => bd_X11_firstHour_13 N Λ (s.2) k v0 v1 s.1) N s
def m_X11_firstHour (N : Nat) (Λ : Lay) (μ : Mem) (v0 : Nat) (v1 : Int32) : Option (Int32 × Mem) :=
  (dr Λ v0 2 8).bind fun q1 =>
  (dr Λ v0 1 8).bind fun q3 =>
  (m_X9_copy N Λ μ q1 q3).bind fun r5 =>
  lp_X11_firstHour_13 N Λ v0 v1 (0, r5)
def m_X11_dry (N : Nat) (Λ : Lay) (μ : Mem) (v0 : Nat) : Option (Int32 × Mem) :=
  (m_X11_firstHour N Λ μ v0 0).bind fun r1 =>
  some (r1.1, r1.2)
def m_X11_ready (N : Nat) (Λ : Lay) (μ : Mem) (v0 : Nat) : Option (Int32 × Mem) :=
  (m_X11_firstHour N Λ μ v0 1).bind fun r1 =>
  some (r1.1, r1.2)
def m_X11_ease (N : Nat) (Λ : Lay) (μ : Mem) (v0 : Nat) : Option (Int32 × Mem) :=
  (m_X11_firstHour N Λ μ v0 2).bind fun r1 =>
  some (r1.1, r1.2)
def m_X11_cost (N : Nat) (Λ : Lay) (μ : Mem) (v0 : Nat) : Option (Int32 × Mem) :=
  (dr Λ v0 12 6).bind fun q1 =>
  (dr Λ v0 1 8).bind fun q3 =>
  (dr Λ v0 4 2).bind fun q5 =>
  (m_X6_orderWork N Λ μ q1 q3 q5).bind fun r7 =>
  (dr Λ v0 12 6).bind fun q9 =>
  some (r7.1 q9 0, r7)
def m_X11_first (N : Nat) (Λ : Lay) (μ : Mem) (v0 : Nat) : Option (Int32 × Mem) :=
  (dr Λ v0 12 6).bind fun q1 =>
  (dr Λ v0 1 8).bind fun q3 =>
  (dr Λ v0 4 2).bind fun q5 =>
  (m_X6_orderWork N Λ μ q1 q3 q5).bind fun r7 =>
  (dr Λ v0 12 6).bind fun q9 =>
  some (r7.1 q9 1, r7)
def m_X11_needCurves (N : Nat) (Λ : Lay) (μ : Mem) (v0 : Nat) : Option (RX_) :=
  (dr Λ v0 10 0).bind fun q1 =>
  (dr Λ v0 0 9).bind fun q3 =>
  (m_X0_read N Λ μ q1 q3).bind fun r5 =>
  (dr Λ v0 0 9).bind fun q7 =>
  lt (mset r5.2 q7 1 0) fun μ9 =>
  if r5.1 = 0 then
    (some (1, 0, μ9))
  else
    (some (0, 0, μ9))
def jn_X11_goes_33 (N : Nat) (Λ : Lay) (μ : Mem) (s0 : Int32) : Option (RX_) :=
  some (0, s0, μ)
def m_X11_goes (N : Nat) (Λ : Lay) (μ : Mem) (v0 : Nat) (v1 : Int32) : Option (RX_) :=
  (m_X11_needCurves N Λ μ v0).bind fun r1 =>
  thn (r1.1 = 0) (some (r1.1, 0, r1.2.2)) <|
  (dr Λ v0 10 0).bind fun q4 =>
  (m_X0_search N Λ r1.2.2 q4 0).bind fun r6 =>
  if v1 = 0 then
    ((dr Λ v0 10 0).bind fun q9 =>
    jn_X11_goes_33 N Λ r6 (r6.1 q9 0))
  else
    ((dr Λ v0 10 0).bind fun q11 =>
    jn_X11_goes_33 N Λ r6 (r6.1 q11 1))
def m_X11_ask (N : Nat) (Λ : Lay) (μ : Mem) (v0 : Nat) : Option (RX_) :=
  (m_X11_needCurves N Λ μ v0).bind fun r1 =>
  thn (r1.1 = 0) (some (r1.1, 0, r1.2.2)) <|
  (dr Λ v0 10 0).bind fun q4 =>
  (m_X0_search N Λ r1.2.2 q4 1).bind fun r6 =>
  (dr Λ v0 10 0).bind fun q8 =>
  (m_X0_bestHour N Λ r6 q8).bind fun r10 =>
  some (0, r10, r6)
def m_X11_needSoundings (N : Nat) (Λ : Lay) (μ : Mem) (v0 : Nat) : Option (RX_) :=
  (dr Λ v0 11 7).bind fun q1 =>
  (dr Λ v0 0 9).bind fun q3 =>
  (m_X8_read N Λ μ q1 q3).bind fun r5 =>
  (dr Λ v0 0 9).bind fun q7 =>
  lt (mset r5.2 q7 1 0) fun μ9 =>
  if r5.1 = 0 then
    (some (1, 0, μ9))
  else
    (some (0, 0, μ9))
def m_X11_lies (N : Nat) (Λ : Lay) (μ : Mem) (v0 : Nat) : Option (RX_) :=
  (m_X11_needSoundings N Λ μ v0).bind fun r1 =>
  thn (r1.1 = 0) (some (r1.1, 0, r1.2.2)) <|
  (dr Λ v0 11 7).bind fun q4 =>
  (m_X8_search N Λ r1.2.2 q4).bind fun r6 =>
  (dr Λ v0 11 7).bind fun q8 =>
  some (0, r6.1 q8 0, r6)
def m_X11_likely (N : Nat) (Λ : Lay) (μ : Mem) (v0 : Nat) : Option (RX_) :=
  (m_X11_needSoundings N Λ μ v0).bind fun r1 =>
  thn (r1.1 = 0) (some (r1.1, 0, r1.2.2)) <|
  (dr Λ v0 11 7).bind fun q4 =>
  (m_X8_search N Λ r1.2.2 q4).bind fun r6 =>
  (dr Λ v0 11 7).bind fun q8 =>
  some (0, r6.1 q8 1, r6)
def m_X11_sound (N : Nat) (Λ : Lay) (μ : Mem) (v0 : Nat) : Option (RX_) :=
  (m_X11_needSoundings N Λ μ v0).bind fun r1 =>
  thn (r1.1 = 0) (some (r1.1, 0, r1.2.2)) <|
  (dr Λ v0 11 7).bind fun q4 =>
  (m_X8_search N Λ r1.2.2 q4).bind fun r6 =>
  (dr Λ v0 11 7).bind fun q8 =>
  (m_X8_bestPlace N Λ r6 q8).bind fun r10 =>
  some (0, r10, r6)
def jn_X11_knocks_18 (N : Nat) (Λ : Lay) (μ : Mem) (s0 : Int32) : Option (Int32) :=
  gd (zb s0) <|
  some s0
def m_X11_knocks (N : Nat) (Λ : Lay) (μ : Mem) (v0 : Nat) : Option (Int32) :=
  (dr Λ v0 1 8).bind fun q1 =>
  (m_X6_knockValue N Λ μ (μ.1 q1 9)).bind fun r3 =>
  if r3 = 0 then
    (jn_X11_knocks_18 N Λ μ 0)
  else
    (jn_X11_knocks_18 N Λ μ 1)
def m_X11_knock (N : Nat) (Λ : Lay) (μ : Mem) (v0 : Nat) : Option (Int32) :=
  (dr Λ v0 1 8).bind fun q1 =>
  (m_X6_winningKnock N Λ μ (μ.1 q1 9)).bind fun r3 =>
  some r3
def jn_X11_beds_45 (N : Nat) (Λ : Lay) (μ : Mem) (s0 : Int32) : Option (RX_) :=
  some (0, s0, μ)
def jn_X11_beds_10 (N : Nat) (Λ : Lay) (μ : Mem) (v0 : Nat) (v1 : Int32) : Option (RX_) :=
  (dr Λ v0 12 6).bind fun q1 =>
  (dr Λ v0 1 8).bind fun q3 =>
  (m_X6_putToBeds N Λ μ q1 q3).bind fun r5 =>
  if v1 = (-1) then
    ((dr Λ v0 12 6).bind fun q13 =>
    jn_X11_beds_45 N Λ r5 (r5.1 q13 0))
  else
    ((dr Λ v0 12 6).bind fun q8 =>
    (dr Λ q8 2 13).bind fun q10 =>
    gd (inb v1 (aZ Λ q10)) <|
    jn_X11_beds_45 N Λ r5 (r5.1 q10 v1.toNatClampNeg))
def m_X11_beds (N : Nat) (Λ : Lay) (μ : Mem) (v0 : Nat) (v1 : Int32) : Option (RX_) :=
  if v1 = (-1) then
    (jn_X11_beds_10 N Λ μ v0 v1)
  else
    ((m_X11_needShip N Λ μ v0 v1).bind fun r2 =>
    thn (r2.1 = 0) (some (r2.1, 0, r2.2.2)) <|
    jn_X11_beds_10 N Λ r2.2.2 v0 v1)
def jn_X11_pairs_45 (N : Nat) (Λ : Lay) (μ : Mem) (s0 : Int32) : Option (RX_) :=
  some (0, s0, μ)
def jn_X11_pairs_10 (N : Nat) (Λ : Lay) (μ : Mem) (v0 : Nat) (v1 : Int32) : Option (RX_) :=
  (dr Λ v0 12 6).bind fun q1 =>
  (dr Λ v0 1 8).bind fun q3 =>
  (m_X6_pairShips N Λ μ q1 q3).bind fun r5 =>
  if v1 = (-1) then
    ((dr Λ v0 12 6).bind fun q13 =>
    jn_X11_pairs_45 N Λ r5 (r5.1 q13 0))
  else
    ((dr Λ v0 12 6).bind fun q8 =>
    (dr Λ q8 2 13).bind fun q10 =>
    gd (inb v1 (aZ Λ q10)) <|
    jn_X11_pairs_45 N Λ r5 (r5.1 q10 v1.toNatClampNeg))
def m_X11_pairs (N : Nat) (Λ : Lay) (μ : Mem) (v0 : Nat) (v1 : Int32) : Option (RX_) :=
  if v1 = (-1) then
    (jn_X11_pairs_10 N Λ μ v0 v1)
  else
    ((m_X11_needShip N Λ μ v0 v1).bind fun r2 =>
    thn (r2.1 = 0) (some (r2.1, 0, r2.2.2)) <|
    jn_X11_pairs_10 N Λ r2.2.2 v0 v1)
def m_X11_rests (N : Nat) (Λ : Lay) (μ : Mem) (v0 : Nat) (v1 : Int32) : Option (RX_) :=
  (m_X11_needShip N Λ μ v0 v1).bind fun r1 =>
  thn (r1.1 = 0) (some (r1.1, 0, r1.2.2)) <|
  (dr Λ v0 1 8).bind fun q4 =>
  (dr Λ q4 13 13).bind fun q6 =>
  gd (inb v1 (aZ Λ q6)) <|
  (dr Λ v0 1 8).bind fun q9 =>
  (dr Λ q9 14 13).bind fun q11 =>
  gd (inb v1 (aZ Λ q11)) <|
  (dr Λ v0 1 8).bind fun q14 =>
  (m_X6_restingChoices N Λ r1.2.2 (r1.2.2.1 q6 v1.toNatClampNeg) (r1.2.2.1 q11 v1.toNatClampNeg) (r1.2.2.1 q14 3)).bind fun r16 =>
  some (0, r16, r1.2.2)
def m_X11_odds (N : Nat) (Λ : Lay) (μ : Mem) (v0 : Nat) (v1 : Int32) (v2 : Int32) : Option (RX_) :=
  (m_X11_needNumber N Λ μ v0 v1 5).bind fun r1 =>
  thn (r1.1 = 0) (some (r1.1, 0, r1.2.2)) <|
  (m_X11_needNumber N Λ r1.2.2 v0 v2 5).bind fun r4 =>
  thn (r4.1 = 0) (some (r4.1, 0, r4.2.2)) <|
  (dr Λ v0 1 8).bind fun q7 =>
  (m_X6_oddsOf N Λ r4.2.2 v1 v2 (r4.2.2.1 q7 4)).bind fun r9 =>
  some (0, r9, r4.2.2)
def m_X11_most (N : Nat) (Λ : Lay) (μ : Mem) (v0 : Nat) (v1 : Int32) : Option (RX_) :=
  if v1 = 0 then
    ((dr Λ v0 1 8).bind fun q2 =>
    (dr Λ v0 1 8).bind fun q4 =>
    (dr Λ q4 13 13).bind fun q6 =>
    (m_X9_greatest N Λ μ q2 q6).bind fun r8 =>
    some (0, r8, μ))
  else
  if v1 = 1 then
    ((dr Λ v0 1 8).bind fun q11 =>
    (dr Λ v0 1 8).bind fun q13 =>
    (dr Λ q13 14 13).bind fun q15 =>
    (m_X9_greatest N Λ μ q11 q15).bind fun r17 =>
    some (0, r17, μ))
  else
  if v1 = 2 then
    ((dr Λ v0 1 8).bind fun q20 =>
    (dr Λ v0 1 8).bind fun q22 =>
    (dr Λ q22 15 13).bind fun q24 =>
    (m_X9_greatest N Λ μ q20 q24).bind fun r26 =>
    some (0, r26, μ))
  else
    (some (4, 0, μ))
def m_X11_waiting (N : Nat) (Λ : Lay) (μ : Mem) (v0 : Nat) : Option (Int32) :=
  (dr Λ v0 1 8).bind fun q1 =>
  (m_X9_standing N Λ μ q1 0).bind fun r3 =>
  some r3
def m_X11_docked (N : Nat) (Λ : Lay) (μ : Mem) (v0 : Nat) : Option (Int32) :=
  (dr Λ v0 1 8).bind fun q1 =>
  (m_X9_standing N Λ μ q1 1).bind fun r3 =>
  some r3
def m_X11_gone (N : Nat) (Λ : Lay) (μ : Mem) (v0 : Nat) : Option (Int32) :=
  (dr Λ v0 1 8).bind fun q1 =>
  (m_X9_standing N Λ μ q1 2).bind fun r3 =>
  some r3
def m_X11_hurt (N : Nat) (Λ : Lay) (μ : Mem) (v0 : Nat) : Option (Int32) :=
  (dr Λ v0 1 8).bind fun q1 =>
  some (μ.1 q1 10)
def jn_X11_twins_75 (N : Nat) (Λ : Lay) (μ : Mem) (k4 : Int32 × Int32 → Option (Int32)) (k19 : Int32 × Int32 → Option (Int32)) (v0 : Nat) (v1 : Int32) (v2 : Int32) (v3 : Int32) : Option (Int32) :=
  lt (v3 + 1) fun y1 =>
  k19 (v1, y1)
def bd_X11_twins_19 (N : Nat) (Λ : Lay) (μ : Mem) (k4 : Int32 × Int32 → Option (Int32)) (k19 : Int32 × Int32 → Option (Int32)) (v0 : Nat) (v1 : Int32) (v2 : Int32) (v3 : Int32) : Option (Int32) :=
  (dr Λ v0 1 8).bind fun q1 =>
  if (μ.1 q1 8) ≤ v3 then
    (lt (v2 + 1) fun y4 =>
    k4 (v1, y4))
  else
    ((dr Λ v0 1 8).bind fun q6 =>
    (dr Λ q6 13 13).bind fun q8 =>
    gd (inb v2 (aZ Λ q8)) <|
    (dr Λ v0 1 8).bind fun q11 =>
    (dr Λ q11 13 13).bind fun q13 =>
    gd (inb v3 (aZ Λ q13)) <|
    if (μ.1 q8 v2.toNatClampNeg) = (μ.1 q13 v3.toNatClampNeg) then
      ((dr Λ v0 1 8).bind fun q17 =>
      (dr Λ q17 14 13).bind fun q19 =>
      gd (inb v2 (aZ Λ q19)) <|
      (dr Λ v0 1 8).bind fun q22 =>
      (dr Λ q22 14 13).bind fun q24 =>
      gd (inb v3 (aZ Λ q24)) <|
      if (μ.1 q19 v2.toNatClampNeg) = (μ.1 q24 v3.toNatClampNeg) then
        (lt (v1 + 1) fun y28 =>
        jn_X11_twins_75 N Λ μ k4 k19 v0 y28 v2 v3)
      else
        (jn_X11_twins_75 N Λ μ k4 k19 v0 v1 v2 v3))
    else
      (jn_X11_twins_75 N Λ μ k4 k19 v0 v1 v2 v3))
def lp_X11_twins_19 (N : Nat) (Λ : Lay) (μ : Mem) (k4 : Int32 × Int32 → Option (Int32)) (v0 : Nat) (v2 : Int32) (s : Int32 × Int32) : Option (Int32) := cw (fun k s => bd_X11_twins_19 N Λ μ k4 k v0 s.1 v2 s.2) N s
def bd_X11_twins_4 (N : Nat) (Λ : Lay) (μ : Mem) (k4 : Int32 × Int32 → Option (Int32)) (v0 : Nat) (v1 : Int32) (v2 : Int32) : Option (Int32) :=
  (dr Λ v0 1 8).bind fun q1 =>
  if (μ.1 q1 8) ≤ v2 then
    (some v1)
  else
    (lt (v2 + 1) fun y4 =>
    lp_X11_twins_19 N Λ μ k4 v0 v2 (v1, y4))
def lp_X11_twins_4 (N : Nat) (Λ : Lay) (μ : Mem) (v0 : Nat) (s : Int32 × Int32) : Option (Int32) := cw (fun k s => bd_X11_twins_4 N Λ μ k v0 s.1 s.2) N s
def m_X11_twins (N : Nat) (Λ : Lay) (μ : Mem) (v0 : Nat) : Option (Int32) :=
  lp_X11_twins_4 N Λ μ v0 (0, 0)
def jn_X11_water_50 (N : Nat) (Λ : Lay) (μ : Mem) (k4 : Int32 × Int32 → Option (Int32)) (v0 : Nat) (v1 : Int32) (v2 : Int32) (v3 : Int32) : Option (Int32) :=
  lt (v3 + 1) fun y1 =>
  k4 (v2, y1)
def jn_X11_water_48 (N : Nat) (Λ : Lay) (μ : Mem) (k4 : Int32 × Int32 → Option (Int32)) (v0 : Nat) (v1 : Int32) (v3 : Int32) : Option (Int32) :=
  jn_X11_water_50 N Λ μ k4 v0 v1 v3 v3
def bd_X11_water_4 (N : Nat) (Λ : Lay) (μ : Mem) (k4 : Int32 × Int32 → Option (Int32)) (v0 : Nat) (v1 : Int32) (v2 : Int32) (v3 : Int32) : Option (Int32) :=
  if 12 ≤ v3 then
    (some v2)
  else
    ((dr Λ v0 1 8).bind fun q2 =>
    (dr Λ q2 12 13).bind fun q4 =>
    gd (inb v3 (aZ Λ q4)) <|
    (dr Λ v0 1 8).bind fun q7 =>
    (dr Λ q7 12 13).bind fun q9 =>
    gd (inb v2 (aZ Λ q9)) <|
    lt ((μ.1 q4 v3.toNatClampNeg) - (μ.1 q9 v2.toNatClampNeg)) fun y12 =>
    if v1 = 0 then
      (if 0 ≤ y12 then
        (jn_X11_water_50 N Λ μ k4 v0 v1 v2 v3)
      else
        (jn_X11_water_48 N Λ μ k4 v0 v1 v3))
    else
      (if y12 ≤ 0 then
        (jn_X11_water_50 N Λ μ k4 v0 v1 v2 v3)
      else
        (jn_X11_water_48 N Λ μ k4 v0 v1 v3)))
def lp_X11_water_4 (N : Nat) (Λ : Lay) (μ : Mem) (v0 : Nat) (v1 : Int32) (s : Int32 × Int32) : Option (Int32) := cw (fun k s => bd_X11_water_4 N Λ μ k v0 v1 s.1 s.2) N s
def m_X11_water (N : Nat) (Λ : Lay) (μ : Mem) (v0 : Nat) (v1 : Int32) : Option (Int32) :=
  lp_X11_water_4 N Λ μ v0 v1 (0, 1)
def jn_X11_tryHours_46 (N : Nat) (Λ : Lay) (μ : Mem) (s0 : Int32) : Option (Int32 × Mem) :=
  some (s0, μ)
def m_X11_tryHours (N : Nat) (Λ : Lay) (μ : Mem) (v0 : Nat) (v1 : Int32) (v2 : Int32) (v3 : Int32) : Option (Int32 × Mem) :=
  (dr Λ v0 2 8).bind fun q1 =>
  (dr Λ v0 1 8).bind fun q3 =>
  (m_X9_copy N Λ μ q1 q3).bind fun r5 =>
  (dr Λ v0 2 8).bind fun q7 =>
  (dr Λ v0 4 2).bind fun q9 =>
  (m_X9_pass N Λ r5 q7 v1 q9 v3).bind fun r11 =>
  if v2 = 0 then
    ((dr Λ v0 2 8).bind fun q14 =>
    jn_X11_tryHours_46 N Λ r11.2 (r11.2.1 q14 0))
  else
    ((dr Λ v0 2 8).bind fun q16 =>
    (m_X9_allWork N Λ r11.2 q16).bind fun r18 =>
    jn_X11_tryHours_46 N Λ r11.2 r18)
def m_X11_ahead (N : Nat) (Λ : Lay) (μ : Mem) (v0 : Nat) (v1 : Int32) (v2 : Int32) : Option (RX_) :=
  (m_X11_needNumber N Λ μ v0 v1 60).bind fun r1 =>
  thn (r1.1 = 0) (some (r1.1, 0, r1.2.2)) <|
  (m_X11_tryHours N Λ r1.2.2 v0 v1 v2 0).bind fun r4 =>
  some (0, r4.1, r4.2)
def m_X11_trial (N : Nat) (Λ : Lay) (μ : Mem) (v0 : Nat) (v1 : Int32) (v2 : Int32) : Option (RX_) :=
  (m_X11_needNumber N Λ μ v0 v1 60).bind fun r1 =>
  thn (r1.1 = 0) (some (r1.1, 0, r1.2.2)) <|
  (m_X11_tryHours N Λ r1.2.2 v0 v1 v2 1).bind fun r4 =>
  some (0, r4.1, r4.2)
def jn_X11_span_91 (N : Nat) (Λ : Lay) (μ : Mem) (k21 : Int32 × Int32 × Mem → Option (RX_)) (v0 : Nat) (v1 : Int32) (v2 : Int32) (v4 : Int32) (s0 : Int32) : Option (RX_) :=
  lt (v4 + 1) fun y1 =>
  k21 (s0, y1, μ)
def bd_X11_span_21 (N : Nat) (Λ : Lay) (μ : Mem) (k21 : Int32 × Int32 × Mem → Option (RX_)) (v0 : Nat) (v1 : Int32) (v2 : Int32) (v3 : Int32) (v4 : Int32) : Option (RX_) :=
  if 6 < v4 then
    (some (0, v3, μ))
  else
    ((dr Λ v0 2 8).bind fun q2 =>
    (dr Λ v0 1 8).bind fun q4 =>
    (m_X9_copy N Λ μ q2 q4).bind fun r6 =>
    (dr Λ v0 2 8).bind fun q8 =>
    lt (mset r6 q8 6 v4) fun μ10 =>
    (dr Λ v0 2 8).bind fun q12 =>
    (dr Λ v0 4 2).bind fun q14 =>
    (m_X9_pass N Λ μ10 q12 v1 q14 1).bind fun r16 =>
    if v2 = 0 then
      ((dr Λ v0 2 8).bind fun q19 =>
      jn_X11_span_91 N Λ r16.2 k21 v0 v1 v2 v4 (imin v3 (r16.2.1 q19 0)))
    else
      ((dr Λ v0 2 8).bind fun q21 =>
      jn_X11_span_91 N Λ r16.2 k21 v0 v1 v2 v4 (imax v3 (r16.2.1 q21 0))))
def lp_X11_span_21 (N : Nat) (Λ : Lay) (v0 : Nat) (v1 : Int32) (v2 : Int32) (s : Int32 × Int32 × Mem) : Option (RX_) := cw (fun k s => bd_X11_span_21 N Λ (s.2.2) k v0 v1 v2 s.1 s.2.1) N s
def jn_X11_span_17 (N : Nat) (Λ : Lay) (μ : Mem) (v0 : Nat) (v1 : Int32) (v2 : Int32) (s0 : Int32) : Option (RX_) :=
  lp_X11_span_21 N Λ v0 v1 v2 (s0, 1, μ)
def m_X11_span (N : Nat) (Λ : Lay) (μ : Mem) (v0 : Nat) (v1 : Int32) (v2 : Int32) : Option (RX_) :=
  (m_X11_needNumber N Λ μ v0 v1 60).bind fun r1 =>
  thn (r1.1 = 0) (some (r1.1, 0, r1.2.2)) <|
  if v2 = 0 then
    (jn_X11_span_17 N Λ r1.2.2 v0 v1 v2 40)
  else
    (jn_X11_span_17 N Λ r1.2.2 v0 v1 v2 0)
def jn_X11_led_34 (N : Nat) (Λ : Lay) (μ : Mem) (s0 : Int32) : Option (RX_) :=
  some (0, s0, μ)
def m_X11_led (N : Nat) (Λ : Lay) (μ : Mem) (v0 : Nat) (v1 : Int32) (v2 : Int32) : Option (RX_) :=
  (m_X11_needShip N Λ μ v0 v1).bind fun r1 =>
  thn (r1.1 = 0) (some (r1.1, 0, r1.2.2)) <|
  if v2 = 0 then
    ((dr Λ v0 1 8).bind fun q5 =>
    (dr Λ q5 18 4).bind fun q7 =>
    (m_X4_rowsOf N Λ r1.2.2 q7 v1).bind fun r9 =>
    jn_X11_led_34 N Λ r1.2.2 r9)
  else
    ((dr Λ v0 1 8).bind fun q11 =>
    (dr Λ q11 18 4).bind fun q13 =>
    (m_X4_latestHourOf N Λ r1.2.2 q13 v1).bind fun r15 =>
    jn_X11_led_34 N Λ r1.2.2 r15)
def jn_X11_log_9 (N : Nat) (Λ : Lay) (μ : Mem) : Option (RX_) :=
  some (4, 0, μ)
def m_X11_log (N : Nat) (Λ : Lay) (μ : Mem) (v0 : Nat) (v1 : Int32) (v2 : Int32) : Option (RX_) :=
  if v2 < 0 then
    (jn_X11_log_9 N Λ μ)
  else
    (if v2 < 5 then
      ((dr Λ v0 1 8).bind fun q3 =>
      (dr Λ q3 18 4).bind fun q5 =>
      (m_X4_cell N Λ μ q5 v1 v2).bind fun r7 =>
      some (0, r7, μ))
    else
      (jn_X11_log_9 N Λ μ))
def m_X11_seed (N : Nat) (Λ : Lay) (μ : Mem) (v0 : Nat) (v1 : Int32) : Option (Int32 × Mem) :=
  (dr Λ v0 1 8).bind fun q1 =>
  lt (μ.1 q1 6) fun y3 =>
  (dr Λ v0 1 8).bind fun q5 =>
  lt (mset μ q5 6 v1) fun μ7 =>
  some (y3, μ7)
def m_X11_undo (N : Nat) (Λ : Lay) (μ : Mem) (v0 : Nat) : Option (Int32 × Mem) :=
  (dr Λ v0 9 5).bind fun q1 =>
  (dr Λ v0 1 8).bind fun q3 =>
  (m_X5_recall N Λ μ q1 q3).bind fun r5 =>
  gd (zb r5.1) <|
  some (r5.1, r5.2)
def m_X11_image (N : Nat) (Λ : Lay) (μ : Mem) (v0 : Nat) : Option (Mem) :=
  (dr Λ v0 3 8).bind fun q1 =>
  (dr Λ v0 1 8).bind fun q3 =>
  (m_X9_copy N Λ μ q1 q3).bind fun r5 =>
  (dr Λ v0 6 2).bind fun q7 =>
  (dr Λ v0 4 2).bind fun q9 =>
  (m_X2_copy N Λ r5 q7 q9).bind fun r11 =>
  lt (mset r11 v0 13 1) fun μ13 =>
  some μ13
def m_X11_back (N : Nat) (Λ : Lay) (μ : Mem) (v0 : Nat) : Option (Int32 × Mem) :=
  if (μ.1 v0 13) = 0 then
    (some (0, μ))
  else
    ((dr Λ v0 1 8).bind fun q2 =>
    (dr Λ v0 3 8).bind fun q4 =>
    (m_X9_copy N Λ μ q2 q4).bind fun r6 =>
    (dr Λ v0 4 2).bind fun q8 =>
    (dr Λ v0 6 2).bind fun q10 =>
    (m_X2_copy N Λ r6 q8 q10).bind fun r12 =>
    (dr Λ v0 9 5).bind fun q14 =>
    (m_X5_forget N Λ r12 q14).bind fun r16 =>
    some (1, r16))
def jn_X11_count_123 (N : Nat) (Λ : Lay) (μ : Mem) (s0 : Int32) : Option (Int32) :=
  some s0
def m_X11_count (N : Nat) (Λ : Lay) (μ : Mem) (v0 : Nat) (v1 : Int32) : Option (Int32) :=
  if v1 = 0 then
    ((dr Λ v0 1 8).bind fun q2 =>
    some (μ.1 q2 8))
  else
  if v1 = 1 then
    ((dr Λ v0 1 8).bind fun q5 =>
    some (μ.1 q5 7))
  else
  if v1 = 2 then
    ((dr Λ v0 4 2).bind fun q8 =>
    some (μ.1 q8 0))
  else
  if v1 = 3 then
    ((dr Λ v0 1 8).bind fun q11 =>
    some (μ.1 q11 0))
  else
  if v1 = 4 then
    ((dr Λ v0 1 8).bind fun q14 =>
    if (μ.1 q14 11) = 0 then
      (jn_X11_count_123 N Λ μ 0)
    else
      (jn_X11_count_123 N Λ μ 1))
  else
  if v1 = 5 then
    ((dr Λ v0 1 8).bind fun q18 =>
    some (μ.1 q18 2))
  else
  if v1 = 6 then
    ((dr Λ v0 1 8).bind fun q21 =>
    some (μ.1 q21 3))
  else
  if v1 = 7 then
    ((dr Λ v0 1 8).bind fun q24 =>
    some (μ.1 q24 4))
  else
  if v1 = 8 then
    ((dr Λ v0 1 8).bind fun q27 =>
    some (μ.1 q27 5))
  else
  if v1 = 9 then
    ((dr Λ v0 1 8).bind fun q30 =>
    some (μ.1 q30 1))
  else
  if v1 = 10 then
    ((dr Λ v0 1 8).bind fun q33 =>
    (m_XI_bitCount N Λ μ (μ.1 q33 9)).bind fun r35 =>
    some r35)
  else
  if v1 = 11 then
    ((dr Λ v0 1 8).bind fun q38 =>
    (m_X9_freePlaces N Λ μ q38).bind fun r40 =>
    some r40)
  else
  if v1 = 12 then
    ((dr Λ v0 1 8).bind fun q43 =>
    (m_X9_allWork N Λ μ q43).bind fun r45 =>
    some r45)
  else
  if v1 = 13 then
    ((dr Λ v0 1 8).bind fun q48 =>
    (dr Λ q48 18 4).bind fun q50 =>
    some (μ.1 q50 0))
  else
  if v1 = 14 then
    ((dr Λ v0 9 5).bind fun q53 =>
    some (μ.1 q53 0))
  else
    (some (-1))
def m_X12_thrown (N : Nat) (Λ : Lay) (μ : Mem) (v0 : Nat) : Option (Int32) :=
  some (μ.1 v0 0)
def jn_X12_throwsIf_9 (N : Nat) (Λ : Lay) (μ : Mem) (v1 : Int32) : Option (Int32 × Mem) :=
  gd (zb v1) <|
  some (v1, μ)
def m_X12_throwsIf (N : Nat) (Λ : Lay) (μ : Mem) (v0 : Nat) (v1 : Int32) (v2 : Int32) : Option (Int32 × Mem) :=
  if v1 = 0 then
    (jn_X12_throwsIf_9 N Λ μ v1)
  else
    (lt (mset μ v0 0 v2) fun μ2 =>
    jn_X12_throwsIf_9 N Λ μ2 v1)
def jn_X12_in_15 (N : Nat) (Λ : Lay) (μ : Mem) (s0 : Int32) : Option (Int32) :=
  gd (zb s0) <|
  some s0
def jn_X12_in_14 (N : Nat) (Λ : Lay) (μ : Mem) : Option (Int32) :=
  jn_X12_in_15 N Λ μ 0
def m_X12_in (N : Nat) (Λ : Lay) (μ : Mem) (v0 : Int32) (v1 : Int32) (v2 : Int32) : Option (Int32) :=
  if v0 < v1 then
    (jn_X12_in_14 N Λ μ)
  else
    (if v2 < v0 then
      (jn_X12_in_14 N Λ μ)
    else
      (jn_X12_in_15 N Λ μ 1))
def jn_X12_has_14 (N : Nat) (Λ : Lay) (μ : Mem) (s0 : Int32) : Option (Int32) :=
  gd (zb s0) <|
  some s0
def m_X12_has (N : Nat) (Λ : Lay) (μ : Mem) (v0 : Int32) (v1 : Int32) : Option (Int32) :=
  if ((ishr v0 v1) &&& 1) = 1 then
    (jn_X12_has_14 N Λ μ 1)
  else
    (jn_X12_has_14 N Λ μ 0)
def bd_X12_image_7 (N : Nat) (Λ : Lay) (μ : Mem) (k7 : Int32 × Mem → Option (Mem)) (v0 : Nat) (v1 : Int32) : Option (Mem) :=
  if 1222 ≤ v1 then
    (lt (mset μ v0 6 1) fun μ2 =>
    some μ2)
  else
    ((dr Λ v0 2 13).bind fun q4 =>
    (dr Λ v0 1 13).bind fun q6 =>
    gd (inb v1 (aZ Λ q6)) <|
    gd (inb v1 (aZ Λ q4)) <|
    lt (mset μ q4 v1.toNatClampNeg (μ.1 q6 v1.toNatClampNeg)) fun μ10 =>
    lt (v1 + 1) fun y12 =>
    k7 (y12, μ10))
def lp_X12_image_7 (N : Nat) (Λ : Lay) (v0 : Nat) (s : Int32 × Mem) : Option (Mem) := cw (fun k s => bd_X12_image_7 N Λ (s.2) k v0 s.1) N s
def m_X12_image (N : Nat) (Λ : Lay) (μ : Mem) (v0 : Nat) : Option (Mem) :=
  lt (mset μ v0 0 0) fun μ1 =>
  lp_X12_image_7 N Λ v0 (0, μ1)
def bd_X12_back_16 (N : Nat) (Λ : Lay) (μ : Mem) (k16 : Int32 × Mem → Option (Int32 × Mem)) (v0 : Nat) (v1 : Int32) : Option (Int32 × Mem) :=
  if 1222 ≤ v1 then
    (lt (mset μ v0 7 0) fun μ2 =>
    some (1, μ2))
  else
    ((dr Λ v0 1 13).bind fun q4 =>
    (dr Λ v0 2 13).bind fun q6 =>
    gd (inb v1 (aZ Λ q6)) <|
    gd (inb v1 (aZ Λ q4)) <|
    lt (mset μ q4 v1.toNatClampNeg (μ.1 q6 v1.toNatClampNeg)) fun μ10 =>
    lt (v1 + 1) fun y12 =>
    k16 (y12, μ10))
def lp_X12_back_16 (N : Nat) (Λ : Lay) (v0 : Nat) (s : Int32 × Mem) : Option (Int32 × Mem) := cw (fun k s => bd_X12_back_16 N Λ (s.2) k v0 s.1) N s
def m_X12_back (N : Nat) (Λ : Lay) (μ : Mem) (v0 : Nat) : Option (Int32 × Mem) :=
  lt (mset μ v0 0 0) fun μ1 =>
  if (μ1.1 v0 6) = 0 then
    (some (0, μ1))
  else
    (lp_X12_back_16 N Λ v0 (0, μ1))
def bd_X12_remembers_55 (N : Nat) (Λ : Lay) (μ : Mem) (k55 : Int32 × Mem → Option (Mem)) (v0 : Nat) (v1 : Int32) : Option (Mem) :=
  if 373 ≤ v1 then
    (some μ)
  else
    ((dr Λ v0 5 13).bind fun q2 =>
    (dr Λ v0 1 13).bind fun q4 =>
    gd (inb v1 (aZ Λ q4)) <|
    gd (inb ((373 * ((μ.1 v0 7) - 1)) + v1) (aZ Λ q2)) <|
    lt (mset μ q2 ((373 * ((μ.1 v0 7) - 1)) + v1).toNatClampNeg (μ.1 q4 v1.toNatClampNeg)) fun μ8 =>
    lt (v1 + 1) fun y10 =>
    k55 (y10, μ8))
def lp_X12_remembers_55 (N : Nat) (Λ : Lay) (v0 : Nat) (s : Int32 × Mem) : Option (Mem) := cw (fun k s => bd_X12_remembers_55 N Λ (s.2) k v0 s.1) N s
def jn_X12_remembers_53 (N : Nat) (Λ : Lay) (μ : Mem) (v0 : Nat) : Option (Mem) :=
  lp_X12_remembers_55 N Λ v0 (0, μ)
def bd_X12_remembers_11 (N : Nat) (Λ : Lay) (μ : Mem) (k11 : Int32 × Mem → Option (Mem)) (v0 : Nat) (v1 : Int32) : Option (Mem) :=
  if 4103 ≤ v1 then
    (jn_X12_remembers_53 N Λ μ v0)
  else
    ((dr Λ v0 5 13).bind fun q2 =>
    (dr Λ v0 5 13).bind fun q4 =>
    gd (inb (v1 + 373) (aZ Λ q4)) <|
    gd (inb v1 (aZ Λ q2)) <|
    lt (mset μ q2 v1.toNatClampNeg (μ.1 q4 (v1 + 373).toNatClampNeg)) fun μ8 =>
    lt (v1 + 1) fun y10 =>
    k11 (y10, μ8))
def lp_X12_remembers_11 (N : Nat) (Λ : Lay) (v0 : Nat) (s : Int32 × Mem) : Option (Mem) := cw (fun k s => bd_X12_remembers_11 N Λ (s.2) k v0 s.1) N s
def m_X12_remembers (N : Nat) (Λ : Lay) (μ : Mem) (v0 : Nat) : Option (Mem) :=
  if (μ.1 v0 7) = 12 then
    (lp_X12_remembers_11 N Λ v0 (0, μ))
  else
    (lt (mset μ v0 7 ((μ.1 v0 7) + 1)) fun μ2 =>
    jn_X12_remembers_53 N Λ μ2 v0)
def bd_X12_undo_26 (N : Nat) (Λ : Lay) (μ : Mem) (k26 : Int32 × Mem → Option (Int32 × Mem)) (v0 : Nat) (v1 : Int32) : Option (Int32 × Mem) :=
  if 373 ≤ v1 then
    (some (1, μ))
  else
    ((dr Λ v0 1 13).bind fun q2 =>
    (dr Λ v0 5 13).bind fun q4 =>
    gd (inb ((373 * (μ.1 v0 7)) + v1) (aZ Λ q4)) <|
    gd (inb v1 (aZ Λ q2)) <|
    lt (mset μ q2 v1.toNatClampNeg (μ.1 q4 ((373 * (μ.1 v0 7)) + v1).toNatClampNeg)) fun μ8 =>
    lt (v1 + 1) fun y10 =>
    k26 (y10, μ8))
def lp_X12_undo_26 (N : Nat) (Λ : Lay) (v0 : Nat) (s : Int32 × Mem) : Option (Int32 × Mem) := cw (fun k s => bd_X12_undo_26 N Λ (s.2) k v0 s.1) N s
def m_X12_undo (N : Nat) (Λ : Lay) (μ : Mem) (v0 : Nat) : Option (Int32 × Mem) :=
  lt (mset μ v0 0 0) fun μ1 =>
  if (μ1.1 v0 7) = 0 then
    (some (0, μ1))
  else
    (lt (mset μ1 v0 7 ((μ1.1 v0 7) - 1)) fun μ4 =>
    lp_X12_undo_26 N Λ v0 (0, μ4))
def bd_X12_keepsAll_2 (N : Nat) (Λ : Lay) (μ : Mem) (k2 : Int32 × Mem → Option (Mem)) (v0 : Nat) (v1 : Int32) : Option (Mem) :=
  if 373 ≤ v1 then
    (some μ)
  else
    ((dr Λ v0 4 13).bind fun q2 =>
    (dr Λ v0 1 13).bind fun q4 =>
    gd (inb v1 (aZ Λ q4)) <|
    gd (inb v1 (aZ Λ q2)) <|
    lt (mset μ q2 v1.toNatClampNeg (μ.1 q4 v1.toNatClampNeg)) fun μ8 =>
    lt (v1 + 1) fun y10 =>
    k2 (y10, μ8))
def lp_X12_keepsAll_2 (N : Nat) (Λ : Lay) (v0 : Nat) (s : Int32 × Mem) : Option (Mem) := cw (fun k s => bd_X12_keepsAll_2 N Λ (s.2) k v0 s.1) N s
def m_X12_keepsAll (N : Nat) (Λ : Lay) (μ : Mem) (v0 : Nat) : Option (Mem) :=
  lp_X12_keepsAll_2 N Λ v0 (0, μ)
def bd_X12_bringsBack_2 (N : Nat) (Λ : Lay) (μ : Mem) (k2 : Int32 × Mem → Option (Mem)) (v0 : Nat) (v1 : Int32) : Option (Mem) :=
  if 373 ≤ v1 then
    (some μ)
  else
    ((dr Λ v0 1 13).bind fun q2 =>
    (dr Λ v0 4 13).bind fun q4 =>
    gd (inb v1 (aZ Λ q4)) <|
    gd (inb v1 (aZ Λ q2)) <|
    lt (mset μ q2 v1.toNatClampNeg (μ.1 q4 v1.toNatClampNeg)) fun μ8 =>
    lt (v1 + 1) fun y10 =>
    k2 (y10, μ8))
def lp_X12_bringsBack_2 (N : Nat) (Λ : Lay) (v0 : Nat) (s : Int32 × Mem) : Option (Mem) := cw (fun k s => bd_X12_bringsBack_2 N Λ (s.2) k v0 s.1) N s
def m_X12_bringsBack (N : Nat) (Λ : Lay) (μ : Mem) (v0 : Nat) : Option (Mem) :=
  lp_X12_bringsBack_2 N Λ v0 (0, μ)
def m_X12_ships (N : Nat) (Λ : Lay) (μ : Mem) (v0 : Nat) : Option (Int32) :=
  (dr Λ v0 1 13).bind fun q1 =>
  gd (inb 0 (aZ Λ q1)) <|
  some (μ.1 q1 (0 : Int32).toNatClampNeg)
def m_X12_shipAt (N : Nat) (Λ : Lay) (μ : Mem) (v0 : Int32) (v1 : Int32) : Option (Int32) :=
  some ((25 + (6 * v0)) + v1)
def m_X12_of (N : Nat) (Λ : Lay) (μ : Mem) (v0 : Nat) (v1 : Int32) (v2 : Int32) : Option (Int32) :=
  (dr Λ v0 1 13).bind fun q1 =>
  (m_X12_shipAt N Λ μ v1 v2).bind fun r3 =>
  gd (inb r3 (aZ Λ q1)) <|
  some (μ.1 q1 r3.toNatClampNeg)
def jn_X12_isDocked_15 (N : Nat) (Λ : Lay) (μ : Mem) (s0 : Int32) : Option (Int32) :=
  gd (zb s0) <|
  some s0
def m_X12_isDocked (N : Nat) (Λ : Lay) (μ : Mem) (v0 : Nat) (v1 : Int32) : Option (Int32) :=
  (m_X12_of N Λ μ v0 v1 3).bind fun r1 =>
  if r1 = 1 then
    (jn_X12_isDocked_15 N Λ μ 1)
  else
    (jn_X12_isDocked_15 N Λ μ 0)
def m_X12_run (N : Nat) (Λ : Lay) (μ : Mem) (v0 : Int32) (v1 : Int32) : Option (Int32) :=
  some (ishl ((ishl 1 v1) - 1) v0)
def jn_X12_placesOf_27 (N : Nat) (Λ : Lay) (μ : Mem) (s0 : Int32) : Option (Int32) :=
  some s0
def m_X12_placesOf (N : Nat) (Λ : Lay) (μ : Mem) (v0 : Nat) (v1 : Int32) : Option (Int32) :=
  (m_X12_isDocked N Λ μ v0 v1).bind fun r1 =>
  if r1 = 0 then
    (jn_X12_placesOf_27 N Λ μ 0)
  else
    ((m_X12_of N Λ μ v0 v1 4).bind fun r4 =>
    (m_X12_of N Λ μ v0 v1 0).bind fun r6 =>
    (m_X12_run N Λ μ r4 r6).bind fun r8 =>
    jn_X12_placesOf_27 N Λ μ r8)
def bd_X12_taken_4 (N : Nat) (Λ : Lay) (μ : Mem) (k4 : Int32 × Int32 → Option (Int32)) (v0 : Nat) (v1 : Int32) (v2 : Int32) : Option (Int32) :=
  (m_X12_ships N Λ μ v0).bind fun r1 =>
  if r1 ≤ v2 then
    (some v1)
  else
    ((m_X12_placesOf N Λ μ v0 v2).bind fun r4 =>
    lt (v1 ||| r4) fun y6 =>
    lt (v2 + 1) fun y8 =>
    k4 (y6, y8))
def lp_X12_taken_4 (N : Nat) (Λ : Lay) (μ : Mem) (v0 : Nat) (s : Int32 × Int32) : Option (Int32) := cw (fun k s => bd_X12_taken_4 N Λ μ k v0 s.1 s.2) N s
def m_X12_taken (N : Nat) (Λ : Lay) (μ : Mem) (v0 : Nat) : Option (Int32) :=
  lp_X12_taken_4 N Λ μ v0 (0, 0)
def jn_X12_fitsIn_27 (N : Nat) (Λ : Lay) (μ : Mem) (s0 : Int32) : Option (Int32) :=
  gd (zb s0) <|
  some s0
def jn_X12_fitsIn_26 (N : Nat) (Λ : Lay) (μ : Mem) : Option (Int32) :=
  jn_X12_fitsIn_27 N Λ μ 0
def m_X12_fitsIn (N : Nat) (Λ : Lay) (μ : Mem) (v0 : Int32) (v1 : Int32) (v2 : Int32) : Option (Int32) :=
  if v1 < 0 then
    (jn_X12_fitsIn_26 N Λ μ)
  else
    (if 24 < (v1 + v2) then
      (jn_X12_fitsIn_26 N Λ μ)
    else
      ((m_X12_run N Λ μ v1 v2).bind fun r3 =>
      if (v0 &&& r3) = 0 then
        (jn_X12_fitsIn_27 N Λ μ 1)
      else
        (jn_X12_fitsIn_26 N Λ μ)))
def jn_X12_noPlace_15 (N : Nat) (Λ : Lay) (μ : Mem) (s0 : Int32) : Option (Int32) :=
  gd (zb s0) <|
  some s0
def m_X12_noPlace (N : Nat) (Λ : Lay) (μ : Mem) (v0 : Int32) : Option (Int32) :=
  (m_X12_in N Λ μ v0 0 23).bind fun r1 =>
  if r1 = 0 then
    (jn_X12_noPlace_15 N Λ μ 1)
  else
    (jn_X12_noPlace_15 N Λ μ 0)
def jn_X12_noShip_19 (N : Nat) (Λ : Lay) (μ : Mem) (s0 : Int32) : Option (Int32) :=
  gd (zb s0) <|
  some s0
def m_X12_noShip (N : Nat) (Λ : Lay) (μ : Mem) (v0 : Nat) (v1 : Int32) : Option (Int32) :=
  (m_X12_ships N Λ μ v0).bind fun r1 =>
  (m_X12_in N Λ μ v1 0 (r1 - 1)).bind fun r3 =>
  if r3 = 0 then
    (jn_X12_noShip_19 N Λ μ 1)
  else
    (jn_X12_noShip_19 N Λ μ 0)
def m_X12_tideIn (N : Nat) (Λ : Lay) (μ : Mem) (v0 : Nat) (v1 : Int32) : Option (Int32) :=
  (dr Λ v0 1 13).bind fun q1 =>
  (dr Λ v0 1 13).bind fun q3 =>
  gd (inb 9 (aZ Λ q3)) <|
  gd (inb (13 + (irem ((μ.1 q3 (9 : Int32).toNatClampNeg) + v1) 12)) (aZ Λ q1)) <|
  some (μ.1 q1 (13 + (irem ((μ.1 q3 (9 : Int32).toNatClampNeg) + v1) 12)).toNatClampNeg)
def m_X12_drawn (N : Nat) (Λ : Lay) (μ : Mem) (v0 : Nat) (v1 : Int32) : Option (Int32 × Mem) :=
  (dr Λ v0 1 13).bind fun q1 =>
  (dr Λ v0 1 13).bind fun q3 =>
  gd (inb 12 (aZ Λ q3)) <|
  gd (inb 12 (aZ Λ q1)) <|
  lt (mset μ q1 (12 : Int32).toNatClampNeg ((1103515245 * (μ.1 q3 (12 : Int32).toNatClampNeg)) + 12345)) fun μ7 =>
  (dr Λ v0 1 13).bind fun q9 =>
  gd (inb 12 (aZ Λ q9)) <|
  gd (decide (¬ v1 = 0)) <|
  some (irem ((ishr (μ7.1 q9 (12 : Int32).toNatClampNeg) 16) &&& 32767) v1, μ7)
def bd_X12_feed_60 (N : Nat) (Λ : Lay) (μ : Mem) (k60 : Int32 × Mem → Option (Int32 × Mem)) (v0 : Nat) (v6 : Int32) : Option (Int32 × Mem) :=
  if 20 ≤ v6 then
    (lt (mset μ v0 9 ((μ.1 v0 9) + 20)) fun μ2 =>
    some (μ2.1 v0 9, μ2))
  else
    ((dr Λ v0 8 12).bind fun q4 =>
    (dr Λ v0 15 13).bind fun q6 =>
    gd (inb (v6 / 4) (aZ Λ q6)) <|
    gd (inb ((μ.1 v0 9) + v6) (aZ Λ q4)) <|
    lt (mset μ q4 ((μ.1 v0 9) + v6).toNatClampNeg (((ishr (μ.1 q6 (v6 / 4).toNatClampNeg) (24 - (8 * (irem v6 4)))).toInt8.toInt32).toInt8.toInt32)) fun μ10 =>
    lt (v6 + 1) fun y12 =>
    k60 (y12, μ10))
def lp_X12_feed_60 (N : Nat) (Λ : Lay) (v0 : Nat) (s : Int32 × Mem) : Option (Int32 × Mem) := cw (fun k s => bd_X12_feed_60 N Λ (s.2) k v0 s.1) N s
def m_X12_feed (N : Nat) (Λ : Lay) (μ : Mem) (v0 : Nat) (v1 : Int32) (v2 : Int32) (v3 : Int32) (v4 : Int32) (v5 : Int32) : Option (Int32 × Mem) :=
  lt (mset μ v0 0 0) fun μ1 =>
  if ((μ1.1 v0 9) + 20) ≤ 400 then
    ((dr Λ v0 15 13).bind fun q4 =>
    gd (inb 0 (aZ Λ q4)) <|
    lt (mset μ1 q4 (0 : Int32).toNatClampNeg v1) fun μ7 =>
    (dr Λ v0 15 13).bind fun q9 =>
    gd (inb 1 (aZ Λ q9)) <|
    lt (mset μ7 q9 (1 : Int32).toNatClampNeg v2) fun μ12 =>
    (dr Λ v0 15 13).bind fun q14 =>
    gd (inb 2 (aZ Λ q14)) <|
    lt (mset μ12 q14 (2 : Int32).toNatClampNeg v3) fun μ17 =>
    (dr Λ v0 15 13).bind fun q19 =>
    gd (inb 3 (aZ Λ q19)) <|
    lt (mset μ17 q19 (3 : Int32).toNatClampNeg v4) fun μ22 =>
    (dr Λ v0 15 13).bind fun q24 =>
    gd (inb 4 (aZ Λ q24)) <|
    lt (mset μ22 q24 (4 : Int32).toNatClampNeg v5) fun μ27 =>
    lp_X12_feed_60 N Λ v0 (0, μ27))
  else
    (some ((-1), μ1))
def jn_X12_end_17 (N : Nat) (Λ : Lay) (μ : Mem) : Option (Int32 × Mem) :=
  some (0, μ)
def m_X12_end (N : Nat) (Λ : Lay) (μ : Mem) (v0 : Nat) (v1 : Int32) : Option (Int32 × Mem) :=
  lt (mset μ v0 0 0) fun μ1 =>
  if v1 < 0 then
    (jn_X12_end_17 N Λ μ1)
  else
    (if v1 ≤ (μ1.1 v0 9) then
      (lt (mset μ1 v0 9 v1) fun μ5 =>
      some (1, μ5))
    else
      (jn_X12_end_17 N Λ μ1))
def jn_X12_isAt_42 (N : Nat) (Λ : Lay) (μ : Mem) (s0 : Int32) : Option (Int32) :=
  gd (zb s0) <|
  some s0
def jn_X12_isAt_41 (N : Nat) (Λ : Lay) (μ : Mem) : Option (Int32) :=
  jn_X12_isAt_42 N Λ μ 0
def m_X12_isAt (N : Nat) (Λ : Lay) (μ : Mem) (v0 : Nat) (v1 : Int32) (v2 : Int32) : Option (Int32) :=
  if (μ.1 v0 11) ≤ (μ.1 v0 10) then
    (jn_X12_isAt_41 N Λ μ)
  else
    ((dr Λ v0 8 12).bind fun q2 =>
    gd (inb (μ.1 v0 10) (aZ Λ q2)) <|
    if (μ.1 q2 (μ.1 v0 10).toNatClampNeg) < v1 then
      (jn_X12_isAt_41 N Λ μ)
    else
      ((dr Λ v0 8 12).bind fun q6 =>
      gd (inb (μ.1 v0 10) (aZ Λ q6)) <|
      if v2 < (μ.1 q6 (μ.1 v0 10).toNatClampNeg) then
        (jn_X12_isAt_41 N Λ μ)
      else
        (jn_X12_isAt_42 N Λ μ 1)))
def bd_X12_blanks_0 (N : Nat) (Λ : Lay) (μ : Mem) (k0 : Mem → Option (Mem)) (v0 : Nat) : Option (Mem) :=
  (m_X12_isAt N Λ μ v0 32 32).bind fun r1 =>
  if r1 = 0 then
    (lt (mset μ v0 12 (μ.1 v0 10)) fun μ4 =>
    some μ4)
  else
    (lt (mset μ v0 10 ((μ.1 v0 10) + 1)) fun μ6 =>
    k0 μ6)
def lp_X12_blanks_0 (N : Nat) (Λ : Lay) (v0 : Nat) (s : Mem) : Option (Mem) := cw (fun k s => bd_X12_blanks_0 N Λ s k v0) N s
def m_X12_blanks (N : Nat) (Λ : Lay) (μ : Mem) (v0 : Nat) : Option (Mem) :=
  lp_X12_blanks_0 N Λ v0 μ
def bd_X12_letters_4 (N : Nat) (Λ : Lay) (μ : Mem) (k4 : Mem → Option (Mem)) (v0 : Nat) : Option (Mem) :=
  (m_X12_isAt N Λ μ v0 97 122).bind fun r1 =>
  if r1 = 0 then
    (some μ)
  else
    (lt (mset μ v0 10 ((μ.1 v0 10) + 1)) fun μ4 =>
    k4 μ4)
def lp_X12_letters_4 (N : Nat) (Λ : Lay) (v0 : Nat) (s : Mem) : Option (Mem) := cw (fun k s => bd_X12_letters_4 N Λ s k v0) N s
def m_X12_letters (N : Nat) (Λ : Lay) (μ : Mem) (v0 : Nat) : Option (Mem) :=
  (m_X12_blanks N Λ μ v0).bind fun r1 =>
  lp_X12_letters_4 N Λ v0 r1
def jn_X12_isWord_60 (N : Nat) (Λ : Lay) (μ : Mem) (k24 : Int32 × Int32 → Option (Int32)) (v0 : Nat) (v1 : Nat) (v3 : Int32) (s0 : Int32) : Option (Int32) :=
  lt (v3 + 1) fun y1 =>
  k24 (s0, y1)
def jn_X12_isWord_67 (N : Nat) (Λ : Lay) (μ : Mem) (v2 : Int32) : Option (Int32) :=
  gd (zb v2) <|
  some v2
def bd_X12_isWord_24 (N : Nat) (Λ : Lay) (μ : Mem) (k24 : Int32 × Int32 → Option (Int32)) (v0 : Nat) (v1 : Nat) (v2 : Int32) (v3 : Int32) : Option (Int32) :=
  if v2 = 0 then
    (jn_X12_isWord_67 N Λ μ v2)
  else
    (if (slen v1) ≤ v3 then
      (jn_X12_isWord_67 N Λ μ v2)
    else
      ((dr Λ v0 8 12).bind fun q3 =>
      gd (inb ((μ.1 v0 12) + v3) (aZ Λ q3)) <|
      gd (inb v3 (lenWS.getD v1 0)) <|
      if (μ.1 q3 ((μ.1 v0 12) + v3).toNatClampNeg) = (sch v1 v3.toNatClampNeg) then
        (jn_X12_isWord_60 N Λ μ k24 v0 v1 v3 1)
      else
        (jn_X12_isWord_60 N Λ μ k24 v0 v1 v3 0)))
def lp_X12_isWord_24 (N : Nat) (Λ : Lay) (μ : Mem) (v0 : Nat) (v1 : Nat) (s : Int32 × Int32) : Option (Int32) := cw (fun k s => bd_X12_isWord_24 N Λ μ k v0 v1 s.1 s.2) N s
def jn_X12_isWord_21 (N : Nat) (Λ : Lay) (μ : Mem) (v0 : Nat) (v1 : Nat) (s0 : Int32) : Option (Int32) :=
  lp_X12_isWord_24 N Λ μ v0 v1 (s0, 0)
def m_X12_isWord (N : Nat) (Λ : Lay) (μ : Mem) (v0 : Nat) (v1 : Nat) : Option (Int32) :=
  if ((μ.1 v0 10) - (μ.1 v0 12)) = (slen v1) then
    (jn_X12_isWord_21 N Λ μ v0 v1 1)
  else
    (jn_X12_isWord_21 N Λ μ v0 v1 0)
def m_X12_passes (N : Nat) (Λ : Lay) (μ : Mem) (v0 : Nat) (v1 : Nat) : Option (Int32 × Mem) :=
  (m_X12_letters N Λ μ v0).bind fun r1 =>
  (m_X12_isWord N Λ r1 v0 v1).bind fun r3 =>
  if r3 = 0 then
    (lt (mset r1 v0 10 (r1.1 v0 12)) fun μ6 =>
    some (0, μ6))
  else
    (some (1, r1))
def m_X12_sign (N : Nat) (Λ : Lay) (μ : Mem) (v0 : Nat) (v1 : Int32) : Option (Int32 × Mem) :=
  (m_X12_blanks N Λ μ v0).bind fun r1 =>
  (m_X12_isAt N Λ r1 v0 v1 v1).bind fun r3 =>
  if r3 = 0 then
    (some (0, r1))
  else
    (lt (mset r1 v0 10 ((r1.1 v0 10) + 1)) fun μ6 =>
    some (1, μ6))
def jn_X12_number_51 (N : Nat) (Λ : Lay) (μ : Mem) (k6 : Int32 × Mem → Option (Int32 × Mem)) (v0 : Nat) (v1 : Int32) (v2 : Int32) (s0 : Int32) : Option (Int32 × Mem) :=
  lt (mset μ v0 10 ((μ.1 v0 10) + 1)) fun μ1 =>
  k6 (s0, μ1)
def jn_X12_number_104 (N : Nat) (Λ : Lay) (μ : Mem) (s0 : Int32) : Option (Int32 × Mem) :=
  some (s0, μ)
def jn_X12_number_99 (N : Nat) (Λ : Lay) (μ : Mem) : Option (Int32 × Mem) :=
  jn_X12_number_104 N Λ μ (-1)
def bd_X12_number_6 (N : Nat) (Λ : Lay) (μ : Mem) (k6 : Int32 × Mem → Option (Int32 × Mem)) (v0 : Nat) (v1 : Int32) (v2 : Int32) (v3 : Int32) : Option (Int32 × Mem) :=
  (m_X12_isAt N Λ μ v0 48 57).bind fun r1 =>
  if r1 = 0 then
    (if (μ.1 v0 10) = (μ.1 v0 12) then
      (jn_X12_number_99 N Λ μ)
    else
      (if 3 < ((μ.1 v0 10) - (μ.1 v0 12)) then
        (jn_X12_number_99 N Λ μ)
      else
        (if v3 < v1 then
          (jn_X12_number_99 N Λ μ)
        else
          (if v3 ≤ v2 then
            (jn_X12_number_104 N Λ μ v3)
          else
            (jn_X12_number_99 N Λ μ)))))
  else
    (if 3 ≤ ((μ.1 v0 10) - (μ.1 v0 12)) then
      (jn_X12_number_51 N Λ μ k6 v0 v1 v2 v3)
    else
      ((dr Λ v0 8 12).bind fun q9 =>
      gd (inb (μ.1 v0 10) (aZ Λ q9)) <|
      jn_X12_number_51 N Λ μ k6 v0 v1 v2 (((10 * v3) + (μ.1 q9 (μ.1 v0 10).toNatClampNeg)) - 48)))
def lp_X12_number_6 (N : Nat) (Λ : Lay) (v0 : Nat) (v1 : Int32) (v2 : Int32) (s : Int32 × Mem) : Option (Int32 × Mem) := cw (fun k s => bd_X12_number_6 N Λ (s.2) k v0 v1 v2 s.1) N s
def m_X12_number (N : Nat) (Λ : Lay) (μ : Mem) (v0 : Nat) (v1 : Int32) (v2 : Int32) : Option (Int32 × Mem) :=
  (m_X12_blanks N Λ μ v0).bind fun r1 =>
  lp_X12_number_6 N Λ v0 v1 v2 (0, r1)
def jn_X12_behind_22 (N : Nat) (Λ : Lay) (μ : Mem) (s0 : Int32) : Option (Int32 × Mem) :=
  some (s0, μ)
def m_X12_behind (N : Nat) (Λ : Lay) (μ : Mem) (v0 : Nat) (v1 : Nat) (v2 : Int32) (v3 : Int32) : Option (Int32 × Mem) :=
  (m_X12_letters N Λ μ v0).bind fun r1 =>
  (m_X12_isWord N Λ r1 v0 v1).bind fun r3 =>
  if r3 = 0 then
    (jn_X12_behind_22 N Λ r1 (-1))
  else
    ((m_X12_number N Λ r1 v0 v2 v3).bind fun r6 =>
    jn_X12_behind_22 N Λ r6.2 r6.1)
def jn_X12_told_30 (N : Nat) (Λ : Lay) (μ : Mem) (s0 : Int32) : Option (Int32 × Mem) :=
  some (s0, μ)
def m_X12_told (N : Nat) (Λ : Lay) (μ : Mem) (v0 : Nat) (v1 : Nat) (v2 : Int32) (v3 : Int32) : Option (Int32 × Mem) :=
  (m_X12_passes N Λ μ v0 v1).bind fun r1 =>
  if r1.1 = 0 then
    (some (v3, r1.2))
  else
    ((m_X12_number N Λ r1.2 v0 0 v2).bind fun r4 =>
    if 0 ≤ r4.1 then
      (jn_X12_told_30 N Λ r4.2 r4.1)
    else
      (jn_X12_told_30 N Λ r4.2 100000000))
def m_X12_isNumberNext (N : Nat) (Λ : Lay) (μ : Mem) (v0 : Nat) : Option (Int32 × Mem) :=
  (m_X12_blanks N Λ μ v0).bind fun r1 =>
  (m_X12_isAt N Λ r1 v0 48 57).bind fun r3 =>
  gd (zb r3) <|
  some (r3, r1)
def m_X12_fault (N : Nat) (Λ : Lay) (μ : Mem) (v0 : Nat) : Option (Int32 × Mem) :=
  lt (mset μ v0 0 0) fun μ1 =>
  some (μ1.1 v0 14, μ1)
def m_X12_uses (N : Nat) (Λ : Lay) (μ : Mem) (v0 : Nat) : Option (Mem) :=
  lt (mset μ v0 0 0) fun μ1 =>
  lt (mset μ1 v0 11 (μ1.1 v0 9)) fun μ3 =>
  lt (mset μ3 v0 9 0) fun μ5 =>
  lt (mset μ5 v0 10 0) fun μ7 =>
  some μ7
def jn_X12_readNumber_40 (N : Nat) (Λ : Lay) (μ : Mem) (s0 : Int32) : Option (Int32 × Mem) :=
  gd (zb s0) <|
  some (s0, μ)
def jn_X12_readNumber_29 (N : Nat) (Λ : Lay) (μ : Mem) (v4 : Int32) (s0 : Nat) (s1 : Int32) (s2 : Int32) : Option (Int32 × Mem) :=
  gd (inb s1 (aZ Λ s0)) <|
  lt (mset μ s0 s1.toNatClampNeg s2) fun μ2 =>
  if v4 < 0 then
    (jn_X12_readNumber_40 N Λ μ2 0)
  else
    (jn_X12_readNumber_40 N Λ μ2 1)
def m_X12_readNumber (N : Nat) (Λ : Lay) (μ : Mem) (v0 : Nat) (v1 : Int32) (v2 : Int32) (v3 : Int32) : Option (Int32 × Mem) :=
  (m_X12_number N Λ μ v0 v2 v3).bind fun r1 =>
  (dr Λ v0 1 13).bind fun q3 =>
  if 0 ≤ r1.1 then
    (jn_X12_readNumber_29 N Λ r1.2 r1.1 q3 v1 r1.1)
  else
    ((dr Λ v0 1 13).bind fun q6 =>
    gd (inb v1 (aZ Λ q6)) <|
    jn_X12_readNumber_29 N Λ r1.2 r1.1 q3 v1 (r1.2.1 q6 v1.toNatClampNeg))
def m_X12_isShip (N : Nat) (Λ : Lay) (μ : Mem) (v0 : Nat) (v1 : Int32) (v2 : Int32) (v3 : Int32) : Option (Mem) :=
  (m_X12_ships N Λ μ v0).bind fun r1 =>
  (dr Λ v0 1 13).bind fun q3 =>
  (m_X12_shipAt N Λ μ r1 0).bind fun r5 =>
  gd (inb r5 (aZ Λ q3)) <|
  lt (mset μ q3 r5.toNatClampNeg v1) fun μ8 =>
  (dr Λ v0 1 13).bind fun q10 =>
  (m_X12_shipAt N Λ μ8 r1 1).bind fun r12 =>
  gd (inb r12 (aZ Λ q10)) <|
  lt (mset μ8 q10 r12.toNatClampNeg v2) fun μ15 =>
  (dr Λ v0 1 13).bind fun q17 =>
  (m_X12_shipAt N Λ μ15 r1 2).bind fun r19 =>
  gd (inb r19 (aZ Λ q17)) <|
  lt (mset μ15 q17 r19.toNatClampNeg v3) fun μ22 =>
  (dr Λ v0 1 13).bind fun q24 =>
  (m_X12_shipAt N Λ μ22 r1 3).bind fun r26 =>
  gd (inb r26 (aZ Λ q24)) <|
  lt (mset μ22 q24 r26.toNatClampNeg 0) fun μ29 =>
  (dr Λ v0 1 13).bind fun q31 =>
  (m_X12_shipAt N Λ μ29 r1 4).bind fun r33 =>
  gd (inb r33 (aZ Λ q31)) <|
  lt (mset μ29 q31 r33.toNatClampNeg (-1)) fun μ36 =>
  (dr Λ v0 1 13).bind fun q38 =>
  (m_X12_shipAt N Λ μ36 r1 5).bind fun r40 =>
  gd (inb r40 (aZ Λ q38)) <|
  lt (mset μ36 q38 r40.toNatClampNeg 0) fun μ43 =>
  (dr Λ v0 1 13).bind fun q45 =>
  gd (inb 0 (aZ Λ q45)) <|
  gd (inb 0 (aZ Λ q45)) <|
  lt (mset μ43 q45 (0 : Int32).toNatClampNeg ((μ43.1 q45 (0 : Int32).toNatClampNeg) + 1)) fun μ49 =>
  some μ49
def jn_X12_readShip_113 (N : Nat) (Λ : Lay) (μ : Mem) : Option (Int32 × Mem) :=
  some (0, μ)
def jn_X12_readShip_40 (N : Nat) (Λ : Lay) (μ : Mem) (v0 : Nat) (v1 : Int32) (v2 : Int32) (s0 : Int32) : Option (Int32 × Mem) :=
  if 0 ≤ s0 then
    ((m_X12_told N Λ μ v0 22 99 0).bind fun r2 =>
    if r2.1 = 100000000 then
      (some (0, r2.2))
    else
      ((m_X12_isShip N Λ r2.2 v0 v2 s0 r2.1).bind fun r5 =>
      (m_X12_passes N Λ r5 v0 1).bind fun r7 =>
      if r7.1 = 0 then
        (some (1, r7.2))
      else
        ((m_X12_number N Λ r7.2 v0 0 23).bind fun r10 =>
        if r10.1 < 0 then
          (jn_X12_readShip_113 N Λ r10.2)
        else
          ((m_X12_taken N Λ r10.2 v0).bind fun r13 =>
          (m_X12_fitsIn N Λ r10.2 r13 r10.1 v2).bind fun r15 =>
          if r15 = 0 then
            (jn_X12_readShip_113 N Λ r10.2)
          else
            ((dr Λ v0 1 13).bind fun q18 =>
            (m_X12_shipAt N Λ r10.2 v1 3).bind fun r20 =>
            gd (inb r20 (aZ Λ q18)) <|
            lt (mset r10.2 q18 r20.toNatClampNeg 1) fun μ23 =>
            (dr Λ v0 1 13).bind fun q25 =>
            (m_X12_shipAt N Λ μ23 v1 4).bind fun r27 =>
            gd (inb r27 (aZ Λ q25)) <|
            lt (mset μ23 q25 r27.toNatClampNeg r10.1) fun μ30 =>
            some (1, μ30))))))
  else
    (some (0, μ))
def m_X12_readShip (N : Nat) (Λ : Lay) (μ : Mem) (v0 : Nat) : Option (Int32 × Mem) :=
  (m_X12_ships N Λ μ v0).bind fun r1 =>
  if r1 = 8 then
    (some (0, μ))
  else
    ((m_X12_behind N Λ μ v0 11 1 12).bind fun r4 =>
    if 0 ≤ r4.1 then
      ((m_X12_behind N Λ r4.2 v0 3 1 20).bind fun r7 =>
      jn_X12_readShip_40 N Λ r7.2 v0 r1 r4.1 r7.1)
    else
      (jn_X12_readShip_40 N Λ r4.2 v0 r1 r4.1 (-1)))
def jn_X12_readTide_70 (N : Nat) (Λ : Lay) (μ : Mem) (k6 : Int32 × Int32 × Int32 × Mem → Option (Int32 × Mem)) (v0 : Nat) (v1 : Int32) (v2 : Int32) (s0 : Int32) : Option (Int32 × Mem) :=
  k6 (v1, v2, s0, μ)
def jn_X12_readTide_69 (N : Nat) (Λ : Lay) (μ : Mem) (k6 : Int32 × Int32 × Int32 × Mem → Option (Int32 × Mem)) (v0 : Nat) (v1 : Int32) (v2 : Int32) : Option (Int32 × Mem) :=
  jn_X12_readTide_70 N Λ μ k6 v0 v1 v2 0
def jn_X12_readTide_51 (N : Nat) (Λ : Lay) (μ : Mem) (k6 : Int32 × Int32 × Int32 × Mem → Option (Int32 × Mem)) (v0 : Nat) (v1 : Int32) (v2 : Int32) : Option (Int32 × Mem) :=
  lt (v1 + 1) fun y1 =>
  if v2 = 0 then
    (jn_X12_readTide_69 N Λ μ k6 v0 y1 v2)
  else
    ((m_X12_isNumberNext N Λ μ v0).bind fun r4 =>
    if r4.1 = 0 then
      (jn_X12_readTide_69 N Λ r4.2 k6 v0 y1 v2)
    else
      (jn_X12_readTide_70 N Λ r4.2 k6 v0 y1 v2 1))
def jn_X12_readTide_35 (N : Nat) (Λ : Lay) (μ : Mem) (k6 : Int32 × Int32 × Int32 × Mem → Option (Int32 × Mem)) (v0 : Nat) (v1 : Int32) (v4 : Int32) (s0 : Int32) : Option (Int32 × Mem) :=
  if s0 = 0 then
    (jn_X12_readTide_51 N Λ μ k6 v0 v1 s0)
  else
    ((dr Λ v0 1 13).bind fun q2 =>
    gd (inb (13 + v1) (aZ Λ q2)) <|
    lt (mset μ q2 (13 + v1).toNatClampNeg v4) fun μ5 =>
    jn_X12_readTide_51 N Λ μ5 k6 v0 v1 s0)
def jn_X12_readTide_34 (N : Nat) (Λ : Lay) (μ : Mem) (k6 : Int32 × Int32 × Int32 × Mem → Option (Int32 × Mem)) (v0 : Nat) (v1 : Int32) (v4 : Int32) : Option (Int32 × Mem) :=
  jn_X12_readTide_35 N Λ μ k6 v0 v1 v4 0
def bd_X12_readTide_6 (N : Nat) (Λ : Lay) (μ : Mem) (k6 : Int32 × Int32 × Int32 × Mem → Option (Int32 × Mem)) (v0 : Nat) (v1 : Int32) (v2 : Int32) (v3 : Int32) : Option (Int32 × Mem) :=
  if v3 = 0 then
    (gd (zb v2) <|
    some (v2, μ))
  else
    ((m_X12_number N Λ μ v0 0 30).bind fun r3 =>
    if r3.1 < 0 then
      (jn_X12_readTide_34 N Λ r3.2 k6 v0 v1 r3.1)
    else
      (if 12 ≤ v1 then
        (jn_X12_readTide_34 N Λ r3.2 k6 v0 v1 r3.1)
      else
        (jn_X12_readTide_35 N Λ r3.2 k6 v0 v1 r3.1 1)))
def lp_X12_readTide_6 (N : Nat) (Λ : Lay) (v0 : Nat) (s : Int32 × Int32 × Int32 × Mem) : Option (Int32 × Mem) := cw (fun k s => bd_X12_readTide_6 N Λ (s.2.2.2) k v0 s.1 s.2.1 s.2.2.1) N s
def m_X12_readTide (N : Nat) (Λ : Lay) (μ : Mem) (v0 : Nat) : Option (Int32 × Mem) :=
  lp_X12_readTide_6 N Λ v0 (0, 1, 1, μ)
def jn_X12_readBlocks_73 (N : Nat) (Λ : Lay) (μ : Mem) (k6 : Int32 × Int32 × Int32 × Mem → Option (Int32 × Mem)) (v0 : Nat) (v1 : Int32) (v2 : Int32) (s0 : Int32) : Option (Int32 × Mem) :=
  k6 (v1, v2, s0, μ)
def jn_X12_readBlocks_72 (N : Nat) (Λ : Lay) (μ : Mem) (k6 : Int32 × Int32 × Int32 × Mem → Option (Int32 × Mem)) (v0 : Nat) (v1 : Int32) (v2 : Int32) : Option (Int32 × Mem) :=
  jn_X12_readBlocks_73 N Λ μ k6 v0 v1 v2 0
def jn_X12_readBlocks_54 (N : Nat) (Λ : Lay) (μ : Mem) (k6 : Int32 × Int32 × Int32 × Mem → Option (Int32 × Mem)) (v0 : Nat) (v1 : Int32) (v2 : Int32) : Option (Int32 × Mem) :=
  lt (v1 + 1) fun y1 =>
  if v2 = 0 then
    (jn_X12_readBlocks_72 N Λ μ k6 v0 y1 v2)
  else
    ((m_X12_isNumberNext N Λ μ v0).bind fun r4 =>
    if r4.1 = 0 then
      (jn_X12_readBlocks_72 N Λ r4.2 k6 v0 y1 v2)
    else
      (jn_X12_readBlocks_73 N Λ r4.2 k6 v0 y1 v2 1))
def jn_X12_readBlocks_35 (N : Nat) (Λ : Lay) (μ : Mem) (k6 : Int32 × Int32 × Int32 × Mem → Option (Int32 × Mem)) (v0 : Nat) (v1 : Int32) (v4 : Int32) (s0 : Int32) : Option (Int32 × Mem) :=
  if s0 = 0 then
    (jn_X12_readBlocks_54 N Λ μ k6 v0 v1 s0)
  else
    ((dr Λ v0 1 13).bind fun q2 =>
    gd (inb 10 (aZ Λ q2)) <|
    gd (inb 10 (aZ Λ q2)) <|
    lt (mset μ q2 (10 : Int32).toNatClampNeg ((μ.1 q2 (10 : Int32).toNatClampNeg) ||| (ishl 1 v4))) fun μ6 =>
    jn_X12_readBlocks_54 N Λ μ6 k6 v0 v1 s0)
def jn_X12_readBlocks_34 (N : Nat) (Λ : Lay) (μ : Mem) (k6 : Int32 × Int32 × Int32 × Mem → Option (Int32 × Mem)) (v0 : Nat) (v1 : Int32) (v4 : Int32) : Option (Int32 × Mem) :=
  jn_X12_readBlocks_35 N Λ μ k6 v0 v1 v4 0
def bd_X12_readBlocks_6 (N : Nat) (Λ : Lay) (μ : Mem) (k6 : Int32 × Int32 × Int32 × Mem → Option (Int32 × Mem)) (v0 : Nat) (v1 : Int32) (v2 : Int32) (v3 : Int32) : Option (Int32 × Mem) :=
  if v3 = 0 then
    (gd (zb v2) <|
    some (v2, μ))
  else
    ((m_X12_number N Λ μ v0 0 23).bind fun r3 =>
    if r3.1 < 0 then
      (jn_X12_readBlocks_34 N Λ r3.2 k6 v0 v1 r3.1)
    else
      (if 12 ≤ v1 then
        (jn_X12_readBlocks_34 N Λ r3.2 k6 v0 v1 r3.1)
      else
        (jn_X12_readBlocks_35 N Λ r3.2 k6 v0 v1 r3.1 1)))
def lp_X12_readBlocks_6 (N : Nat) (Λ : Lay) (v0 : Nat) (s : Int32 × Int32 × Int32 × Mem) : Option (Int32 × Mem) := cw (fun k s => bd_X12_readBlocks_6 N Λ (s.2.2.2) k v0 s.1 s.2.1 s.2.2.1) N s
def m_X12_readBlocks (N : Nat) (Λ : Lay) (μ : Mem) (v0 : Nat) : Option (Int32 × Mem) :=
  lp_X12_readBlocks_6 N Λ v0 (0, 1, 1, μ)
def m_X12_readShut (N : Nat) (Λ : Lay) (μ : Mem) (v0 : Nat) : Option (Int32 × Mem) :=
  (dr Λ v0 1 13).bind fun q1 =>
  gd (inb 4 (aZ Λ q1)) <|
  lt (mset μ q1 (4 : Int32).toNatClampNeg 0) fun μ4 =>
  some (1, μ4)
def jn_X12_readDockLine_156 (N : Nat) (Λ : Lay) (μ : Mem) (s0 : Int32) : Option (Int32 × Mem) :=
  gd (zb s0) <|
  some (s0, μ)
def jn_X12_readDockLine_155 (N : Nat) (Λ : Lay) (μ : Mem) : Option (Int32 × Mem) :=
  jn_X12_readDockLine_156 N Λ μ 0
def m_X12_readDockLine (N : Nat) (Λ : Lay) (μ : Mem) (v0 : Nat) : Option (Int32 × Mem) :=
  (m_X12_isWord N Λ μ v0 18).bind fun r1 =>
  if r1 = 0 then
    ((m_X12_isWord N Λ μ v0 21).bind fun r4 =>
    if r4 = 0 then
      ((m_X12_isWord N Λ μ v0 2).bind fun r7 =>
      if r7 = 0 then
        ((m_X12_isWord N Λ μ v0 12).bind fun r10 =>
        if r10 = 0 then
          ((m_X12_isWord N Λ μ v0 19).bind fun r13 =>
          if r13 = 0 then
            ((m_X12_isWord N Λ μ v0 17).bind fun r16 =>
            if r16 = 0 then
              ((m_X12_isWord N Λ μ v0 6).bind fun r19 =>
              if r19 = 0 then
                ((m_X12_isWord N Λ μ v0 20).bind fun r22 =>
                if r22 = 0 then
                  ((m_X12_isWord N Λ μ v0 7).bind fun r25 =>
                  if r25 = 0 then
                    (jn_X12_readDockLine_155 N Λ μ)
                  else
                    ((m_X12_readNumber N Λ μ v0 9 0 999).bind fun r28 =>
                    if r28.1 = 0 then
                      (jn_X12_readDockLine_155 N Λ r28.2)
                    else
                      (jn_X12_readDockLine_156 N Λ r28.2 1)))
                else
                  ((m_X12_readNumber N Λ μ v0 7 0 5).bind fun r31 =>
                  gd (zb r31.1) <|
                  some (r31.1, r31.2)))
              else
                ((m_X12_readNumber N Λ μ v0 6 0 9).bind fun r34 =>
                gd (zb r34.1) <|
                some (r34.1, r34.2)))
            else
              ((m_X12_readNumber N Λ μ v0 5 0 9).bind fun r37 =>
              gd (zb r37.1) <|
              some (r37.1, r37.2)))
          else
            ((m_X12_readShut N Λ μ v0).bind fun r40 =>
            gd (zb r40.1) <|
            some (r40.1, r40.2)))
        else
          ((m_X12_readNumber N Λ μ v0 3 0 40).bind fun r43 =>
          gd (zb r43.1) <|
          some (r43.1, r43.2)))
      else
        ((m_X12_readBlocks N Λ μ v0).bind fun r46 =>
        gd (zb r46.1) <|
        some (r46.1, r46.2)))
    else
      ((m_X12_readTide N Λ μ v0).bind fun r49 =>
      gd (zb r49.1) <|
      some (r49.1, r49.2)))
  else
    ((m_X12_readShip N Λ μ v0).bind fun r52 =>
    gd (zb r52.1) <|
    some (r52.1, r52.2))
def m_X12_emits (N : Nat) (Λ : Lay) (μ : Mem) (v0 : Nat) (v1 : Int32) (v2 : Int32) : Option (Mem) :=
  (dr Λ v0 1 13).bind fun q1 =>
  gd (inb (1271 + (2 * (μ.1 v0 16))) (aZ Λ q1)) <|
  lt (mset μ q1 (1271 + (2 * (μ.1 v0 16))).toNatClampNeg v1) fun μ4 =>
  (dr Λ v0 1 13).bind fun q6 =>
  gd (inb ((1271 + (2 * (μ4.1 v0 16))) + 1) (aZ Λ q6)) <|
  lt (mset μ4 q6 ((1271 + (2 * (μ4.1 v0 16))) + 1).toNatClampNeg v2) fun μ9 =>
  lt (mset μ9 v0 16 ((μ9.1 v0 16) + 1)) fun μ11 =>
  some μ11
def jn_X12_wordOfPart_81 (N : Nat) (Λ : Lay) (μ : Mem) (s0 : Int32) : Option (Int32) :=
  some s0
def m_X12_wordOfPart (N : Nat) (Λ : Lay) (μ : Mem) (v0 : Nat) : Option (Int32) :=
  (m_X12_isWord N Λ μ v0 18).bind fun r1 =>
  if r1 = 0 then
    ((m_X12_isWord N Λ μ v0 11).bind fun r4 =>
    if r4 = 0 then
      ((m_X12_isWord N Λ μ v0 3).bind fun r7 =>
      if r7 = 0 then
        ((m_X12_isWord N Λ μ v0 22).bind fun r10 =>
        if r10 = 0 then
          ((m_X12_isWord N Λ μ v0 12).bind fun r13 =>
          if r13 = 0 then
            ((m_X12_isWord N Λ μ v0 21).bind fun r16 =>
            if r16 = 0 then
              ((m_X12_isWord N Λ μ v0 7).bind fun r19 =>
              if r19 = 0 then
                (jn_X12_wordOfPart_81 N Λ μ (-1))
              else
                (jn_X12_wordOfPart_81 N Λ μ 6))
            else
              (some 5))
          else
            (some 4))
        else
          (some 3))
      else
        (some 2))
    else
      (some 1))
  else
    (some 0)
def jn_X12_readPart_73 (N : Nat) (Λ : Lay) (μ : Mem) (s0 : Int32) : Option (Int32 × Mem) :=
  gd (zb s0) <|
  some (s0, μ)
def jn_X12_readPart_61 (N : Nat) (Λ : Lay) (μ : Mem) (v2 : Int32) (s0 : Nat) (s1 : Int32) (s2 : Int32) : Option (Int32 × Mem) :=
  (m_X12_emits N Λ μ s0 s1 s2).bind fun r1 =>
  if v2 < 0 then
    (jn_X12_readPart_73 N Λ r1 0)
  else
    (jn_X12_readPart_73 N Λ r1 1)
def jn_X12_readPart_52 (N : Nat) (Λ : Lay) (μ : Mem) (v1 : Int32) (v2 : Int32) (s0 : Nat) (s1 : Int32) : Option (Int32 × Mem) :=
  if v1 = 0 then
    (jn_X12_readPart_61 N Λ μ v2 s0 s1 0)
  else
    (jn_X12_readPart_61 N Λ μ v2 s0 s1 v2)
def jn_X12_readPart_40 (N : Nat) (Λ : Lay) (μ : Mem) (v0 : Nat) (v1 : Int32) (s0 : Int32) : Option (Int32 × Mem) :=
  if v1 = 0 then
    (jn_X12_readPart_52 N Λ μ v1 s0 v0 s0)
  else
    (jn_X12_readPart_52 N Λ μ v1 s0 v0 10)
def jn_X12_readPart_20 (N : Nat) (Λ : Lay) (μ : Mem) (v0 : Nat) (s0 : Int32) : Option (Int32 × Mem) :=
  if s0 = 0 then
    ((m_X12_wordOfPart N Λ μ v0).bind fun r2 =>
    jn_X12_readPart_40 N Λ μ v0 s0 r2)
  else
    ((m_X12_number N Λ μ v0 0 999).bind fun r4 =>
    jn_X12_readPart_40 N Λ r4.2 v0 s0 r4.1)
def m_X12_readPart (N : Nat) (Λ : Lay) (μ : Mem) (v0 : Nat) : Option (Int32 × Mem) :=
  (m_X12_letters N Λ μ v0).bind fun r1 =>
  if (r1.1 v0 10) = (r1.1 v0 12) then
    (jn_X12_readPart_20 N Λ r1 v0 1)
  else
    (jn_X12_readPart_20 N Λ r1 v0 0)
def bd_X12_readSum_9 (N : Nat) (Λ : Lay) (μ : Mem) (k9 : Mem → Option (Int32 × Mem)) (v0 : Nat) : Option (Int32 × Mem) :=
  (m_X12_sign N Λ μ v0 43).bind fun r1 =>
  if r1.1 = 0 then
    (some (1, r1.2))
  else
    ((m_X12_readPart N Λ r1.2 v0).bind fun r4 =>
    if r4.1 = 0 then
      (some (0, r4.2))
    else
      ((m_X12_emits N Λ r4.2 v0 11 0).bind fun r7 =>
      k9 r7))
def lp_X12_readSum_9 (N : Nat) (Λ : Lay) (v0 : Nat) (s : Mem) : Option (Int32 × Mem) := cw (fun k s => bd_X12_readSum_9 N Λ s k v0) N s
def m_X12_readSum (N : Nat) (Λ : Lay) (μ : Mem) (v0 : Nat) : Option (Int32 × Mem) :=
  (m_X12_readPart N Λ μ v0).bind fun r1 =>
  if r1.1 = 0 then
    (some (0, r1.2))
  else
    (lp_X12_readSum_9 N Λ v0 r1.2)
def jn_X12_readTag_78 (N : Nat) (Λ : Lay) (μ : Mem) (s0 : Int32) : Option (Int32 × Mem) :=
  gd (zb s0) <|
  some (s0, μ)
def jn_X12_readTag_69 (N : Nat) (Λ : Lay) (μ : Mem) (v1 : Int32) : Option (Int32 × Mem) :=
  if v1 < 0 then
    (jn_X12_readTag_78 N Λ μ 0)
  else
    (jn_X12_readTag_78 N Λ μ 1)
def jn_X12_readTag_47 (N : Nat) (Λ : Lay) (μ : Mem) (v0 : Nat) (s0 : Int32) : Option (Int32 × Mem) :=
  if s0 < 0 then
    (lt (mset μ v0 10 (μ.1 v0 12)) fun μ2 =>
    jn_X12_readTag_69 N Λ μ2 s0)
  else
    ((m_X12_emits N Λ μ v0 s0 0).bind fun r4 =>
    jn_X12_readTag_69 N Λ r4 s0)
def m_X12_readTag (N : Nat) (Λ : Lay) (μ : Mem) (v0 : Nat) : Option (Int32 × Mem) :=
  (m_X12_letters N Λ μ v0).bind fun r1 =>
  (m_X12_isWord N Λ r1 v0 14).bind fun r3 =>
  if r3 = 0 then
    ((m_X12_isWord N Λ r1 v0 4).bind fun r6 =>
    if r6 = 0 then
      ((m_X12_isWord N Λ r1 v0 8).bind fun r9 =>
      if r9 = 0 then
        (jn_X12_readTag_47 N Λ r1 v0 (-1))
      else
        (jn_X12_readTag_47 N Λ r1 v0 9))
    else
      (jn_X12_readTag_47 N Λ r1 v0 8))
  else
    (jn_X12_readTag_47 N Λ r1 v0 7)
def bd_X12_readAllOf_9 (N : Nat) (Λ : Lay) (fA : Mem → Nat → Option (Int32 × Mem)) (μ : Mem) (k9 : Mem → Option (Int32 × Mem)) (v0 : Nat) : Option (Int32 × Mem) :=
  (m_X12_passes N Λ μ v0 0).bind fun r1 =>
  if r1.1 = 0 then
    (some (1, r1.2))
  else
    ((fA r1.2 v0).bind fun r4 =>
    if r4.1 = 0 then
      (some (0, r4.2))
    else
      ((m_X12_emits N Λ r4.2 v0 15 0).bind fun r7 =>
      k9 r7))
def lp_X12_readAllOf_9 (N : Nat) (Λ : Lay) (fA : Mem → Nat → Option (Int32 × Mem)) (v0 : Nat) (s : Mem) : Option (Int32 × Mem) := cw (fun k s => bd_X12_readAllOf_9 N Λ fA s k v0) N s
def m_X12_readAllOf (N : Nat) (Λ : Lay) (fA : Mem → Nat → Option (Int32 × Mem)) (μ : Mem) (v0 : Nat) : Option (Int32 × Mem) :=
  (fA μ v0).bind fun r1 =>
  if r1.1 = 0 then
    (some (0, r1.2))
  else
    (lp_X12_readAllOf_9 N Λ fA v0 r1.2)
def bd_X12_readCond_9 (N : Nat) (Λ : Lay) (fA : Mem → Nat → Option (Int32 × Mem)) (μ : Mem) (k9 : Mem → Option (Int32 × Mem)) (v0 : Nat) : Option (Int32 × Mem) :=
  (m_X12_passes N Λ μ v0 15).bind fun r1 =>
  if r1.1 = 0 then
    (some (1, r1.2))
  else
    ((m_X12_readAllOf N Λ fA r1.2 v0).bind fun r4 =>
    if r4.1 = 0 then
      (some (0, r4.2))
    else
      ((m_X12_emits N Λ r4.2 v0 16 0).bind fun r7 =>
      k9 r7))
def lp_X12_readCond_9 (N : Nat) (Λ : Lay) (fA : Mem → Nat → Option (Int32 × Mem)) (v0 : Nat) (s : Mem) : Option (Int32 × Mem) := cw (fun k s => bd_X12_readCond_9 N Λ fA s k v0) N s
def m_X12_readCond (N : Nat) (Λ : Lay) (fA : Mem → Nat → Option (Int32 × Mem)) (μ : Mem) (v0 : Nat) : Option (Int32 × Mem) :=
  (m_X12_readAllOf N Λ fA μ v0).bind fun r1 =>
  if r1.1 = 0 then
    (some (0, r1.2))
  else
    (lp_X12_readCond_9 N Λ fA v0 r1.2)
def jn_X12_readAtom_159 (N : Nat) (Λ : Lay) (fA : Mem → Nat → Option (Int32 × Mem)) (μ : Mem) : Option (Int32 × Mem) :=
  some (0, μ)
def jn_X12_readAtom_173 (N : Nat) (Λ : Lay) (fA : Mem → Nat → Option (Int32 × Mem)) (μ : Mem) (s0 : Nat) (s1 : Int32) : Option (Int32 × Mem) :=
  (m_X12_emits N Λ μ s0 s1 0).bind fun r1 =>
  some (1, r1)
def jn_X12_readAtom_152 (N : Nat) (Λ : Lay) (fA : Mem → Nat → Option (Int32 × Mem)) (μ : Mem) (v0 : Nat) (v1 : Int32) : Option (Int32 × Mem) :=
  (m_X12_readSum N Λ μ v0).bind fun r1 =>
  if r1.1 = 0 then
    (jn_X12_readAtom_159 N Λ fA r1.2)
  else
    (if v1 = 0 then
      (jn_X12_readAtom_173 N Λ fA r1.2 v0 13)
    else
      (jn_X12_readAtom_173 N Λ fA r1.2 v0 12))
def o_X12_readAtom (N : Nat) (Λ : Lay) (fA : Mem → Nat → Option (Int32 × Mem)) (μ : Mem) (v0 : Nat) : Option (Int32 × Mem) :=
  (m_X12_sign N Λ μ v0 40).bind fun r1 =>
  if r1.1 = 0 then
    ((m_X12_passes N Λ r1.2 v0 13).bind fun r4 =>
    if r4.1 = 0 then
      ((m_X12_readTag N Λ r4.2 v0).bind fun r7 =>
      if r7.1 = 0 then
        ((m_X12_readSum N Λ r7.2 v0).bind fun r10 =>
        if r10.1 = 0 then
          (some (0, r10.2))
        else
          ((m_X12_sign N Λ r10.2 v0 60).bind fun r13 =>
          if r13.1 = 0 then
            ((m_X12_sign N Λ r13.2 v0 62).bind fun r16 =>
            if r16.1 = 0 then
              (jn_X12_readAtom_159 N Λ fA r16.2)
            else
              (jn_X12_readAtom_152 N Λ fA r16.2 v0 r13.1))
          else
            (jn_X12_readAtom_152 N Λ fA r13.2 v0 r13.1)))
      else
        (some (1, r7.2)))
    else
      (if (r4.2.1 v0 13) = 6 then
        (some (0, r4.2))
      else
        (lt (mset r4.2 v0 13 ((r4.2.1 v0 13) + 1)) fun μ20 =>
        (fA μ20 v0).bind fun r22 =>
        if r22.1 = 0 then
          (some (0, r22.2))
        else
          (lt (mset r22.2 v0 13 ((r22.2.1 v0 13) - 1)) fun μ25 =>
          (m_X12_emits N Λ μ25 v0 14 0).bind fun r27 =>
          some (1, r27)))))
  else
    (if (r1.2.1 v0 13) = 6 then
      (some (0, r1.2))
    else
      (lt (mset r1.2 v0 13 ((r1.2.1 v0 13) + 1)) fun μ30 =>
      (m_X12_readCond N Λ fA μ30 v0).bind fun r32 =>
      if r32.1 = 0 then
        (some (0, r32.2))
      else
        (lt (mset r32.2 v0 13 ((r32.2.1 v0 13) - 1)) fun μ35 =>
        (m_X12_sign N Λ μ35 v0 41).bind fun r37 =>
        gd (zb r37.1) <|
        some (r37.1, r37.2))))
def m_X12_readAtom (N : Nat) (Λ : Lay) : Nat → Mem → Nat → Option (Int32 × Mem)
  | 0, _, _ => none
  | d + 1, μ, v0 => o_X12_readAtom N Λ (m_X12_readAtom N Λ d) μ v0
def jn_X12_readLawLine_132 (N : Nat) (Λ : Lay) (μ : Mem) (v0 : Nat) (v2 : Int32) : Option (Int32 × Mem) :=
  (dr Λ v0 1 13).bind fun q1 =>
  gd (inb (v2 + 3) (aZ Λ q1)) <|
  lt (mset μ q1 (v2 + 3).toNatClampNeg (μ.1 v0 16)) fun μ4 =>
  some (1, μ4)
def jn_X12_readLawLine_56 (N : Nat) (Λ : Lay) (μ : Mem) (v0 : Nat) (v2 : Int32) (s0 : Nat) (s1 : Int32) (s2 : Int32) : Option (Int32 × Mem) :=
  gd (inb s1 (aZ Λ s0)) <|
  lt (mset μ s0 s1.toNatClampNeg s2) fun μ2 =>
  (dr Λ v0 1 13).bind fun q4 =>
  gd (inb v2 (aZ Λ q4)) <|
  if 0 ≤ (μ2.1 q4 v2.toNatClampNeg) then
    ((dr Λ v0 1 13).bind fun q8 =>
    (m_X12_number N Λ μ2 v0 0 40).bind fun r10 =>
    gd (inb (v2 + 1) (aZ Λ q8)) <|
    lt (mset r10.2 q8 (v2 + 1).toNatClampNeg r10.1) fun μ13 =>
    (dr Λ v0 1 13).bind fun q15 =>
    gd (inb (v2 + 1) (aZ Λ q15)) <|
    if 0 ≤ (μ13.1 q15 (v2 + 1).toNatClampNeg) then
      ((dr Λ v0 1 13).bind fun q19 =>
      gd (inb (v2 + 2) (aZ Λ q19)) <|
      lt (mset μ13 q19 (v2 + 2).toNatClampNeg (μ13.1 v0 16)) fun μ22 =>
      lt (mset μ22 v0 13 0) fun μ24 =>
      (m_X12_passes N Λ μ24 v0 9).bind fun r26 =>
      if r26.1 = 0 then
        (jn_X12_readLawLine_132 N Λ r26.2 v0 v2)
      else
        ((m_X12_readCond N Λ (m_X12_readAtom N Λ 8) r26.2 v0).bind fun r29 =>
        if r29.1 = 0 then
          (some (0, r29.2))
        else
          (jn_X12_readLawLine_132 N Λ r29.2 v0 v2)))
    else
      (some (0, μ13)))
  else
    (some (0, μ2))
def m_X12_readLawLine (N : Nat) (Λ : Lay) (μ : Mem) (v0 : Nat) (v1 : Int32) : Option (Int32 × Mem) :=
  lt (1223 + (4 * v1)) fun y1 =>
  (dr Λ v0 1 13).bind fun q3 =>
  (m_X12_isWord N Λ μ v0 16).bind fun r5 =>
  if r5 = 0 then
    ((m_X12_isWord N Λ μ v0 10).bind fun r8 =>
    if r8 = 0 then
      ((m_X12_isWord N Λ μ v0 5).bind fun r11 =>
      if r11 = 0 then
        (jn_X12_readLawLine_56 N Λ μ v0 y1 q3 y1 (-1))
      else
        (jn_X12_readLawLine_56 N Λ μ v0 y1 q3 y1 2))
    else
      (jn_X12_readLawLine_56 N Λ μ v0 y1 q3 y1 1))
  else
    (jn_X12_readLawLine_56 N Λ μ v0 y1 q3 y1 0)
def jn_X12_readLine_46 (N : Nat) (Λ : Lay) (μ : Mem) (s0 : Int32) : Option (Int32 × Mem) :=
  gd (zb s0) <|
  some (s0, μ)
def jn_X12_readLine_41 (N : Nat) (Λ : Lay) (μ : Mem) : Option (Int32 × Mem) :=
  jn_X12_readLine_46 N Λ μ 1
def jn_X12_readLine_45 (N : Nat) (Λ : Lay) (μ : Mem) : Option (Int32 × Mem) :=
  jn_X12_readLine_46 N Λ μ 0
def jn_X12_readLine_16 (N : Nat) (Λ : Lay) (μ : Mem) (v0 : Nat) (v1 : Int32) (v2 : Int32) (s0 : Int32) (s1 : Int32) : Option (Int32 × Mem) :=
  if s1 ≤ s0 then
    (jn_X12_readLine_45 N Λ μ)
  else
    (if v1 = 0 then
      ((m_X12_readLawLine N Λ μ v0 v2).bind fun r3 =>
      if r3.1 = 0 then
        (jn_X12_readLine_45 N Λ r3.2)
      else
        (jn_X12_readLine_41 N Λ r3.2))
    else
      ((m_X12_readDockLine N Λ μ v0).bind fun r6 =>
      if r6.1 = 0 then
        (jn_X12_readLine_45 N Λ r6.2)
      else
        (jn_X12_readLine_41 N Λ r6.2)))
def m_X12_readLine (N : Nat) (Λ : Lay) (μ : Mem) (v0 : Nat) (v1 : Int32) (v2 : Int32) : Option (Int32 × Mem) :=
  (m_X12_letters N Λ μ v0).bind fun r1 =>
  if v1 = 0 then
    (jn_X12_readLine_16 N Λ r1 v0 v1 v2 v2 12)
  else
    (jn_X12_readLine_16 N Λ r1 v0 v1 v2 v2 14)
def bd_X12_readAll_28 (N : Nat) (Λ : Lay) (μ : Mem) (k28 : Int32 × Mem → Option (Int32 × Mem)) (v0 : Nat) (v1 : Int32) (v2 : Int32) : Option (Int32 × Mem) :=
  (m_X12_readLine N Λ μ v0 v1 v2).bind fun r1 =>
  if r1.1 = 0 then
    (some ((-1), r1.2))
  else
    ((m_X12_blanks N Λ r1.2 v0).bind fun r4 =>
    if (r4.1 v0 10) = (r4.1 v0 11) then
      (some (v2 + 1, r4))
    else
      ((m_X12_isAt N Λ r4 v0 59 59).bind fun r7 =>
      if r7 = 0 then
        (some ((-1), r4))
      else
        (lt (mset r4 v0 10 ((r4.1 v0 10) + 1)) fun μ10 =>
        lt (v2 + 1) fun y12 =>
        k28 (y12, μ10))))
def lp_X12_readAll_28 (N : Nat) (Λ : Lay) (v0 : Nat) (v1 : Int32) (s : Int32 × Mem) : Option (Int32 × Mem) := cw (fun k s => bd_X12_readAll_28 N Λ (s.2) k v0 v1 s.1) N s
def m_X12_readAll (N : Nat) (Λ : Lay) (μ : Mem) (v0 : Nat) (v1 : Int32) : Option (Int32 × Mem) :=
  (m_X12_uses N Λ μ v0).bind fun r1 =>
  lt (mset r1 v0 16 0) fun μ3 =>
  (m_X12_blanks N Λ μ3 v0).bind fun r5 =>
  if (r5.1 v0 10) = (r5.1 v0 11) then
    (some (0, r5))
  else
    (lp_X12_readAll_28 N Λ v0 v1 (0, r5))
def bd_X12_dock_92 (N : Nat) (Λ : Lay) (μ : Mem) (k92 : Int32 × Mem → Option (Int32 × Mem)) (v0 : Nat) (v2 : Int32) : Option (Int32 × Mem) :=
  if 1222 ≤ v2 then
    (some (0, μ))
  else
    ((dr Λ v0 1 13).bind fun q2 =>
    (dr Λ v0 3 13).bind fun q4 =>
    gd (inb v2 (aZ Λ q4)) <|
    gd (inb v2 (aZ Λ q2)) <|
    lt (mset μ q2 v2.toNatClampNeg (μ.1 q4 v2.toNatClampNeg)) fun μ8 =>
    lt (v2 + 1) fun y10 =>
    k92 (y10, μ8))
def lp_X12_dock_92 (N : Nat) (Λ : Lay) (v0 : Nat) (s : Int32 × Mem) : Option (Int32 × Mem) := cw (fun k s => bd_X12_dock_92 N Λ (s.2) k v0 s.1) N s
def jn_X12_dock_90 (N : Nat) (Λ : Lay) (μ : Mem) (v0 : Nat) : Option (Int32 × Mem) :=
  lp_X12_dock_92 N Λ v0 (0, μ)
def jn_X12_dock_83 (N : Nat) (Λ : Lay) (μ : Mem) (v0 : Nat) (s0 : Nat) (s1 : Int32) : Option (Int32 × Mem) :=
  (m_X12_throwsIf N Λ μ s0 s1 2).bind fun r1 =>
  if r1.1 = 0 then
    ((dr Λ v0 1 13).bind fun q4 =>
    gd (inb 1 (aZ Λ q4)) <|
    gd (inb 1 (aZ Λ q4)) <|
    lt (mset r1.2 q4 (1 : Int32).toNatClampNeg ((r1.2.1 q4 (1 : Int32).toNatClampNeg) + 1)) fun μ8 =>
    lt (mset μ8 v0 7 0) fun μ10 =>
    (dr Λ v0 1 13).bind fun q12 =>
    gd (inb 1 (aZ Λ q12)) <|
    some (μ10.1 q12 (1 : Int32).toNatClampNeg, μ10))
  else
    (jn_X12_dock_90 N Λ r1.2 v0)
def jn_X12_dock_59 (N : Nat) (Λ : Lay) (μ : Mem) (v0 : Nat) (s0 : Nat) (s1 : Int32) : Option (Int32 × Mem) :=
  (m_X12_throwsIf N Λ μ s0 s1 1).bind fun r1 =>
  if r1.1 = 0 then
    ((dr Λ v0 1 13).bind fun q4 =>
    gd (inb 1 (aZ Λ q4)) <|
    if (r1.2.1 q4 (1 : Int32).toNatClampNeg) = 12 then
      (jn_X12_dock_83 N Λ r1.2 v0 v0 1)
    else
      (jn_X12_dock_83 N Λ r1.2 v0 v0 0))
  else
    (jn_X12_dock_90 N Λ r1.2 v0)
def jn_X12_dock_46 (N : Nat) (Λ : Lay) (μ : Mem) (v0 : Nat) (v1 : Int32) (s0 : Nat) (s1 : Int32) : Option (Int32 × Mem) :=
  lt (mset μ s0 14 s1) fun μ1 =>
  if 0 ≤ v1 then
    (jn_X12_dock_59 N Λ μ1 v0 v0 0)
  else
    (jn_X12_dock_59 N Λ μ1 v0 v0 1)
def bd_X12_dock_2 (N : Nat) (Λ : Lay) (μ : Mem) (k2 : Int32 × Mem → Option (Int32 × Mem)) (v0 : Nat) (v1 : Int32) : Option (Int32 × Mem) :=
  if 1222 ≤ v1 then
    ((m_X12_readAll N Λ μ v0 1).bind fun r2 =>
    if 0 ≤ r2.1 then
      (jn_X12_dock_46 N Λ r2.2 v0 r2.1 v0 (-1))
    else
      (jn_X12_dock_46 N Λ r2.2 v0 r2.1 v0 (r2.2.1 v0 12)))
  else
    ((dr Λ v0 3 13).bind fun q5 =>
    (dr Λ v0 1 13).bind fun q7 =>
    gd (inb v1 (aZ Λ q7)) <|
    gd (inb v1 (aZ Λ q5)) <|
    lt (mset μ q5 v1.toNatClampNeg (μ.1 q7 v1.toNatClampNeg)) fun μ11 =>
    lt (v1 + 1) fun y13 =>
    k2 (y13, μ11))
def lp_X12_dock_2 (N : Nat) (Λ : Lay) (v0 : Nat) (s : Int32 × Mem) : Option (Int32 × Mem) := cw (fun k s => bd_X12_dock_2 N Λ (s.2) k v0 s.1) N s
def m_X12_dock (N : Nat) (Λ : Lay) (μ : Mem) (v0 : Nat) : Option (Int32 × Mem) :=
  lp_X12_dock_2 N Λ v0 (0, μ)
def bd_X12_law_52 (N : Nat) (Λ : Lay) (μ : Mem) (k52 : Int32 × Mem → Option (Int32 × Mem)) (v0 : Nat) (v1 : Int32) (v2 : Int32) : Option (Int32 × Mem) :=
  if 849 ≤ v2 then
    ((dr Λ v0 1 13).bind fun q2 =>
    gd (inb 2 (aZ Λ q2)) <|
    lt (mset μ q2 (2 : Int32).toNatClampNeg 1) fun μ5 =>
    lt (mset μ5 v0 7 0) fun μ7 =>
    some (v1, μ7))
  else
    ((dr Λ v0 1 13).bind fun q9 =>
    (dr Λ v0 1 13).bind fun q11 =>
    gd (inb (1222 + v2) (aZ Λ q11)) <|
    gd (inb (373 + v2) (aZ Λ q9)) <|
    lt (mset μ q9 (373 + v2).toNatClampNeg (μ.1 q11 (1222 + v2).toNatClampNeg)) fun μ15 =>
    lt (v2 + 1) fun y17 =>
    k52 (y17, μ15))
def lp_X12_law_52 (N : Nat) (Λ : Lay) (v0 : Nat) (v1 : Int32) (s : Int32 × Mem) : Option (Int32 × Mem) := cw (fun k s => bd_X12_law_52 N Λ (s.2) k v0 v1 s.1) N s
def jn_X12_law_32 (N : Nat) (Λ : Lay) (μ : Mem) (v0 : Nat) (v1 : Int32) (s0 : Nat) (s1 : Int32) : Option (Int32 × Mem) :=
  (m_X12_throwsIf N Λ μ s0 s1 1).bind fun r1 =>
  if r1.1 = 0 then
    ((dr Λ v0 1 13).bind fun q4 =>
    gd (inb 1222 (aZ Λ q4)) <|
    lt (mset r1.2 q4 (1222 : Int32).toNatClampNeg v1) fun μ7 =>
    lp_X12_law_52 N Λ v0 v1 (0, μ7))
  else
    (some (0, r1.2))
def jn_X12_law_19 (N : Nat) (Λ : Lay) (μ : Mem) (v0 : Nat) (v1 : Int32) (s0 : Nat) (s1 : Int32) : Option (Int32 × Mem) :=
  lt (mset μ s0 14 s1) fun μ1 =>
  if 0 ≤ v1 then
    (jn_X12_law_32 N Λ μ1 v0 v1 v0 0)
  else
    (jn_X12_law_32 N Λ μ1 v0 v1 v0 1)
def m_X12_law (N : Nat) (Λ : Lay) (μ : Mem) (v0 : Nat) : Option (Int32 × Mem) :=
  (m_X12_readAll N Λ μ v0 0).bind fun r1 =>
  if 0 ≤ r1.1 then
    (jn_X12_law_19 N Λ r1.2 v0 r1.1 v0 (-1))
  else
    (jn_X12_law_19 N Λ r1.2 v0 r1.1 v0 (r1.2.1 v0 12))
def jn_X12_ofShip_15 (N : Nat) (Λ : Lay) (μ : Mem) (s0 : Int32) : Option (Int32) :=
  some s0
def m_X12_ofShip (N : Nat) (Λ : Lay) (μ : Mem) (v0 : Nat) (v1 : Int32) (v2 : Int32) : Option (Int32) :=
  if v1 = (-1) then
    (jn_X12_ofShip_15 N Λ μ 0)
  else
    ((m_X12_of N Λ μ v0 v1 v2).bind fun r2 =>
    jn_X12_ofShip_15 N Λ μ r2)
def jn_X12_factOf_67 (N : Nat) (Λ : Lay) (μ : Mem) (s0 : Int32) : Option (Int32) :=
  some s0
def jn_X12_factOf_135 (N : Nat) (Λ : Lay) (μ : Mem) (s0 : Int32) : Option (Int32) :=
  some s0
def m_X12_factOf (N : Nat) (Λ : Lay) (μ : Mem) (v0 : Nat) (v1 : Int32) (v2 : Int32) (v3 : Int32) : Option (Int32) :=
  if v1 = 0 then
    (if v3 = (-1) then
      (jn_X12_factOf_67 N Λ μ 9)
    else
      (jn_X12_factOf_67 N Λ μ v3))
  else
  if v1 = 1 then
    ((m_X12_ofShip N Λ μ v0 v3 0).bind fun r4 =>
    some r4)
  else
  if v1 = 2 then
    ((m_X12_ofShip N Λ μ v0 v3 1).bind fun r7 =>
    some r7)
  else
  if v1 = 3 then
    ((m_X12_ofShip N Λ μ v0 v3 2).bind fun r10 =>
    some r10)
  else
  if v1 = 4 then
    ((dr Λ v0 1 13).bind fun q13 =>
    gd (inb 3 (aZ Λ q13)) <|
    some (μ.1 q13 (3 : Int32).toNatClampNeg))
  else
  if v1 = 5 then
    ((m_X12_tideIn N Λ μ v0 0).bind fun r17 =>
    some r17)
  else
  if v1 = 6 then
    ((dr Λ v0 1 13).bind fun q20 =>
    gd (inb 9 (aZ Λ q20)) <|
    some (irem (μ.1 q20 (9 : Int32).toNatClampNeg) 12))
  else
  if v1 = 7 then
    ((dr Λ v0 1 13).bind fun q24 =>
    gd (inb 4 (aZ Λ q24)) <|
    some (μ.1 q24 (4 : Int32).toNatClampNeg))
  else
  if v1 = 8 then
    ((dr Λ v0 1 13).bind fun q28 =>
    gd (inb 3 (aZ Λ q28)) <|
    if 2 < (μ.1 q28 (3 : Int32).toNatClampNeg) then
      (jn_X12_factOf_135 N Λ μ 0)
    else
      (jn_X12_factOf_135 N Λ μ 1))
  else
  if v1 = 9 then
    ((m_X12_ofShip N Λ μ v0 v3 5).bind fun r33 =>
    some r33)
  else
    (some v2)
def jn_X12_holdsLine_257 (N : Nat) (Λ : Lay) (μ : Mem) (k22 : Int32 × Int32 × Mem → Option (Int32 × Mem)) (v0 : Nat) (v2 : Int32) (v3 : Int32) (v4 : Int32) (v5 : Int32) : Option (Int32 × Mem) :=
  lt (v5 + 1) fun y1 =>
  k22 (v3, y1, μ)
def jn_X12_holdsLine_256 (N : Nat) (Λ : Lay) (μ : Mem) (k22 : Int32 × Int32 × Mem → Option (Int32 × Mem)) (v0 : Nat) (v2 : Int32) (v3 : Int32) (v4 : Int32) (v5 : Int32) (s0 : Nat) (s1 : Int32) (s2 : Int32) : Option (Int32 × Mem) :=
  gd (inb s1 (aZ Λ s0)) <|
  lt (mset μ s0 s1.toNatClampNeg s2) fun μ2 =>
  jn_X12_holdsLine_257 N Λ μ2 k22 v0 v2 v3 v4 v5
def jn_X12_holdsLine_222 (N : Nat) (Λ : Lay) (μ : Mem) (k22 : Int32 × Int32 × Mem → Option (Int32 × Mem)) (v0 : Nat) (v2 : Int32) (v3 : Int32) (v4 : Int32) (v5 : Int32) (v6 : Int32) (v7 : Int32) (v8 : Int32) (s0 : Int32) : Option (Int32 × Mem) :=
  (dr Λ v0 17 13).bind fun q1 =>
  if v6 = 11 then
    (jn_X12_holdsLine_256 N Λ μ k22 v0 v2 v3 v4 v5 q1 (v3 - 1) (v7 + v8))
  else
    (if s0 = 0 then
      (jn_X12_holdsLine_256 N Λ μ k22 v0 v2 v3 v4 v5 q1 (v3 - 1) 0)
    else
      (jn_X12_holdsLine_256 N Λ μ k22 v0 v2 v3 v4 v5 q1 (v3 - 1) 1))
def jn_X12_holdsLine_282 (N : Nat) (Λ : Lay) (μ : Mem) (s0 : Int32) : Option (Int32 × Mem) :=
  gd (zb s0) <|
  some (s0, μ)
def jn_X12_holdsLine_277 (N : Nat) (Λ : Lay) (μ : Mem) : Option (Int32 × Mem) :=
  jn_X12_holdsLine_282 N Λ μ 1
def bd_X12_holdsLine_22 (N : Nat) (Λ : Lay) (μ : Mem) (k22 : Int32 × Int32 × Mem → Option (Int32 × Mem)) (v0 : Nat) (v2 : Int32) (v3 : Int32) (v4 : Int32) (v5 : Int32) : Option (Int32 × Mem) :=
  (dr Λ v0 1 13).bind fun q1 =>
  gd (inb (v4 + 3) (aZ Λ q1)) <|
  if (μ.1 q1 (v4 + 3).toNatClampNeg) ≤ v5 then
    (if v3 = 0 then
      (jn_X12_holdsLine_277 N Λ μ)
    else
      ((dr Λ v0 17 13).bind fun q6 =>
      gd (inb 0 (aZ Λ q6)) <|
      if (μ.1 q6 (0 : Int32).toNatClampNeg) = 1 then
        (jn_X12_holdsLine_277 N Λ μ)
      else
        (jn_X12_holdsLine_282 N Λ μ 0)))
  else
    ((dr Λ v0 1 13).bind fun q10 =>
    gd (inb (422 + (2 * v5)) (aZ Λ q10)) <|
    lt (μ.1 q10 (422 + (2 * v5)).toNatClampNeg) fun y13 =>
    if 10 < y13 then
      (if y13 = 14 then
        ((dr Λ v0 17 13).bind fun q36 =>
        (dr Λ v0 17 13).bind fun q38 =>
        gd (inb (v3 - 1) (aZ Λ q38)) <|
        gd (inb (v3 - 1) (aZ Λ q36)) <|
        lt (mset μ q36 (v3 - 1).toNatClampNeg (1 - (μ.1 q38 (v3 - 1).toNatClampNeg))) fun μ42 =>
        jn_X12_holdsLine_257 N Λ μ42 k22 v0 v2 v3 v4 v5)
      else
        (lt (v3 + (-1)) fun y17 =>
        (dr Λ v0 17 13).bind fun q19 =>
        gd (inb (y17 - 1) (aZ Λ q19)) <|
        lt (μ.1 q19 (y17 - 1).toNatClampNeg) fun y22 =>
        (dr Λ v0 17 13).bind fun q24 =>
        gd (inb y17 (aZ Λ q24)) <|
        lt (μ.1 q24 y17.toNatClampNeg) fun y27 =>
        if y13 = 12 then
          (if y27 ≤ y22 then
            (jn_X12_holdsLine_222 N Λ μ k22 v0 v2 y17 v4 v5 y13 y22 y27 0)
          else
            (jn_X12_holdsLine_222 N Λ μ k22 v0 v2 y17 v4 v5 y13 y22 y27 1))
        else
          (if y13 = 13 then
            (if y22 ≤ y27 then
              (jn_X12_holdsLine_222 N Λ μ k22 v0 v2 y17 v4 v5 y13 y22 y27 0)
            else
              (jn_X12_holdsLine_222 N Λ μ k22 v0 v2 y17 v4 v5 y13 y22 y27 1))
          else
            (if y13 = 15 then
              (if (y22 + y27) = 2 then
                (jn_X12_holdsLine_222 N Λ μ k22 v0 v2 y17 v4 v5 y13 y22 y27 1)
              else
                (jn_X12_holdsLine_222 N Λ μ k22 v0 v2 y17 v4 v5 y13 y22 y27 0))
            else
              (if (y22 + y27) ≤ 0 then
                (jn_X12_holdsLine_222 N Λ μ k22 v0 v2 y17 v4 v5 y13 y22 y27 0)
              else
                (jn_X12_holdsLine_222 N Λ μ k22 v0 v2 y17 v4 v5 y13 y22 y27 1))))))
    else
      ((dr Λ v0 17 13).bind fun q44 =>
      (dr Λ v0 1 13).bind fun q46 =>
      gd (inb ((422 + (2 * v5)) + 1) (aZ Λ q46)) <|
      (m_X12_factOf N Λ μ v0 y13 (μ.1 q46 ((422 + (2 * v5)) + 1).toNatClampNeg) v2).bind fun r49 =>
      gd (inb v3 (aZ Λ q44)) <|
      lt (mset μ q44 v3.toNatClampNeg r49) fun μ52 =>
      lt (v3 + 1) fun y54 =>
      jn_X12_holdsLine_257 N Λ μ52 k22 v0 v2 y54 v4 v5))
def lp_X12_holdsLine_22 (N : Nat) (Λ : Lay) (v0 : Nat) (v2 : Int32) (v4 : Int32) (s : Int32 × Int32 × Mem) : Option (Int32 × Mem) := cw (fun k s => bd_X12_holdsLine_22 N Λ (s.2.2) k v0 v2 s.1 v4 s.2.1) N s
def m_X12_holdsLine (N : Nat) (Λ : Lay) (μ : Mem) (v0 : Nat) (v1 : Int32) (v2 : Int32) : Option (Int32 × Mem) :=
  lt (374 + (4 * v1)) fun y1 =>
  (dr Λ v0 1 13).bind fun q3 =>
  gd (inb (y1 + 2) (aZ Λ q3)) <|
  lt (μ.1 q3 (y1 + 2).toNatClampNeg) fun y6 =>
  lp_X12_holdsLine_22 N Λ v0 v2 y1 (0, y6, μ)
def jn_X12_sumOf_73 (N : Nat) (Λ : Lay) (μ : Mem) (k5 : Int32 × Int32 × Mem → Option (Int32 × Mem)) (v0 : Nat) (v1 : Int32) (v2 : Int32) (v3 : Int32) (v4 : Int32) : Option (Int32 × Mem) :=
  lt (v4 + 1) fun y1 =>
  k5 (v3, y1, μ)
def jn_X12_sumOf_79 (N : Nat) (Λ : Lay) (μ : Mem) (v3 : Int32) : Option (Int32 × Mem) :=
  some (v3, μ)
def bd_X12_sumOf_5 (N : Nat) (Λ : Lay) (μ : Mem) (k5 : Int32 × Int32 × Mem → Option (Int32 × Mem)) (v0 : Nat) (v1 : Int32) (v2 : Int32) (v3 : Int32) (v4 : Int32) : Option (Int32 × Mem) :=
  (dr Λ v0 1 13).bind fun q1 =>
  gd (inb 2 (aZ Λ q1)) <|
  if (μ.1 q1 (2 : Int32).toNatClampNeg) = 1 then
    ((dr Λ v0 1 13).bind fun q5 =>
    gd (inb 373 (aZ Λ q5)) <|
    if (μ.1 q5 (373 : Int32).toNatClampNeg) ≤ v4 then
      (jn_X12_sumOf_79 N Λ μ v3)
    else
      ((dr Λ v0 1 13).bind fun q9 =>
      gd (inb (374 + (4 * v4)) (aZ Λ q9)) <|
      if (μ.1 q9 (374 + (4 * v4)).toNatClampNeg) = v1 then
        ((m_X12_holdsLine N Λ μ v0 v4 v2).bind fun r13 =>
        if r13.1 = 0 then
          (jn_X12_sumOf_73 N Λ r13.2 k5 v0 v1 v2 v3 v4)
        else
          ((dr Λ v0 1 13).bind fun q16 =>
          gd (inb ((374 + (4 * v4)) + 1) (aZ Λ q16)) <|
          lt (v3 + (r13.2.1 q16 ((374 + (4 * v4)) + 1).toNatClampNeg)) fun y19 =>
          jn_X12_sumOf_73 N Λ r13.2 k5 v0 v1 v2 y19 v4))
      else
        (jn_X12_sumOf_73 N Λ μ k5 v0 v1 v2 v3 v4)))
  else
    (jn_X12_sumOf_79 N Λ μ v3)
def lp_X12_sumOf_5 (N : Nat) (Λ : Lay) (v0 : Nat) (v1 : Int32) (v2 : Int32) (s : Int32 × Int32 × Mem) : Option (Int32 × Mem) := cw (fun k s => bd_X12_sumOf_5 N Λ (s.2.2) k v0 v1 v2 s.1 s.2.1) N s
def m_X12_sumOf (N : Nat) (Λ : Lay) (μ : Mem) (v0 : Nat) (v1 : Int32) (v2 : Int32) : Option (Int32 × Mem) :=
  lp_X12_sumOf_5 N Λ v0 v1 v2 (0, 0, μ)
def m_X12_pullsNow (N : Nat) (Λ : Lay) (μ : Mem) (v0 : Nat) : Option (Int32 × Mem) :=
  (dr Λ v0 1 13).bind fun q1 =>
  gd (inb 5 (aZ Λ q1)) <|
  (m_X12_sumOf N Λ μ v0 0 (-1)).bind fun r4 =>
  some ((μ.1 q1 (5 : Int32).toNatClampNeg) + r4.1, r4.2)
def jn_X12_leaksNow_19 (N : Nat) (Λ : Lay) (μ : Mem) (v0 : Nat) (s0 : Int32) : Option (Int32 × Mem) :=
  (m_X12_sumOf N Λ μ v0 1 (-1)).bind fun r1 =>
  some (s0 + r1.1, r1.2)
def m_X12_leaksNow (N : Nat) (Λ : Lay) (μ : Mem) (v0 : Nat) : Option (Int32 × Mem) :=
  (m_X12_tideIn N Λ μ v0 0).bind fun r1 =>
  (dr Λ v0 1 13).bind fun q3 =>
  gd (inb 3 (aZ Λ q3)) <|
  if r1 ≤ (μ.1 q3 (3 : Int32).toNatClampNeg) then
    (jn_X12_leaksNow_19 N Λ μ v0 0)
  else
    (jn_X12_leaksNow_19 N Λ μ v0 1)
def m_X12_feeOf (N : Nat) (Λ : Lay) (μ : Mem) (v0 : Nat) (v1 : Int32) : Option (Int32 × Mem) :=
  (m_X12_of N Λ μ v0 v1 0).bind fun r1 =>
  (m_X12_sumOf N Λ μ v0 2 v1).bind fun r3 =>
  some ((3 * r1) + r3.1, r3.2)
def jn_X12_isEven_24 (N : Nat) (Λ : Lay) (μ : Mem) (s0 : Int32) : Option (Int32) :=
  gd (zb s0) <|
  some s0
def m_X12_isEven (N : Nat) (Λ : Lay) (μ : Mem) (v0 : Nat) : Option (Int32) :=
  (dr Λ v0 1 13).bind fun q1 =>
  gd (inb 3 (aZ Λ q1)) <|
  (m_X12_tideIn N Λ μ v0 0).bind fun r4 =>
  if 1 < (iabs ((μ.1 q1 (3 : Int32).toNatClampNeg) - r4)) then
    (jn_X12_isEven_24 N Λ μ 0)
  else
    (jn_X12_isEven_24 N Λ μ 1)
def jn_X12_sits_28 (N : Nat) (Λ : Lay) (μ : Mem) (s0 : Int32) : Option (Int32) :=
  gd (zb s0) <|
  some s0
def jn_X12_sits_27 (N : Nat) (Λ : Lay) (μ : Mem) : Option (Int32) :=
  jn_X12_sits_28 N Λ μ 0
def m_X12_sits (N : Nat) (Λ : Lay) (μ : Mem) (v0 : Nat) (v1 : Int32) : Option (Int32) :=
  (m_X12_isDocked N Λ μ v0 v1).bind fun r1 =>
  if r1 = 0 then
    (jn_X12_sits_27 N Λ μ)
  else
    ((m_X12_of N Λ μ v0 v1 1).bind fun r4 =>
    (dr Λ v0 1 13).bind fun q6 =>
    gd (inb 3 (aZ Λ q6)) <|
    if r4 ≤ (μ.1 q6 (3 : Int32).toNatClampNeg) then
      (jn_X12_sits_27 N Λ μ)
    else
      (jn_X12_sits_28 N Λ μ 1))
def jn_X12_wedgesOf_40 (N : Nat) (Λ : Lay) (μ : Mem) (s0 : Int32) : Option (Int32) :=
  some s0
def jn_X12_wedgesOf_112 (N : Nat) (Λ : Lay) (μ : Mem) (k52 : Int32 × Int32 × Int32 → Option (Int32)) (v0 : Nat) (v2 : Int32) (v3 : Int32) (v4 : Int32) (v6 : Int32) (s0 : Int32) : Option (Int32) :=
  lt (v6 + 1) fun y1 =>
  k52 (v4, s0, y1)
def jn_X12_wedgesOf_105 (N : Nat) (Λ : Lay) (μ : Mem) (k52 : Int32 × Int32 × Int32 → Option (Int32)) (v0 : Nat) (v2 : Int32) (v3 : Int32) (v4 : Int32) (v6 : Int32) : Option (Int32) :=
  jn_X12_wedgesOf_112 N Λ μ k52 v0 v2 v3 v4 v6 v6
def jn_X12_wedgesOf_91 (N : Nat) (Λ : Lay) (μ : Mem) (k52 : Int32 × Int32 × Int32 → Option (Int32)) (v0 : Nat) (v2 : Int32) (v3 : Int32) (v4 : Int32) (v5 : Int32) (v6 : Int32) (v7 : Int32) : Option (Int32) :=
  if v7 = 0 then
    (if (v6 - v5) = 3 then
      (jn_X12_wedgesOf_105 N Λ μ k52 v0 v2 v3 v4 v6)
    else
      (jn_X12_wedgesOf_112 N Λ μ k52 v0 v2 v3 v4 v6 v5))
  else
    (jn_X12_wedgesOf_105 N Λ μ k52 v0 v2 v3 v4 v6)
def bd_X12_wedgesOf_52 (N : Nat) (Λ : Lay) (μ : Mem) (k52 : Int32 × Int32 × Int32 → Option (Int32)) (v0 : Nat) (v2 : Int32) (v3 : Int32) (v4 : Int32) (v5 : Int32) (v6 : Int32) : Option (Int32) :=
  if (v2 + v3) ≤ v6 then
    (some v4)
  else
    ((dr Λ v0 1 13).bind fun q2 =>
    gd (inb 10 (aZ Λ q2)) <|
    (m_X12_has N Λ μ (μ.1 q2 (10 : Int32).toNatClampNeg) v6).bind fun r5 =>
    if r5 = 0 then
      (if (v6 - v5) = 3 then
        (lt (v4 + 1) fun y9 =>
        jn_X12_wedgesOf_91 N Λ μ k52 v0 v2 v3 y9 v5 v6 r5)
      else
        (jn_X12_wedgesOf_91 N Λ μ k52 v0 v2 v3 v4 v5 v6 r5))
    else
      (jn_X12_wedgesOf_91 N Λ μ k52 v0 v2 v3 v4 v5 v6 r5))
def lp_X12_wedgesOf_52 (N : Nat) (Λ : Lay) (μ : Mem) (v0 : Nat) (v2 : Int32) (v3 : Int32) (s : Int32 × Int32 × Int32) : Option (Int32) := cw (fun k s => bd_X12_wedgesOf_52 N Λ μ k v0 v2 v3 s.1 s.2.1 s.2.2) N s
def m_X12_wedgesOf (N : Nat) (Λ : Lay) (μ : Mem) (v0 : Nat) (v1 : Int32) : Option (Int32) :=
  (m_X12_of N Λ μ v0 v1 4).bind fun r1 =>
  (m_X12_of N Λ μ v0 v1 0).bind fun r3 =>
  if 3 ≤ r3 then
    (lt (r1 - 1) fun y6 =>
    lp_X12_wedgesOf_52 N Λ μ v0 r1 r3 (0, y6, r1))
  else
    ((dr Λ v0 1 13).bind fun q8 =>
    gd (inb 10 (aZ Λ q8)) <|
    (m_X12_placesOf N Λ μ v0 v1).bind fun r11 =>
    if ((μ.1 q8 (10 : Int32).toNatClampNeg) &&& r11) = 0 then
      (jn_X12_wedgesOf_40 N Λ μ 1)
    else
      (jn_X12_wedgesOf_40 N Λ μ 0))
def jn_X12_isBorne_21 (N : Nat) (Λ : Lay) (μ : Mem) (s0 : Int32) : Option (Int32) :=
  gd (zb s0) <|
  some s0
def jn_X12_isBorne_20 (N : Nat) (Λ : Lay) (μ : Mem) : Option (Int32) :=
  jn_X12_isBorne_21 N Λ μ 0
def m_X12_isBorne (N : Nat) (Λ : Lay) (μ : Mem) (v0 : Nat) (v1 : Int32) : Option (Int32) :=
  (m_X12_isDocked N Λ μ v0 v1).bind fun r1 =>
  if r1 = 0 then
    (jn_X12_isBorne_20 N Λ μ)
  else
    ((m_X12_wedgesOf N Λ μ v0 v1).bind fun r4 =>
    if r4 = 0 then
      (jn_X12_isBorne_21 N Λ μ 1)
    else
      (jn_X12_isBorne_20 N Λ μ))
def bd_X12_isTold_5 (N : Nat) (Λ : Lay) (μ : Mem) (k5 : Int32 × Mem → Option (Mem)) (v0 : Nat) (v1 : Int32) (v2 : Int32) (v3 : Int32) (v4 : Int32) : Option (Mem) :=
  if v4 < 5 then
    ((dr Λ v0 1 13).bind fun q2 =>
    (dr Λ v0 1 13).bind fun q4 =>
    gd (inb 9 (aZ Λ q4)) <|
    gd (inb 73 (aZ Λ q2)) <|
    lt (mset μ q2 (73 : Int32).toNatClampNeg (μ.1 q4 (9 : Int32).toNatClampNeg)) fun μ8 =>
    (dr Λ v0 1 13).bind fun q10 =>
    gd (inb 74 (aZ Λ q10)) <|
    lt (mset μ8 q10 (74 : Int32).toNatClampNeg v1) fun μ13 =>
    (dr Λ v0 1 13).bind fun q15 =>
    gd (inb 75 (aZ Λ q15)) <|
    lt (mset μ13 q15 (75 : Int32).toNatClampNeg v2) fun μ18 =>
    (dr Λ v0 1 13).bind fun q20 =>
    gd (inb 76 (aZ Λ q20)) <|
    lt (mset μ18 q20 (76 : Int32).toNatClampNeg v3) fun μ23 =>
    (dr Λ v0 1 13).bind fun q25 =>
    (dr Λ v0 1 13).bind fun q27 =>
    gd (inb 3 (aZ Λ q27)) <|
    gd (inb 77 (aZ Λ q25)) <|
    lt (mset μ23 q25 (77 : Int32).toNatClampNeg (μ23.1 q27 (3 : Int32).toNatClampNeg)) fun μ31 =>
    (dr Λ v0 1 13).bind fun q33 =>
    (dr Λ v0 1 13).bind fun q35 =>
    gd (inb 11 (aZ Λ q35)) <|
    gd (inb 11 (aZ Λ q33)) <|
    lt (mset μ31 q33 (11 : Int32).toNatClampNeg (imin 60 ((μ31.1 q35 (11 : Int32).toNatClampNeg) + 1))) fun μ39 =>
    some μ39)
  else
    ((dr Λ v0 1 13).bind fun q41 =>
    (dr Λ v0 1 13).bind fun q43 =>
    gd (inb ((73 + v4) - 5) (aZ Λ q43)) <|
    gd (inb (73 + v4) (aZ Λ q41)) <|
    lt (mset μ q41 (73 + v4).toNatClampNeg (μ.1 q43 ((73 + v4) - 5).toNatClampNeg)) fun μ47 =>
    lt (v4 + (-1)) fun y49 =>
    k5 (y49, μ47))
def lp_X12_isTold_5 (N : Nat) (Λ : Lay) (v0 : Nat) (v1 : Int32) (v2 : Int32) (v3 : Int32) (s : Int32 × Mem) : Option (Mem) := cw (fun k s => bd_X12_isTold_5 N Λ (s.2) k v0 v1 v2 v3 s.1) N s
def m_X12_isTold (N : Nat) (Λ : Lay) (μ : Mem) (v0 : Nat) (v1 : Int32) (v2 : Int32) (v3 : Int32) : Option (Mem) :=
  lp_X12_isTold_5 N Λ v0 v1 v2 v3 (299, μ)
def jn_X12_someHurt_85 (N : Nat) (Λ : Lay) (μ : Mem) (k2 : Int32 × Mem → Option (Mem)) (v0 : Nat) (v1 : Int32) : Option (Mem) :=
  lt (v1 + 1) fun y1 =>
  k2 (y1, μ)
def bd_X12_someHurt_2 (N : Nat) (Λ : Lay) (μ : Mem) (k2 : Int32 × Mem → Option (Mem)) (v0 : Nat) (v1 : Int32) : Option (Mem) :=
  (m_X12_ships N Λ μ v0).bind fun r1 =>
  if r1 ≤ v1 then
    (some μ)
  else
    ((m_X12_sits N Λ μ v0 v1).bind fun r4 =>
    if r4 = 0 then
      (jn_X12_someHurt_85 N Λ μ k2 v0 v1)
    else
      ((m_X12_isBorne N Λ μ v0 v1).bind fun r7 =>
      if r7 = 0 then
        ((m_X12_of N Λ μ v0 v1 5).bind fun r10 =>
        if r10 = 1 then
          (jn_X12_someHurt_85 N Λ μ k2 v0 v1)
        else
          ((dr Λ v0 1 13).bind fun q13 =>
          (m_X12_shipAt N Λ μ v1 5).bind fun r15 =>
          gd (inb r15 (aZ Λ q13)) <|
          lt (mset μ q13 r15.toNatClampNeg 1) fun μ18 =>
          (dr Λ v0 1 13).bind fun q20 =>
          (m_X12_shipAt N Λ μ18 v1 2).bind fun r22 =>
          (m_X12_of N Λ μ18 v0 v1 2).bind fun r24 =>
          gd (inb r22 (aZ Λ q20)) <|
          lt (mset μ18 q20 r22.toNatClampNeg (imin 99 (r24 + 5))) fun μ27 =>
          (m_X12_of N Λ μ27 v0 v1 4).bind fun r29 =>
          (m_X12_isTold N Λ μ27 v0 v1 2 r29).bind fun r31 =>
          jn_X12_someHurt_85 N Λ r31 k2 v0 v1))
      else
        (jn_X12_someHurt_85 N Λ μ k2 v0 v1)))
def lp_X12_someHurt_2 (N : Nat) (Λ : Lay) (v0 : Nat) (s : Int32 × Mem) : Option (Mem) := cw (fun k s => bd_X12_someHurt_2 N Λ (s.2) k v0 s.1) N s
def m_X12_someHurt (N : Nat) (Λ : Lay) (μ : Mem) (v0 : Nat) : Option (Mem) :=
  lp_X12_someHurt_2 N Λ v0 (0, μ)
def jn_X12_allWork_98 (N : Nat) (Λ : Lay) (μ : Mem) (k12 : Int32 × Int32 × Int32 × Mem → Option (Int32 × Mem)) (v0 : Nat) (v1 : Int32) (v2 : Int32) (v3 : Int32) : Option (Int32 × Mem) :=
  lt (v3 + 1) fun y1 =>
  k12 (v1, v2, y1, μ)
def jn_X12_allWork_42 (N : Nat) (Λ : Lay) (μ : Mem) (k12 : Int32 × Int32 × Int32 × Mem → Option (Int32 × Mem)) (v0 : Nat) (v1 : Int32) (v2 : Int32) (v3 : Int32) (s0 : Int32) : Option (Int32 × Mem) :=
  if s0 = 0 then
    (jn_X12_allWork_98 N Λ μ k12 v0 v1 v2 v3)
  else
    (lt (v1 - s0) fun y2 =>
    lt (v2 + s0) fun y4 =>
    (dr Λ v0 1 13).bind fun q6 =>
    (m_X12_shipAt N Λ μ v3 2).bind fun r8 =>
    gd (inb r8 (aZ Λ q6)) <|
    gd (inb r8 (aZ Λ q6)) <|
    lt (mset μ q6 r8.toNatClampNeg ((μ.1 q6 r8.toNatClampNeg) - s0)) fun μ12 =>
    (m_X12_of N Λ μ12 v0 v3 2).bind fun r14 =>
    if r14 = 0 then
      ((m_X12_of N Λ μ12 v0 v3 4).bind fun r17 =>
      (m_X12_isTold N Λ μ12 v0 v3 3 r17).bind fun r19 =>
      jn_X12_allWork_98 N Λ r19 k12 v0 y2 y4 v3)
    else
      (jn_X12_allWork_98 N Λ μ12 k12 v0 y2 y4 v3))
def bd_X12_allWork_12 (N : Nat) (Λ : Lay) (μ : Mem) (k12 : Int32 × Int32 × Int32 × Mem → Option (Int32 × Mem)) (v0 : Nat) (v1 : Int32) (v2 : Int32) (v3 : Int32) : Option (Int32 × Mem) :=
  (m_X12_ships N Λ μ v0).bind fun r1 =>
  if r1 ≤ v3 then
    (some (v2, μ))
  else
    ((m_X12_sits N Λ μ v0 v3).bind fun r4 =>
    if r4 = 0 then
      (jn_X12_allWork_42 N Λ μ k12 v0 v1 v2 v3 0)
    else
      ((m_X12_of N Λ μ v0 v3 2).bind fun r7 =>
      jn_X12_allWork_42 N Λ μ k12 v0 v1 v2 v3 (imin v1 r7)))
def lp_X12_allWork_12 (N : Nat) (Λ : Lay) (v0 : Nat) (s : Int32 × Int32 × Int32 × Mem) : Option (Int32 × Mem) := cw (fun k s => bd_X12_allWork_12 N Λ (s.2.2.2) k v0 s.1 s.2.1 s.2.2.1) N s
def m_X12_allWork (N : Nat) (Λ : Lay) (μ : Mem) (v0 : Nat) : Option (Int32 × Mem) :=
  (dr Λ v0 1 13).bind fun q1 =>
  gd (inb 6 (aZ Λ q1)) <|
  lt (μ.1 q1 (6 : Int32).toNatClampNeg) fun y4 =>
  lp_X12_allWork_12 N Λ v0 (y4, 0, 0, μ)
def jn_X12_oneHour_121 (N : Nat) (Λ : Lay) (μ : Mem) (s0 : Int32) : Option (Int32 × Mem) :=
  some (s0, μ)
def jn_X12_oneHour_99 (N : Nat) (Λ : Lay) (μ : Mem) (v0 : Nat) : Option (Int32 × Mem) :=
  (m_X12_someHurt N Λ μ v0).bind fun r1 =>
  (dr Λ v0 1 13).bind fun q3 =>
  gd (inb 3 (aZ Λ q3)) <|
  if 2 < (r1.1 q3 (3 : Int32).toNatClampNeg) then
    (jn_X12_oneHour_121 N Λ r1 0)
  else
    ((m_X12_allWork N Λ r1 v0).bind fun r7 =>
    jn_X12_oneHour_121 N Λ r7.2 r7.1)
def jn_X12_oneHour_63 (N : Nat) (Λ : Lay) (μ : Mem) (v0 : Nat) (s0 : Nat) (s1 : Int32) (s2 : Int32) (s3 : Int32) : Option (Int32 × Mem) :=
  gd (inb s1 (aZ Λ s0)) <|
  lt (mset μ s0 s1.toNatClampNeg (s2 + s3)) fun μ2 =>
  jn_X12_oneHour_99 N Λ μ2 v0
def m_X12_oneHour (N : Nat) (Λ : Lay) (μ : Mem) (v0 : Nat) (v1 : Int32) : Option (Int32 × Mem) :=
  (dr Λ v0 1 13).bind fun q1 =>
  (dr Λ v0 1 13).bind fun q3 =>
  gd (inb 9 (aZ Λ q3)) <|
  gd (inb 9 (aZ Λ q1)) <|
  lt (mset μ q1 (9 : Int32).toNatClampNeg (imin 9999 ((μ.1 q3 (9 : Int32).toNatClampNeg) + 1))) fun μ7 =>
  (dr Λ v0 1 13).bind fun q9 =>
  gd (inb 4 (aZ Λ q9)) <|
  if (μ7.1 q9 (4 : Int32).toNatClampNeg) = 1 then
    ((dr Λ v0 1 13).bind fun q25 =>
    (m_X12_tideIn N Λ μ7 v0 0).bind fun r27 =>
    if v1 = 0 then
      ((dr Λ v0 1 13).bind fun q30 =>
      gd (inb 7 (aZ Λ q30)) <|
      (m_X12_drawn N Λ μ7 v0 ((μ7.1 q30 (7 : Int32).toNatClampNeg) + 1)).bind fun r33 =>
      jn_X12_oneHour_63 N Λ r33.2 v0 q25 3 r27 r33.1)
    else
      (jn_X12_oneHour_63 N Λ μ7 v0 q25 3 r27 0))
  else
    ((dr Λ v0 1 13).bind fun q13 =>
    (dr Λ v0 1 13).bind fun q15 =>
    gd (inb 3 (aZ Λ q15)) <|
    (m_X12_leaksNow N Λ μ7 v0).bind fun r18 =>
    (m_X12_pullsNow N Λ r18.2 v0).bind fun r20 =>
    gd (inb 3 (aZ Λ q13)) <|
    lt (mset r20.2 q13 (3 : Int32).toNatClampNeg (imax 0 (imin 40 (((μ7.1 q15 (3 : Int32).toNatClampNeg) + r18.1) - r20.1)))) fun μ23 =>
    jn_X12_oneHour_99 N Λ μ23 v0)
def bd_X12_goesOn_5 (N : Nat) (Λ : Lay) (μ : Mem) (k5 : Int32 × Int32 × Mem → Option (Int32 × Mem)) (v0 : Nat) (v1 : Int32) (v2 : Int32) (v3 : Int32) (v4 : Int32) : Option (Int32 × Mem) :=
  if v1 ≤ v4 then
    (some (v3, μ))
  else
    ((m_X12_oneHour N Λ μ v0 v2).bind fun r2 =>
    lt (v3 + r2.1) fun y4 =>
    lt (v4 + 1) fun y6 =>
    k5 (y4, y6, r2.2))
def lp_X12_goesOn_5 (N : Nat) (Λ : Lay) (v0 : Nat) (v1 : Int32) (v2 : Int32) (s : Int32 × Int32 × Mem) : Option (Int32 × Mem) := cw (fun k s => bd_X12_goesOn_5 N Λ (s.2.2) k v0 v1 v2 s.1 s.2.1) N s
def m_X12_goesOn (N : Nat) (Λ : Lay) (μ : Mem) (v0 : Nat) (v1 : Int32) (v2 : Int32) : Option (Int32 × Mem) :=
  lp_X12_goesOn_5 N Λ v0 v1 v2 (0, 0, μ)
def bd_X12_whenOf_2 (N : Nat) (Λ : Lay) (μ : Mem) (k2 : Int32 → Option (Int32)) (v0 : Nat) (v1 : Int32) (v2 : Int32) : Option (Int32) :=
  if 12 ≤ v2 then
    (some (-1))
  else
    ((m_X12_tideIn N Λ μ v0 v2).bind fun r2 =>
    (m_X12_of N Λ μ v0 v1 1).bind fun r4 =>
    if r2 < r4 then
      (lt (v2 + 1) fun y7 =>
      k2 y7)
    else
      (some v2))
def lp_X12_whenOf_2 (N : Nat) (Λ : Lay) (μ : Mem) (v0 : Nat) (v1 : Int32) (s : Int32) : Option (Int32) := cw (fun k s => bd_X12_whenOf_2 N Λ μ k v0 v1 s) N s
def m_X12_whenOf (N : Nat) (Λ : Lay) (μ : Mem) (v0 : Nat) (v1 : Int32) : Option (Int32) :=
  lp_X12_whenOf_2 N Λ μ v0 v1 0
def jn_X12_firstFit_37 (N : Nat) (Λ : Lay) (μ : Mem) (k11 : Int32 × Int32 → Option (Int32)) (v0 : Nat) (v1 : Int32) (v2 : Int32) (v4 : Int32) (s0 : Int32) : Option (Int32) :=
  lt (v4 + (-1)) fun y1 =>
  k11 (s0, y1)
def jn_X12_firstFit_58 (N : Nat) (Λ : Lay) (μ : Mem) (s0 : Int32) : Option (Int32) :=
  some s0
def bd_X12_firstFit_11 (N : Nat) (Λ : Lay) (μ : Mem) (k11 : Int32 × Int32 → Option (Int32)) (v0 : Nat) (v1 : Int32) (v2 : Int32) (v3 : Int32) (v4 : Int32) : Option (Int32) :=
  if v4 < 0 then
    ((m_X12_of N Λ μ v0 v1 3).bind fun r2 =>
    if r2 = 0 then
      (jn_X12_firstFit_58 N Λ μ v3)
    else
      (jn_X12_firstFit_58 N Λ μ (-1)))
  else
    ((m_X12_of N Λ μ v0 v1 0).bind fun r5 =>
    (m_X12_fitsIn N Λ μ v2 v4 r5).bind fun r7 =>
    if r7 = 0 then
      (jn_X12_firstFit_37 N Λ μ k11 v0 v1 v2 v4 v3)
    else
      (jn_X12_firstFit_37 N Λ μ k11 v0 v1 v2 v4 v4))
def lp_X12_firstFit_11 (N : Nat) (Λ : Lay) (μ : Mem) (v0 : Nat) (v1 : Int32) (v2 : Int32) (s : Int32 × Int32) : Option (Int32) := cw (fun k s => bd_X12_firstFit_11 N Λ μ k v0 v1 v2 s.1 s.2) N s
def m_X12_firstFit (N : Nat) (Λ : Lay) (μ : Mem) (v0 : Nat) (v1 : Int32) : Option (Int32) :=
  (m_X12_taken N Λ μ v0).bind fun r1 =>
  lp_X12_firstFit_11 N Λ μ v0 v1 r1 ((-1), 23)
def jn_X12_workOf_37 (N : Nat) (Λ : Lay) (μ : Mem) (k4 : Int32 × Int32 → Option (Int32)) (v0 : Nat) (v1 : Int32) (v3 : Int32) (s0 : Int32) (s1 : Int32) : Option (Int32) :=
  lt (s0 + s1) fun y1 =>
  lt (v3 + 1) fun y3 =>
  k4 (y1, y3)
def jn_X12_workOf_27 (N : Nat) (Λ : Lay) (μ : Mem) (k4 : Int32 × Int32 → Option (Int32)) (v0 : Nat) (v1 : Int32) (v3 : Int32) (s0 : Int32) : Option (Int32) :=
  (m_X12_of N Λ μ v0 v3 2).bind fun r1 =>
  jn_X12_workOf_37 N Λ μ k4 v0 v1 v3 s0 r1
def bd_X12_workOf_4 (N : Nat) (Λ : Lay) (μ : Mem) (k4 : Int32 × Int32 → Option (Int32)) (v0 : Nat) (v1 : Int32) (v2 : Int32) (v3 : Int32) : Option (Int32) :=
  (m_X12_ships N Λ μ v0).bind fun r1 =>
  if r1 ≤ v3 then
    (some v2)
  else
    (if v1 = 0 then
      ((m_X12_of N Λ μ v0 v3 3).bind fun r5 =>
      if r5 = 2 then
        (jn_X12_workOf_37 N Λ μ k4 v0 v1 v3 v2 0)
      else
        (jn_X12_workOf_27 N Λ μ k4 v0 v1 v3 v2))
    else
      (jn_X12_workOf_27 N Λ μ k4 v0 v1 v3 v2))
def lp_X12_workOf_4 (N : Nat) (Λ : Lay) (μ : Mem) (v0 : Nat) (v1 : Int32) (s : Int32 × Int32) : Option (Int32) := cw (fun k s => bd_X12_workOf_4 N Λ μ k v0 v1 s.1 s.2) N s
def m_X12_workOf (N : Nat) (Λ : Lay) (μ : Mem) (v0 : Nat) (v1 : Int32) : Option (Int32) :=
  lp_X12_workOf_4 N Λ μ v0 v1 (0, 0)
def jn_X12_ship_41 (N : Nat) (Λ : Lay) (μ : Mem) : Option (Int32 × Mem) :=
  some (0, μ)
def jn_X12_ship_115 (N : Nat) (Λ : Lay) (μ : Mem) (s0 : Int32) : Option (Int32 × Mem) :=
  some (s0, μ)
def jn_X12_ship_114 (N : Nat) (Λ : Lay) (μ : Mem) : Option (Int32 × Mem) :=
  jn_X12_ship_115 N Λ μ 0
def jn_X12_ship_129 (N : Nat) (Λ : Lay) (μ : Mem) (s0 : Int32) : Option (Int32 × Mem) :=
  some (s0, μ)
def jn_X12_ship_147 (N : Nat) (Λ : Lay) (μ : Mem) (s0 : Int32) : Option (Int32 × Mem) :=
  some (s0, μ)
def jn_X12_ship_197 (N : Nat) (Λ : Lay) (μ : Mem) (s0 : Int32) : Option (Int32 × Mem) :=
  some (s0, μ)
def jn_X12_ship_178 (N : Nat) (Λ : Lay) (μ : Mem) : Option (Int32 × Mem) :=
  jn_X12_ship_197 N Λ μ 0
def jn_X12_ship_34 (N : Nat) (Λ : Lay) (μ : Mem) (v0 : Nat) (v1 : Int32) (v2 : Int32) (s0 : Nat) (s1 : Int32) : Option (Int32 × Mem) :=
  (m_X12_throwsIf N Λ μ s0 s1 2).bind fun r1 =>
  if r1.1 = 0 then
    (if v2 = 6 then
      ((m_X12_feeOf N Λ r1.2 v0 v1).bind fun r5 =>
      some (r5.1, r5.2))
    else
    if v2 = 7 then
      ((m_X12_isDocked N Λ r1.2 v0 v1).bind fun r8 =>
      if r8 = 0 then
        (jn_X12_ship_114 N Λ r1.2)
      else
        ((m_X12_sits N Λ r1.2 v0 v1).bind fun r11 =>
        if r11 = 0 then
          (jn_X12_ship_115 N Λ r1.2 1)
        else
          (jn_X12_ship_114 N Λ r1.2)))
    else
    if v2 = 8 then
      ((m_X12_isBorne N Λ r1.2 v0 v1).bind fun r15 =>
      if r15 = 0 then
        (jn_X12_ship_129 N Λ r1.2 0)
      else
        (jn_X12_ship_129 N Λ r1.2 1))
    else
    if v2 = 9 then
      ((m_X12_isDocked N Λ r1.2 v0 v1).bind fun r19 =>
      if r19 = 0 then
        (jn_X12_ship_147 N Λ r1.2 (-1))
      else
        ((m_X12_wedgesOf N Λ r1.2 v0 v1).bind fun r22 =>
        jn_X12_ship_147 N Λ r1.2 r22))
    else
    if v2 = 10 then
      ((m_X12_whenOf N Λ r1.2 v0 v1).bind fun r25 =>
      some (r25, r1.2))
    else
    if v2 = 11 then
      ((m_X12_firstFit N Λ r1.2 v0 v1).bind fun r28 =>
      some (r28, r1.2))
    else
    if v2 = 12 then
      ((m_X12_of N Λ r1.2 v0 v1 3).bind fun r31 =>
      if r31 = 2 then
        (jn_X12_ship_178 N Λ r1.2)
      else
        ((m_X12_workOf N Λ r1.2 v0 0).bind fun r34 =>
        if r34 = 0 then
          (jn_X12_ship_178 N Λ r1.2)
        else
          ((m_X12_of N Λ r1.2 v0 v1 2).bind fun r37 =>
          (m_X12_workOf N Λ r1.2 v0 0).bind fun r39 =>
          gd (decide (¬ r39 = 0)) <|
          jn_X12_ship_197 N Λ r1.2 ((100 * r37) / r39))))
    else
      ((m_X12_of N Λ r1.2 v0 v1 v2).bind fun r42 =>
      some (r42, r1.2)))
  else
    (jn_X12_ship_41 N Λ r1.2)
def m_X12_ship (N : Nat) (Λ : Lay) (μ : Mem) (v0 : Nat) (v1 : Int32) (v2 : Int32) : Option (Int32 × Mem) :=
  lt (mset μ v0 0 0) fun μ1 =>
  (m_X12_noShip N Λ μ1 v0 v1).bind fun r3 =>
  (m_X12_throwsIf N Λ μ1 v0 r3 1).bind fun r5 =>
  if r5.1 = 0 then
    ((m_X12_in N Λ r5.2 v2 0 12).bind fun r8 =>
    if r8 = 0 then
      (jn_X12_ship_34 N Λ r5.2 v0 v1 v2 v0 1)
    else
      (jn_X12_ship_34 N Λ r5.2 v0 v1 v2 v0 0))
  else
    (jn_X12_ship_41 N Λ r5.2)
def jn_X12_place_39 (N : Nat) (Λ : Lay) (μ : Mem) : Option (Int32 × Mem) :=
  some (0, μ)
def jn_X12_place_90 (N : Nat) (Λ : Lay) (μ : Mem) (k62 : Int32 × Int32 × Mem → Option (Int32 × Mem)) (v0 : Nat) (v1 : Int32) (v4 : Int32) (s0 : Int32) : Option (Int32 × Mem) :=
  lt (v4 + 1) fun y1 =>
  k62 (s0, y1, μ)
def bd_X12_place_62 (N : Nat) (Λ : Lay) (μ : Mem) (k62 : Int32 × Int32 × Mem → Option (Int32 × Mem)) (v0 : Nat) (v1 : Int32) (v3 : Int32) (v4 : Int32) : Option (Int32 × Mem) :=
  (m_X12_ships N Λ μ v0).bind fun r1 =>
  if r1 ≤ v4 then
    (some (v3, μ))
  else
    ((m_X12_placesOf N Λ μ v0 v4).bind fun r4 =>
    (m_X12_has N Λ μ r4 v1).bind fun r6 =>
    if r6 = 0 then
      (jn_X12_place_90 N Λ μ k62 v0 v1 v4 v3)
    else
      (jn_X12_place_90 N Λ μ k62 v0 v1 v4 v4))
def lp_X12_place_62 (N : Nat) (Λ : Lay) (v0 : Nat) (v1 : Int32) (s : Int32 × Int32 × Mem) : Option (Int32 × Mem) := cw (fun k s => bd_X12_place_62 N Λ (s.2.2) k v0 v1 s.1 s.2.1) N s
def jn_X12_place_32 (N : Nat) (Λ : Lay) (μ : Mem) (v0 : Nat) (v1 : Int32) (v2 : Int32) (s0 : Nat) (s1 : Int32) : Option (Int32 × Mem) :=
  (m_X12_throwsIf N Λ μ s0 s1 2).bind fun r1 =>
  if r1.1 = 0 then
    (if v2 = 0 then
      ((dr Λ v0 1 13).bind fun q5 =>
      gd (inb 10 (aZ Λ q5)) <|
      some ((ishr (r1.2.1 q5 (10 : Int32).toNatClampNeg) v1) &&& 1, r1.2))
    else
      (lp_X12_place_62 N Λ v0 v1 ((-1), 0, r1.2)))
  else
    (jn_X12_place_39 N Λ r1.2)
def m_X12_place (N : Nat) (Λ : Lay) (μ : Mem) (v0 : Nat) (v1 : Int32) (v2 : Int32) : Option (Int32 × Mem) :=
  lt (mset μ v0 0 0) fun μ1 =>
  (m_X12_noPlace N Λ μ1 v1).bind fun r3 =>
  (m_X12_throwsIf N Λ μ1 v0 r3 1).bind fun r5 =>
  if r5.1 = 0 then
    ((m_X12_in N Λ r5.2 v2 0 1).bind fun r8 =>
    if r8 = 0 then
      (jn_X12_place_32 N Λ r5.2 v0 v1 v2 v0 1)
    else
      (jn_X12_place_32 N Λ r5.2 v0 v1 v2 v0 0))
  else
    (jn_X12_place_39 N Λ r5.2)
def jn_X12_tide_41 (N : Nat) (Λ : Lay) (μ : Mem) (s0 : Int32) : Option (Int32 × Mem) :=
  some (s0, μ)
def jn_X12_tide_21 (N : Nat) (Λ : Lay) (μ : Mem) (v0 : Nat) (v1 : Int32) (s0 : Nat) (s1 : Int32) : Option (Int32 × Mem) :=
  (m_X12_throwsIf N Λ μ s0 s1 1).bind fun r1 =>
  if r1.1 = 0 then
    ((dr Λ v0 1 13).bind fun q4 =>
    gd (inb (13 + v1) (aZ Λ q4)) <|
    jn_X12_tide_41 N Λ r1.2 (r1.2.1 q4 (13 + v1).toNatClampNeg))
  else
    (jn_X12_tide_41 N Λ r1.2 0)
def m_X12_tide (N : Nat) (Λ : Lay) (μ : Mem) (v0 : Nat) (v1 : Int32) : Option (Int32 × Mem) :=
  lt (mset μ v0 0 0) fun μ1 =>
  (m_X12_in N Λ μ1 v1 0 11).bind fun r3 =>
  if r3 = 0 then
    (jn_X12_tide_21 N Λ μ1 v0 v1 v0 1)
  else
    (jn_X12_tide_21 N Λ μ1 v0 v1 v0 0)
def jn_X12_hours_21 (N : Nat) (Λ : Lay) (μ : Mem) (v0 : Nat) (v1 : Int32) (s0 : Nat) (s1 : Int32) : Option (Int32 × Mem) :=
  (m_X12_throwsIf N Λ μ s0 s1 1).bind fun r1 =>
  if r1.1 = 0 then
    ((m_X12_remembers N Λ r1.2 v0).bind fun r4 =>
    (m_X12_goesOn N Λ r4 v0 v1 0).bind fun r6 =>
    some (r6.1, r6.2))
  else
    (some (0, r1.2))
def m_X12_hours (N : Nat) (Λ : Lay) (μ : Mem) (v0 : Nat) (v1 : Int32) : Option (Int32 × Mem) :=
  lt (mset μ v0 0 0) fun μ1 =>
  (m_X12_in N Λ μ1 v1 1 60).bind fun r3 =>
  if r3 = 0 then
    (jn_X12_hours_21 N Λ μ1 v0 v1 v0 1)
  else
    (jn_X12_hours_21 N Λ μ1 v0 v1 v0 0)
def m_X12_isNow (N : Nat) (Λ : Lay) (μ : Mem) (v0 : Nat) (v1 : Int32) (v2 : Int32) : Option (Int32 × Mem) :=
  (m_X12_remembers N Λ μ v0).bind fun r1 =>
  (dr Λ v0 1 13).bind fun q3 =>
  gd (inb v1 (aZ Λ q3)) <|
  lt (r1.1 q3 v1.toNatClampNeg) fun y6 =>
  (dr Λ v0 1 13).bind fun q8 =>
  gd (inb v1 (aZ Λ q8)) <|
  lt (mset r1 q8 v1.toNatClampNeg v2) fun μ11 =>
  some (y6, μ11)
def jn_X12_gate_65 (N : Nat) (Λ : Lay) (μ : Mem) (s0 : Int32) : Option (Int32 × Mem) :=
  gd (zb s0) <|
  some (s0, μ)
def jn_X12_gate_49 (N : Nat) (Λ : Lay) (μ : Mem) (v0 : Nat) (s0 : Int32) : Option (Int32 × Mem) :=
  (m_X12_isNow N Λ μ v0 4 s0).bind fun r1 =>
  if r1.1 = s0 then
    (jn_X12_gate_65 N Λ r1.2 0)
  else
    (jn_X12_gate_65 N Λ r1.2 1)
def jn_X12_gate_31 (N : Nat) (Λ : Lay) (μ : Mem) (v0 : Nat) (v1 : Int32) (s0 : Nat) (s1 : Int32) : Option (Int32 × Mem) :=
  (m_X12_throwsIf N Λ μ s0 s1 1).bind fun r1 =>
  if r1.1 = 0 then
    (if v1 = 0 then
      (jn_X12_gate_49 N Λ r1.2 v0 0)
    else
      (jn_X12_gate_49 N Λ r1.2 v0 1))
  else
    (some (0, r1.2))
def jn_X12_gate_30 (N : Nat) (Λ : Lay) (μ : Mem) (v0 : Nat) (v1 : Int32) (s0 : Nat) : Option (Int32 × Mem) :=
  jn_X12_gate_31 N Λ μ v0 v1 s0 0
def m_X12_gate (N : Nat) (Λ : Lay) (μ : Mem) (v0 : Nat) (v1 : Int32) : Option (Int32 × Mem) :=
  lt (mset μ v0 0 0) fun μ1 =>
  if v1 = 0 then
    (jn_X12_gate_30 N Λ μ1 v0 v1 v0)
  else
    ((dr Λ v0 1 13).bind fun q4 =>
    gd (inb 4 (aZ Λ q4)) <|
    if (μ1.1 q4 (4 : Int32).toNatClampNeg) = 0 then
      ((m_X12_isEven N Λ μ1 v0).bind fun r8 =>
      if r8 = 0 then
        (jn_X12_gate_31 N Λ μ1 v0 v1 v0 1)
      else
        (jn_X12_gate_30 N Λ μ1 v0 v1 v0))
    else
      (jn_X12_gate_30 N Λ μ1 v0 v1 v0))
def m_X12_freePlaces (N : Nat) (Λ : Lay) (μ : Mem) (v0 : Nat) : Option (Int32) :=
  (m_X12_taken N Λ μ v0).bind fun r1 =>
  (m_XI_bitCount N Λ μ r1).bind fun r3 =>
  some (24 - r3)
def jn_X12_canEnter_56 (N : Nat) (Λ : Lay) (μ : Mem) (s0 : Int32) : Option (Int32) :=
  gd (zb s0) <|
  some s0
def jn_X12_canEnter_55 (N : Nat) (Λ : Lay) (μ : Mem) : Option (Int32) :=
  jn_X12_canEnter_56 N Λ μ 0
def m_X12_canEnter (N : Nat) (Λ : Lay) (μ : Mem) (v0 : Nat) (v1 : Int32) (v2 : Int32) : Option (Int32) :=
  (dr Λ v0 1 13).bind fun q1 =>
  gd (inb 4 (aZ Λ q1)) <|
  if (μ.1 q1 (4 : Int32).toNatClampNeg) = 1 then
    ((m_X12_of N Λ μ v0 v1 3).bind fun r5 =>
    if r5 = 0 then
      ((m_X12_of N Λ μ v0 v1 1).bind fun r8 =>
      (dr Λ v0 1 13).bind fun q10 =>
      gd (inb 3 (aZ Λ q10)) <|
      if (μ.1 q10 (3 : Int32).toNatClampNeg) < r8 then
        (jn_X12_canEnter_55 N Λ μ)
      else
        ((m_X12_taken N Λ μ v0).bind fun r14 =>
        (m_X12_of N Λ μ v0 v1 0).bind fun r16 =>
        (m_X12_fitsIn N Λ μ r14 v2 r16).bind fun r18 =>
        if r18 = 0 then
          (jn_X12_canEnter_55 N Λ μ)
        else
          (jn_X12_canEnter_56 N Λ μ 1)))
    else
      (jn_X12_canEnter_55 N Λ μ))
  else
    (jn_X12_canEnter_55 N Λ μ)
def jn_X12_enter_55 (N : Nat) (Λ : Lay) (μ : Mem) : Option (Int32 × Mem) :=
  some (0, μ)
def jn_X12_enter_48 (N : Nat) (Λ : Lay) (μ : Mem) (v0 : Nat) (v1 : Int32) (v2 : Int32) (s0 : Nat) (s1 : Int32) : Option (Int32 × Mem) :=
  (m_X12_throwsIf N Λ μ s0 s1 2).bind fun r1 =>
  if r1.1 = 0 then
    ((m_X12_remembers N Λ r1.2 v0).bind fun r4 =>
    (dr Λ v0 1 13).bind fun q6 =>
    (m_X12_shipAt N Λ r4 v1 3).bind fun r8 =>
    gd (inb r8 (aZ Λ q6)) <|
    lt (mset r4 q6 r8.toNatClampNeg 1) fun μ11 =>
    (dr Λ v0 1 13).bind fun q13 =>
    (m_X12_shipAt N Λ μ11 v1 4).bind fun r15 =>
    gd (inb r15 (aZ Λ q13)) <|
    lt (mset μ11 q13 r15.toNatClampNeg v2) fun μ18 =>
    (m_X12_isTold N Λ μ18 v0 v1 0 v2).bind fun r20 =>
    (m_X12_freePlaces N Λ r20 v0).bind fun r22 =>
    some (r22, r20))
  else
    (jn_X12_enter_55 N Λ r1.2)
def jn_X12_enter_26 (N : Nat) (Λ : Lay) (μ : Mem) (v0 : Nat) (v1 : Int32) (v2 : Int32) (s0 : Nat) (s1 : Int32) : Option (Int32 × Mem) :=
  (m_X12_throwsIf N Λ μ s0 s1 1).bind fun r1 =>
  if r1.1 = 0 then
    ((m_X12_canEnter N Λ r1.2 v0 v1 v2).bind fun r4 =>
    if r4 = 0 then
      (jn_X12_enter_48 N Λ r1.2 v0 v1 v2 v0 1)
    else
      (jn_X12_enter_48 N Λ r1.2 v0 v1 v2 v0 0))
  else
    (jn_X12_enter_55 N Λ r1.2)
def jn_X12_enter_21 (N : Nat) (Λ : Lay) (μ : Mem) (v0 : Nat) (v1 : Int32) (v2 : Int32) (s0 : Nat) : Option (Int32 × Mem) :=
  jn_X12_enter_26 N Λ μ v0 v1 v2 s0 1
def m_X12_enter (N : Nat) (Λ : Lay) (μ : Mem) (v0 : Nat) (v1 : Int32) (v2 : Int32) : Option (Int32 × Mem) :=
  lt (mset μ v0 0 0) fun μ1 =>
  (m_X12_noShip N Λ μ1 v0 v1).bind fun r3 =>
  if r3 = 0 then
    ((m_X12_noPlace N Λ μ1 v2).bind fun r6 =>
    if r6 = 0 then
      (jn_X12_enter_26 N Λ μ1 v0 v1 v2 v0 0)
    else
      (jn_X12_enter_21 N Λ μ1 v0 v1 v2 v0))
  else
    (jn_X12_enter_21 N Λ μ1 v0 v1 v2 v0)
def jn_X12_leave_56 (N : Nat) (Λ : Lay) (μ : Mem) : Option (Int32 × Mem) :=
  some (0, μ)
def jn_X12_leave_49 (N : Nat) (Λ : Lay) (μ : Mem) (v0 : Nat) (v1 : Int32) (s0 : Nat) (s1 : Int32) : Option (Int32 × Mem) :=
  (m_X12_throwsIf N Λ μ s0 s1 2).bind fun r1 =>
  if r1.1 = 0 then
    ((m_X12_remembers N Λ r1.2 v0).bind fun r4 =>
    (m_X12_feeOf N Λ r4 v0 v1).bind fun r6 =>
    (m_X12_of N Λ r6.2 v0 v1 4).bind fun r8 =>
    (m_X12_isTold N Λ r6.2 v0 v1 1 r8).bind fun r10 =>
    (dr Λ v0 1 13).bind fun q12 =>
    (dr Λ v0 1 13).bind fun q14 =>
    gd (inb 8 (aZ Λ q14)) <|
    gd (inb 8 (aZ Λ q12)) <|
    lt (mset r10 q12 (8 : Int32).toNatClampNeg (imin 9999 ((r10.1 q14 (8 : Int32).toNatClampNeg) + r6.1))) fun μ18 =>
    (dr Λ v0 1 13).bind fun q20 =>
    (m_X12_shipAt N Λ μ18 v1 3).bind fun r22 =>
    gd (inb r22 (aZ Λ q20)) <|
    lt (mset μ18 q20 r22.toNatClampNeg 2) fun μ25 =>
    (dr Λ v0 1 13).bind fun q27 =>
    (m_X12_shipAt N Λ μ25 v1 4).bind fun r29 =>
    gd (inb r29 (aZ Λ q27)) <|
    lt (mset μ25 q27 r29.toNatClampNeg (-1)) fun μ32 =>
    some (r6.1, μ32))
  else
    (jn_X12_leave_56 N Λ r1.2)
def jn_X12_leave_44 (N : Nat) (Λ : Lay) (μ : Mem) (v0 : Nat) (v1 : Int32) (s0 : Nat) : Option (Int32 × Mem) :=
  jn_X12_leave_49 N Λ μ v0 v1 s0 1
def m_X12_leave (N : Nat) (Λ : Lay) (μ : Mem) (v0 : Nat) (v1 : Int32) : Option (Int32 × Mem) :=
  lt (mset μ v0 0 0) fun μ1 =>
  (m_X12_noShip N Λ μ1 v0 v1).bind fun r3 =>
  (m_X12_throwsIf N Λ μ1 v0 r3 1).bind fun r5 =>
  if r5.1 = 0 then
    ((dr Λ v0 1 13).bind fun q8 =>
    gd (inb 4 (aZ Λ q8)) <|
    if (r5.2.1 q8 (4 : Int32).toNatClampNeg) = 0 then
      (jn_X12_leave_44 N Λ r5.2 v0 v1 v0)
    else
      ((m_X12_isDocked N Λ r5.2 v0 v1).bind fun r12 =>
      if r12 = 0 then
        (jn_X12_leave_44 N Λ r5.2 v0 v1 v0)
      else
        ((m_X12_sits N Λ r5.2 v0 v1).bind fun r15 =>
        if r15 = 0 then
          (jn_X12_leave_49 N Λ r5.2 v0 v1 v0 0)
        else
          (jn_X12_leave_44 N Λ r5.2 v0 v1 v0))))
  else
    (jn_X12_leave_56 N Λ r5.2)
def jn_X12_comes_70 (N : Nat) (Λ : Lay) (μ : Mem) : Option (Int32 × Mem) :=
  some (0, μ)
def jn_X12_comes_63 (N : Nat) (Λ : Lay) (μ : Mem) (v0 : Nat) (v1 : Int32) (v2 : Int32) (v3 : Int32) (s0 : Nat) (s1 : Int32) : Option (Int32 × Mem) :=
  (m_X12_throwsIf N Λ μ s0 s1 2).bind fun r1 =>
  if r1.1 = 0 then
    ((m_X12_remembers N Λ r1.2 v0).bind fun r4 =>
    (m_X12_isShip N Λ r4 v0 v1 v2 v3).bind fun r6 =>
    (m_X12_ships N Λ r6 v0).bind fun r8 =>
    some (r8 - 1, r6))
  else
    (jn_X12_comes_70 N Λ r1.2)
def jn_X12_comes_41 (N : Nat) (Λ : Lay) (μ : Mem) (v0 : Nat) (v1 : Int32) (v2 : Int32) (v3 : Int32) (s0 : Nat) (s1 : Int32) : Option (Int32 × Mem) :=
  (m_X12_throwsIf N Λ μ s0 s1 1).bind fun r1 =>
  if r1.1 = 0 then
    ((m_X12_ships N Λ r1.2 v0).bind fun r4 =>
    if r4 = 8 then
      (jn_X12_comes_63 N Λ r1.2 v0 v1 v2 v3 v0 1)
    else
      (jn_X12_comes_63 N Λ r1.2 v0 v1 v2 v3 v0 0))
  else
    (jn_X12_comes_70 N Λ r1.2)
def jn_X12_comes_36 (N : Nat) (Λ : Lay) (μ : Mem) (v0 : Nat) (v1 : Int32) (v2 : Int32) (v3 : Int32) (s0 : Nat) : Option (Int32 × Mem) :=
  jn_X12_comes_41 N Λ μ v0 v1 v2 v3 s0 1
def m_X12_comes (N : Nat) (Λ : Lay) (μ : Mem) (v0 : Nat) (v1 : Int32) (v2 : Int32) (v3 : Int32) : Option (Int32 × Mem) :=
  lt (mset μ v0 0 0) fun μ1 =>
  (m_X12_in N Λ μ1 v1 1 12).bind fun r3 =>
  if r3 = 0 then
    (jn_X12_comes_36 N Λ μ1 v0 v1 v2 v3 v0)
  else
    ((m_X12_in N Λ μ1 v2 1 20).bind fun r6 =>
    if r6 = 0 then
      (jn_X12_comes_36 N Λ μ1 v0 v1 v2 v3 v0)
    else
      ((m_X12_in N Λ μ1 v3 0 99).bind fun r9 =>
      if r9 = 0 then
        (jn_X12_comes_36 N Λ μ1 v0 v1 v2 v3 v0)
      else
        (jn_X12_comes_41 N Λ μ1 v0 v1 v2 v3 v0 0)))
def jn_X12_block_61 (N : Nat) (Λ : Lay) (μ : Mem) (s0 : Int32) : Option (Int32 × Mem) :=
  gd (zb s0) <|
  some (s0, μ)
def jn_X12_block_43 (N : Nat) (Λ : Lay) (μ : Mem) (v0 : Nat) (s0 : Int32) (s1 : Int32) : Option (Int32 × Mem) :=
  lt (s0 ||| s1) fun y1 =>
  (m_X12_isNow N Λ μ v0 10 y1).bind fun r3 =>
  if r3.1 = y1 then
    (jn_X12_block_61 N Λ r3.2 0)
  else
    (jn_X12_block_61 N Λ r3.2 1)
def m_X12_block (N : Nat) (Λ : Lay) (μ : Mem) (v0 : Nat) (v1 : Int32) (v2 : Int32) : Option (Int32 × Mem) :=
  lt (mset μ v0 0 0) fun μ1 =>
  (m_X12_noPlace N Λ μ1 v1).bind fun r3 =>
  (m_X12_throwsIf N Λ μ1 v0 r3 1).bind fun r5 =>
  if r5.1 = 0 then
    ((dr Λ v0 1 13).bind fun q8 =>
    gd (inb 10 (aZ Λ q8)) <|
    if v2 = 0 then
      (jn_X12_block_43 N Λ r5.2 v0 ((r5.2.1 q8 (10 : Int32).toNatClampNeg) &&& ((ishl 1 v1) ^^^ (-1))) 0)
    else
      (jn_X12_block_43 N Λ r5.2 v0 ((r5.2.1 q8 (10 : Int32).toNatClampNeg) &&& ((ishl 1 v1) ^^^ (-1))) (ishl 1 v1)))
  else
    (some (0, r5.2))
def jn_X12_isFigure_38 (N : Nat) (Λ : Lay) (μ : Mem) (s0 : Int32) : Option (Int32 × Mem) :=
  some (s0, μ)
def jn_X12_isFigure_21 (N : Nat) (Λ : Lay) (μ : Mem) (v0 : Nat) (v1 : Int32) (v2 : Int32) (s0 : Nat) (s1 : Int32) : Option (Int32 × Mem) :=
  (m_X12_throwsIf N Λ μ s0 s1 1).bind fun r1 =>
  if r1.1 = 0 then
    ((m_X12_isNow N Λ r1.2 v0 v1 v2).bind fun r4 =>
    jn_X12_isFigure_38 N Λ r4.2 r4.1)
  else
    (jn_X12_isFigure_38 N Λ r1.2 0)
def m_X12_isFigure (N : Nat) (Λ : Lay) (μ : Mem) (v0 : Nat) (v1 : Int32) (v2 : Int32) : Option (Int32 × Mem) :=
  lt (mset μ v0 0 0) fun μ1 =>
  (m_X12_in N Λ μ1 v2 0 9).bind fun r3 =>
  if r3 = 0 then
    (jn_X12_isFigure_21 N Λ μ1 v0 v1 v2 v0 1)
  else
    (jn_X12_isFigure_21 N Λ μ1 v0 v1 v2 v0 0)
def m_X12_pumps (N : Nat) (Λ : Lay) (μ : Mem) (v0 : Nat) (v1 : Int32) : Option (Int32 × Mem) :=
  (m_X12_isFigure N Λ μ v0 5 v1).bind fun r1 =>
  some (r1.1, r1.2)
def m_X12_hands (N : Nat) (Λ : Lay) (μ : Mem) (v0 : Nat) (v1 : Int32) : Option (Int32 × Mem) :=
  (m_X12_isFigure N Λ μ v0 6 v1).bind fun r1 =>
  some (r1.1, r1.2)
def jn_X12_flow_64 (N : Nat) (Λ : Lay) (μ : Mem) (s0 : Int32) : Option (Int32 × Mem) :=
  some (s0, μ)
def jn_X12_flow_51 (N : Nat) (Λ : Lay) (μ : Mem) : Option (Int32 × Mem) :=
  jn_X12_flow_64 N Λ μ 0
def jn_X12_flow_44 (N : Nat) (Λ : Lay) (μ : Mem) (v0 : Nat) (v1 : Int32) (v2 : Int32) (s0 : Nat) (s1 : Int32) : Option (Int32 × Mem) :=
  (m_X12_throwsIf N Λ μ s0 s1 2).bind fun r1 =>
  if r1.1 = 0 then
    ((m_X12_isNow N Λ r1.2 v0 (13 + v1) v2).bind fun r4 =>
    jn_X12_flow_64 N Λ r4.2 r4.1)
  else
    (jn_X12_flow_51 N Λ r1.2)
def jn_X12_flow_21 (N : Nat) (Λ : Lay) (μ : Mem) (v0 : Nat) (v1 : Int32) (v2 : Int32) (s0 : Nat) (s1 : Int32) : Option (Int32 × Mem) :=
  (m_X12_throwsIf N Λ μ s0 s1 1).bind fun r1 =>
  if r1.1 = 0 then
    ((m_X12_in N Λ r1.2 v2 0 30).bind fun r4 =>
    if r4 = 0 then
      (jn_X12_flow_44 N Λ r1.2 v0 v1 v2 v0 1)
    else
      (jn_X12_flow_44 N Λ r1.2 v0 v1 v2 v0 0))
  else
    (jn_X12_flow_51 N Λ r1.2)
def m_X12_flow (N : Nat) (Λ : Lay) (μ : Mem) (v0 : Nat) (v1 : Int32) (v2 : Int32) : Option (Int32 × Mem) :=
  lt (mset μ v0 0 0) fun μ1 =>
  (m_X12_in N Λ μ1 v1 0 11).bind fun r3 =>
  if r3 = 0 then
    (jn_X12_flow_21 N Λ μ1 v0 v1 v2 v0 1)
  else
    (jn_X12_flow_21 N Λ μ1 v0 v1 v2 v0 0)
def m_X12_pulls (N : Nat) (Λ : Lay) (μ : Mem) (v0 : Nat) : Option (Int32 × Mem) :=
  lt (mset μ v0 0 0) fun μ1 =>
  (m_X12_pullsNow N Λ μ1 v0).bind fun r3 =>
  some (r3.1, r3.2)
def m_X12_leaks (N : Nat) (Λ : Lay) (μ : Mem) (v0 : Nat) : Option (Int32 × Mem) :=
  lt (mset μ v0 0 0) fun μ1 =>
  (m_X12_leaksNow N Λ μ1 v0).bind fun r3 =>
  some (r3.1, r3.2)
def m_X12_even (N : Nat) (Λ : Lay) (μ : Mem) (v0 : Nat) : Option (Int32 × Mem) :=
  lt (mset μ v0 0 0) fun μ1 =>
  (m_X12_isEven N Λ μ1 v0).bind fun r3 =>
  gd (zb r3) <|
  some (r3, μ1)
def jn_X12_room_40 (N : Nat) (Λ : Lay) (μ : Mem) (k17 : Int32 × Int32 × Int32 × Mem → Option (Int32 × Mem)) (v1 : Int32) (v2 : Int32) (v4 : Int32) (s0 : Int32) : Option (Int32 × Mem) :=
  lt (imax v2 s0) fun y1 =>
  lt (v4 + 1) fun y3 =>
  k17 (y1, s0, y3, μ)
def bd_X12_room_17 (N : Nat) (Λ : Lay) (μ : Mem) (k17 : Int32 × Int32 × Int32 × Mem → Option (Int32 × Mem)) (v1 : Int32) (v2 : Int32) (v3 : Int32) (v4 : Int32) : Option (Int32 × Mem) :=
  if 24 ≤ v4 then
    (some (v2, μ))
  else
    ((m_X12_has N Λ μ v1 v4).bind fun r2 =>
    if r2 = 0 then
      (jn_X12_room_40 N Λ μ k17 v1 v2 v4 (v3 + 1))
    else
      (jn_X12_room_40 N Λ μ k17 v1 v2 v4 0))
def lp_X12_room_17 (N : Nat) (Λ : Lay) (v1 : Int32) (s : Int32 × Int32 × Int32 × Mem) : Option (Int32 × Mem) := cw (fun k s => bd_X12_room_17 N Λ (s.2.2.2) k v1 s.1 s.2.1 s.2.2.1) N s
def m_X12_room (N : Nat) (Λ : Lay) (μ : Mem) (v0 : Nat) : Option (Int32 × Mem) :=
  lt (mset μ v0 0 0) fun μ1 =>
  (m_X12_taken N Λ μ1 v0).bind fun r3 =>
  lp_X12_room_17 N Λ r3 (0, 0, 0, μ1)
def jn_X12_laysMembers_33 (N : Nat) (Λ : Lay) (μ : Mem) (k4 : Int32 × Int32 × Mem → Option (Int32 × Mem)) (v0 : Nat) (v1 : Int32) (v2 : Int32) (v3 : Int32) : Option (Int32 × Mem) :=
  lt (v3 + 1) fun y1 =>
  k4 (v2, y1, μ)
def bd_X12_laysMembers_4 (N : Nat) (Λ : Lay) (μ : Mem) (k4 : Int32 × Int32 × Mem → Option (Int32 × Mem)) (v0 : Nat) (v1 : Int32) (v2 : Int32) (v3 : Int32) : Option (Int32 × Mem) :=
  (m_X12_ships N Λ μ v0).bind fun r1 =>
  if r1 ≤ v3 then
    (some (v2, μ))
  else
    ((m_X12_has N Λ μ v1 v3).bind fun r4 =>
    if r4 = 0 then
      (jn_X12_laysMembers_33 N Λ μ k4 v0 v1 v2 v3)
    else
      ((dr Λ v0 18 13).bind fun q7 =>
      gd (inb v2 (aZ Λ q7)) <|
      lt (mset μ q7 v2.toNatClampNeg v3) fun μ10 =>
      lt (v2 + 1) fun y12 =>
      jn_X12_laysMembers_33 N Λ μ10 k4 v0 v1 y12 v3))
def lp_X12_laysMembers_4 (N : Nat) (Λ : Lay) (v0 : Nat) (v1 : Int32) (s : Int32 × Int32 × Mem) : Option (Int32 × Mem) := cw (fun k s => bd_X12_laysMembers_4 N Λ (s.2.2) k v0 v1 s.1 s.2.1) N s
def m_X12_laysMembers (N : Nat) (Λ : Lay) (μ : Mem) (v0 : Nat) (v1 : Int32) : Option (Int32 × Mem) :=
  lp_X12_laysMembers_4 N Λ v0 v1 (0, 0, μ)
def jn_X12_feesOf_30 (N : Nat) (Λ : Lay) (μ : Mem) (k4 : Int32 × Int32 × Mem → Option (Int32 × Mem)) (v0 : Nat) (v1 : Int32) (v3 : Int32) (s0 : Int32) (s1 : Int32) : Option (Int32 × Mem) :=
  lt (s0 + s1) fun y1 =>
  lt (v3 + 1) fun y3 =>
  k4 (y1, y3, μ)
def bd_X12_feesOf_4 (N : Nat) (Λ : Lay) (μ : Mem) (k4 : Int32 × Int32 × Mem → Option (Int32 × Mem)) (v0 : Nat) (v1 : Int32) (v2 : Int32) (v3 : Int32) : Option (Int32 × Mem) :=
  (m_X12_ships N Λ μ v0).bind fun r1 =>
  if r1 ≤ v3 then
    (some (v2, μ))
  else
    ((m_X12_has N Λ μ v1 v3).bind fun r4 =>
    if r4 = 0 then
      (jn_X12_feesOf_30 N Λ μ k4 v0 v1 v3 v2 0)
    else
      ((m_X12_feeOf N Λ μ v0 v3).bind fun r7 =>
      jn_X12_feesOf_30 N Λ r7.2 k4 v0 v1 v3 v2 r7.1))
def lp_X12_feesOf_4 (N : Nat) (Λ : Lay) (v0 : Nat) (v1 : Int32) (s : Int32 × Int32 × Mem) : Option (Int32 × Mem) := cw (fun k s => bd_X12_feesOf_4 N Λ (s.2.2) k v0 v1 s.1 s.2.1) N s
def m_X12_feesOf (N : Nat) (Λ : Lay) (μ : Mem) (v0 : Nat) (v1 : Int32) : Option (Int32 × Mem) :=
  lp_X12_feesOf_4 N Λ v0 v1 (0, 0, μ)
def jn_X12_mayEnter_44 (N : Nat) (Λ : Lay) (μ : Mem) (k4 : Int32 × Int32 → Option (Int32)) (v0 : Nat) (v2 : Int32) (s0 : Int32) (s1 : Int32) : Option (Int32) :=
  lt (s0 ||| s1) fun y1 =>
  lt (v2 + 1) fun y3 =>
  k4 (y1, y3)
def jn_X12_mayEnter_43 (N : Nat) (Λ : Lay) (μ : Mem) (k4 : Int32 × Int32 → Option (Int32)) (v0 : Nat) (v2 : Int32) (s0 : Int32) : Option (Int32) :=
  jn_X12_mayEnter_44 N Λ μ k4 v0 v2 s0 0
def bd_X12_mayEnter_4 (N : Nat) (Λ : Lay) (μ : Mem) (k4 : Int32 × Int32 → Option (Int32)) (v0 : Nat) (v1 : Int32) (v2 : Int32) : Option (Int32) :=
  (m_X12_ships N Λ μ v0).bind fun r1 =>
  if r1 ≤ v2 then
    (some v1)
  else
    ((m_X12_of N Λ μ v0 v2 3).bind fun r4 =>
    if r4 = 0 then
      ((m_X12_of N Λ μ v0 v2 1).bind fun r7 =>
      (dr Λ v0 1 13).bind fun q9 =>
      gd (inb 3 (aZ Λ q9)) <|
      if (μ.1 q9 (3 : Int32).toNatClampNeg) < r7 then
        (jn_X12_mayEnter_43 N Λ μ k4 v0 v2 v1)
      else
        (jn_X12_mayEnter_44 N Λ μ k4 v0 v2 v1 (ishl 1 v2)))
    else
      (jn_X12_mayEnter_43 N Λ μ k4 v0 v2 v1))
def lp_X12_mayEnter_4 (N : Nat) (Λ : Lay) (μ : Mem) (v0 : Nat) (s : Int32 × Int32) : Option (Int32) := cw (fun k s => bd_X12_mayEnter_4 N Λ μ k v0 s.1 s.2) N s
def m_X12_mayEnter (N : Nat) (Λ : Lay) (μ : Mem) (v0 : Nat) : Option (Int32) :=
  lp_X12_mayEnter_4 N Λ μ v0 (0, 0)
def jn_X12_laysRuns_62 (N : Nat) (Λ : Lay) (μ : Mem) (k9 : Int32 × Int32 × Mem → Option (Int32 × Mem)) (v0 : Nat) (v1 : Int32) (v2 : Int32) (v3 : Int32) : Option (Int32 × Mem) :=
  lt (v3 + 1) fun y1 =>
  k9 (v2, y1, μ)
def jn_X12_laysRuns_50 (N : Nat) (Λ : Lay) (μ : Mem) (k9 : Int32 × Int32 × Mem → Option (Int32 × Mem)) (v0 : Nat) (v1 : Int32) (v2 : Int32) (v3 : Int32) : Option (Int32 × Mem) :=
  (dr Λ v0 19 13).bind fun q1 =>
  gd (inb (v2 - 1) (aZ Λ q1)) <|
  gd (inb (v2 - 1) (aZ Λ q1)) <|
  lt (mset μ q1 (v2 - 1).toNatClampNeg ((μ.1 q1 (v2 - 1).toNatClampNeg) + 1)) fun μ5 =>
  jn_X12_laysRuns_62 N Λ μ5 k9 v0 v1 v2 v3
def jn_X12_laysRuns_40 (N : Nat) (Λ : Lay) (μ : Mem) (k9 : Int32 × Int32 × Mem → Option (Int32 × Mem)) (v0 : Nat) (v1 : Int32) (v2 : Int32) (v3 : Int32) : Option (Int32 × Mem) :=
  (dr Λ v0 19 13).bind fun q1 =>
  gd (inb v2 (aZ Λ q1)) <|
  lt (mset μ q1 v2.toNatClampNeg 0) fun μ4 =>
  lt (v2 + 1) fun y6 =>
  jn_X12_laysRuns_50 N Λ μ4 k9 v0 v1 y6 v3
def bd_X12_laysRuns_9 (N : Nat) (Λ : Lay) (μ : Mem) (k9 : Int32 × Int32 × Mem → Option (Int32 × Mem)) (v0 : Nat) (v1 : Int32) (v2 : Int32) (v3 : Int32) : Option (Int32 × Mem) :=
  if 24 ≤ v3 then
    (some (v2, μ))
  else
    ((m_X12_has N Λ μ v1 v3).bind fun r2 =>
    if r2 = 0 then
      (if v3 = 0 then
        (jn_X12_laysRuns_40 N Λ μ k9 v0 v1 v2 v3)
      else
        ((m_X12_has N Λ μ v1 (v3 - 1)).bind fun r6 =>
        if r6 = 0 then
          (jn_X12_laysRuns_50 N Λ μ k9 v0 v1 v2 v3)
        else
          (jn_X12_laysRuns_40 N Λ μ k9 v0 v1 v2 v3)))
    else
      (jn_X12_laysRuns_62 N Λ μ k9 v0 v1 v2 v3))
def lp_X12_laysRuns_9 (N : Nat) (Λ : Lay) (v0 : Nat) (v1 : Int32) (s : Int32 × Int32 × Mem) : Option (Int32 × Mem) := cw (fun k s => bd_X12_laysRuns_9 N Λ (s.2.2) k v0 v1 s.1 s.2.1) N s
def m_X12_laysRuns (N : Nat) (Λ : Lay) (μ : Mem) (v0 : Nat) : Option (Int32 × Mem) :=
  (m_X12_taken N Λ μ v0).bind fun r1 =>
  lp_X12_laysRuns_9 N Λ v0 r1 (0, 0, μ)
def jn_X12_canLoad_175 (N : Nat) (Λ : Lay) (μ : Mem) (k37 : Int32 × Mem → Option (Int32 × Mem)) (v0 : Nat) (v2 : Int32) (v3 : Int32) (s0 : Int32) (s1 : Int32) : Option (Int32 × Mem) :=
  lt (s0 + s1) fun y1 =>
  k37 (y1, μ)
def jn_X12_canLoad_162 (N : Nat) (Λ : Lay) (μ : Mem) (k37 : Int32 × Mem → Option (Int32 × Mem)) (v0 : Nat) (v2 : Int32) (v3 : Int32) (v4 : Int32) (v6 : Int32) : Option (Int32 × Mem) :=
  if v2 ≤ v6 then
    (jn_X12_canLoad_175 N Λ μ k37 v0 v2 v3 v4 (-1))
  else
    (jn_X12_canLoad_175 N Λ μ k37 v0 v2 v3 v4 1)
def jn_X12_canLoad_143 (N : Nat) (Λ : Lay) (μ : Mem) (k37 : Int32 × Mem → Option (Int32 × Mem)) (v0 : Nat) (v2 : Int32) (v3 : Int32) (v4 : Int32) (v5 : Int32) (v6 : Int32) (s0 : Nat) (s1 : Int32) (s2 : Int32) : Option (Int32 × Mem) :=
  gd (inb s1 (aZ Λ s0)) <|
  lt (mset μ s0 s1.toNatClampNeg s2) fun μ2 =>
  if v2 ≤ v6 then
    (jn_X12_canLoad_162 N Λ μ2 k37 v0 v2 v3 v4 v6)
  else
    ((dr Λ v0 19 13).bind fun q5 =>
    gd (inb v6 (aZ Λ q5)) <|
    gd (inb v6 (aZ Λ q5)) <|
    lt (mset μ2 q5 v6.toNatClampNeg ((μ2.1 q5 v6.toNatClampNeg) - v5)) fun μ9 =>
    jn_X12_canLoad_162 N Λ μ9 k37 v0 v2 v3 v4 v6)
def jn_X12_canLoad_125 (N : Nat) (Λ : Lay) (μ : Mem) (k37 : Int32 × Mem → Option (Int32 × Mem)) (v0 : Nat) (v2 : Int32) (v3 : Int32) (v4 : Int32) (v5 : Int32) (v6 : Int32) : Option (Int32 × Mem) :=
  (dr Λ v0 20 13).bind fun q1 =>
  if v2 ≤ v6 then
    (jn_X12_canLoad_143 N Λ μ k37 v0 v2 v3 v4 v5 v6 q1 v4 (-1))
  else
    (jn_X12_canLoad_143 N Λ μ k37 v0 v2 v3 v4 v5 v6 q1 v4 v6)
def bd_X12_canLoad_101 (N : Nat) (Λ : Lay) (μ : Mem) (k37 : Int32 × Mem → Option (Int32 × Mem)) (k101 : Int32 × Mem → Option (Int32 × Mem)) (v0 : Nat) (v2 : Int32) (v3 : Int32) (v4 : Int32) (v5 : Int32) (v6 : Int32) : Option (Int32 × Mem) :=
  if v2 ≤ v6 then
    (jn_X12_canLoad_125 N Λ μ k37 v0 v2 v3 v4 v5 v6)
  else
    ((dr Λ v0 19 13).bind fun q2 =>
    gd (inb v6 (aZ Λ q2)) <|
    if v5 ≤ (μ.1 q2 v6.toNatClampNeg) then
      (jn_X12_canLoad_125 N Λ μ k37 v0 v2 v3 v4 v5 v6)
    else
      (lt (v6 + 1) fun y6 =>
      k101 (y6, μ)))
def lp_X12_canLoad_101 (N : Nat) (Λ : Lay) (k37 : Int32 × Mem → Option (Int32 × Mem)) (v0 : Nat) (v2 : Int32) (v3 : Int32) (v4 : Int32) (v5 : Int32) (s : Int32 × Mem) : Option (Int32 × Mem) := cw (fun k s => bd_X12_canLoad_101 N Λ (s.2) k37 k v0 v2 v3 v4 v5 s.1) N s
def jn_X12_canLoad_90 (N : Nat) (Λ : Lay) (μ : Mem) (k37 : Int32 × Mem → Option (Int32 × Mem)) (v0 : Nat) (v2 : Int32) (v3 : Int32) (v4 : Int32) (v5 : Int32) : Option (Int32 × Mem) :=
  (dr Λ v0 20 13).bind fun q1 =>
  gd (inb v4 (aZ Λ q1)) <|
  lt ((μ.1 q1 v4.toNatClampNeg) + 1) fun y4 =>
  lp_X12_canLoad_101 N Λ k37 v0 v2 v3 v4 v5 (y4, μ)
def jn_X12_canLoad_192 (N : Nat) (Λ : Lay) (μ : Mem) (s0 : Int32) : Option (Int32 × Mem) :=
  gd (zb s0) <|
  some (s0, μ)
def jn_X12_canLoad_181 (N : Nat) (Λ : Lay) (μ : Mem) (v3 : Int32) (v4 : Int32) : Option (Int32 × Mem) :=
  if v4 = v3 then
    (jn_X12_canLoad_192 N Λ μ 1)
  else
    (jn_X12_canLoad_192 N Λ μ 0)
def bd_X12_canLoad_37 (N : Nat) (Λ : Lay) (μ : Mem) (k37 : Int32 × Mem → Option (Int32 × Mem)) (v0 : Nat) (v2 : Int32) (v3 : Int32) (v4 : Int32) : Option (Int32 × Mem) :=
  if v4 < 0 then
    (jn_X12_canLoad_181 N Λ μ v3 v4)
  else
    (if v3 ≤ v4 then
      (jn_X12_canLoad_181 N Λ μ v3 v4)
    else
      ((dr Λ v0 18 13).bind fun q3 =>
      gd (inb v4 (aZ Λ q3)) <|
      (m_X12_of N Λ μ v0 (μ.1 q3 v4.toNatClampNeg) 0).bind fun r6 =>
      (dr Λ v0 20 13).bind fun q8 =>
      gd (inb v4 (aZ Λ q8)) <|
      if (μ.1 q8 v4.toNatClampNeg) = (-1) then
        (jn_X12_canLoad_90 N Λ μ k37 v0 v2 v3 v4 r6)
      else
        ((dr Λ v0 19 13).bind fun q12 =>
        (dr Λ v0 20 13).bind fun q14 =>
        gd (inb v4 (aZ Λ q14)) <|
        gd (inb (μ.1 q14 v4.toNatClampNeg) (aZ Λ q12)) <|
        gd (inb (μ.1 q14 v4.toNatClampNeg) (aZ Λ q12)) <|
        lt (mset μ q12 (μ.1 q14 v4.toNatClampNeg).toNatClampNeg ((μ.1 q12 (μ.1 q14 v4.toNatClampNeg).toNatClampNeg) + r6)) fun μ19 =>
        jn_X12_canLoad_90 N Λ μ19 k37 v0 v2 v3 v4 r6)))
def lp_X12_canLoad_37 (N : Nat) (Λ : Lay) (v0 : Nat) (v2 : Int32) (v3 : Int32) (s : Int32 × Mem) : Option (Int32 × Mem) := cw (fun k s => bd_X12_canLoad_37 N Λ (s.2) k v0 v2 v3 s.1) N s
def bd_X12_canLoad_17 (N : Nat) (Λ : Lay) (μ : Mem) (k17 : Int32 × Mem → Option (Int32 × Mem)) (v0 : Nat) (v2 : Int32) (v3 : Int32) (v4 : Int32) (v5 : Int32) : Option (Int32 × Mem) :=
  if v3 ≤ v5 then
    (lp_X12_canLoad_37 N Λ v0 v2 v3 (v4, μ))
  else
    ((dr Λ v0 20 13).bind fun q2 =>
    gd (inb v5 (aZ Λ q2)) <|
    lt (mset μ q2 v5.toNatClampNeg (-1)) fun μ5 =>
    lt (v5 + 1) fun y7 =>
    k17 (y7, μ5))
def lp_X12_canLoad_17 (N : Nat) (Λ : Lay) (v0 : Nat) (v2 : Int32) (v3 : Int32) (v4 : Int32) (s : Int32 × Mem) : Option (Int32 × Mem) := cw (fun k s => bd_X12_canLoad_17 N Λ (s.2) k v0 v2 v3 v4 s.1) N s
def m_X12_canLoad (N : Nat) (Λ : Lay) (μ : Mem) (v0 : Nat) (v1 : Int32) : Option (Int32 × Mem) :=
  (m_X12_laysRuns N Λ μ v0).bind fun r1 =>
  (m_X12_laysMembers N Λ r1.2 v0 v1).bind fun r3 =>
  lp_X12_canLoad_17 N Λ v0 r1.1 r3.1 0 (0, r3.2)
def jn_X12_bestLoad_59 (N : Nat) (Λ : Lay) (μ : Mem) (k12 : Int32 × Int32 × Int32 × Mem → Option (Int32 × Mem)) (v0 : Nat) (v1 : Int32) (v2 : Int32) (v3 : Int32) (v4 : Int32) : Option (Int32 × Mem) :=
  lt (v4 + 1) fun y1 =>
  k12 (v2, v3, y1, μ)
def bd_X12_bestLoad_12 (N : Nat) (Λ : Lay) (μ : Mem) (k12 : Int32 × Int32 × Int32 × Mem → Option (Int32 × Mem)) (v0 : Nat) (v1 : Int32) (v2 : Int32) (v3 : Int32) (v4 : Int32) : Option (Int32 × Mem) :=
  if v1 < v4 then
    (some (v2, μ))
  else
    (if (v4 &&& (v1 ^^^ (-1))) = 0 then
      ((m_X12_feesOf N Λ μ v0 v4).bind fun r3 =>
      if r3.1 ≤ v3 then
        (jn_X12_bestLoad_59 N Λ r3.2 k12 v0 v1 v2 v3 v4)
      else
        ((m_X12_canLoad N Λ r3.2 v0 v4).bind fun r6 =>
        if r6.1 = 0 then
          (jn_X12_bestLoad_59 N Λ r6.2 k12 v0 v1 v2 v3 v4)
        else
          ((m_X12_feesOf N Λ r6.2 v0 v4).bind fun r9 =>
          jn_X12_bestLoad_59 N Λ r9.2 k12 v0 v1 v4 r9.1 v4)))
    else
      (jn_X12_bestLoad_59 N Λ μ k12 v0 v1 v2 v3 v4))
def lp_X12_bestLoad_12 (N : Nat) (Λ : Lay) (v0 : Nat) (v1 : Int32) (s : Int32 × Int32 × Int32 × Mem) : Option (Int32 × Mem) := cw (fun k s => bd_X12_bestLoad_12 N Λ (s.2.2.2) k v0 v1 s.1 s.2.1 s.2.2.1) N s
def m_X12_bestLoad (N : Nat) (Λ : Lay) (μ : Mem) (v0 : Nat) : Option (Int32 × Mem) :=
  (m_X12_mayEnter N Λ μ v0).bind fun r1 =>
  lp_X12_bestLoad_12 N Λ v0 r1 (0, 0, 1, μ)
def m_X12_load (N : Nat) (Λ : Lay) (μ : Mem) (v0 : Nat) : Option (Int32 × Mem) :=
  lt (mset μ v0 0 0) fun μ1 =>
  (m_X12_bestLoad N Λ μ1 v0).bind fun r3 =>
  (m_X12_feesOf N Λ r3.2 v0 r3.1).bind fun r5 =>
  some (r5.1, r5.2)
def m_X12_which (N : Nat) (Λ : Lay) (μ : Mem) (v0 : Nat) : Option (Int32 × Mem) :=
  lt (mset μ v0 0 0) fun μ1 =>
  (m_X12_bestLoad N Λ μ1 v0).bind fun r3 =>
  some (r3.1, r3.2)
def jn_X12_workDocked_31 (N : Nat) (Λ : Lay) (μ : Mem) (k4 : Int32 × Int32 → Option (Int32)) (v0 : Nat) (v2 : Int32) (s0 : Int32) (s1 : Int32) : Option (Int32) :=
  lt (s0 + s1) fun y1 =>
  lt (v2 + 1) fun y3 =>
  k4 (y1, y3)
def bd_X12_workDocked_4 (N : Nat) (Λ : Lay) (μ : Mem) (k4 : Int32 × Int32 → Option (Int32)) (v0 : Nat) (v1 : Int32) (v2 : Int32) : Option (Int32) :=
  (m_X12_ships N Λ μ v0).bind fun r1 =>
  if r1 ≤ v2 then
    (some v1)
  else
    ((m_X12_isDocked N Λ μ v0 v2).bind fun r4 =>
    if r4 = 0 then
      (jn_X12_workDocked_31 N Λ μ k4 v0 v2 v1 0)
    else
      ((m_X12_of N Λ μ v0 v2 2).bind fun r7 =>
      jn_X12_workDocked_31 N Λ μ k4 v0 v2 v1 r7))
def lp_X12_workDocked_4 (N : Nat) (Λ : Lay) (μ : Mem) (v0 : Nat) (s : Int32 × Int32) : Option (Int32) := cw (fun k s => bd_X12_workDocked_4 N Λ μ k v0 s.1 s.2) N s
def m_X12_workDocked (N : Nat) (Λ : Lay) (μ : Mem) (v0 : Nat) : Option (Int32) :=
  lp_X12_workDocked_4 N Λ μ v0 (0, 0)
def jn_X12_isSo_64 (N : Nat) (Λ : Lay) (μ : Mem) (s0 : Int32) : Option (Int32) :=
  gd (zb s0) <|
  some s0
def jn_X12_isSo_59 (N : Nat) (Λ : Lay) (μ : Mem) : Option (Int32) :=
  jn_X12_isSo_64 N Λ μ 1
def m_X12_isSo (N : Nat) (Λ : Lay) (μ : Mem) (v0 : Nat) (v1 : Int32) : Option (Int32) :=
  if v1 = 0 then
    ((dr Λ v0 1 13).bind fun q13 =>
    gd (inb 3 (aZ Λ q13)) <|
    if 2 < (μ.1 q13 (3 : Int32).toNatClampNeg) then
      (jn_X12_isSo_64 N Λ μ 0)
    else
      (jn_X12_isSo_64 N Λ μ 1))
  else
    (if v1 = 1 then
      ((m_X12_workDocked N Λ μ v0).bind fun r10 =>
      if r10 = 0 then
        (jn_X12_isSo_64 N Λ μ 1)
      else
        (jn_X12_isSo_64 N Λ μ 0))
    else
      ((m_X12_isEven N Λ μ v0).bind fun r3 =>
      if r3 = 0 then
        ((dr Λ v0 1 13).bind fun q6 =>
        gd (inb 4 (aZ Λ q6)) <|
        if (μ.1 q6 (4 : Int32).toNatClampNeg) = 1 then
          (jn_X12_isSo_59 N Λ μ)
        else
          (jn_X12_isSo_64 N Λ μ 0))
      else
        (jn_X12_isSo_59 N Λ μ)))
def jn_X12_firstIn_37 (N : Nat) (Λ : Lay) (μ : Mem) (k13 : Int32 × Int32 × Mem → Option (Int32 × Mem)) (v0 : Nat) (v1 : Int32) (v3 : Int32) (s0 : Int32) : Option (Int32 × Mem) :=
  (m_X12_oneHour N Λ μ v0 1).bind fun r1 =>
  lt (v3 + 1) fun y3 =>
  k13 (s0, y3, r1.2)
def jn_X12_firstIn_50 (N : Nat) (Λ : Lay) (μ : Mem) (v0 : Nat) (v2 : Int32) : Option (Int32 × Mem) :=
  (m_X12_bringsBack N Λ μ v0).bind fun r1 =>
  some (v2, r1)
def bd_X12_firstIn_13 (N : Nat) (Λ : Lay) (μ : Mem) (k13 : Int32 × Int32 × Mem → Option (Int32 × Mem)) (v0 : Nat) (v1 : Int32) (v2 : Int32) (v3 : Int32) : Option (Int32 × Mem) :=
  if 60 < v3 then
    (jn_X12_firstIn_50 N Λ μ v0 v2)
  else
    (if v2 = (-1) then
      ((m_X12_isSo N Λ μ v0 v1).bind fun r3 =>
      if r3 = 0 then
        (jn_X12_firstIn_37 N Λ μ k13 v0 v1 v3 (-1))
      else
        (jn_X12_firstIn_37 N Λ μ k13 v0 v1 v3 v3))
    else
      (jn_X12_firstIn_50 N Λ μ v0 v2))
def lp_X12_firstIn_13 (N : Nat) (Λ : Lay) (v0 : Nat) (v1 : Int32) (s : Int32 × Int32 × Mem) : Option (Int32 × Mem) := cw (fun k s => bd_X12_firstIn_13 N Λ (s.2.2) k v0 v1 s.1 s.2.1) N s
def m_X12_firstIn (N : Nat) (Λ : Lay) (μ : Mem) (v0 : Nat) (v1 : Int32) : Option (Int32 × Mem) :=
  lt (mset μ v0 0 0) fun μ1 =>
  (m_X12_keepsAll N Λ μ1 v0).bind fun r3 =>
  lp_X12_firstIn_13 N Λ v0 v1 ((-1), 0, r3)
def m_X12_dry (N : Nat) (Λ : Lay) (μ : Mem) (v0 : Nat) : Option (Int32 × Mem) :=
  (m_X12_firstIn N Λ μ v0 0).bind fun r1 =>
  some (r1.1, r1.2)
def m_X12_ready (N : Nat) (Λ : Lay) (μ : Mem) (v0 : Nat) : Option (Int32 × Mem) :=
  (m_X12_firstIn N Λ μ v0 1).bind fun r1 =>
  some (r1.1, r1.2)
def m_X12_ease (N : Nat) (Λ : Lay) (μ : Mem) (v0 : Nat) : Option (Int32 × Mem) :=
  (m_X12_firstIn N Λ μ v0 2).bind fun r1 =>
  some (r1.1, r1.2)
def jn_X12_busyOnes_37 (N : Nat) (Λ : Lay) (μ : Mem) (k4 : Int32 × Int32 → Option (Int32)) (v0 : Nat) (v2 : Int32) (s0 : Int32) (s1 : Int32) : Option (Int32) :=
  lt (s0 ||| s1) fun y1 =>
  lt (v2 + 1) fun y3 =>
  k4 (y1, y3)
def jn_X12_busyOnes_36 (N : Nat) (Λ : Lay) (μ : Mem) (k4 : Int32 × Int32 → Option (Int32)) (v0 : Nat) (v2 : Int32) (s0 : Int32) : Option (Int32) :=
  jn_X12_busyOnes_37 N Λ μ k4 v0 v2 s0 0
def bd_X12_busyOnes_4 (N : Nat) (Λ : Lay) (μ : Mem) (k4 : Int32 × Int32 → Option (Int32)) (v0 : Nat) (v1 : Int32) (v2 : Int32) : Option (Int32) :=
  (m_X12_ships N Λ μ v0).bind fun r1 =>
  if r1 ≤ v2 then
    (some v1)
  else
    ((m_X12_isDocked N Λ μ v0 v2).bind fun r4 =>
    if r4 = 0 then
      (jn_X12_busyOnes_36 N Λ μ k4 v0 v2 v1)
    else
      ((m_X12_of N Λ μ v0 v2 2).bind fun r7 =>
      if r7 ≤ 0 then
        (jn_X12_busyOnes_36 N Λ μ k4 v0 v2 v1)
      else
        (jn_X12_busyOnes_37 N Λ μ k4 v0 v2 v1 (ishl 1 v2))))
def lp_X12_busyOnes_4 (N : Nat) (Λ : Lay) (μ : Mem) (v0 : Nat) (s : Int32 × Int32) : Option (Int32) := cw (fun k s => bd_X12_busyOnes_4 N Λ μ k v0 s.1 s.2) N s
def m_X12_busyOnes (N : Nat) (Λ : Lay) (μ : Mem) (v0 : Nat) : Option (Int32) :=
  lp_X12_busyOnes_4 N Λ μ v0 (0, 0)
def jn_X12_costNext_40 (N : Nat) (Λ : Lay) (μ : Mem) (k10 : Int32 × Int32 × Mem → Option (Int32 × Mem)) (v0 : Nat) (v1 : Int32) (v2 : Int32) (v4 : Int32) (s0 : Int32) (s1 : Int32) : Option (Int32 × Mem) :=
  lt (s0 + s1) fun y1 =>
  lt (v4 + 1) fun y3 =>
  k10 (y1, y3, μ)
def bd_X12_costNext_10 (N : Nat) (Λ : Lay) (μ : Mem) (k10 : Int32 × Int32 × Mem → Option (Int32 × Mem)) (v0 : Nat) (v1 : Int32) (v2 : Int32) (v3 : Int32) (v4 : Int32) : Option (Int32 × Mem) :=
  (m_X12_ships N Λ μ v0).bind fun r1 =>
  if r1 ≤ v4 then
    ((m_X12_feeOf N Λ μ v0 v2).bind fun r4 =>
    (dr Λ v0 1 13).bind fun q6 =>
    gd (inb 6 (aZ Λ q6)) <|
    (dr Λ v0 1 13).bind fun q9 =>
    gd (inb 6 (aZ Λ q9)) <|
    gd (decide (¬ (r4.2.1 q9 (6 : Int32).toNatClampNeg) = 0)) <|
    (dr Λ v0 21 13).bind fun q13 =>
    gd (inb (v1 ||| (ishl 1 v2)) (aZ Λ q13)) <|
    some ((r4.1 * (((v3 + (r4.2.1 q6 (6 : Int32).toNatClampNeg)) - 1) / (r4.2.1 q9 (6 : Int32).toNatClampNeg))) + (r4.2.1 q13 (v1 ||| (ishl 1 v2)).toNatClampNeg), r4.2))
  else
    ((m_X12_has N Λ μ v1 v4).bind fun r16 =>
    if r16 = 0 then
      (jn_X12_costNext_40 N Λ μ k10 v0 v1 v2 v4 v3 0)
    else
      ((m_X12_of N Λ μ v0 v4 2).bind fun r19 =>
      jn_X12_costNext_40 N Λ μ k10 v0 v1 v2 v4 v3 r19))
def lp_X12_costNext_10 (N : Nat) (Λ : Lay) (v0 : Nat) (v1 : Int32) (v2 : Int32) (s : Int32 × Int32 × Mem) : Option (Int32 × Mem) := cw (fun k s => bd_X12_costNext_10 N Λ (s.2.2) k v0 v1 v2 s.1 s.2.1) N s
def m_X12_costNext (N : Nat) (Λ : Lay) (μ : Mem) (v0 : Nat) (v1 : Int32) (v2 : Int32) : Option (Int32 × Mem) :=
  (m_X12_of N Λ μ v0 v2 2).bind fun r1 =>
  lp_X12_costNext_10 N Λ v0 v1 v2 (r1, 0, μ)
def jn_X12_laysCosts_66 (N : Nat) (Λ : Lay) (μ : Mem) (k2 : Int32 × Mem → Option (Mem)) (k32 : Int32 × Int32 × Mem → Option (Mem)) (v0 : Nat) (v1 : Int32) (v2 : Int32) (v3 : Int32) (v4 : Int32) : Option (Mem) :=
  lt (v4 + 1) fun y1 =>
  k32 (v3, y1, μ)
def jn_X12_laysCosts_79 (N : Nat) (Λ : Lay) (μ : Mem) (k2 : Int32 × Mem → Option (Mem)) (v0 : Nat) (v1 : Int32) (v2 : Int32) : Option (Mem) :=
  lt (v2 + (-1)) fun y1 =>
  k2 (y1, μ)
def bd_X12_laysCosts_32 (N : Nat) (Λ : Lay) (μ : Mem) (k2 : Int32 × Mem → Option (Mem)) (k32 : Int32 × Int32 × Mem → Option (Mem)) (v0 : Nat) (v1 : Int32) (v2 : Int32) (v3 : Int32) (v4 : Int32) : Option (Mem) :=
  (m_X12_ships N Λ μ v0).bind fun r1 =>
  if r1 ≤ v4 then
    ((dr Λ v0 21 13).bind fun q4 =>
    gd (inb v2 (aZ Λ q4)) <|
    lt (mset μ q4 v2.toNatClampNeg v3) fun μ7 =>
    jn_X12_laysCosts_79 N Λ μ7 k2 v0 v1 v2)
  else
    ((m_X12_has N Λ μ (v1 &&& (v2 ^^^ (-1))) v4).bind fun r9 =>
    if r9 = 0 then
      (jn_X12_laysCosts_66 N Λ μ k2 k32 v0 v1 v2 v3 v4)
    else
      ((m_X12_costNext N Λ μ v0 v2 v4).bind fun r12 =>
      lt (imin v3 r12.1) fun y14 =>
      jn_X12_laysCosts_66 N Λ r12.2 k2 k32 v0 v1 v2 y14 v4))
def lp_X12_laysCosts_32 (N : Nat) (Λ : Lay) (k2 : Int32 × Mem → Option (Mem)) (v0 : Nat) (v1 : Int32) (v2 : Int32) (s : Int32 × Int32 × Mem) : Option (Mem) := cw (fun k s => bd_X12_laysCosts_32 N Λ (s.2.2) k2 k v0 v1 v2 s.1 s.2.1) N s
def jn_X12_laysCosts_28 (N : Nat) (Λ : Lay) (μ : Mem) (k2 : Int32 × Mem → Option (Mem)) (v0 : Nat) (v1 : Int32) (v2 : Int32) (s0 : Int32) : Option (Mem) :=
  lp_X12_laysCosts_32 N Λ k2 v0 v1 v2 (s0, 0, μ)
def bd_X12_laysCosts_2 (N : Nat) (Λ : Lay) (μ : Mem) (k2 : Int32 × Mem → Option (Mem)) (v0 : Nat) (v1 : Int32) (v2 : Int32) : Option (Mem) :=
  if v2 < 0 then
    (some μ)
  else
    (if (v2 &&& (v1 ^^^ (-1))) = 0 then
      (if v2 = v1 then
        (jn_X12_laysCosts_28 N Λ μ k2 v0 v1 v2 0)
      else
        (jn_X12_laysCosts_28 N Λ μ k2 v0 v1 v2 100000000))
    else
      (jn_X12_laysCosts_79 N Λ μ k2 v0 v1 v2))
def lp_X12_laysCosts_2 (N : Nat) (Λ : Lay) (v0 : Nat) (v1 : Int32) (s : Int32 × Mem) : Option (Mem) := cw (fun k s => bd_X12_laysCosts_2 N Λ (s.2) k v0 v1 s.1) N s
def m_X12_laysCosts (N : Nat) (Λ : Lay) (μ : Mem) (v0 : Nat) (v1 : Int32) : Option (Mem) :=
  lp_X12_laysCosts_2 N Λ v0 v1 (v1, μ)
def jn_X12_cost_33 (N : Nat) (Λ : Lay) (μ : Mem) (s0 : Int32) : Option (Int32 × Mem) :=
  some (s0, μ)
def jn_X12_cost_24 (N : Nat) (Λ : Lay) (μ : Mem) (v1 : Int32) : Option (Int32 × Mem) :=
  if v1 = 0 then
    (jn_X12_cost_33 N Λ μ 0)
  else
    (jn_X12_cost_33 N Λ μ (-1))
def m_X12_cost (N : Nat) (Λ : Lay) (μ : Mem) (v0 : Nat) : Option (Int32 × Mem) :=
  lt (mset μ v0 0 0) fun μ1 =>
  (m_X12_busyOnes N Λ μ1 v0).bind fun r3 =>
  if r3 = 0 then
    (jn_X12_cost_24 N Λ μ1 r3)
  else
    ((dr Λ v0 1 13).bind fun q6 =>
    gd (inb 6 (aZ Λ q6)) <|
    if (μ1.1 q6 (6 : Int32).toNatClampNeg) = 0 then
      (jn_X12_cost_24 N Λ μ1 r3)
    else
      ((m_X12_laysCosts N Λ μ1 v0 r3).bind fun r10 =>
      (dr Λ v0 21 13).bind fun q12 =>
      gd (inb 0 (aZ Λ q12)) <|
      some (r10.1 q12 (0 : Int32).toNatClampNeg, r10)))
def jn_X12_first_24 (N : Nat) (Λ : Lay) (μ : Mem) : Option (Int32 × Mem) :=
  some ((-1), μ)
def jn_X12_first_56 (N : Nat) (Λ : Lay) (μ : Mem) (k33 : Int32 × Mem → Option (Int32 × Mem)) (v0 : Nat) (v1 : Int32) (v2 : Int32) : Option (Int32 × Mem) :=
  lt (v2 + 1) fun y1 =>
  k33 (y1, μ)
def bd_X12_first_33 (N : Nat) (Λ : Lay) (μ : Mem) (k33 : Int32 × Mem → Option (Int32 × Mem)) (v0 : Nat) (v1 : Int32) (v2 : Int32) : Option (Int32 × Mem) :=
  (m_X12_has N Λ μ v1 v2).bind fun r1 =>
  if r1 = 0 then
    (jn_X12_first_56 N Λ μ k33 v0 v1 v2)
  else
    ((m_X12_costNext N Λ μ v0 0 v2).bind fun r4 =>
    (dr Λ v0 21 13).bind fun q6 =>
    gd (inb 0 (aZ Λ q6)) <|
    if r4.1 = (r4.2.1 q6 (0 : Int32).toNatClampNeg) then
      (some (v2, r4.2))
    else
      (jn_X12_first_56 N Λ r4.2 k33 v0 v1 v2))
def lp_X12_first_33 (N : Nat) (Λ : Lay) (v0 : Nat) (v1 : Int32) (s : Int32 × Mem) : Option (Int32 × Mem) := cw (fun k s => bd_X12_first_33 N Λ (s.2) k v0 v1 s.1) N s
def m_X12_first (N : Nat) (Λ : Lay) (μ : Mem) (v0 : Nat) : Option (Int32 × Mem) :=
  lt (mset μ v0 0 0) fun μ1 =>
  (m_X12_busyOnes N Λ μ1 v0).bind fun r3 =>
  if r3 = 0 then
    (jn_X12_first_24 N Λ μ1)
  else
    ((dr Λ v0 1 13).bind fun q6 =>
    gd (inb 6 (aZ Λ q6)) <|
    if (μ1.1 q6 (6 : Int32).toNatClampNeg) = 0 then
      (jn_X12_first_24 N Λ μ1)
    else
      ((m_X12_laysCosts N Λ μ1 v0 r3).bind fun r10 =>
      lp_X12_first_33 N Λ v0 r3 (0, r10)))
def jn_X12_isHeights_75 (N : Nat) (Λ : Lay) (μ : Mem) (k26 : Int32 × Int32 → Option (Int32)) (v0 : Nat) (v2 : Int32) (s0 : Int32) : Option (Int32) :=
  lt (v2 + 2) fun y1 =>
  k26 (s0, y1)
def jn_X12_isHeights_74 (N : Nat) (Λ : Lay) (μ : Mem) (k26 : Int32 × Int32 → Option (Int32)) (v0 : Nat) (v2 : Int32) : Option (Int32) :=
  jn_X12_isHeights_75 N Λ μ k26 v0 v2 0
def jn_X12_isHeights_82 (N : Nat) (Λ : Lay) (μ : Mem) (v1 : Int32) : Option (Int32) :=
  gd (zb v1) <|
  some v1
def bd_X12_isHeights_26 (N : Nat) (Λ : Lay) (μ : Mem) (k26 : Int32 × Int32 → Option (Int32)) (v0 : Nat) (v1 : Int32) (v2 : Int32) : Option (Int32) :=
  if (μ.1 v0 11) ≤ v2 then
    (jn_X12_isHeights_82 N Λ μ v1)
  else
    (if v1 = 0 then
      (jn_X12_isHeights_82 N Λ μ v1)
    else
      ((dr Λ v0 8 12).bind fun q3 =>
      gd (inb v2 (aZ Λ q3)) <|
      (m_X12_in N Λ μ (μ.1 q3 v2.toNatClampNeg) 0 99).bind fun r6 =>
      if r6 = 0 then
        (jn_X12_isHeights_74 N Λ μ k26 v0 v2)
      else
        ((dr Λ v0 8 12).bind fun q9 =>
        gd (inb (v2 + 1) (aZ Λ q9)) <|
        (m_X12_in N Λ μ (μ.1 q9 (v2 + 1).toNatClampNeg) 0 30).bind fun r12 =>
        if r12 = 0 then
          (jn_X12_isHeights_74 N Λ μ k26 v0 v2)
        else
          (jn_X12_isHeights_75 N Λ μ k26 v0 v2 1))))
def lp_X12_isHeights_26 (N : Nat) (Λ : Lay) (μ : Mem) (v0 : Nat) (s : Int32 × Int32) : Option (Int32) := cw (fun k s => bd_X12_isHeights_26 N Λ μ k v0 s.1 s.2) N s
def jn_X12_isHeights_23 (N : Nat) (Λ : Lay) (μ : Mem) (v0 : Nat) (s0 : Int32) : Option (Int32) :=
  lp_X12_isHeights_26 N Λ μ v0 (s0, 0)
def jn_X12_isHeights_22 (N : Nat) (Λ : Lay) (μ : Mem) (v0 : Nat) : Option (Int32) :=
  jn_X12_isHeights_23 N Λ μ v0 0
def m_X12_isHeights (N : Nat) (Λ : Lay) (μ : Mem) (v0 : Nat) : Option (Int32) :=
  if (irem (μ.1 v0 11) 2) = 0 then
    (if 40 < (μ.1 v0 11) then
      (jn_X12_isHeights_22 N Λ μ v0)
    else
      (jn_X12_isHeights_23 N Λ μ v0 1))
  else
    (jn_X12_isHeights_22 N Λ μ v0)
def m_X12_heightBy (N : Nat) (Λ : Lay) (μ : Mem) (v0 : Int32) (v1 : Int32) : Option (Int32) :=
  lt (v0 / 372) fun y1 =>
  lt (irem (v0 / 12) 31) fun y3 =>
  some (y1 + (((y3 - y1) * (iabs ((irem (v1 + (irem v0 12)) 12) - 6))) / 6))
def jn_X12_laysCurves_76 (N : Nat) (Λ : Lay) (μ : Mem) (k4 : Int32 × Int32 × Mem → Option (Int32 × Mem)) (k35 : Int32 × Int32 × Mem → Option (Int32 × Mem)) (v0 : Nat) (v1 : Int32) (v2 : Int32) (v4 : Int32) (s0 : Int32) : Option (Int32 × Mem) :=
  lt (v4 + 2) fun y1 =>
  k35 (s0, y1, μ)
def jn_X12_laysCurves_100 (N : Nat) (Λ : Lay) (μ : Mem) (k4 : Int32 × Int32 × Mem → Option (Int32 × Mem)) (v0 : Nat) (v2 : Int32) (s0 : Int32) (s1 : Int32) : Option (Int32 × Mem) :=
  lt (s0 + s1) fun y1 =>
  lt (v2 + 1) fun y3 =>
  k4 (y1, y3, μ)
def jn_X12_laysCurves_83 (N : Nat) (Λ : Lay) (μ : Mem) (k4 : Int32 × Int32 × Mem → Option (Int32 × Mem)) (v0 : Nat) (v1 : Int32) (v2 : Int32) (v3 : Int32) : Option (Int32 × Mem) :=
  (dr Λ v0 22 15).bind fun q1 =>
  gd (inb v2 (aZ Λ q1)) <|
  lt (mset μ q1 v2.toNatClampNeg (v3 &&& 1)) fun μ4 =>
  if v3 = 0 then
    (jn_X12_laysCurves_100 N Λ μ4 k4 v0 v2 v1 0)
  else
    (jn_X12_laysCurves_100 N Λ μ4 k4 v0 v2 v1 1)
def bd_X12_laysCurves_35 (N : Nat) (Λ : Lay) (μ : Mem) (k4 : Int32 × Int32 × Mem → Option (Int32 × Mem)) (k35 : Int32 × Int32 × Mem → Option (Int32 × Mem)) (v0 : Nat) (v1 : Int32) (v2 : Int32) (v3 : Int32) (v4 : Int32) : Option (Int32 × Mem) :=
  if (μ.1 v0 11) ≤ v4 then
    (jn_X12_laysCurves_83 N Λ μ k4 v0 v1 v2 v3)
  else
    (if v3 = 0 then
      (jn_X12_laysCurves_83 N Λ μ k4 v0 v1 v2 v3)
    else
      ((dr Λ v0 8 12).bind fun q3 =>
      gd (inb v4 (aZ Λ q3)) <|
      (m_X12_heightBy N Λ μ v2 (μ.1 q3 v4.toNatClampNeg)).bind fun r6 =>
      (dr Λ v0 8 12).bind fun q8 =>
      gd (inb (v4 + 1) (aZ Λ q8)) <|
      if r6 = (μ.1 q8 (v4 + 1).toNatClampNeg) then
        (jn_X12_laysCurves_76 N Λ μ k4 k35 v0 v1 v2 v4 1)
      else
        (jn_X12_laysCurves_76 N Λ μ k4 k35 v0 v1 v2 v4 0)))
def lp_X12_laysCurves_35 (N : Nat) (Λ : Lay) (k4 : Int32 × Int32 × Mem → Option (Int32 × Mem)) (v0 : Nat) (v1 : Int32) (v2 : Int32) (s : Int32 × Int32 × Mem) : Option (Int32 × Mem) := cw (fun k s => bd_X12_laysCurves_35 N Λ (s.2.2) k4 k v0 v1 v2 s.1 s.2.1) N s
def jn_X12_laysCurves_31 (N : Nat) (Λ : Lay) (μ : Mem) (k4 : Int32 × Int32 × Mem → Option (Int32 × Mem)) (v0 : Nat) (v1 : Int32) (v2 : Int32) (s0 : Int32) : Option (Int32 × Mem) :=
  lp_X12_laysCurves_35 N Λ k4 v0 v1 v2 (s0, 0, μ)
def bd_X12_laysCurves_4 (N : Nat) (Λ : Lay) (μ : Mem) (k4 : Int32 × Int32 × Mem → Option (Int32 × Mem)) (v0 : Nat) (v1 : Int32) (v2 : Int32) : Option (Int32 × Mem) :=
  if 11532 ≤ v2 then
    (some (v1, μ))
  else
    (if (irem (v2 / 12) 31) < (v2 / 372) then
      (jn_X12_laysCurves_31 N Λ μ k4 v0 v1 v2 0)
    else
      (jn_X12_laysCurves_31 N Λ μ k4 v0 v1 v2 1))
def lp_X12_laysCurves_4 (N : Nat) (Λ : Lay) (v0 : Nat) (s : Int32 × Int32 × Mem) : Option (Int32 × Mem) := cw (fun k s => bd_X12_laysCurves_4 N Λ (s.2.2) k v0 s.1 s.2.1) N s
def m_X12_laysCurves (N : Nat) (Λ : Lay) (μ : Mem) (v0 : Nat) : Option (Int32 × Mem) :=
  lp_X12_laysCurves_4 N Λ v0 (0, 0, μ)
def jn_X12_firstFitting_24 (N : Nat) (Λ : Lay) (μ : Mem) (k6 : Int32 × Int32 → Option (Int32)) (v0 : Nat) (v3 : Int32) (s0 : Int32) : Option (Int32) :=
  lt (v3 + (-1)) fun y1 =>
  k6 (s0, y1)
def bd_X12_firstFitting_6 (N : Nat) (Λ : Lay) (μ : Mem) (k6 : Int32 × Int32 → Option (Int32)) (v0 : Nat) (v2 : Int32) (v3 : Int32) : Option (Int32) :=
  if v3 < 0 then
    (some v2)
  else
    ((dr Λ v0 22 15).bind fun q2 =>
    gd (inb v3 (aZ Λ q2)) <|
    if (μ.1 q2 v3.toNatClampNeg) = 0 then
      (jn_X12_firstFitting_24 N Λ μ k6 v0 v3 v2)
    else
      (jn_X12_firstFitting_24 N Λ μ k6 v0 v3 v3))
def lp_X12_firstFitting_6 (N : Nat) (Λ : Lay) (μ : Mem) (v0 : Nat) (s : Int32 × Int32) : Option (Int32) := cw (fun k s => bd_X12_firstFitting_6 N Λ μ k v0 s.1 s.2) N s
def m_X12_firstFitting (N : Nat) (Λ : Lay) (μ : Mem) (v0 : Nat) (v1 : Int32) : Option (Int32) :=
  lt (v1 - 1) fun y1 =>
  lp_X12_firstFitting_6 N Λ μ v0 ((-1), y1)
def jn_X12_goes_46 (N : Nat) (Λ : Lay) (μ : Mem) (s0 : Int32) : Option (Int32 × Mem) :=
  some (s0, μ)
def jn_X12_goes_17 (N : Nat) (Λ : Lay) (μ : Mem) (v0 : Nat) (v1 : Int32) (s0 : Nat) (s1 : Int32) : Option (Int32 × Mem) :=
  (m_X12_throwsIf N Λ μ s0 s1 1).bind fun r1 =>
  if r1.1 = 0 then
    ((m_X12_laysCurves N Λ r1.2 v0).bind fun r4 =>
    if v1 = 0 then
      (jn_X12_goes_46 N Λ r4.2 r4.1)
    else
      ((m_X12_firstFitting N Λ r4.2 v0 11532).bind fun r7 =>
      jn_X12_goes_46 N Λ r4.2 r7))
  else
    (some (0, r1.2))
def m_X12_goes (N : Nat) (Λ : Lay) (μ : Mem) (v0 : Nat) (v1 : Int32) : Option (Int32 × Mem) :=
  (m_X12_uses N Λ μ v0).bind fun r1 =>
  (m_X12_isHeights N Λ r1 v0).bind fun r3 =>
  if r3 = 0 then
    (jn_X12_goes_17 N Λ r1 v0 v1 v0 1)
  else
    (jn_X12_goes_17 N Λ r1 v0 v1 v0 0)
def jn_X12_partIn_74 (N : Nat) (Λ : Lay) (μ : Mem) (k25 : Int32 × Int32 × Mem → Option (Int32 × Mem)) (v0 : Nat) (v1 : Int32) (v2 : Int32) (v3 : Int32) : Option (Int32 × Mem) :=
  lt (v3 + 1) fun y1 =>
  k25 (v2, y1, μ)
def bd_X12_partIn_25 (N : Nat) (Λ : Lay) (μ : Mem) (k25 : Int32 × Int32 × Mem → Option (Int32 × Mem)) (v0 : Nat) (v1 : Int32) (v2 : Int32) (v3 : Int32) : Option (Int32 × Mem) :=
  if 11532 ≤ v3 then
    (some (v2, μ))
  else
    ((dr Λ v0 22 15).bind fun q2 =>
    gd (inb v3 (aZ Λ q2)) <|
    if (μ.1 q2 v3.toNatClampNeg) = 0 then
      (jn_X12_partIn_74 N Λ μ k25 v0 v1 v2 v3)
    else
      ((m_X12_heightBy N Λ μ v3 v1).bind fun r6 =>
      (dr Λ v0 23 13).bind fun q8 =>
      gd (inb r6 (aZ Λ q8)) <|
      gd (inb r6 (aZ Λ q8)) <|
      lt (mset μ q8 r6.toNatClampNeg ((μ.1 q8 r6.toNatClampNeg) + 1)) fun μ12 =>
      (dr Λ v0 23 13).bind fun q14 =>
      gd (inb r6 (aZ Λ q14)) <|
      lt (imax v2 (μ12.1 q14 r6.toNatClampNeg)) fun y17 =>
      jn_X12_partIn_74 N Λ μ12 k25 v0 v1 y17 v3))
def lp_X12_partIn_25 (N : Nat) (Λ : Lay) (v0 : Nat) (v1 : Int32) (s : Int32 × Int32 × Mem) : Option (Int32 × Mem) := cw (fun k s => bd_X12_partIn_25 N Λ (s.2.2) k v0 v1 s.1 s.2.1) N s
def bd_X12_partIn_2 (N : Nat) (Λ : Lay) (μ : Mem) (k2 : Int32 × Mem → Option (Int32 × Mem)) (v0 : Nat) (v1 : Int32) (v2 : Int32) : Option (Int32 × Mem) :=
  if 30 < v2 then
    (lp_X12_partIn_25 N Λ v0 v1 (0, 0, μ))
  else
    ((dr Λ v0 23 13).bind fun q2 =>
    gd (inb v2 (aZ Λ q2)) <|
    lt (mset μ q2 v2.toNatClampNeg 0) fun μ5 =>
    lt (v2 + 1) fun y7 =>
    k2 (y7, μ5))
def lp_X12_partIn_2 (N : Nat) (Λ : Lay) (v0 : Nat) (v1 : Int32) (s : Int32 × Mem) : Option (Int32 × Mem) := cw (fun k s => bd_X12_partIn_2 N Λ (s.2) k v0 v1 s.1) N s
def m_X12_partIn (N : Nat) (Λ : Lay) (μ : Mem) (v0 : Nat) (v1 : Int32) : Option (Int32 × Mem) :=
  lp_X12_partIn_2 N Λ v0 v1 (0, μ)
def jn_X12_ask_71 (N : Nat) (Λ : Lay) (μ : Mem) (k39 : Int32 × Int32 × Int32 × Mem → Option (Int32 × Mem)) (v0 : Nat) (v1 : Int32) (v3 : Int32) (v4 : Int32) (v5 : Int32) (s0 : Int32) : Option (Int32 × Mem) :=
  lt (imin v3 v5) fun y1 =>
  lt (v4 + 1) fun y3 =>
  k39 (s0, y1, y3, μ)
def jn_X12_ask_85 (N : Nat) (Λ : Lay) (μ : Mem) (v2 : Int32) : Option (Int32 × Mem) :=
  some (v2, μ)
def bd_X12_ask_39 (N : Nat) (Λ : Lay) (μ : Mem) (k39 : Int32 × Int32 × Int32 × Mem → Option (Int32 × Mem)) (v0 : Nat) (v1 : Int32) (v2 : Int32) (v3 : Int32) (v4 : Int32) : Option (Int32 × Mem) :=
  if 99 < v4 then
    (jn_X12_ask_85 N Λ μ v2)
  else
    (if v1 ≤ 1 then
      (jn_X12_ask_85 N Λ μ v2)
    else
      ((m_X12_partIn N Λ μ v0 v4).bind fun r3 =>
      if v3 ≤ r3.1 then
        (jn_X12_ask_71 N Λ r3.2 k39 v0 v1 v3 v4 r3.1 v2)
      else
        (jn_X12_ask_71 N Λ r3.2 k39 v0 v1 v3 v4 r3.1 v4)))
def lp_X12_ask_39 (N : Nat) (Λ : Lay) (v0 : Nat) (v1 : Int32) (s : Int32 × Int32 × Int32 × Mem) : Option (Int32 × Mem) := cw (fun k s => bd_X12_ask_39 N Λ (s.2.2.2) k v0 v1 s.1 s.2.1 s.2.2.1) N s
def jn_X12_ask_17 (N : Nat) (Λ : Lay) (μ : Mem) (v0 : Nat) (s0 : Nat) (s1 : Int32) : Option (Int32 × Mem) :=
  (m_X12_throwsIf N Λ μ s0 s1 1).bind fun r1 =>
  if r1.1 = 0 then
    ((m_X12_laysCurves N Λ r1.2 v0).bind fun r4 =>
    lp_X12_ask_39 N Λ v0 r4.1 ((-1), 100000000, 0, r4.2))
  else
    (some (0, r1.2))
def m_X12_ask (N : Nat) (Λ : Lay) (μ : Mem) (v0 : Nat) : Option (Int32 × Mem) :=
  (m_X12_uses N Λ μ v0).bind fun r1 =>
  (m_X12_isHeights N Λ r1 v0).bind fun r3 =>
  if r3 = 0 then
    (jn_X12_ask_17 N Λ r1 v0 v0 1)
  else
    (jn_X12_ask_17 N Λ r1 v0 v0 0)
def jn_X12_isTouched_71 (N : Nat) (Λ : Lay) (μ : Mem) (k26 : Int32 × Int32 → Option (Int32)) (v0 : Nat) (v2 : Int32) (s0 : Int32) : Option (Int32) :=
  lt (v2 + 2) fun y1 =>
  k26 (s0, y1)
def jn_X12_isTouched_70 (N : Nat) (Λ : Lay) (μ : Mem) (k26 : Int32 × Int32 → Option (Int32)) (v0 : Nat) (v2 : Int32) : Option (Int32) :=
  jn_X12_isTouched_71 N Λ μ k26 v0 v2 0
def jn_X12_isTouched_78 (N : Nat) (Λ : Lay) (μ : Mem) (v1 : Int32) : Option (Int32) :=
  gd (zb v1) <|
  some v1
def bd_X12_isTouched_26 (N : Nat) (Λ : Lay) (μ : Mem) (k26 : Int32 × Int32 → Option (Int32)) (v0 : Nat) (v1 : Int32) (v2 : Int32) : Option (Int32) :=
  if (μ.1 v0 11) ≤ v2 then
    (jn_X12_isTouched_78 N Λ μ v1)
  else
    (if v1 = 0 then
      (jn_X12_isTouched_78 N Λ μ v1)
    else
      ((dr Λ v0 8 12).bind fun q3 =>
      gd (inb v2 (aZ Λ q3)) <|
      (m_X12_noPlace N Λ μ (μ.1 q3 v2.toNatClampNeg)).bind fun r6 =>
      if r6 = 0 then
        ((dr Λ v0 8 12).bind fun q9 =>
        gd (inb (v2 + 1) (aZ Λ q9)) <|
        (m_X12_in N Λ μ (μ.1 q9 (v2 + 1).toNatClampNeg) 0 1).bind fun r12 =>
        if r12 = 0 then
          (jn_X12_isTouched_70 N Λ μ k26 v0 v2)
        else
          (jn_X12_isTouched_71 N Λ μ k26 v0 v2 1))
      else
        (jn_X12_isTouched_70 N Λ μ k26 v0 v2)))
def lp_X12_isTouched_26 (N : Nat) (Λ : Lay) (μ : Mem) (v0 : Nat) (s : Int32 × Int32) : Option (Int32) := cw (fun k s => bd_X12_isTouched_26 N Λ μ k v0 s.1 s.2) N s
def jn_X12_isTouched_23 (N : Nat) (Λ : Lay) (μ : Mem) (v0 : Nat) (s0 : Int32) : Option (Int32) :=
  lp_X12_isTouched_26 N Λ μ v0 (s0, 0)
def jn_X12_isTouched_22 (N : Nat) (Λ : Lay) (μ : Mem) (v0 : Nat) : Option (Int32) :=
  jn_X12_isTouched_23 N Λ μ v0 0
def m_X12_isTouched (N : Nat) (Λ : Lay) (μ : Mem) (v0 : Nat) : Option (Int32) :=
  if (irem (μ.1 v0 11) 2) = 0 then
    (if 40 < (μ.1 v0 11) then
      (jn_X12_isTouched_22 N Λ μ v0)
    else
      (jn_X12_isTouched_23 N Λ μ v0 1))
  else
    (jn_X12_isTouched_22 N Λ μ v0)
def m_X12_liesAt (N : Nat) (Λ : Lay) (μ : Mem) (v0 : Int32) : Option (Int32) :=
  (m_X12_run N Λ μ (v0 / 12) ((irem v0 12) + 1)).bind fun r1 =>
  some r1
def jn_X12_wrongRows_61 (N : Nat) (Λ : Lay) (μ : Mem) (k23 : Int32 × Int32 → Option (Int32)) (v0 : Nat) (v1 : Int32) (v3 : Int32) (s0 : Int32) (s1 : Int32) : Option (Int32) :=
  lt (s0 + s1) fun y1 =>
  lt (v3 + 2) fun y3 =>
  k23 (y1, y3)
def bd_X12_wrongRows_23 (N : Nat) (Λ : Lay) (μ : Mem) (k23 : Int32 × Int32 → Option (Int32)) (v0 : Nat) (v1 : Int32) (v2 : Int32) (v3 : Int32) : Option (Int32) :=
  if (μ.1 v0 11) ≤ v3 then
    (some v2)
  else
    ((m_X12_liesAt N Λ μ v1).bind fun r2 =>
    (dr Λ v0 8 12).bind fun q4 =>
    gd (inb v3 (aZ Λ q4)) <|
    (dr Λ v0 8 12).bind fun q7 =>
    gd (inb (v3 + 1) (aZ Λ q7)) <|
    if ((ishr r2 (μ.1 q4 v3.toNatClampNeg)) &&& 1) = (μ.1 q7 (v3 + 1).toNatClampNeg) then
      (jn_X12_wrongRows_61 N Λ μ k23 v0 v1 v3 v2 0)
    else
      (jn_X12_wrongRows_61 N Λ μ k23 v0 v1 v3 v2 1))
def lp_X12_wrongRows_23 (N : Nat) (Λ : Lay) (μ : Mem) (v0 : Nat) (v1 : Int32) (s : Int32 × Int32) : Option (Int32) := cw (fun k s => bd_X12_wrongRows_23 N Λ μ k v0 v1 s.1 s.2) N s
def m_X12_wrongRows (N : Nat) (Λ : Lay) (μ : Mem) (v0 : Nat) (v1 : Int32) : Option (Int32) :=
  if (((v1 / 12) + (irem v1 12)) + 1) ≤ 24 then
    (lp_X12_wrongRows_23 N Λ μ v0 v1 (0, 0))
  else
    (some 100000000)
def jn_X12_manyLies_42 (N : Nat) (Λ : Lay) (μ : Mem) (k4 : Int32 × Int32 → Option (Int32)) (v0 : Nat) (v1 : Int32) (v3 : Int32) (s0 : Int32) (s1 : Int32) : Option (Int32) :=
  lt (s0 + s1) fun y1 =>
  lt (v3 + 1) fun y3 =>
  k4 (y1, y3)
def jn_X12_manyLies_37 (N : Nat) (Λ : Lay) (μ : Mem) (k4 : Int32 × Int32 → Option (Int32)) (v0 : Nat) (v1 : Int32) (v3 : Int32) (s0 : Int32) : Option (Int32) :=
  jn_X12_manyLies_42 N Λ μ k4 v0 v1 v3 s0 1
def jn_X12_manyLies_41 (N : Nat) (Λ : Lay) (μ : Mem) (k4 : Int32 × Int32 → Option (Int32)) (v0 : Nat) (v1 : Int32) (v3 : Int32) (s0 : Int32) : Option (Int32) :=
  jn_X12_manyLies_42 N Λ μ k4 v0 v1 v3 s0 0
def bd_X12_manyLies_4 (N : Nat) (Λ : Lay) (μ : Mem) (k4 : Int32 × Int32 → Option (Int32)) (v0 : Nat) (v1 : Int32) (v2 : Int32) (v3 : Int32) : Option (Int32) :=
  if 288 ≤ v3 then
    (some v2)
  else
    ((m_X12_wrongRows N Λ μ v0 v3).bind fun r2 =>
    if 2 ≤ r2 then
      (jn_X12_manyLies_41 N Λ μ k4 v0 v1 v3 v2)
    else
      (if v1 = (-1) then
        (jn_X12_manyLies_37 N Λ μ k4 v0 v1 v3 v2)
      else
        ((m_X12_liesAt N Λ μ v3).bind fun r6 =>
        (m_X12_has N Λ μ r6 v1).bind fun r8 =>
        if r8 = 0 then
          (jn_X12_manyLies_41 N Λ μ k4 v0 v1 v3 v2)
        else
          (jn_X12_manyLies_37 N Λ μ k4 v0 v1 v3 v2))))
def lp_X12_manyLies_4 (N : Nat) (Λ : Lay) (μ : Mem) (v0 : Nat) (v1 : Int32) (s : Int32 × Int32) : Option (Int32) := cw (fun k s => bd_X12_manyLies_4 N Λ μ k v0 v1 s.1 s.2) N s
def m_X12_manyLies (N : Nat) (Λ : Lay) (μ : Mem) (v0 : Nat) (v1 : Int32) : Option (Int32) :=
  lp_X12_manyLies_4 N Λ μ v0 v1 (0, 0)
def jn_X12_lies_33 (N : Nat) (Λ : Lay) (μ : Mem) (s0 : Int32) : Option (Int32 × Mem) :=
  some (s0, μ)
def jn_X12_lies_17 (N : Nat) (Λ : Lay) (μ : Mem) (v0 : Nat) (s0 : Nat) (s1 : Int32) : Option (Int32 × Mem) :=
  (m_X12_throwsIf N Λ μ s0 s1 1).bind fun r1 =>
  if r1.1 = 0 then
    ((m_X12_manyLies N Λ r1.2 v0 (-1)).bind fun r4 =>
    jn_X12_lies_33 N Λ r1.2 r4)
  else
    (jn_X12_lies_33 N Λ r1.2 0)
def m_X12_lies (N : Nat) (Λ : Lay) (μ : Mem) (v0 : Nat) : Option (Int32 × Mem) :=
  (m_X12_uses N Λ μ v0).bind fun r1 =>
  (m_X12_isTouched N Λ r1 v0).bind fun r3 =>
  if r3 = 0 then
    (jn_X12_lies_17 N Λ r1 v0 v0 1)
  else
    (jn_X12_lies_17 N Λ r1 v0 v0 0)
def jn_X12_likely_57 (N : Nat) (Λ : Lay) (μ : Mem) (k32 : Int32 × Int32 × Int32 × Mem → Option (Int32 × Mem)) (v0 : Nat) (v2 : Int32) (v3 : Int32) (v4 : Int32) (s0 : Int32) : Option (Int32 × Mem) :=
  lt (imin v2 v4) fun y1 =>
  lt (v3 + 1) fun y3 =>
  k32 (s0, y1, y3, μ)
def bd_X12_likely_32 (N : Nat) (Λ : Lay) (μ : Mem) (k32 : Int32 × Int32 × Int32 × Mem → Option (Int32 × Mem)) (v0 : Nat) (v1 : Int32) (v2 : Int32) (v3 : Int32) : Option (Int32 × Mem) :=
  if 288 ≤ v3 then
    (some (v1, μ))
  else
    ((m_X12_wrongRows N Λ μ v0 v3).bind fun r2 =>
    if v2 ≤ r2 then
      (jn_X12_likely_57 N Λ μ k32 v0 v2 v3 r2 v1)
    else
      (jn_X12_likely_57 N Λ μ k32 v0 v2 v3 r2 v3))
def lp_X12_likely_32 (N : Nat) (Λ : Lay) (v0 : Nat) (s : Int32 × Int32 × Int32 × Mem) : Option (Int32 × Mem) := cw (fun k s => bd_X12_likely_32 N Λ (s.2.2.2) k v0 s.1 s.2.1 s.2.2.1) N s
def jn_X12_likely_17 (N : Nat) (Λ : Lay) (μ : Mem) (v0 : Nat) (s0 : Nat) (s1 : Int32) : Option (Int32 × Mem) :=
  (m_X12_throwsIf N Λ μ s0 s1 1).bind fun r1 =>
  if r1.1 = 0 then
    (lp_X12_likely_32 N Λ v0 ((-1), 2, 0, r1.2))
  else
    (some (0, r1.2))
def m_X12_likely (N : Nat) (Λ : Lay) (μ : Mem) (v0 : Nat) : Option (Int32 × Mem) :=
  (m_X12_uses N Λ μ v0).bind fun r1 =>
  (m_X12_isTouched N Λ r1 v0).bind fun r3 =>
  if r3 = 0 then
    (jn_X12_likely_17 N Λ r1 v0 v0 1)
  else
    (jn_X12_likely_17 N Λ r1 v0 v0 0)
def jn_X12_sound_83 (N : Nat) (Λ : Lay) (μ : Mem) (k40 : Int32 × Int32 × Int32 × Mem → Option (Int32 × Mem)) (v0 : Nat) (v1 : Int32) (v3 : Int32) (v4 : Int32) (v6 : Int32) (s0 : Int32) : Option (Int32 × Mem) :=
  lt (imin v3 v6) fun y1 =>
  lt (v4 + 1) fun y3 =>
  k40 (s0, y1, y3, μ)
def jn_X12_sound_97 (N : Nat) (Λ : Lay) (μ : Mem) (v2 : Int32) : Option (Int32 × Mem) :=
  some (v2, μ)
def bd_X12_sound_40 (N : Nat) (Λ : Lay) (μ : Mem) (k40 : Int32 × Int32 × Int32 × Mem → Option (Int32 × Mem)) (v0 : Nat) (v1 : Int32) (v2 : Int32) (v3 : Int32) (v4 : Int32) : Option (Int32 × Mem) :=
  if 24 ≤ v4 then
    (jn_X12_sound_97 N Λ μ v2)
  else
    (if v1 ≤ 1 then
      (jn_X12_sound_97 N Λ μ v2)
    else
      ((m_X12_manyLies N Λ μ v0 v4).bind fun r3 =>
      lt (imax r3 (v1 - r3)) fun y5 =>
      if v3 ≤ y5 then
        (jn_X12_sound_83 N Λ μ k40 v0 v1 v3 v4 y5 v2)
      else
        (jn_X12_sound_83 N Λ μ k40 v0 v1 v3 v4 y5 v4)))
def lp_X12_sound_40 (N : Nat) (Λ : Lay) (v0 : Nat) (v1 : Int32) (s : Int32 × Int32 × Int32 × Mem) : Option (Int32 × Mem) := cw (fun k s => bd_X12_sound_40 N Λ (s.2.2.2) k v0 v1 s.1 s.2.1 s.2.2.1) N s
def jn_X12_sound_17 (N : Nat) (Λ : Lay) (μ : Mem) (v0 : Nat) (s0 : Nat) (s1 : Int32) : Option (Int32 × Mem) :=
  (m_X12_throwsIf N Λ μ s0 s1 1).bind fun r1 =>
  if r1.1 = 0 then
    ((m_X12_manyLies N Λ r1.2 v0 (-1)).bind fun r4 =>
    lp_X12_sound_40 N Λ v0 r4 ((-1), 100000000, 0, r1.2))
  else
    (some (0, r1.2))
def m_X12_sound (N : Nat) (Λ : Lay) (μ : Mem) (v0 : Nat) : Option (Int32 × Mem) :=
  (m_X12_uses N Λ μ v0).bind fun r1 =>
  (m_X12_isTouched N Λ r1 v0).bind fun r3 =>
  if r3 = 0 then
    (jn_X12_sound_17 N Λ r1 v0 v0 1)
  else
    (jn_X12_sound_17 N Λ r1 v0 v0 0)
def bd_X12_laysWorth_22 (N : Nat) (Λ : Lay) (μ : Mem) (k2 : Int32 × Mem → Option (Mem)) (k13 : Int64 × Int32 × Mem → Option (Mem)) (k22 : Int64 × Int32 × Mem → Option (Mem)) (v0 : Nat) (v1 : Int32) (v2 : Int64) (v4 : Int32) (v5 : Int32) : Option (Mem) :=
  if v1 < (v5 + v4) then
    (lt (v4 + 1) fun y2 =>
    k13 (v2, y2, μ))
  else
    ((dr Λ v0 24 13).bind fun q4 =>
    gd (inb v5 (aZ Λ q4)) <|
    (dr Λ v0 24 13).bind fun q7 =>
    gd (inb ((v1 - v5) - v4) (aZ Λ q7)) <|
    lt (v2 ||| (1 <<< (Int32.toInt64 ((μ.1 q4 v5.toNatClampNeg) ^^^ (μ.1 q7 ((v1 - v5) - v4).toNatClampNeg)) &&& 63))) fun y10 =>
    lt (v5 + 1) fun y12 =>
    k22 (y10, y12, μ))
def lp_X12_laysWorth_22 (N : Nat) (Λ : Lay) (k2 : Int32 × Mem → Option (Mem)) (k13 : Int64 × Int32 × Mem → Option (Mem)) (v0 : Nat) (v1 : Int32) (v4 : Int32) (s : Int64 × Int32 × Mem) : Option (Mem) := cw (fun k s => bd_X12_laysWorth_22 N Λ (s.2.2) k2 k13 k v0 v1 s.1 v4 s.2.1) N s
def bd_X12_laysWorth_13 (N : Nat) (Λ : Lay) (μ : Mem) (k2 : Int32 × Mem → Option (Mem)) (k13 : Int64 × Int32 × Mem → Option (Mem)) (v0 : Nat) (v1 : Int32) (v2 : Int64) (v4 : Int32) : Option (Mem) :=
  if 2 < v4 then
    ((dr Λ v0 24 13).bind fun q2 =>
    (m_XG_ntz N Λ μ (v2 ^^^ (-1))).bind fun r4 =>
    gd (inb v1 (aZ Λ q2)) <|
    lt (mset μ q2 v1.toNatClampNeg r4) fun μ7 =>
    lt (v1 + 1) fun y9 =>
    k2 (y9, μ7))
  else
    (lp_X12_laysWorth_22 N Λ k2 k13 v0 v1 v4 (v2, 0, μ))
def lp_X12_laysWorth_13 (N : Nat) (Λ : Lay) (k2 : Int32 × Mem → Option (Mem)) (v0 : Nat) (v1 : Int32) (s : Int64 × Int32 × Mem) : Option (Mem) := cw (fun k s => bd_X12_laysWorth_13 N Λ (s.2.2) k2 k v0 v1 s.1 s.2.1) N s
def bd_X12_laysWorth_2 (N : Nat) (Λ : Lay) (μ : Mem) (k2 : Int32 × Mem → Option (Mem)) (v0 : Nat) (v1 : Int32) : Option (Mem) :=
  if 24 < v1 then
    (some μ)
  else
    (lp_X12_laysWorth_13 N Λ k2 v0 v1 (0, 1, μ))
def lp_X12_laysWorth_2 (N : Nat) (Λ : Lay) (v0 : Nat) (s : Int32 × Mem) : Option (Mem) := cw (fun k s => bd_X12_laysWorth_2 N Λ (s.2) k v0 s.1) N s
def m_X12_laysWorth (N : Nat) (Λ : Lay) (μ : Mem) (v0 : Nat) : Option (Mem) :=
  lp_X12_laysWorth_2 N Λ v0 (0, μ)
def jn_X12_worthOf_63 (N : Nat) (Λ : Lay) (μ : Mem) (k7 : Int32 × Int32 × Int32 → Option (Int32)) (v0 : Nat) (v1 : Int32) (v2 : Int32) (v4 : Int32) (s0 : Int32) : Option (Int32) :=
  lt (v4 + 1) fun y1 =>
  k7 (v2, s0, y1)
def jn_X12_worthOf_51 (N : Nat) (Λ : Lay) (μ : Mem) (k7 : Int32 × Int32 × Int32 → Option (Int32)) (v0 : Nat) (v1 : Int32) (v2 : Int32) (v3 : Int32) (v4 : Int32) (v5 : Int32) : Option (Int32) :=
  if v5 = 0 then
    (jn_X12_worthOf_63 N Λ μ k7 v0 v1 v2 v4 0)
  else
    (jn_X12_worthOf_63 N Λ μ k7 v0 v1 v2 v4 (v3 + 1))
def jn_X12_worthOf_35 (N : Nat) (Λ : Lay) (μ : Mem) (k7 : Int32 × Int32 × Int32 → Option (Int32)) (v0 : Nat) (v1 : Int32) (v2 : Int32) (v3 : Int32) (v4 : Int32) (s0 : Int32) : Option (Int32) :=
  if s0 = 0 then
    ((dr Λ v0 24 13).bind fun q2 =>
    gd (inb v3 (aZ Λ q2)) <|
    lt (v2 ^^^ (μ.1 q2 v3.toNatClampNeg)) fun y5 =>
    jn_X12_worthOf_51 N Λ μ k7 v0 v1 y5 v3 v4 s0)
  else
    (jn_X12_worthOf_51 N Λ μ k7 v0 v1 v2 v3 v4 s0)
def jn_X12_worthOf_34 (N : Nat) (Λ : Lay) (μ : Mem) (k7 : Int32 × Int32 × Int32 → Option (Int32)) (v0 : Nat) (v1 : Int32) (v2 : Int32) (v3 : Int32) (v4 : Int32) : Option (Int32) :=
  jn_X12_worthOf_35 N Λ μ k7 v0 v1 v2 v3 v4 0
def bd_X12_worthOf_7 (N : Nat) (Λ : Lay) (μ : Mem) (k7 : Int32 × Int32 × Int32 → Option (Int32)) (v0 : Nat) (v1 : Int32) (v2 : Int32) (v3 : Int32) (v4 : Int32) : Option (Int32) :=
  if 24 < v4 then
    (some v2)
  else
    (if 24 ≤ v4 then
      (jn_X12_worthOf_34 N Λ μ k7 v0 v1 v2 v3 v4)
    else
      ((m_X12_has N Λ μ v1 v4).bind fun r3 =>
      if r3 = 0 then
        (jn_X12_worthOf_34 N Λ μ k7 v0 v1 v2 v3 v4)
      else
        (jn_X12_worthOf_35 N Λ μ k7 v0 v1 v2 v3 v4 1)))
def lp_X12_worthOf_7 (N : Nat) (Λ : Lay) (μ : Mem) (v0 : Nat) (v1 : Int32) (s : Int32 × Int32 × Int32) : Option (Int32) := cw (fun k s => bd_X12_worthOf_7 N Λ μ k v0 v1 s.1 s.2.1 s.2.2) N s
def m_X12_worthOf (N : Nat) (Λ : Lay) (μ : Mem) (v0 : Nat) (v1 : Int32) : Option (Int32) :=
  lp_X12_worthOf_7 N Λ μ v0 v1 (0, 0, 0)
def jn_X12_knocks_28 (N : Nat) (Λ : Lay) (μ : Mem) (s0 : Int32) : Option (Int32 × Mem) :=
  gd (zb s0) <|
  some (s0, μ)
def m_X12_knocks (N : Nat) (Λ : Lay) (μ : Mem) (v0 : Nat) : Option (Int32 × Mem) :=
  lt (mset μ v0 0 0) fun μ1 =>
  (m_X12_laysWorth N Λ μ1 v0).bind fun r3 =>
  (dr Λ v0 1 13).bind fun q5 =>
  gd (inb 10 (aZ Λ q5)) <|
  (m_X12_worthOf N Λ r3 v0 (r3.1 q5 (10 : Int32).toNatClampNeg)).bind fun r8 =>
  if r8 = 0 then
    (jn_X12_knocks_28 N Λ r3 0)
  else
    (jn_X12_knocks_28 N Λ r3 1)
def jn_X12_knock_66 (N : Nat) (Λ : Lay) (μ : Mem) (k22 : Int32 × Int32 × Mem → Option (Int32 × Mem)) (v0 : Nat) (v1 : Int32) (v3 : Int32) (s0 : Int32) : Option (Int32 × Mem) :=
  lt (v3 + (-1)) fun y1 =>
  k22 (s0, y1, μ)
def jn_X12_knock_65 (N : Nat) (Λ : Lay) (μ : Mem) (k22 : Int32 × Int32 × Mem → Option (Int32 × Mem)) (v0 : Nat) (v1 : Int32) (v2 : Int32) (v3 : Int32) : Option (Int32 × Mem) :=
  jn_X12_knock_66 N Λ μ k22 v0 v1 v3 v2
def bd_X12_knock_22 (N : Nat) (Λ : Lay) (μ : Mem) (k22 : Int32 × Int32 × Mem → Option (Int32 × Mem)) (v0 : Nat) (v1 : Int32) (v2 : Int32) (v3 : Int32) : Option (Int32 × Mem) :=
  if v3 < 0 then
    (some (v2, μ))
  else
    ((m_X12_run N Λ μ (v3 / 2) ((irem v3 2) + 1)).bind fun r2 =>
    if (r2 &&& (v1 ^^^ (-1))) = 0 then
      ((m_X12_worthOf N Λ μ v0 (v1 &&& (r2 ^^^ (-1)))).bind fun r5 =>
      if r5 = 0 then
        (jn_X12_knock_66 N Λ μ k22 v0 v1 v3 v3)
      else
        (jn_X12_knock_65 N Λ μ k22 v0 v1 v2 v3))
    else
      (jn_X12_knock_65 N Λ μ k22 v0 v1 v2 v3))
def lp_X12_knock_22 (N : Nat) (Λ : Lay) (v0 : Nat) (v1 : Int32) (s : Int32 × Int32 × Mem) : Option (Int32 × Mem) := cw (fun k s => bd_X12_knock_22 N Λ (s.2.2) k v0 v1 s.1 s.2.1) N s
def m_X12_knock (N : Nat) (Λ : Lay) (μ : Mem) (v0 : Nat) : Option (Int32 × Mem) :=
  lt (mset μ v0 0 0) fun μ1 =>
  (m_X12_laysWorth N Λ μ1 v0).bind fun r3 =>
  (dr Λ v0 1 13).bind fun q5 =>
  gd (inb 10 (aZ Λ q5)) <|
  lt (r3.1 q5 (10 : Int32).toNatClampNeg) fun y8 =>
  lp_X12_knock_22 N Λ v0 y8 ((-1), 47, r3)
def m_X12_bedAt (N : Nat) (Λ : Lay) (μ : Mem) (v0 : Int32) (v1 : Int32) : Option (Int32) :=
  some ((25 * v0) + v1)
def jn_X12_bedIf_92 (N : Nat) (Λ : Lay) (μ : Mem) (s0 : Int32) : Option (Int32) :=
  some s0
def jn_X12_bedIf_55 (N : Nat) (Λ : Lay) (μ : Mem) (v0 : Nat) (v1 : Int32) (v3 : Int32) (s0 : Int32) : Option (Int32) :=
  if s0 = 0 then
    (jn_X12_bedIf_92 N Λ μ (-1))
  else
    ((m_X12_of N Λ μ v0 v1 0).bind fun r2 =>
    (dr Λ v0 25 13).bind fun q4 =>
    (m_X12_of N Λ μ v0 v1 0).bind fun r6 =>
    (m_X12_bedAt N Λ μ (v1 + 1) (v3 + r6)).bind fun r8 =>
    gd (inb r8 (aZ Λ q4)) <|
    jn_X12_bedIf_92 N Λ μ (r2 + (μ.1 q4 r8.toNatClampNeg)))
def jn_X12_bedIf_54 (N : Nat) (Λ : Lay) (μ : Mem) (v0 : Nat) (v1 : Int32) (v3 : Int32) : Option (Int32) :=
  jn_X12_bedIf_55 N Λ μ v0 v1 v3 0
def m_X12_bedIf (N : Nat) (Λ : Lay) (μ : Mem) (v0 : Nat) (v1 : Int32) (v2 : Int32) (v3 : Int32) : Option (Int32) :=
  if v3 = 24 then
    ((dr Λ v0 25 13).bind fun q13 =>
    (m_X12_bedAt N Λ μ (v1 + 1) v2).bind fun r15 =>
    gd (inb r15 (aZ Λ q13)) <|
    some (μ.1 q13 r15.toNatClampNeg))
  else
    ((m_X12_of N Λ μ v0 v1 3).bind fun r2 =>
    if r2 = 0 then
      (if v3 < v2 then
        (jn_X12_bedIf_54 N Λ μ v0 v1 v3)
      else
        ((m_X12_taken N Λ μ v0).bind fun r6 =>
        (m_X12_of N Λ μ v0 v1 0).bind fun r8 =>
        (m_X12_fitsIn N Λ μ r6 v3 r8).bind fun r10 =>
        if r10 = 0 then
          (jn_X12_bedIf_54 N Λ μ v0 v1 v3)
        else
          (jn_X12_bedIf_55 N Λ μ v0 v1 v3 1)))
    else
      (jn_X12_bedIf_54 N Λ μ v0 v1 v3))
def bd_X12_beds_86 (N : Nat) (Λ : Lay) (μ : Mem) (k68 : Int32 × Mem → Option (Int32 × Mem)) (k74 : Int32 × Mem → Option (Int32 × Mem)) (k86 : Int32 × Int32 × Mem → Option (Int32 × Mem)) (v0 : Nat) (v1 : Int32) (v2 : Int32) (v3 : Int32) (v4 : Int32) (v5 : Int32) : Option (Int32 × Mem) :=
  if 24 < v5 then
    ((dr Λ v0 25 13).bind fun q2 =>
    (m_X12_bedAt N Λ μ v2 v3).bind fun r4 =>
    gd (inb r4 (aZ Λ q2)) <|
    lt (mset μ q2 r4.toNatClampNeg v4) fun μ7 =>
    lt (v3 + 1) fun y9 =>
    k74 (y9, μ7))
  else
    ((m_X12_bedIf N Λ μ v0 v2 v3 v5).bind fun r11 =>
    lt (imax v4 r11) fun y13 =>
    lt (v5 + 1) fun y15 =>
    k86 (y13, y15, μ))
def lp_X12_beds_86 (N : Nat) (Λ : Lay) (k68 : Int32 × Mem → Option (Int32 × Mem)) (k74 : Int32 × Mem → Option (Int32 × Mem)) (v0 : Nat) (v1 : Int32) (v2 : Int32) (v3 : Int32) (s : Int32 × Int32 × Mem) : Option (Int32 × Mem) := cw (fun k s => bd_X12_beds_86 N Λ (s.2.2) k68 k74 k v0 v1 v2 v3 s.1 s.2.1) N s
def bd_X12_beds_74 (N : Nat) (Λ : Lay) (μ : Mem) (k68 : Int32 × Mem → Option (Int32 × Mem)) (k74 : Int32 × Mem → Option (Int32 × Mem)) (v0 : Nat) (v1 : Int32) (v2 : Int32) (v3 : Int32) : Option (Int32 × Mem) :=
  if 24 < v3 then
    (lt (v2 + (-1)) fun y2 =>
    k68 (y2, μ))
  else
    (lp_X12_beds_86 N Λ k68 k74 v0 v1 v2 v3 (0, 0, μ))
def lp_X12_beds_74 (N : Nat) (Λ : Lay) (k68 : Int32 × Mem → Option (Int32 × Mem)) (v0 : Nat) (v1 : Int32) (v2 : Int32) (s : Int32 × Mem) : Option (Int32 × Mem) := cw (fun k s => bd_X12_beds_74 N Λ (s.2) k68 k v0 v1 v2 s.1) N s
def jn_X12_beds_212 (N : Nat) (Λ : Lay) (μ : Mem) (k157 : Int32 × Int32 × Int32 × Mem → Option (Int32 × Mem)) (v0 : Nat) (v1 : Int32) (v3 : Int32) (v4 : Int32) (s0 : Int32) : Option (Int32 × Mem) :=
  lt (v4 + 1) fun y1 =>
  k157 (s0, v3, y1, μ)
def bd_X12_beds_165 (N : Nat) (Λ : Lay) (μ : Mem) (k157 : Int32 × Int32 × Int32 × Mem → Option (Int32 × Mem)) (k165 : Int32 × Mem → Option (Int32 × Mem)) (v0 : Nat) (v1 : Int32) (v2 : Int32) (v3 : Int32) (v4 : Int32) : Option (Int32 × Mem) :=
  (m_X12_bedIf N Λ μ v0 v4 v2 v3).bind fun r1 =>
  (dr Λ v0 25 13).bind fun q3 =>
  (m_X12_bedAt N Λ μ v4 v2).bind fun r5 =>
  gd (inb r5 (aZ Λ q3)) <|
  if r1 = (μ.1 q3 r5.toNatClampNeg) then
    (if v3 = 24 then
      (jn_X12_beds_212 N Λ μ k157 v0 v1 v3 v4 v2)
    else
      ((m_X12_of N Λ μ v0 v4 0).bind fun r10 =>
      jn_X12_beds_212 N Λ μ k157 v0 v1 v3 v4 (v3 + r10)))
  else
    (lt (v3 + 1) fun y12 =>
    k165 (y12, μ))
def lp_X12_beds_165 (N : Nat) (Λ : Lay) (k157 : Int32 × Int32 × Int32 × Mem → Option (Int32 × Mem)) (v0 : Nat) (v1 : Int32) (v2 : Int32) (v4 : Int32) (s : Int32 × Mem) : Option (Int32 × Mem) := cw (fun k s => bd_X12_beds_165 N Λ (s.2) k157 k v0 v1 v2 s.1 v4) N s
def jn_X12_beds_230 (N : Nat) (Λ : Lay) (μ : Mem) (s0 : Int32) : Option (Int32 × Mem) :=
  some (s0, μ)
def bd_X12_beds_157 (N : Nat) (Λ : Lay) (μ : Mem) (k157 : Int32 × Int32 × Int32 × Mem → Option (Int32 × Mem)) (v0 : Nat) (v1 : Int32) (v2 : Int32) (v3 : Int32) (v4 : Int32) : Option (Int32 × Mem) :=
  if v1 < v4 then
    (if v3 = 24 then
      (jn_X12_beds_230 N Λ μ (-1))
    else
      (jn_X12_beds_230 N Λ μ v3))
  else
    (lp_X12_beds_165 N Λ k157 v0 v1 v2 v4 (0, μ))
def lp_X12_beds_157 (N : Nat) (Λ : Lay) (v0 : Nat) (v1 : Int32) (s : Int32 × Int32 × Int32 × Mem) : Option (Int32 × Mem) := cw (fun k s => bd_X12_beds_157 N Λ (s.2.2.2) k v0 v1 s.1 s.2.1 s.2.2.1) N s
def bd_X12_beds_68 (N : Nat) (Λ : Lay) (μ : Mem) (k68 : Int32 × Mem → Option (Int32 × Mem)) (v0 : Nat) (v1 : Int32) (v2 : Int32) : Option (Int32 × Mem) :=
  if v2 < 0 then
    (if v1 = (-1) then
      ((dr Λ v0 25 13).bind fun q3 =>
      gd (inb 0 (aZ Λ q3)) <|
      some (μ.1 q3 (0 : Int32).toNatClampNeg, μ))
    else
      (lp_X12_beds_157 N Λ v0 v1 (0, 0, 0, μ)))
  else
    (lp_X12_beds_74 N Λ k68 v0 v1 v2 (0, μ))
def lp_X12_beds_68 (N : Nat) (Λ : Lay) (v0 : Nat) (v1 : Int32) (s : Int32 × Mem) : Option (Int32 × Mem) := cw (fun k s => bd_X12_beds_68 N Λ (s.2) k v0 v1 s.1) N s
def bd_X12_beds_35 (N : Nat) (Λ : Lay) (μ : Mem) (k35 : Int32 × Mem → Option (Int32 × Mem)) (v0 : Nat) (v1 : Int32) (v2 : Int32) : Option (Int32 × Mem) :=
  if 24 < v2 then
    ((m_X12_ships N Λ μ v0).bind fun r2 =>
    lt (r2 - 1) fun y4 =>
    lp_X12_beds_68 N Λ v0 v1 (y4, μ))
  else
    ((dr Λ v0 25 13).bind fun q6 =>
    (m_X12_ships N Λ μ v0).bind fun r8 =>
    (m_X12_bedAt N Λ μ r8 v2).bind fun r10 =>
    gd (inb r10 (aZ Λ q6)) <|
    lt (mset μ q6 r10.toNatClampNeg 0) fun μ13 =>
    lt (v2 + 1) fun y15 =>
    k35 (y15, μ13))
def lp_X12_beds_35 (N : Nat) (Λ : Lay) (v0 : Nat) (v1 : Int32) (s : Int32 × Mem) : Option (Int32 × Mem) := cw (fun k s => bd_X12_beds_35 N Λ (s.2) k v0 v1 s.1) N s
def jn_X12_beds_24 (N : Nat) (Λ : Lay) (μ : Mem) (v0 : Nat) (v1 : Int32) (s0 : Nat) (s1 : Int32) : Option (Int32 × Mem) :=
  (m_X12_throwsIf N Λ μ s0 s1 1).bind fun r1 =>
  if r1.1 = 0 then
    (lp_X12_beds_35 N Λ v0 v1 (0, r1.2))
  else
    (some (0, r1.2))
def jn_X12_beds_23 (N : Nat) (Λ : Lay) (μ : Mem) (v0 : Nat) (v1 : Int32) (s0 : Nat) : Option (Int32 × Mem) :=
  jn_X12_beds_24 N Λ μ v0 v1 s0 0
def m_X12_beds (N : Nat) (Λ : Lay) (μ : Mem) (v0 : Nat) (v1 : Int32) : Option (Int32 × Mem) :=
  lt (mset μ v0 0 0) fun μ1 =>
  if v1 = (-1) then
    (jn_X12_beds_23 N Λ μ1 v0 v1 v0)
  else
    ((m_X12_noShip N Λ μ1 v0 v1).bind fun r4 =>
    if r4 = 0 then
      (jn_X12_beds_23 N Λ μ1 v0 v1 v0)
    else
      (jn_X12_beds_24 N Λ μ1 v0 v1 v0 1))
def m_X12_firstOf (N : Nat) (Λ : Lay) (μ : Mem) (v0 : Int32) : Option (Int32) :=
  (m_XI_ntz N Λ μ v0).bind fun r1 =>
  some r1
def jn_X12_canPair_43 (N : Nat) (Λ : Lay) (μ : Mem) (s0 : Int32) : Option (Int32) :=
  gd (zb s0) <|
  some s0
def jn_X12_canPair_42 (N : Nat) (Λ : Lay) (μ : Mem) : Option (Int32) :=
  jn_X12_canPair_43 N Λ μ 0
def m_X12_canPair (N : Nat) (Λ : Lay) (μ : Mem) (v0 : Nat) (v1 : Int32) (v2 : Int32) : Option (Int32) :=
  (m_X12_of N Λ μ v0 v1 3).bind fun r1 =>
  if r1 = 2 then
    (jn_X12_canPair_42 N Λ μ)
  else
    ((m_X12_of N Λ μ v0 v2 3).bind fun r4 =>
    if r4 = 2 then
      (jn_X12_canPair_42 N Λ μ)
    else
      ((m_X12_of N Λ μ v0 v1 0).bind fun r7 =>
      (m_X12_of N Λ μ v0 v2 0).bind fun r9 =>
      if 12 < (r7 + r9) then
        (jn_X12_canPair_42 N Λ μ)
      else
        (jn_X12_canPair_43 N Λ μ 1)))
def jn_X12_pairedBy_76 (N : Nat) (Λ : Lay) (μ : Mem) (s0 : Int32) : Option (Int32) :=
  some s0
def jn_X12_pairedBy_75 (N : Nat) (Λ : Lay) (μ : Mem) : Option (Int32) :=
  jn_X12_pairedBy_76 N Λ μ (-1)
def m_X12_pairedBy (N : Nat) (Λ : Lay) (μ : Mem) (v0 : Nat) (v1 : Int32) (v2 : Int32) : Option (Int32) :=
  (m_X12_firstOf N Λ μ v1).bind fun r1 =>
  lt (v1 &&& ((ishl 1 r1) ^^^ (-1))) fun y3 =>
  if v2 = (-1) then
    ((dr Λ v0 26 13).bind fun q19 =>
    gd (inb y3 (aZ Λ q19)) <|
    some (μ.1 q19 y3.toNatClampNeg))
  else
    ((m_X12_has N Λ μ y3 v2).bind fun r6 =>
    if r6 = 0 then
      (jn_X12_pairedBy_75 N Λ μ)
    else
      ((m_X12_canPair N Λ μ v0 r1 v2).bind fun r9 =>
      if r9 = 0 then
        (jn_X12_pairedBy_75 N Λ μ)
      else
        ((m_X12_of N Λ μ v0 r1 2).bind fun r12 =>
        (m_X12_of N Λ μ v0 v2 2).bind fun r14 =>
        (dr Λ v0 26 13).bind fun q16 =>
        gd (inb (y3 &&& ((ishl 1 v2) ^^^ (-1))) (aZ Λ q16)) <|
        jn_X12_pairedBy_76 N Λ μ ((r12 + r14) + (μ.1 q16 (y3 &&& ((ishl 1 v2) ^^^ (-1))).toNatClampNeg)))))
def bd_X12_laysPairs_23 (N : Nat) (Λ : Lay) (μ : Mem) (k9 : Int32 × Mem → Option (Mem)) (k23 : Int32 × Int32 × Mem → Option (Mem)) (v0 : Nat) (v1 : Int32) (v2 : Int32) (v3 : Int32) : Option (Mem) :=
  (m_X12_ships N Λ μ v0).bind fun r1 =>
  if r1 ≤ v3 then
    ((dr Λ v0 26 13).bind fun q4 =>
    gd (inb v1 (aZ Λ q4)) <|
    lt (mset μ q4 v1.toNatClampNeg v2) fun μ7 =>
    lt (v1 + 1) fun y9 =>
    k9 (y9, μ7))
  else
    ((m_X12_pairedBy N Λ μ v0 v1 v3).bind fun r11 =>
    lt (imax v2 r11) fun y13 =>
    lt (v3 + 1) fun y15 =>
    k23 (y13, y15, μ))
def lp_X12_laysPairs_23 (N : Nat) (Λ : Lay) (k9 : Int32 × Mem → Option (Mem)) (v0 : Nat) (v1 : Int32) (s : Int32 × Int32 × Mem) : Option (Mem) := cw (fun k s => bd_X12_laysPairs_23 N Λ (s.2.2) k9 k v0 v1 s.1 s.2.1) N s
def bd_X12_laysPairs_9 (N : Nat) (Λ : Lay) (μ : Mem) (k9 : Int32 × Mem → Option (Mem)) (v0 : Nat) (v1 : Int32) : Option (Mem) :=
  (m_X12_ships N Λ μ v0).bind fun r1 =>
  if (ishl 1 r1) ≤ v1 then
    (some μ)
  else
    (lp_X12_laysPairs_23 N Λ k9 v0 v1 (0, (-1), μ))
def lp_X12_laysPairs_9 (N : Nat) (Λ : Lay) (v0 : Nat) (s : Int32 × Mem) : Option (Mem) := cw (fun k s => bd_X12_laysPairs_9 N Λ (s.2) k v0 s.1) N s
def m_X12_laysPairs (N : Nat) (Λ : Lay) (μ : Mem) (v0 : Nat) : Option (Mem) :=
  (dr Λ v0 26 13).bind fun q1 =>
  gd (inb 0 (aZ Λ q1)) <|
  lt (mset μ q1 (0 : Int32).toNatClampNeg 0) fun μ4 =>
  lp_X12_laysPairs_9 N Λ v0 (1, μ4)
def jn_X12_pairs_159 (N : Nat) (Λ : Lay) (μ : Mem) (k63 : Int32 × Int32 × Int32 × Mem → Option (Int32 × Mem)) (v0 : Nat) (v1 : Int32) (v3 : Int32) (v4 : Int32) (s0 : Int32) : Option (Int32 × Mem) :=
  k63 (s0, v3, v4, μ)
def jn_X12_pairs_131 (N : Nat) (Λ : Lay) (μ : Mem) (k63 : Int32 × Int32 × Int32 × Mem → Option (Int32 × Mem)) (v0 : Nat) (v1 : Int32) (v2 : Int32) (v4 : Int32) (v5 : Int32) (v6 : Int32) (s0 : Int32) : Option (Int32 × Mem) :=
  lt (v2 &&& ((ishl 1 v5) ^^^ (-1))) fun y1 =>
  if v6 = (-1) then
    (jn_X12_pairs_159 N Λ μ k63 v0 v1 s0 v4 y1)
  else
    (jn_X12_pairs_159 N Λ μ k63 v0 v1 s0 v4 (y1 &&& ((ishl 1 v6) ^^^ (-1))))
def jn_X12_pairs_116 (N : Nat) (Λ : Lay) (μ : Mem) (k63 : Int32 × Int32 × Int32 × Mem → Option (Int32 × Mem)) (v0 : Nat) (v1 : Int32) (v2 : Int32) (v5 : Int32) (v6 : Int32) (s0 : Int32) : Option (Int32 × Mem) :=
  if v5 = v1 then
    (jn_X12_pairs_131 N Λ μ k63 v0 v1 v2 s0 v5 v6 v6)
  else
    (jn_X12_pairs_131 N Λ μ k63 v0 v1 v2 s0 v5 v6 v5)
def jn_X12_pairs_111 (N : Nat) (Λ : Lay) (μ : Mem) (k63 : Int32 × Int32 × Int32 × Mem → Option (Int32 × Mem)) (v0 : Nat) (v1 : Int32) (v2 : Int32) (v5 : Int32) (v6 : Int32) : Option (Int32 × Mem) :=
  jn_X12_pairs_116 N Λ μ k63 v0 v1 v2 v5 v6 1
def bd_X12_pairs_77 (N : Nat) (Λ : Lay) (μ : Mem) (k63 : Int32 × Int32 × Int32 × Mem → Option (Int32 × Mem)) (k77 : Int32 × Mem → Option (Int32 × Mem)) (v0 : Nat) (v1 : Int32) (v2 : Int32) (v5 : Int32) (v6 : Int32) : Option (Int32 × Mem) :=
  (m_X12_pairedBy N Λ μ v0 v2 v6).bind fun r1 =>
  (dr Λ v0 26 13).bind fun q3 =>
  gd (inb v2 (aZ Λ q3)) <|
  if r1 = (μ.1 q3 v2.toNatClampNeg) then
    (if v5 = v1 then
      (jn_X12_pairs_111 N Λ μ k63 v0 v1 v2 v5 v6)
    else
      (if v6 = v1 then
        (jn_X12_pairs_111 N Λ μ k63 v0 v1 v2 v5 v6)
      else
        (jn_X12_pairs_116 N Λ μ k63 v0 v1 v2 v5 v6 0)))
  else
    (lt (v6 + 1) fun y9 =>
    k77 (y9, μ))
def lp_X12_pairs_77 (N : Nat) (Λ : Lay) (k63 : Int32 × Int32 × Int32 × Mem → Option (Int32 × Mem)) (v0 : Nat) (v1 : Int32) (v2 : Int32) (v5 : Int32) (s : Int32 × Mem) : Option (Int32 × Mem) := cw (fun k s => bd_X12_pairs_77 N Λ (s.2) k63 k v0 v1 v2 v5 s.1) N s
def bd_X12_pairs_63 (N : Nat) (Λ : Lay) (μ : Mem) (k63 : Int32 × Int32 × Int32 × Mem → Option (Int32 × Mem)) (v0 : Nat) (v1 : Int32) (v2 : Int32) (v3 : Int32) (v4 : Int32) : Option (Int32 × Mem) :=
  if v4 = 0 then
    ((m_X12_firstOf N Λ μ v2).bind fun r2 =>
    lp_X12_pairs_77 N Λ k63 v0 v1 v2 r2 ((-1), μ))
  else
    (some (v3, μ))
def lp_X12_pairs_63 (N : Nat) (Λ : Lay) (v0 : Nat) (v1 : Int32) (s : Int32 × Int32 × Int32 × Mem) : Option (Int32 × Mem) := cw (fun k s => bd_X12_pairs_63 N Λ (s.2.2.2) k v0 v1 s.1 s.2.1 s.2.2.1) N s
def jn_X12_pairs_24 (N : Nat) (Λ : Lay) (μ : Mem) (v0 : Nat) (v1 : Int32) (s0 : Nat) (s1 : Int32) : Option (Int32 × Mem) :=
  (m_X12_throwsIf N Λ μ s0 s1 1).bind fun r1 =>
  if r1.1 = 0 then
    ((m_X12_laysPairs N Λ r1.2 v0).bind fun r4 =>
    (m_X12_ships N Λ r4 v0).bind fun r6 =>
    lt ((ishl 1 r6) - 1) fun y8 =>
    if v1 = (-1) then
      ((dr Λ v0 26 13).bind fun q11 =>
      gd (inb y8 (aZ Λ q11)) <|
      some (r4.1 q11 y8.toNatClampNeg, r4))
    else
      (lp_X12_pairs_63 N Λ v0 v1 (y8, (-1), 0, r4)))
  else
    (some (0, r1.2))
def jn_X12_pairs_23 (N : Nat) (Λ : Lay) (μ : Mem) (v0 : Nat) (v1 : Int32) (s0 : Nat) : Option (Int32 × Mem) :=
  jn_X12_pairs_24 N Λ μ v0 v1 s0 0
def m_X12_pairs (N : Nat) (Λ : Lay) (μ : Mem) (v0 : Nat) (v1 : Int32) : Option (Int32 × Mem) :=
  lt (mset μ v0 0 0) fun μ1 =>
  if v1 = (-1) then
    (jn_X12_pairs_23 N Λ μ1 v0 v1 v0)
  else
    ((m_X12_noShip N Λ μ1 v0 v1).bind fun r4 =>
    if r4 = 0 then
      (jn_X12_pairs_23 N Λ μ1 v0 v1 v0)
    else
      (jn_X12_pairs_24 N Λ μ1 v0 v1 v0 1))
def jn_X12_masterHas_19 (N : Nat) (Λ : Lay) (μ : Mem) (s0 : Int32) : Option (Int32) :=
  some s0
def jn_X12_masterHas_41 (N : Nat) (Λ : Lay) (μ : Mem) (s0 : Int32) : Option (Int32) :=
  some s0
def m_X12_masterHas (N : Nat) (Λ : Lay) (μ : Mem) (v0 : Nat) (v1 : Int32) (v2 : Int32) (v3 : Int32) : Option (Int32) :=
  if v2 = 0 then
    (if v3 = 0 then
      ((m_X12_of N Λ μ v0 v1 0).bind fun r9 =>
      jn_X12_masterHas_19 N Λ μ r9)
    else
      (jn_X12_masterHas_19 N Λ μ (-3)))
  else
    (if v3 = 0 then
      ((m_X12_of N Λ μ v0 v1 1).bind fun r6 =>
      jn_X12_masterHas_41 N Λ μ (-r6))
    else
      ((dr Λ v0 1 13).bind fun q3 =>
      gd (inb 6 (aZ Λ q3)) <|
      jn_X12_masterHas_41 N Λ μ (μ.1 q3 (6 : Int32).toNatClampNeg)))
def jn_X12_pilotHas_13 (N : Nat) (Λ : Lay) (μ : Mem) (s0 : Int32) : Option (Int32) :=
  some s0
def jn_X12_pilotHas_23 (N : Nat) (Λ : Lay) (μ : Mem) (s0 : Int32) : Option (Int32) :=
  some s0
def m_X12_pilotHas (N : Nat) (Λ : Lay) (μ : Mem) (v0 : Int32) (v1 : Int32) : Option (Int32) :=
  if v0 = 0 then
    (if v1 = 0 then
      (jn_X12_pilotHas_13 N Λ μ 2)
    else
      (jn_X12_pilotHas_13 N Λ μ 1))
  else
    (if v1 = 0 then
      (jn_X12_pilotHas_23 N Λ μ (-1))
    else
      (jn_X12_pilotHas_23 N Λ μ 1))
def jn_X12_rests_89 (N : Nat) (Λ : Lay) (μ : Mem) (k24 : Int32 × Int32 × Mem → Option (Int32 × Mem)) (k32 : Int32 × Int32 × Mem → Option (Int32 × Mem)) (v0 : Nat) (v1 : Int32) (v3 : Int32) (v4 : Int32) (s0 : Int32) (s1 : Int32) : Option (Int32 × Mem) :=
  lt (s0 ||| s1) fun y1 =>
  lt (v4 + 1) fun y3 =>
  k32 (y1, y3, μ)
def jn_X12_rests_88 (N : Nat) (Λ : Lay) (μ : Mem) (k24 : Int32 × Int32 × Mem → Option (Int32 × Mem)) (k32 : Int32 × Int32 × Mem → Option (Int32 × Mem)) (v0 : Nat) (v1 : Int32) (v3 : Int32) (v4 : Int32) (s0 : Int32) : Option (Int32 × Mem) :=
  jn_X12_rests_89 N Λ μ k24 k32 v0 v1 v3 v4 s0 0
def bd_X12_rests_32 (N : Nat) (Λ : Lay) (μ : Mem) (k24 : Int32 × Int32 × Mem → Option (Int32 × Mem)) (k32 : Int32 × Int32 × Mem → Option (Int32 × Mem)) (v0 : Nat) (v1 : Int32) (v2 : Int32) (v3 : Int32) (v4 : Int32) : Option (Int32 × Mem) :=
  if 2 ≤ v4 then
    (lt (v3 + 1) fun y2 =>
    k24 (v2, y2, μ))
  else
    ((m_X12_masterHas N Λ μ v0 v1 v3 v4).bind fun r4 =>
    (m_X12_masterHas N Λ μ v0 v1 (1 - v3) v4).bind fun r6 =>
    if r4 < r6 then
      (jn_X12_rests_88 N Λ μ k24 k32 v0 v1 v3 v4 v2)
    else
      ((m_X12_pilotHas N Λ μ v3 v4).bind fun r9 =>
      (m_X12_pilotHas N Λ μ v3 (1 - v4)).bind fun r11 =>
      if r9 < r11 then
        (jn_X12_rests_88 N Λ μ k24 k32 v0 v1 v3 v4 v2)
      else
        (jn_X12_rests_89 N Λ μ k24 k32 v0 v1 v3 v4 v2 (ishl 1 ((2 * v3) + v4)))))
def lp_X12_rests_32 (N : Nat) (Λ : Lay) (k24 : Int32 × Int32 × Mem → Option (Int32 × Mem)) (v0 : Nat) (v1 : Int32) (v3 : Int32) (s : Int32 × Int32 × Mem) : Option (Int32 × Mem) := cw (fun k s => bd_X12_rests_32 N Λ (s.2.2) k24 k v0 v1 s.1 v3 s.2.1) N s
def bd_X12_rests_24 (N : Nat) (Λ : Lay) (μ : Mem) (k24 : Int32 × Int32 × Mem → Option (Int32 × Mem)) (v0 : Nat) (v1 : Int32) (v2 : Int32) (v3 : Int32) : Option (Int32 × Mem) :=
  if 2 ≤ v3 then
    (some (v2, μ))
  else
    (lp_X12_rests_32 N Λ k24 v0 v1 v3 (v2, 0, μ))
def lp_X12_rests_24 (N : Nat) (Λ : Lay) (v0 : Nat) (v1 : Int32) (s : Int32 × Int32 × Mem) : Option (Int32 × Mem) := cw (fun k s => bd_X12_rests_24 N Λ (s.2.2) k v0 v1 s.1 s.2.1) N s
def m_X12_rests (N : Nat) (Λ : Lay) (μ : Mem) (v0 : Nat) (v1 : Int32) : Option (Int32 × Mem) :=
  lt (mset μ v0 0 0) fun μ1 =>
  (m_X12_noShip N Λ μ1 v0 v1).bind fun r3 =>
  (m_X12_throwsIf N Λ μ1 v0 r3 1).bind fun r5 =>
  if r5.1 = 0 then
    (lp_X12_rests_24 N Λ v0 v1 (0, 0, r5.2))
  else
    (some (0, r5.2))
def jn_X12_odds_65 (N : Nat) (Λ : Lay) (μ : Mem) (k43 : Int32 × Mem → Option (Int32 × Mem)) (v0 : Nat) (v1 : Int32) (v2 : Int32) (v3 : Int64) (v5 : Int32) (s0 : Nat) (s1 : Int32) (s2 : Int64) : Option (Int32 × Mem) :=
  gd (inb s1 (aZ Λ s0)) <|
  lt (msetL μ s0 s1.toNatClampNeg s2) fun μ2 =>
  lt (v5 + 1) fun y4 =>
  k43 (y4, μ2)
def jn_X12_odds_124 (N : Nat) (Λ : Lay) (μ : Mem) (k75 : Int64 × Int32 × Mem → Option (Int32 × Mem)) (k84 : Int32 × Mem → Option (Int32 × Mem)) (v0 : Nat) (v1 : Int32) (v2 : Int32) (v3 : Int64) (v5 : Int32) (v6 : Int32) (s0 : Nat) (s1 : Int32) (s2 : Int64) (s3 : Int64) : Option (Int32 × Mem) :=
  gd (inb s1 (aZ Λ s0)) <|
  lt (msetL μ s0 s1.toNatClampNeg (s2 + s3)) fun μ2 =>
  lt (v6 + (-1)) fun y4 =>
  k84 (y4, μ2)
def bd_X12_odds_84 (N : Nat) (Λ : Lay) (μ : Mem) (k75 : Int64 × Int32 × Mem → Option (Int32 × Mem)) (k84 : Int32 × Mem → Option (Int32 × Mem)) (v0 : Nat) (v1 : Int32) (v2 : Int32) (v3 : Int64) (v5 : Int32) (v6 : Int32) : Option (Int32 × Mem) :=
  if v6 < 0 then
    ((dr Λ v0 1 13).bind fun q2 =>
    gd (inb 7 (aZ Λ q2)) <|
    lt (v3 * (Int32.toInt64 ((μ.1 q2 (7 : Int32).toNatClampNeg) + 1))) fun y5 =>
    lt (v5 + 1) fun y7 =>
    k75 (y5, y7, μ))
  else
    ((dr Λ v0 27 14).bind fun q9 =>
    gd (inb v6 (aZ Λ q9)) <|
    if v6 = 0 then
      (jn_X12_odds_124 N Λ μ k75 k84 v0 v1 v2 v3 v5 v6 q9 v6 (μ.2 q9 v6.toNatClampNeg) 0)
    else
      ((dr Λ v0 27 14).bind fun q13 =>
      gd (inb (v6 - 1) (aZ Λ q13)) <|
      (dr Λ v0 1 13).bind fun q16 =>
      gd (inb 7 (aZ Λ q16)) <|
      jn_X12_odds_124 N Λ μ k75 k84 v0 v1 v2 v3 v5 v6 q9 v6 (μ.2 q9 v6.toNatClampNeg) ((μ.2 q13 (v6 - 1).toNatClampNeg) * (Int32.toInt64 (μ.1 q16 (7 : Int32).toNatClampNeg)))))
def lp_X12_odds_84 (N : Nat) (Λ : Lay) (k75 : Int64 × Int32 × Mem → Option (Int32 × Mem)) (v0 : Nat) (v1 : Int32) (v2 : Int32) (v3 : Int64) (v5 : Int32) (s : Int32 × Mem) : Option (Int32 × Mem) := cw (fun k s => bd_X12_odds_84 N Λ (s.2) k75 k v0 v1 v2 v3 v5 s.1) N s
def bd_X12_odds_157 (N : Nat) (Λ : Lay) (μ : Mem) (k157 : Int64 × Int32 × Mem → Option (Int32 × Mem)) (v0 : Nat) (v3 : Int64) (v5 : Int64) (v7 : Int32) : Option (Int32 × Mem) :=
  if 5 < v7 then
    (gd (decide (¬ v3 = 0)) <|
    some (Int64.toInt32 ((10000 * v5) / v3), μ))
  else
    ((dr Λ v0 27 14).bind fun q3 =>
    gd (inb v7 (aZ Λ q3)) <|
    lt (v5 + (μ.2 q3 v7.toNatClampNeg)) fun y6 =>
    lt (v7 + 1) fun y8 =>
    k157 (y6, y8, μ))
def lp_X12_odds_157 (N : Nat) (Λ : Lay) (v0 : Nat) (v3 : Int64) (s : Int64 × Int32 × Mem) : Option (Int32 × Mem) := cw (fun k s => bd_X12_odds_157 N Λ (s.2.2) k v0 v3 s.1 s.2.1) N s
def bd_X12_odds_75 (N : Nat) (Λ : Lay) (μ : Mem) (k75 : Int64 × Int32 × Mem → Option (Int32 × Mem)) (v0 : Nat) (v1 : Int32) (v2 : Int32) (v3 : Int64) (v5 : Int32) : Option (Int32 × Mem) :=
  if v1 ≤ v5 then
    (lp_X12_odds_157 N Λ v0 v3 (0, v2, μ))
  else
    (lp_X12_odds_84 N Λ k75 v0 v1 v2 v3 v5 (5, μ))
def lp_X12_odds_75 (N : Nat) (Λ : Lay) (v0 : Nat) (v1 : Int32) (v2 : Int32) (s : Int64 × Int32 × Mem) : Option (Int32 × Mem) := cw (fun k s => bd_X12_odds_75 N Λ (s.2.2) k v0 v1 v2 s.1 s.2.1) N s
def bd_X12_odds_43 (N : Nat) (Λ : Lay) (μ : Mem) (k43 : Int32 × Mem → Option (Int32 × Mem)) (v0 : Nat) (v1 : Int32) (v2 : Int32) (v3 : Int64) (v5 : Int32) : Option (Int32 × Mem) :=
  if 5 < v5 then
    (lp_X12_odds_75 N Λ v0 v1 v2 (v3, 0, μ))
  else
    ((dr Λ v0 27 14).bind fun q2 =>
    if v5 = 0 then
      (jn_X12_odds_65 N Λ μ k43 v0 v1 v2 v3 v5 q2 v5 1)
    else
      (jn_X12_odds_65 N Λ μ k43 v0 v1 v2 v3 v5 q2 v5 0))
def lp_X12_odds_43 (N : Nat) (Λ : Lay) (v0 : Nat) (v1 : Int32) (v2 : Int32) (v3 : Int64) (s : Int32 × Mem) : Option (Int32 × Mem) := cw (fun k s => bd_X12_odds_43 N Λ (s.2) k v0 v1 v2 v3 s.1) N s
def jn_X12_odds_29 (N : Nat) (Λ : Lay) (μ : Mem) (v0 : Nat) (v1 : Int32) (v2 : Int32) (s0 : Nat) (s1 : Int32) : Option (Int32 × Mem) :=
  (m_X12_throwsIf N Λ μ s0 s1 1).bind fun r1 =>
  if r1.1 = 0 then
    (lp_X12_odds_43 N Λ v0 v1 v2 1 (0, r1.2))
  else
    (some (0, r1.2))
def jn_X12_odds_24 (N : Nat) (Λ : Lay) (μ : Mem) (v0 : Nat) (v1 : Int32) (v2 : Int32) (s0 : Nat) : Option (Int32 × Mem) :=
  jn_X12_odds_29 N Λ μ v0 v1 v2 s0 1
def m_X12_odds (N : Nat) (Λ : Lay) (μ : Mem) (v0 : Nat) (v1 : Int32) (v2 : Int32) : Option (Int32 × Mem) :=
  lt (mset μ v0 0 0) fun μ1 =>
  (m_X12_in N Λ μ1 v1 0 5).bind fun r3 =>
  if r3 = 0 then
    (jn_X12_odds_24 N Λ μ1 v0 v1 v2 v0)
  else
    ((m_X12_in N Λ μ1 v2 0 5).bind fun r6 =>
    if r6 = 0 then
      (jn_X12_odds_24 N Λ μ1 v0 v1 v2 v0)
    else
      (jn_X12_odds_29 N Λ μ1 v0 v1 v2 v0 0))
def jn_X12_most_73 (N : Nat) (Λ : Lay) (μ : Mem) (k33 : Int32 × Int32 × Mem → Option (Int32 × Mem)) (v0 : Nat) (v1 : Int32) (v2 : Int32) (v3 : Int32) : Option (Int32 × Mem) :=
  lt (v3 + 1) fun y1 =>
  k33 (v2, y1, μ)
def jn_X12_most_71 (N : Nat) (Λ : Lay) (μ : Mem) (k33 : Int32 × Int32 × Mem → Option (Int32 × Mem)) (v0 : Nat) (v1 : Int32) (v3 : Int32) : Option (Int32 × Mem) :=
  jn_X12_most_73 N Λ μ k33 v0 v1 v3 v3
def bd_X12_most_33 (N : Nat) (Λ : Lay) (μ : Mem) (k33 : Int32 × Int32 × Mem → Option (Int32 × Mem)) (v0 : Nat) (v1 : Int32) (v2 : Int32) (v3 : Int32) : Option (Int32 × Mem) :=
  (m_X12_ships N Λ μ v0).bind fun r1 =>
  if r1 ≤ v3 then
    (some (v2, μ))
  else
    ((m_X12_of N Λ μ v0 v3 3).bind fun r4 =>
    if r4 = 2 then
      (jn_X12_most_73 N Λ μ k33 v0 v1 v2 v3)
    else
      (if v2 = (-1) then
        (jn_X12_most_71 N Λ μ k33 v0 v1 v3)
      else
        ((m_X12_of N Λ μ v0 v3 v1).bind fun r8 =>
        (m_X12_of N Λ μ v0 v2 v1).bind fun r10 =>
        if r8 ≤ r10 then
          (jn_X12_most_73 N Λ μ k33 v0 v1 v2 v3)
        else
          (jn_X12_most_71 N Λ μ k33 v0 v1 v3))))
def lp_X12_most_33 (N : Nat) (Λ : Lay) (v0 : Nat) (v1 : Int32) (s : Int32 × Int32 × Mem) : Option (Int32 × Mem) := cw (fun k s => bd_X12_most_33 N Λ (s.2.2) k v0 v1 s.1 s.2.1) N s
def jn_X12_most_20 (N : Nat) (Λ : Lay) (μ : Mem) (v0 : Nat) (v1 : Int32) (s0 : Nat) (s1 : Int32) : Option (Int32 × Mem) :=
  (m_X12_throwsIf N Λ μ s0 s1 1).bind fun r1 =>
  if r1.1 = 0 then
    (lp_X12_most_33 N Λ v0 v1 ((-1), 0, r1.2))
  else
    (some (0, r1.2))
def m_X12_most (N : Nat) (Λ : Lay) (μ : Mem) (v0 : Nat) (v1 : Int32) : Option (Int32 × Mem) :=
  lt (mset μ v0 0 0) fun μ1 =>
  (m_X12_in N Λ μ1 v1 0 2).bind fun r3 =>
  if r3 = 0 then
    (jn_X12_most_20 N Λ μ1 v0 v1 v0 1)
  else
    (jn_X12_most_20 N Λ μ1 v0 v1 v0 0)
def jn_X12_allThat_39 (N : Nat) (Λ : Lay) (μ : Mem) (k10 : Int32 × Int32 × Mem → Option (Int32 × Mem)) (v0 : Nat) (v1 : Int32) (v2 : Int32) (v4 : Int32) (s0 : Int32) (s1 : Int32) : Option (Int32 × Mem) :=
  lt (s0 ||| s1) fun y1 =>
  lt (v4 + 1) fun y3 =>
  k10 (y1, y3, μ)
def bd_X12_allThat_10 (N : Nat) (Λ : Lay) (μ : Mem) (k10 : Int32 × Int32 × Mem → Option (Int32 × Mem)) (v0 : Nat) (v1 : Int32) (v2 : Int32) (v3 : Int32) (v4 : Int32) : Option (Int32 × Mem) :=
  (m_X12_ships N Λ μ v0).bind fun r1 =>
  if r1 ≤ v4 then
    (some (v3, μ))
  else
    ((m_X12_of N Λ μ v0 v4 v1).bind fun r4 =>
    if r4 = v2 then
      (jn_X12_allThat_39 N Λ μ k10 v0 v1 v2 v4 v3 (ishl 1 v4))
    else
      (jn_X12_allThat_39 N Λ μ k10 v0 v1 v2 v4 v3 0))
def lp_X12_allThat_10 (N : Nat) (Λ : Lay) (v0 : Nat) (v1 : Int32) (v2 : Int32) (s : Int32 × Int32 × Mem) : Option (Int32 × Mem) := cw (fun k s => bd_X12_allThat_10 N Λ (s.2.2) k v0 v1 v2 s.1 s.2.1) N s
def m_X12_allThat (N : Nat) (Λ : Lay) (μ : Mem) (v0 : Nat) (v1 : Int32) (v2 : Int32) : Option (Int32 × Mem) :=
  lt (mset μ v0 0 0) fun μ1 =>
  lp_X12_allThat_10 N Λ v0 v1 v2 (0, 0, μ1)
def m_X12_waiting (N : Nat) (Λ : Lay) (μ : Mem) (v0 : Nat) : Option (Int32 × Mem) :=
  (m_X12_allThat N Λ μ v0 3 0).bind fun r1 =>
  some (r1.1, r1.2)
def m_X12_docked (N : Nat) (Λ : Lay) (μ : Mem) (v0 : Nat) : Option (Int32 × Mem) :=
  (m_X12_allThat N Λ μ v0 3 1).bind fun r1 =>
  some (r1.1, r1.2)
def m_X12_gone (N : Nat) (Λ : Lay) (μ : Mem) (v0 : Nat) : Option (Int32 × Mem) :=
  (m_X12_allThat N Λ μ v0 3 2).bind fun r1 =>
  some (r1.1, r1.2)
def m_X12_hurt (N : Nat) (Λ : Lay) (μ : Mem) (v0 : Nat) : Option (Int32 × Mem) :=
  (m_X12_allThat N Λ μ v0 5 1).bind fun r1 =>
  some (r1.1, r1.2)
def jn_X12_twins_60 (N : Nat) (Λ : Lay) (μ : Mem) (k9 : Int32 × Int32 × Mem → Option (Int32 × Mem)) (k19 : Int32 × Int32 × Mem → Option (Int32 × Mem)) (v0 : Nat) (v2 : Int32) (v3 : Int32) (s0 : Int32) (s1 : Int32) : Option (Int32 × Mem) :=
  lt (s0 + s1) fun y1 =>
  lt (v3 + 1) fun y3 =>
  k19 (y1, y3, μ)
def jn_X12_twins_59 (N : Nat) (Λ : Lay) (μ : Mem) (k9 : Int32 × Int32 × Mem → Option (Int32 × Mem)) (k19 : Int32 × Int32 × Mem → Option (Int32 × Mem)) (v0 : Nat) (v2 : Int32) (v3 : Int32) (s0 : Int32) : Option (Int32 × Mem) :=
  jn_X12_twins_60 N Λ μ k9 k19 v0 v2 v3 s0 0
def bd_X12_twins_19 (N : Nat) (Λ : Lay) (μ : Mem) (k9 : Int32 × Int32 × Mem → Option (Int32 × Mem)) (k19 : Int32 × Int32 × Mem → Option (Int32 × Mem)) (v0 : Nat) (v1 : Int32) (v2 : Int32) (v3 : Int32) : Option (Int32 × Mem) :=
  if v2 ≤ v3 then
    (lt (v2 + 1) fun y2 =>
    k9 (v1, y2, μ))
  else
    ((m_X12_of N Λ μ v0 v2 0).bind fun r4 =>
    (m_X12_of N Λ μ v0 v3 0).bind fun r6 =>
    if r4 = r6 then
      ((m_X12_of N Λ μ v0 v2 1).bind fun r9 =>
      (m_X12_of N Λ μ v0 v3 1).bind fun r11 =>
      if r9 = r11 then
        (jn_X12_twins_60 N Λ μ k9 k19 v0 v2 v3 v1 1)
      else
        (jn_X12_twins_59 N Λ μ k9 k19 v0 v2 v3 v1))
    else
      (jn_X12_twins_59 N Λ μ k9 k19 v0 v2 v3 v1))
def lp_X12_twins_19 (N : Nat) (Λ : Lay) (k9 : Int32 × Int32 × Mem → Option (Int32 × Mem)) (v0 : Nat) (v2 : Int32) (s : Int32 × Int32 × Mem) : Option (Int32 × Mem) := cw (fun k s => bd_X12_twins_19 N Λ (s.2.2) k9 k v0 s.1 v2 s.2.1) N s
def bd_X12_twins_9 (N : Nat) (Λ : Lay) (μ : Mem) (k9 : Int32 × Int32 × Mem → Option (Int32 × Mem)) (v0 : Nat) (v1 : Int32) (v2 : Int32) : Option (Int32 × Mem) :=
  (m_X12_ships N Λ μ v0).bind fun r1 =>
  if r1 ≤ v2 then
    (some (v1, μ))
  else
    (lp_X12_twins_19 N Λ k9 v0 v2 (v1, 0, μ))
def lp_X12_twins_9 (N : Nat) (Λ : Lay) (v0 : Nat) (s : Int32 × Int32 × Mem) : Option (Int32 × Mem) := cw (fun k s => bd_X12_twins_9 N Λ (s.2.2) k v0 s.1 s.2.1) N s
def m_X12_twins (N : Nat) (Λ : Lay) (μ : Mem) (v0 : Nat) : Option (Int32 × Mem) :=
  lt (mset μ v0 0 0) fun μ1 =>
  lp_X12_twins_9 N Λ v0 (0, 0, μ1)
def jn_X12_water_74 (N : Nat) (Λ : Lay) (μ : Mem) (k9 : Int32 × Int32 × Mem → Option (Int32 × Mem)) (v0 : Nat) (v1 : Int32) (v3 : Int32) (s0 : Int32) : Option (Int32 × Mem) :=
  lt (v3 + 1) fun y1 =>
  k9 (s0, y1, μ)
def bd_X12_water_9 (N : Nat) (Λ : Lay) (μ : Mem) (k9 : Int32 × Int32 × Mem → Option (Int32 × Mem)) (v0 : Nat) (v1 : Int32) (v2 : Int32) (v3 : Int32) : Option (Int32 × Mem) :=
  if 12 ≤ v3 then
    (some (v2, μ))
  else
    (if v1 = 0 then
      ((dr Λ v0 1 13).bind fun q3 =>
      gd (inb (13 + v3) (aZ Λ q3)) <|
      (dr Λ v0 1 13).bind fun q6 =>
      gd (inb (13 + v2) (aZ Λ q6)) <|
      if (μ.1 q6 (13 + v2).toNatClampNeg) ≤ (μ.1 q3 (13 + v3).toNatClampNeg) then
        (jn_X12_water_74 N Λ μ k9 v0 v1 v3 v2)
      else
        (jn_X12_water_74 N Λ μ k9 v0 v1 v3 v3))
    else
      ((dr Λ v0 1 13).bind fun q10 =>
      gd (inb (13 + v3) (aZ Λ q10)) <|
      (dr Λ v0 1 13).bind fun q13 =>
      gd (inb (13 + v2) (aZ Λ q13)) <|
      if (μ.1 q10 (13 + v3).toNatClampNeg) ≤ (μ.1 q13 (13 + v2).toNatClampNeg) then
        (jn_X12_water_74 N Λ μ k9 v0 v1 v3 v2)
      else
        (jn_X12_water_74 N Λ μ k9 v0 v1 v3 v3)))
def lp_X12_water_9 (N : Nat) (Λ : Lay) (v0 : Nat) (v1 : Int32) (s : Int32 × Int32 × Mem) : Option (Int32 × Mem) := cw (fun k s => bd_X12_water_9 N Λ (s.2.2) k v0 v1 s.1 s.2.1) N s
def m_X12_water (N : Nat) (Λ : Lay) (μ : Mem) (v0 : Nat) (v1 : Int32) : Option (Int32 × Mem) :=
  lt (mset μ v0 0 0) fun μ1 =>
  lp_X12_water_9 N Λ v0 v1 (0, 1, μ1)
def jn_X12_noHours_15 (N : Nat) (Λ : Lay) (μ : Mem) (s0 : Int32) : Option (Int32) :=
  gd (zb s0) <|
  some s0
def m_X12_noHours (N : Nat) (Λ : Lay) (μ : Mem) (v0 : Int32) : Option (Int32) :=
  (m_X12_in N Λ μ v0 0 60).bind fun r1 =>
  if r1 = 0 then
    (jn_X12_noHours_15 N Λ μ 1)
  else
    (jn_X12_noHours_15 N Λ μ 0)
def jn_X12_levelOrWork_29 (N : Nat) (Λ : Lay) (μ : Mem) (v0 : Nat) (s0 : Int32) : Option (Int32 × Mem) :=
  (m_X12_bringsBack N Λ μ v0).bind fun r1 =>
  some (s0, r1)
def m_X12_levelOrWork (N : Nat) (Λ : Lay) (μ : Mem) (v0 : Nat) (v1 : Int32) (v2 : Int32) (v3 : Int32) : Option (Int32 × Mem) :=
  (m_X12_keepsAll N Λ μ v0).bind fun r1 =>
  (m_X12_goesOn N Λ r1 v0 v1 v3).bind fun r3 =>
  if v2 = 0 then
    ((dr Λ v0 1 13).bind fun q6 =>
    gd (inb 3 (aZ Λ q6)) <|
    jn_X12_levelOrWork_29 N Λ r3.2 v0 (r3.2.1 q6 (3 : Int32).toNatClampNeg))
  else
    ((m_X12_workOf N Λ r3.2 v0 1).bind fun r9 =>
    jn_X12_levelOrWork_29 N Λ r3.2 v0 r9)
def jn_X12_ahead_28 (N : Nat) (Λ : Lay) (μ : Mem) (s0 : Int32) : Option (Int32 × Mem) :=
  some (s0, μ)
def m_X12_ahead (N : Nat) (Λ : Lay) (μ : Mem) (v0 : Nat) (v1 : Int32) (v2 : Int32) : Option (Int32 × Mem) :=
  lt (mset μ v0 0 0) fun μ1 =>
  (m_X12_noHours N Λ μ1 v1).bind fun r3 =>
  (m_X12_throwsIf N Λ μ1 v0 r3 1).bind fun r5 =>
  if r5.1 = 0 then
    ((m_X12_levelOrWork N Λ r5.2 v0 v1 v2 1).bind fun r8 =>
    jn_X12_ahead_28 N Λ r8.2 r8.1)
  else
    (jn_X12_ahead_28 N Λ r5.2 0)
def jn_X12_trial_28 (N : Nat) (Λ : Lay) (μ : Mem) (s0 : Int32) : Option (Int32 × Mem) :=
  some (s0, μ)
def m_X12_trial (N : Nat) (Λ : Lay) (μ : Mem) (v0 : Nat) (v1 : Int32) (v2 : Int32) : Option (Int32 × Mem) :=
  lt (mset μ v0 0 0) fun μ1 =>
  (m_X12_noHours N Λ μ1 v1).bind fun r3 =>
  (m_X12_throwsIf N Λ μ1 v0 r3 1).bind fun r5 =>
  if r5.1 = 0 then
    ((m_X12_levelOrWork N Λ r5.2 v0 v1 v2 0).bind fun r8 =>
    jn_X12_trial_28 N Λ r8.2 r8.1)
  else
    (jn_X12_trial_28 N Λ r5.2 0)
def jn_X12_span_91 (N : Nat) (Λ : Lay) (μ : Mem) (k28 : Int32 × Int32 × Mem → Option (Int32 × Mem)) (v0 : Nat) (v1 : Int32) (v2 : Int32) (v4 : Int32) (s0 : Int32) : Option (Int32 × Mem) :=
  lt (v4 + 1) fun y1 =>
  k28 (s0, y1, μ)
def bd_X12_span_28 (N : Nat) (Λ : Lay) (μ : Mem) (k28 : Int32 × Int32 × Mem → Option (Int32 × Mem)) (v0 : Nat) (v1 : Int32) (v2 : Int32) (v3 : Int32) (v4 : Int32) : Option (Int32 × Mem) :=
  if 6 < v4 then
    (some (v3, μ))
  else
    ((dr Λ v0 1 13).bind fun q2 =>
    gd (inb 12 (aZ Λ q2)) <|
    lt (mset μ q2 (12 : Int32).toNatClampNeg v4) fun μ5 =>
    (m_X12_goesOn N Λ μ5 v0 v1 0).bind fun r7 =>
    (dr Λ v0 1 13).bind fun q9 =>
    gd (inb 3 (aZ Λ q9)) <|
    lt (r7.2.1 q9 (3 : Int32).toNatClampNeg) fun y12 =>
    (m_X12_bringsBack N Λ r7.2 v0).bind fun r14 =>
    if 0 ≤ v3 then
      (if v2 = 0 then
        (jn_X12_span_91 N Λ r14 k28 v0 v1 v2 v4 (imin v3 y12))
      else
        (jn_X12_span_91 N Λ r14 k28 v0 v1 v2 v4 (imax v3 y12)))
    else
      (jn_X12_span_91 N Λ r14 k28 v0 v1 v2 v4 y12))
def lp_X12_span_28 (N : Nat) (Λ : Lay) (v0 : Nat) (v1 : Int32) (v2 : Int32) (s : Int32 × Int32 × Mem) : Option (Int32 × Mem) := cw (fun k s => bd_X12_span_28 N Λ (s.2.2) k v0 v1 v2 s.1 s.2.1) N s
def m_X12_span (N : Nat) (Λ : Lay) (μ : Mem) (v0 : Nat) (v1 : Int32) (v2 : Int32) : Option (Int32 × Mem) :=
  lt (mset μ v0 0 0) fun μ1 =>
  (m_X12_noHours N Λ μ1 v1).bind fun r3 =>
  (m_X12_throwsIf N Λ μ1 v0 r3 1).bind fun r5 =>
  if r5.1 = 0 then
    ((m_X12_keepsAll N Λ r5.2 v0).bind fun r8 =>
    lp_X12_span_28 N Λ v0 v1 v2 ((-1), 1, r8))
  else
    (some (0, r5.2))
def m_X12_ofLog (N : Nat) (Λ : Lay) (μ : Mem) (v0 : Nat) (v1 : Int32) (v2 : Int32) : Option (Int32) :=
  (dr Λ v0 1 13).bind fun q1 =>
  gd (inb ((73 + (5 * v1)) + v2) (aZ Λ q1)) <|
  some (μ.1 q1 ((73 + (5 * v1)) + v2).toNatClampNeg)
def jn_X12_led_67 (N : Nat) (Λ : Lay) (μ : Mem) (k36 : Int32 × Int32 × Int32 × Mem → Option (Int32 × Mem)) (v0 : Nat) (v1 : Int32) (v2 : Int32) (v3 : Int32) (v4 : Int32) (v5 : Int32) : Option (Int32 × Mem) :=
  lt (v5 + (-1)) fun y1 =>
  k36 (v3, v4, y1, μ)
def jn_X12_led_83 (N : Nat) (Λ : Lay) (μ : Mem) (s0 : Int32) : Option (Int32 × Mem) :=
  some (s0, μ)
def bd_X12_led_36 (N : Nat) (Λ : Lay) (μ : Mem) (k36 : Int32 × Int32 × Int32 × Mem → Option (Int32 × Mem)) (v0 : Nat) (v1 : Int32) (v2 : Int32) (v3 : Int32) (v4 : Int32) (v5 : Int32) : Option (Int32 × Mem) :=
  if v5 < 0 then
    (if v2 = 0 then
      (jn_X12_led_83 N Λ μ v3)
    else
      (jn_X12_led_83 N Λ μ v4))
  else
    ((m_X12_ofLog N Λ μ v0 v5 1).bind fun r3 =>
    if r3 = v1 then
      (lt (v3 + 1) fun y6 =>
      (m_X12_ofLog N Λ μ v0 v5 0).bind fun r8 =>
      jn_X12_led_67 N Λ μ k36 v0 v1 v2 y6 r8 v5)
    else
      (jn_X12_led_67 N Λ μ k36 v0 v1 v2 v3 v4 v5))
def lp_X12_led_36 (N : Nat) (Λ : Lay) (v0 : Nat) (v1 : Int32) (v2 : Int32) (s : Int32 × Int32 × Int32 × Mem) : Option (Int32 × Mem) := cw (fun k s => bd_X12_led_36 N Λ (s.2.2.2) k v0 v1 v2 s.1 s.2.1 s.2.2.1) N s
def m_X12_led (N : Nat) (Λ : Lay) (μ : Mem) (v0 : Nat) (v1 : Int32) (v2 : Int32) : Option (Int32 × Mem) :=
  lt (mset μ v0 0 0) fun μ1 =>
  (m_X12_noShip N Λ μ1 v0 v1).bind fun r3 =>
  (m_X12_throwsIf N Λ μ1 v0 r3 1).bind fun r5 =>
  if r5.1 = 0 then
    ((dr Λ v0 1 13).bind fun q8 =>
    gd (inb 11 (aZ Λ q8)) <|
    lt ((r5.2.1 q8 (11 : Int32).toNatClampNeg) - 1) fun y11 =>
    lp_X12_led_36 N Λ v0 v1 v2 (0, (-1), y11, r5.2))
  else
    (some (0, r5.2))
def jn_X12_log_56 (N : Nat) (Λ : Lay) (μ : Mem) (s0 : Int32) : Option (Int32 × Mem) :=
  some (s0, μ)
def jn_X12_log_20 (N : Nat) (Λ : Lay) (μ : Mem) (v0 : Nat) (v1 : Int32) (v2 : Int32) (s0 : Nat) (s1 : Int32) : Option (Int32 × Mem) :=
  (m_X12_throwsIf N Λ μ s0 s1 1).bind fun r1 =>
  if r1.1 = 0 then
    ((dr Λ v0 1 13).bind fun q4 =>
    gd (inb 11 (aZ Λ q4)) <|
    (m_X12_in N Λ r1.2 v1 0 ((r1.2.1 q4 (11 : Int32).toNatClampNeg) - 1)).bind fun r7 =>
    if r7 = 0 then
      (jn_X12_log_56 N Λ r1.2 (-1))
    else
      ((m_X12_ofLog N Λ r1.2 v0 v1 v2).bind fun r10 =>
      jn_X12_log_56 N Λ r1.2 r10))
  else
    (some (0, r1.2))
def m_X12_log (N : Nat) (Λ : Lay) (μ : Mem) (v0 : Nat) (v1 : Int32) (v2 : Int32) : Option (Int32 × Mem) :=
  lt (mset μ v0 0 0) fun μ1 =>
  (m_X12_in N Λ μ1 v2 0 4).bind fun r3 =>
  if r3 = 0 then
    (jn_X12_log_20 N Λ μ1 v0 v1 v2 v0 1)
  else
    (jn_X12_log_20 N Λ μ1 v0 v1 v2 v0 0)
def m_X12_seed (N : Nat) (Λ : Lay) (μ : Mem) (v0 : Nat) (v1 : Int32) : Option (Int32 × Mem) :=
  lt (mset μ v0 0 0) fun μ1 =>
  (dr Λ v0 1 13).bind fun q3 =>
  gd (inb 12 (aZ Λ q3)) <|
  lt (μ1.1 q3 (12 : Int32).toNatClampNeg) fun y6 =>
  (dr Λ v0 1 13).bind fun q8 =>
  gd (inb 12 (aZ Λ q8)) <|
  lt (mset μ1 q8 (12 : Int32).toNatClampNeg v1) fun μ11 =>
  some (y6, μ11)
def jn_X12_count_94 (N : Nat) (Λ : Lay) (μ : Mem) (s0 : Int32) : Option (Int32 × Mem) :=
  some (s0, μ)
def jn_X12_count_150 (N : Nat) (Λ : Lay) (μ : Mem) (s0 : Int32) : Option (Int32 × Mem) :=
  some (s0, μ)
def m_X12_count (N : Nat) (Λ : Lay) (μ : Mem) (v0 : Nat) (v1 : Int32) : Option (Int32 × Mem) :=
  lt (mset μ v0 0 0) fun μ1 =>
  if v1 = 2 then
    ((dr Λ v0 1 13).bind fun q4 =>
    gd (inb 2 (aZ Λ q4)) <|
    if (μ1.1 q4 (2 : Int32).toNatClampNeg) = 1 then
      ((dr Λ v0 1 13).bind fun q8 =>
      gd (inb 373 (aZ Λ q8)) <|
      jn_X12_count_94 N Λ μ1 (μ1.1 q8 (373 : Int32).toNatClampNeg))
    else
      (jn_X12_count_94 N Λ μ1 (-1)))
  else
  if v1 = 3 then
    ((m_X12_in N Λ μ1 v1 0 9).bind fun r12 =>
    if r12 = 0 then
      (jn_X12_count_150 N Λ μ1 (-1))
    else
      ((dr Λ v0 1 13).bind fun q15 =>
      gd (inb v1 (aZ Λ q15)) <|
      jn_X12_count_150 N Λ μ1 (μ1.1 q15 v1.toNatClampNeg)))
  else
  if v1 = 4 then
    ((m_X12_in N Λ μ1 v1 0 9).bind fun r19 =>
    if r19 = 0 then
      (jn_X12_count_150 N Λ μ1 (-1))
    else
      ((dr Λ v0 1 13).bind fun q22 =>
      gd (inb v1 (aZ Λ q22)) <|
      jn_X12_count_150 N Λ μ1 (μ1.1 q22 v1.toNatClampNeg)))
  else
  if v1 = 5 then
    ((m_X12_in N Λ μ1 v1 0 9).bind fun r26 =>
    if r26 = 0 then
      (jn_X12_count_150 N Λ μ1 (-1))
    else
      ((dr Λ v0 1 13).bind fun q29 =>
      gd (inb v1 (aZ Λ q29)) <|
      jn_X12_count_150 N Λ μ1 (μ1.1 q29 v1.toNatClampNeg)))
  else
  if v1 = 6 then
    ((m_X12_in N Λ μ1 v1 0 9).bind fun r33 =>
    if r33 = 0 then
      (jn_X12_count_150 N Λ μ1 (-1))
    else
      ((dr Λ v0 1 13).bind fun q36 =>
      gd (inb v1 (aZ Λ q36)) <|
      jn_X12_count_150 N Λ μ1 (μ1.1 q36 v1.toNatClampNeg)))
  else
  if v1 = 7 then
    ((m_X12_in N Λ μ1 v1 0 9).bind fun r40 =>
    if r40 = 0 then
      (jn_X12_count_150 N Λ μ1 (-1))
    else
      ((dr Λ v0 1 13).bind fun q43 =>
      gd (inb v1 (aZ Λ q43)) <|
      jn_X12_count_150 N Λ μ1 (μ1.1 q43 v1.toNatClampNeg)))
  else
  if v1 = 8 then
    ((m_X12_in N Λ μ1 v1 0 9).bind fun r47 =>
    if r47 = 0 then
      (jn_X12_count_150 N Λ μ1 (-1))
    else
      ((dr Λ v0 1 13).bind fun q50 =>
      gd (inb v1 (aZ Λ q50)) <|
      jn_X12_count_150 N Λ μ1 (μ1.1 q50 v1.toNatClampNeg)))
  else
  if v1 = 9 then
    ((m_X12_in N Λ μ1 v1 0 9).bind fun r54 =>
    if r54 = 0 then
      (jn_X12_count_150 N Λ μ1 (-1))
    else
      ((dr Λ v0 1 13).bind fun q57 =>
      gd (inb v1 (aZ Λ q57)) <|
      jn_X12_count_150 N Λ μ1 (μ1.1 q57 v1.toNatClampNeg)))
  else
  if v1 = 10 then
    ((dr Λ v0 1 13).bind fun q61 =>
    gd (inb 10 (aZ Λ q61)) <|
    (m_XI_bitCount N Λ μ1 (μ1.1 q61 (10 : Int32).toNatClampNeg)).bind fun r64 =>
    some (r64, μ1))
  else
  if v1 = 11 then
    ((m_X12_freePlaces N Λ μ1 v0).bind fun r67 =>
    some (r67, μ1))
  else
  if v1 = 12 then
    ((m_X12_workOf N Λ μ1 v0 1).bind fun r70 =>
    some (r70, μ1))
  else
  if v1 = 13 then
    ((dr Λ v0 1 13).bind fun q73 =>
    gd (inb 11 (aZ Λ q73)) <|
    some (μ1.1 q73 (11 : Int32).toNatClampNeg, μ1))
  else
  if v1 = 14 then
    (some (μ1.1 v0 7, μ1))
  else
    ((m_X12_in N Λ μ1 v1 0 9).bind fun r77 =>
    if r77 = 0 then
      (jn_X12_count_150 N Λ μ1 (-1))
    else
      ((dr Λ v0 1 13).bind fun q80 =>
      gd (inb v1 (aZ Λ q80)) <|
      jn_X12_count_150 N Λ μ1 (μ1.1 q80 v1.toNatClampNeg)))
def m_L_dock (N : Nat) (Λ : Lay) (μ : Mem) (v0 : Nat) (v1 : Nat) : Option (Int32 × Mem) :=
  (m_X11_dock N Λ μ v0).bind fun r1 =>
  thn (r1.1 = 0) (if r1.1 = 1 then some (1, r1.2.2) else if r1.1 = 2 then some (2, r1.2.2) else none) <|
  gd (inb 0 (aZ Λ v1)) <|
  lt (msetL r1.2.2 v1 (0 : Int32).toNatClampNeg (Int32.toInt64 r1.2.1)) fun μ5 =>
  some (0, μ5)
def m_L_law (N : Nat) (Λ : Lay) (μ : Mem) (v0 : Nat) (v1 : Nat) : Option (Int32 × Mem) :=
  (m_X11_law N Λ μ v0).bind fun r1 =>
  thn (r1.1 = 0) (if r1.1 = 1 then some (1, r1.2.2) else none) <|
  gd (inb 0 (aZ Λ v1)) <|
  lt (msetL r1.2.2 v1 (0 : Int32).toNatClampNeg (Int32.toInt64 r1.2.1)) fun μ5 =>
  some (0, μ5)
def m_L_ship (N : Nat) (Λ : Lay) (μ : Mem) (v0 : Nat) (v1 : Int32) (v2 : Int32) (v3 : Nat) : Option (Int32 × Mem) :=
  (m_X11_ship N Λ μ v0 v1 v2).bind fun r1 =>
  thn (r1.1 = 0) (if r1.1 = 3 then some (1, r1.2.2) else if r1.1 = 4 then some (2, r1.2.2) else none) <|
  gd (inb 0 (aZ Λ v3)) <|
  lt (msetL r1.2.2 v3 (0 : Int32).toNatClampNeg (Int32.toInt64 r1.2.1)) fun μ5 =>
  some (0, μ5)
def m_L_place (N : Nat) (Λ : Lay) (μ : Mem) (v0 : Nat) (v1 : Int32) (v2 : Int32) (v3 : Nat) : Option (Int32 × Mem) :=
  (m_X11_place N Λ μ v0 v1 v2).bind fun r1 =>
  thn (r1.1 = 0) (if r1.1 = 3 then some (1, r1.2.2) else if r1.1 = 4 then some (2, r1.2.2) else none) <|
  gd (inb 0 (aZ Λ v3)) <|
  lt (msetL r1.2.2 v3 (0 : Int32).toNatClampNeg (Int32.toInt64 r1.2.1)) fun μ5 =>
  some (0, μ5)
def m_L_tide (N : Nat) (Λ : Lay) (μ : Mem) (v0 : Nat) (v1 : Int32) (v2 : Nat) : Option (Int32 × Mem) :=
  (m_X11_tide N Λ μ v0 v1).bind fun r1 =>
  thn (r1.1 = 0) (if r1.1 = 3 then some (1, r1.2.2) else none) <|
  gd (inb 0 (aZ Λ v2)) <|
  lt (msetL r1.2.2 v2 (0 : Int32).toNatClampNeg (Int32.toInt64 r1.2.1)) fun μ5 =>
  some (0, μ5)
def m_L_hours (N : Nat) (Λ : Lay) (μ : Mem) (v0 : Nat) (v1 : Int32) (v2 : Nat) : Option (Int32 × Mem) :=
  (m_X11_hours N Λ μ v0 v1).bind fun r1 =>
  thn (r1.1 = 0) (if r1.1 = 1 then some (1, r1.2.2) else none) <|
  gd (inb 0 (aZ Λ v2)) <|
  lt (msetL r1.2.2 v2 (0 : Int32).toNatClampNeg (Int32.toInt64 r1.2.1)) fun μ5 =>
  some (0, μ5)
def jn_L_gate_15 (N : Nat) (Λ : Lay) (μ : Mem) (s0 : Nat) (s1 : Int32) (s2 : Int64) : Option (Int32 × Mem) :=
  gd (inb s1 (aZ Λ s0)) <|
  lt (msetL μ s0 s1.toNatClampNeg s2) fun μ2 =>
  some (0, μ2)
def m_L_gate (N : Nat) (Λ : Lay) (μ : Mem) (v0 : Nat) (v1 : Int32) (v2 : Nat) : Option (Int32 × Mem) :=
  (m_X11_gate N Λ μ v0 v1).bind fun r1 =>
  thn (r1.1 = 0) (if r1.1 = 5 then some (1, r1.2.2) else none) <|
  if r1.2.1 = 0 then
    (jn_L_gate_15 N Λ r1.2.2 v2 0 0)
  else
    (jn_L_gate_15 N Λ r1.2.2 v2 0 1)
def m_L_enter (N : Nat) (Λ : Lay) (μ : Mem) (v0 : Nat) (v1 : Int32) (v2 : Int32) (v3 : Nat) : Option (Int32 × Mem) :=
  (m_X11_enter N Λ μ v0 v1 v2).bind fun r1 =>
  thn (r1.1 = 0) (if r1.1 = 3 then some (1, r1.2.2) else if r1.1 = 5 then some (2, r1.2.2) else none) <|
  gd (inb 0 (aZ Λ v3)) <|
  lt (msetL r1.2.2 v3 (0 : Int32).toNatClampNeg (Int32.toInt64 r1.2.1)) fun μ5 =>
  some (0, μ5)
def m_L_leave (N : Nat) (Λ : Lay) (μ : Mem) (v0 : Nat) (v1 : Int32) (v2 : Nat) : Option (Int32 × Mem) :=
  (m_X11_leave N Λ μ v0 v1).bind fun r1 =>
  thn (r1.1 = 0) (if r1.1 = 3 then some (1, r1.2.2) else if r1.1 = 5 then some (2, r1.2.2) else none) <|
  gd (inb 0 (aZ Λ v2)) <|
  lt (msetL r1.2.2 v2 (0 : Int32).toNatClampNeg (Int32.toInt64 r1.2.1)) fun μ5 =>
  some (0, μ5)
def m_L_comes (N : Nat) (Λ : Lay) (μ : Mem) (v0 : Nat) (v1 : Int32) (v2 : Int32) (v3 : Int32) (v4 : Nat) : Option (Int32 × Mem) :=
  (m_X11_comes N Λ μ v0 v1 v2 v3).bind fun r1 =>
  thn (r1.1 = 0) (if r1.1 = 1 then some (1, r1.2.2) else if r1.1 = 5 then some (2, r1.2.2) else none) <|
  gd (inb 0 (aZ Λ v4)) <|
  lt (msetL r1.2.2 v4 (0 : Int32).toNatClampNeg (Int32.toInt64 r1.2.1)) fun μ5 =>
  some (0, μ5)
def jn_L_block_16 (N : Nat) (Λ : Lay) (μ : Mem) (s0 : Nat) (s1 : Int32) (s2 : Int64) : Option (Int32 × Mem) :=
  gd (inb s1 (aZ Λ s0)) <|
  lt (msetL μ s0 s1.toNatClampNeg s2) fun μ2 =>
  some (0, μ2)
def m_L_block (N : Nat) (Λ : Lay) (μ : Mem) (v0 : Nat) (v1 : Int32) (v2 : Int32) (v3 : Nat) : Option (Int32 × Mem) :=
  (m_X11_block N Λ μ v0 v1 v2).bind fun r1 =>
  thn (r1.1 = 0) (if r1.1 = 3 then some (1, r1.2.2) else none) <|
  if r1.2.1 = 0 then
    (jn_L_block_16 N Λ r1.2.2 v3 0 0)
  else
    (jn_L_block_16 N Λ r1.2.2 v3 0 1)
def m_L_pumps (N : Nat) (Λ : Lay) (μ : Mem) (v0 : Nat) (v1 : Int32) (v2 : Nat) : Option (Int32 × Mem) :=
  (m_X11_pumps N Λ μ v0 v1).bind fun r1 =>
  thn (r1.1 = 0) (if r1.1 = 1 then some (1, r1.2.2) else none) <|
  gd (inb 0 (aZ Λ v2)) <|
  lt (msetL r1.2.2 v2 (0 : Int32).toNatClampNeg (Int32.toInt64 r1.2.1)) fun μ5 =>
  some (0, μ5)
def m_L_hands (N : Nat) (Λ : Lay) (μ : Mem) (v0 : Nat) (v1 : Int32) (v2 : Nat) : Option (Int32 × Mem) :=
  (m_X11_hands N Λ μ v0 v1).bind fun r1 =>
  thn (r1.1 = 0) (if r1.1 = 1 then some (1, r1.2.2) else none) <|
  gd (inb 0 (aZ Λ v2)) <|
  lt (msetL r1.2.2 v2 (0 : Int32).toNatClampNeg (Int32.toInt64 r1.2.1)) fun μ5 =>
  some (0, μ5)
def m_L_flow (N : Nat) (Λ : Lay) (μ : Mem) (v0 : Nat) (v1 : Int32) (v2 : Int32) (v3 : Nat) : Option (Int32 × Mem) :=
  (m_X11_flow N Λ μ v0 v1 v2).bind fun r1 =>
  thn (r1.1 = 0) (if r1.1 = 3 then some (1, r1.2.2) else if r1.1 = 1 then some (2, r1.2.2) else none) <|
  gd (inb 0 (aZ Λ v3)) <|
  lt (msetL r1.2.2 v3 (0 : Int32).toNatClampNeg (Int32.toInt64 r1.2.1)) fun μ5 =>
  some (0, μ5)
def m_L_goes (N : Nat) (Λ : Lay) (μ : Mem) (v0 : Nat) (v1 : Int32) (v2 : Nat) : Option (Int32 × Mem) :=
  (m_X11_goes N Λ μ v0 v1).bind fun r1 =>
  thn (r1.1 = 0) (if r1.1 = 1 then some (1, r1.2.2) else none) <|
  gd (inb 0 (aZ Λ v2)) <|
  lt (msetL r1.2.2 v2 (0 : Int32).toNatClampNeg (Int32.toInt64 r1.2.1)) fun μ5 =>
  some (0, μ5)
def m_L_ask (N : Nat) (Λ : Lay) (μ : Mem) (v0 : Nat) (v1 : Nat) : Option (Int32 × Mem) :=
  (m_X11_ask N Λ μ v0).bind fun r1 =>
  thn (r1.1 = 0) (if r1.1 = 1 then some (1, r1.2.2) else none) <|
  gd (inb 0 (aZ Λ v1)) <|
  lt (msetL r1.2.2 v1 (0 : Int32).toNatClampNeg (Int32.toInt64 r1.2.1)) fun μ5 =>
  some (0, μ5)
def m_L_lies (N : Nat) (Λ : Lay) (μ : Mem) (v0 : Nat) (v1 : Nat) : Option (Int32 × Mem) :=
  (m_X11_lies N Λ μ v0).bind fun r1 =>
  thn (r1.1 = 0) (if r1.1 = 1 then some (1, r1.2.2) else none) <|
  gd (inb 0 (aZ Λ v1)) <|
  lt (msetL r1.2.2 v1 (0 : Int32).toNatClampNeg (Int32.toInt64 r1.2.1)) fun μ5 =>
  some (0, μ5)
def m_L_likely (N : Nat) (Λ : Lay) (μ : Mem) (v0 : Nat) (v1 : Nat) : Option (Int32 × Mem) :=
  (m_X11_likely N Λ μ v0).bind fun r1 =>
  thn (r1.1 = 0) (if r1.1 = 1 then some (1, r1.2.2) else none) <|
  gd (inb 0 (aZ Λ v1)) <|
  lt (msetL r1.2.2 v1 (0 : Int32).toNatClampNeg (Int32.toInt64 r1.2.1)) fun μ5 =>
  some (0, μ5)
def m_L_sound (N : Nat) (Λ : Lay) (μ : Mem) (v0 : Nat) (v1 : Nat) : Option (Int32 × Mem) :=
  (m_X11_sound N Λ μ v0).bind fun r1 =>
  thn (r1.1 = 0) (if r1.1 = 1 then some (1, r1.2.2) else none) <|
  gd (inb 0 (aZ Λ v1)) <|
  lt (msetL r1.2.2 v1 (0 : Int32).toNatClampNeg (Int32.toInt64 r1.2.1)) fun μ5 =>
  some (0, μ5)
def m_L_beds (N : Nat) (Λ : Lay) (μ : Mem) (v0 : Nat) (v1 : Int32) (v2 : Nat) : Option (Int32 × Mem) :=
  (m_X11_beds N Λ μ v0 v1).bind fun r1 =>
  thn (r1.1 = 0) (if r1.1 = 3 then some (1, r1.2.2) else none) <|
  gd (inb 0 (aZ Λ v2)) <|
  lt (msetL r1.2.2 v2 (0 : Int32).toNatClampNeg (Int32.toInt64 r1.2.1)) fun μ5 =>
  some (0, μ5)
def m_L_pairs (N : Nat) (Λ : Lay) (μ : Mem) (v0 : Nat) (v1 : Int32) (v2 : Nat) : Option (Int32 × Mem) :=
  (m_X11_pairs N Λ μ v0 v1).bind fun r1 =>
  thn (r1.1 = 0) (if r1.1 = 3 then some (1, r1.2.2) else none) <|
  gd (inb 0 (aZ Λ v2)) <|
  lt (msetL r1.2.2 v2 (0 : Int32).toNatClampNeg (Int32.toInt64 r1.2.1)) fun μ5 =>
  some (0, μ5)
def m_L_rests (N : Nat) (Λ : Lay) (μ : Mem) (v0 : Nat) (v1 : Int32) (v2 : Nat) : Option (Int32 × Mem) :=
  (m_X11_rests N Λ μ v0 v1).bind fun r1 =>
  thn (r1.1 = 0) (if r1.1 = 3 then some (1, r1.2.2) else none) <|
  gd (inb 0 (aZ Λ v2)) <|
  lt (msetL r1.2.2 v2 (0 : Int32).toNatClampNeg (Int32.toInt64 r1.2.1)) fun μ5 =>
  some (0, μ5)
def m_L_odds (N : Nat) (Λ : Lay) (μ : Mem) (v0 : Nat) (v1 : Int32) (v2 : Int32) (v3 : Nat) : Option (Int32 × Mem) :=
  (m_X11_odds N Λ μ v0 v1 v2).bind fun r1 =>
  thn (r1.1 = 0) (if r1.1 = 1 then some (1, r1.2.2) else none) <|
  gd (inb 0 (aZ Λ v3)) <|
  lt (msetL r1.2.2 v3 (0 : Int32).toNatClampNeg (Int32.toInt64 r1.2.1)) fun μ5 =>
  some (0, μ5)
def m_L_most (N : Nat) (Λ : Lay) (μ : Mem) (v0 : Nat) (v1 : Int32) (v2 : Nat) : Option (Int32 × Mem) :=
  (m_X11_most N Λ μ v0 v1).bind fun r1 =>
  thn (r1.1 = 0) (if r1.1 = 4 then some (1, r1.2.2) else none) <|
  gd (inb 0 (aZ Λ v2)) <|
  lt (msetL r1.2.2 v2 (0 : Int32).toNatClampNeg (Int32.toInt64 r1.2.1)) fun μ5 =>
  some (0, μ5)
def m_L_ahead (N : Nat) (Λ : Lay) (μ : Mem) (v0 : Nat) (v1 : Int32) (v2 : Int32) (v3 : Nat) : Option (Int32 × Mem) :=
  (m_X11_ahead N Λ μ v0 v1 v2).bind fun r1 =>
  thn (r1.1 = 0) (if r1.1 = 1 then some (1, r1.2.2) else none) <|
  gd (inb 0 (aZ Λ v3)) <|
  lt (msetL r1.2.2 v3 (0 : Int32).toNatClampNeg (Int32.toInt64 r1.2.1)) fun μ5 =>
  some (0, μ5)
def m_L_trial (N : Nat) (Λ : Lay) (μ : Mem) (v0 : Nat) (v1 : Int32) (v2 : Int32) (v3 : Nat) : Option (Int32 × Mem) :=
  (m_X11_trial N Λ μ v0 v1 v2).bind fun r1 =>
  thn (r1.1 = 0) (if r1.1 = 1 then some (1, r1.2.2) else none) <|
  gd (inb 0 (aZ Λ v3)) <|
  lt (msetL r1.2.2 v3 (0 : Int32).toNatClampNeg (Int32.toInt64 r1.2.1)) fun μ5 =>
  some (0, μ5)
def m_L_span (N : Nat) (Λ : Lay) (μ : Mem) (v0 : Nat) (v1 : Int32) (v2 : Int32) (v3 : Nat) : Option (Int32 × Mem) :=
  (m_X11_span N Λ μ v0 v1 v2).bind fun r1 =>
  thn (r1.1 = 0) (if r1.1 = 1 then some (1, r1.2.2) else none) <|
  gd (inb 0 (aZ Λ v3)) <|
  lt (msetL r1.2.2 v3 (0 : Int32).toNatClampNeg (Int32.toInt64 r1.2.1)) fun μ5 =>
  some (0, μ5)
def m_L_led (N : Nat) (Λ : Lay) (μ : Mem) (v0 : Nat) (v1 : Int32) (v2 : Int32) (v3 : Nat) : Option (Int32 × Mem) :=
  (m_X11_led N Λ μ v0 v1 v2).bind fun r1 =>
  thn (r1.1 = 0) (if r1.1 = 3 then some (1, r1.2.2) else none) <|
  gd (inb 0 (aZ Λ v3)) <|
  lt (msetL r1.2.2 v3 (0 : Int32).toNatClampNeg (Int32.toInt64 r1.2.1)) fun μ5 =>
  some (0, μ5)
def m_L_log (N : Nat) (Λ : Lay) (μ : Mem) (v0 : Nat) (v1 : Int32) (v2 : Int32) (v3 : Nat) : Option (Int32 × Mem) :=
  (m_X11_log N Λ μ v0 v1 v2).bind fun r1 =>
  thn (r1.1 = 0) (if r1.1 = 4 then some (1, r1.2.2) else none) <|
  gd (inb 0 (aZ Λ v3)) <|
  lt (msetL r1.2.2 v3 (0 : Int32).toNatClampNeg (Int32.toInt64 r1.2.1)) fun μ5 =>
  some (0, μ5)
def jn_L_law__2587 (N : Nat) (Λ : Lay) (L : Nat) (sc : Nat → Int32) (μ : Mem) (k23 : Int32 × Mem → Option Int32) (v0 : Nat) (v1 : Nat) (v2 : Nat) (v3 : Nat) (v4 : Int32) : Option (Int32) :=
  lt (v4 + 6) fun y1 =>
  k23 (y1, μ)
def jn_L_law__2497 (N : Nat) (Λ : Lay) (L : Nat) (sc : Nat → Int32) (μ : Mem) (k23 : Int32 × Mem → Option Int32) (v0 : Nat) (v1 : Nat) (v2 : Nat) (v3 : Nat) (v4 : Int32) : Option (Int32) :=
  jn_L_law__2587 N Λ L sc μ k23 v0 v1 v2 v3 v4
def jn_L_law__2429 (N : Nat) (Λ : Lay) (L : Nat) (sc : Nat → Int32) (μ : Mem) (k23 : Int32 × Mem → Option Int32) (v0 : Nat) (v1 : Nat) (v2 : Nat) (v3 : Nat) (v4 : Int32) : Option (Int32) :=
  jn_L_law__2587 N Λ L sc μ k23 v0 v1 v2 v3 v4
def jn_L_law__2396 (N : Nat) (Λ : Lay) (L : Nat) (sc : Nat → Int32) (μ : Mem) (k23 : Int32 × Mem → Option Int32) (v0 : Nat) (v1 : Nat) (v2 : Nat) (v3 : Nat) (v4 : Int32) (v5 : Int32) (s0 : Nat) (s1 : Int32) (s2 : Int32) : Option (Int32) :=
  (m_X12_led N Λ μ s0 s1 s2).bind fun r1 =>
  (m_X12_thrown N Λ r1.2 v2).bind fun r3 =>
  if r3 = v5 then
    (if v5 = 0 then
      (gd (inb 0 (aZ Λ v3)) <|
      if (lg_cmp (r1.2.2 v3 (0 : Int32).toNatClampNeg) (Int32.toInt64 r1.1)) = 0 then
        (jn_L_law__2429 N Λ L sc r1.2 k23 v0 v1 v2 v3 v4)
      else
        (some 0))
    else
      (jn_L_law__2429 N Λ L sc r1.2 k23 v0 v1 v2 v3 v4))
  else
    (some 0)
def jn_L_law__2369 (N : Nat) (Λ : Lay) (L : Nat) (sc : Nat → Int32) (μ : Mem) (k23 : Int32 × Mem → Option Int32) (v0 : Nat) (v1 : Nat) (v2 : Nat) (v3 : Nat) (v4 : Int32) (s0 : Nat) (s1 : Int32) (s2 : Int32) : Option (Int32) :=
  (m_L_led N Λ μ s0 s1 s2 v3).bind fun r1 =>
  gd (inb (v4 + 1) L) <|
  gd (inb (v4 + 2) L) <|
  if (sc (v4 + 2).toNatClampNeg) = 0 then
    (jn_L_law__2396 N Λ L sc r1.2 k23 v0 v1 v2 v3 v4 r1.1 v2 (sc (v4 + 1).toNatClampNeg) 0)
  else
    (jn_L_law__2396 N Λ L sc r1.2 k23 v0 v1 v2 v3 v4 r1.1 v2 (sc (v4 + 1).toNatClampNeg) 1)
def jn_L_law__2345 (N : Nat) (Λ : Lay) (L : Nat) (sc : Nat → Int32) (μ : Mem) (k23 : Int32 × Mem → Option Int32) (v0 : Nat) (v1 : Nat) (v2 : Nat) (v3 : Nat) (v4 : Int32) : Option (Int32) :=
  jn_L_law__2587 N Λ L sc μ k23 v0 v1 v2 v3 v4
def jn_L_law__2312 (N : Nat) (Λ : Lay) (L : Nat) (sc : Nat → Int32) (μ : Mem) (k23 : Int32 × Mem → Option Int32) (v0 : Nat) (v1 : Nat) (v2 : Nat) (v3 : Nat) (v4 : Int32) (v5 : Int32) (s0 : Nat) (s1 : Int32) (s2 : Int32) : Option (Int32) :=
  (m_X12_span N Λ μ s0 s1 s2).bind fun r1 =>
  (m_X12_thrown N Λ r1.2 v2).bind fun r3 =>
  if r3 = v5 then
    (if v5 = 0 then
      (gd (inb 0 (aZ Λ v3)) <|
      if (lg_cmp (r1.2.2 v3 (0 : Int32).toNatClampNeg) (Int32.toInt64 r1.1)) = 0 then
        (jn_L_law__2345 N Λ L sc r1.2 k23 v0 v1 v2 v3 v4)
      else
        (some 0))
    else
      (jn_L_law__2345 N Λ L sc r1.2 k23 v0 v1 v2 v3 v4))
  else
    (some 0)
def jn_L_law__2285 (N : Nat) (Λ : Lay) (L : Nat) (sc : Nat → Int32) (μ : Mem) (k23 : Int32 × Mem → Option Int32) (v0 : Nat) (v1 : Nat) (v2 : Nat) (v3 : Nat) (v4 : Int32) (s0 : Nat) (s1 : Int32) (s2 : Int32) : Option (Int32) :=
  (m_L_span N Λ μ s0 s1 s2 v3).bind fun r1 =>
  gd (inb (v4 + 1) L) <|
  gd (inb (v4 + 2) L) <|
  if (sc (v4 + 2).toNatClampNeg) = 0 then
    (jn_L_law__2312 N Λ L sc r1.2 k23 v0 v1 v2 v3 v4 r1.1 v2 (sc (v4 + 1).toNatClampNeg) 0)
  else
    (jn_L_law__2312 N Λ L sc r1.2 k23 v0 v1 v2 v3 v4 r1.1 v2 (sc (v4 + 1).toNatClampNeg) 1)
def jn_L_law__2261 (N : Nat) (Λ : Lay) (L : Nat) (sc : Nat → Int32) (μ : Mem) (k23 : Int32 × Mem → Option Int32) (v0 : Nat) (v1 : Nat) (v2 : Nat) (v3 : Nat) (v4 : Int32) : Option (Int32) :=
  jn_L_law__2587 N Λ L sc μ k23 v0 v1 v2 v3 v4
def jn_L_law__2228 (N : Nat) (Λ : Lay) (L : Nat) (sc : Nat → Int32) (μ : Mem) (k23 : Int32 × Mem → Option Int32) (v0 : Nat) (v1 : Nat) (v2 : Nat) (v3 : Nat) (v4 : Int32) (v5 : Int32) (s0 : Nat) (s1 : Int32) (s2 : Int32) : Option (Int32) :=
  (m_X12_trial N Λ μ s0 s1 s2).bind fun r1 =>
  (m_X12_thrown N Λ r1.2 v2).bind fun r3 =>
  if r3 = v5 then
    (if v5 = 0 then
      (gd (inb 0 (aZ Λ v3)) <|
      if (lg_cmp (r1.2.2 v3 (0 : Int32).toNatClampNeg) (Int32.toInt64 r1.1)) = 0 then
        (jn_L_law__2261 N Λ L sc r1.2 k23 v0 v1 v2 v3 v4)
      else
        (some 0))
    else
      (jn_L_law__2261 N Λ L sc r1.2 k23 v0 v1 v2 v3 v4))
  else
    (some 0)
def jn_L_law__2201 (N : Nat) (Λ : Lay) (L : Nat) (sc : Nat → Int32) (μ : Mem) (k23 : Int32 × Mem → Option Int32) (v0 : Nat) (v1 : Nat) (v2 : Nat) (v3 : Nat) (v4 : Int32) (s0 : Nat) (s1 : Int32) (s2 : Int32) : Option (Int32) :=
  (m_L_trial N Λ μ s0 s1 s2 v3).bind fun r1 =>
  gd (inb (v4 + 1) L) <|
  gd (inb (v4 + 2) L) <|
  if (sc (v4 + 2).toNatClampNeg) = 0 then
    (jn_L_law__2228 N Λ L sc r1.2 k23 v0 v1 v2 v3 v4 r1.1 v2 (sc (v4 + 1).toNatClampNeg) 0)
  else
    (jn_L_law__2228 N Λ L sc r1.2 k23 v0 v1 v2 v3 v4 r1.1 v2 (sc (v4 + 1).toNatClampNeg) 1)
def jn_L_law__2177 (N : Nat) (Λ : Lay) (L : Nat) (sc : Nat → Int32) (μ : Mem) (k23 : Int32 × Mem → Option Int32) (v0 : Nat) (v1 : Nat) (v2 : Nat) (v3 : Nat) (v4 : Int32) : Option (Int32) :=
  jn_L_law__2587 N Λ L sc μ k23 v0 v1 v2 v3 v4
def jn_L_law__2144 (N : Nat) (Λ : Lay) (L : Nat) (sc : Nat → Int32) (μ : Mem) (k23 : Int32 × Mem → Option Int32) (v0 : Nat) (v1 : Nat) (v2 : Nat) (v3 : Nat) (v4 : Int32) (v5 : Int32) (s0 : Nat) (s1 : Int32) (s2 : Int32) : Option (Int32) :=
  (m_X12_ahead N Λ μ s0 s1 s2).bind fun r1 =>
  (m_X12_thrown N Λ r1.2 v2).bind fun r3 =>
  if r3 = v5 then
    (if v5 = 0 then
      (gd (inb 0 (aZ Λ v3)) <|
      if (lg_cmp (r1.2.2 v3 (0 : Int32).toNatClampNeg) (Int32.toInt64 r1.1)) = 0 then
        (jn_L_law__2177 N Λ L sc r1.2 k23 v0 v1 v2 v3 v4)
      else
        (some 0))
    else
      (jn_L_law__2177 N Λ L sc r1.2 k23 v0 v1 v2 v3 v4))
  else
    (some 0)
def jn_L_law__2117 (N : Nat) (Λ : Lay) (L : Nat) (sc : Nat → Int32) (μ : Mem) (k23 : Int32 × Mem → Option Int32) (v0 : Nat) (v1 : Nat) (v2 : Nat) (v3 : Nat) (v4 : Int32) (s0 : Nat) (s1 : Int32) (s2 : Int32) : Option (Int32) :=
  (m_L_ahead N Λ μ s0 s1 s2 v3).bind fun r1 =>
  gd (inb (v4 + 1) L) <|
  gd (inb (v4 + 2) L) <|
  if (sc (v4 + 2).toNatClampNeg) = 0 then
    (jn_L_law__2144 N Λ L sc r1.2 k23 v0 v1 v2 v3 v4 r1.1 v2 (sc (v4 + 1).toNatClampNeg) 0)
  else
    (jn_L_law__2144 N Λ L sc r1.2 k23 v0 v1 v2 v3 v4 r1.1 v2 (sc (v4 + 1).toNatClampNeg) 1)
def jn_L_law__2088 (N : Nat) (Λ : Lay) (L : Nat) (sc : Nat → Int32) (μ : Mem) (k23 : Int32 × Mem → Option Int32) (v0 : Nat) (v1 : Nat) (v2 : Nat) (v3 : Nat) (v4 : Int32) (s0 : Int32) (s1 : Nat) (s2 : Int32) : Option (Int32) :=
  (m_X12_water N Λ μ s1 s2).bind fun r1 =>
  if s0 = r1.1 then
    (jn_L_law__2587 N Λ L sc r1.2 k23 v0 v1 v2 v3 v4)
  else
    (some 0)
def jn_L_law__2070 (N : Nat) (Λ : Lay) (L : Nat) (sc : Nat → Int32) (μ : Mem) (k23 : Int32 × Mem → Option Int32) (v0 : Nat) (v1 : Nat) (v2 : Nat) (v3 : Nat) (v4 : Int32) (s0 : Nat) (s1 : Int32) : Option (Int32) :=
  (m_X11_water N Λ μ s0 s1).bind fun r1 =>
  gd (inb (v4 + 1) L) <|
  if (sc (v4 + 1).toNatClampNeg) = 0 then
    (jn_L_law__2088 N Λ L sc μ k23 v0 v1 v2 v3 v4 r1 v2 0)
  else
    (jn_L_law__2088 N Λ L sc μ k23 v0 v1 v2 v3 v4 r1 v2 1)
def jn_L_law__1987 (N : Nat) (Λ : Lay) (L : Nat) (sc : Nat → Int32) (μ : Mem) (k23 : Int32 × Mem → Option Int32) (v0 : Nat) (v1 : Nat) (v2 : Nat) (v3 : Nat) (v4 : Int32) : Option (Int32) :=
  jn_L_law__2587 N Λ L sc μ k23 v0 v1 v2 v3 v4
def jn_L_law__1931 (N : Nat) (Λ : Lay) (L : Nat) (sc : Nat → Int32) (μ : Mem) (k23 : Int32 × Mem → Option Int32) (v0 : Nat) (v1 : Nat) (v2 : Nat) (v3 : Nat) (v4 : Int32) : Option (Int32) :=
  jn_L_law__2587 N Λ L sc μ k23 v0 v1 v2 v3 v4
def jn_L_law__1863 (N : Nat) (Λ : Lay) (L : Nat) (sc : Nat → Int32) (μ : Mem) (k23 : Int32 × Mem → Option Int32) (v0 : Nat) (v1 : Nat) (v2 : Nat) (v3 : Nat) (v4 : Int32) : Option (Int32) :=
  jn_L_law__2587 N Λ L sc μ k23 v0 v1 v2 v3 v4
def jn_L_law__1807 (N : Nat) (Λ : Lay) (L : Nat) (sc : Nat → Int32) (μ : Mem) (k23 : Int32 × Mem → Option Int32) (v0 : Nat) (v1 : Nat) (v2 : Nat) (v3 : Nat) (v4 : Int32) : Option (Int32) :=
  jn_L_law__2587 N Λ L sc μ k23 v0 v1 v2 v3 v4
def jn_L_law__1751 (N : Nat) (Λ : Lay) (L : Nat) (sc : Nat → Int32) (μ : Mem) (k23 : Int32 × Mem → Option Int32) (v0 : Nat) (v1 : Nat) (v2 : Nat) (v3 : Nat) (v4 : Int32) : Option (Int32) :=
  jn_L_law__2587 N Λ L sc μ k23 v0 v1 v2 v3 v4
def jn_L_law__1669 (N : Nat) (Λ : Lay) (L : Nat) (sc : Nat → Int32) (μ : Mem) (k23 : Int32 × Mem → Option Int32) (v0 : Nat) (v1 : Nat) (v2 : Nat) (v3 : Nat) (v4 : Int32) : Option (Int32) :=
  jn_L_law__2587 N Λ L sc μ k23 v0 v1 v2 v3 v4
def jn_L_law__1625 (N : Nat) (Λ : Lay) (L : Nat) (sc : Nat → Int32) (μ : Mem) (k23 : Int32 × Mem → Option Int32) (v0 : Nat) (v1 : Nat) (v2 : Nat) (v3 : Nat) (v4 : Int32) : Option (Int32) :=
  jn_L_law__2587 N Λ L sc μ k23 v0 v1 v2 v3 v4
def jn_L_law__1581 (N : Nat) (Λ : Lay) (L : Nat) (sc : Nat → Int32) (μ : Mem) (k23 : Int32 × Mem → Option Int32) (v0 : Nat) (v1 : Nat) (v2 : Nat) (v3 : Nat) (v4 : Int32) : Option (Int32) :=
  jn_L_law__2587 N Λ L sc μ k23 v0 v1 v2 v3 v4
def jn_L_law__1537 (N : Nat) (Λ : Lay) (L : Nat) (sc : Nat → Int32) (μ : Mem) (k23 : Int32 × Mem → Option Int32) (v0 : Nat) (v1 : Nat) (v2 : Nat) (v3 : Nat) (v4 : Int32) : Option (Int32) :=
  jn_L_law__2587 N Λ L sc μ k23 v0 v1 v2 v3 v4
def jn_L_law__1493 (N : Nat) (Λ : Lay) (L : Nat) (sc : Nat → Int32) (μ : Mem) (k23 : Int32 × Mem → Option Int32) (v0 : Nat) (v1 : Nat) (v2 : Nat) (v3 : Nat) (v4 : Int32) : Option (Int32) :=
  jn_L_law__2587 N Λ L sc μ k23 v0 v1 v2 v3 v4
def jn_L_law__1460 (N : Nat) (Λ : Lay) (L : Nat) (sc : Nat → Int32) (μ : Mem) (k23 : Int32 × Mem → Option Int32) (v0 : Nat) (v1 : Nat) (v2 : Nat) (v3 : Nat) (v4 : Int32) (v5 : Int32) (s0 : Nat) (s1 : Int32) : Option (Int32) :=
  (m_X12_goes N Λ μ s0 s1).bind fun r1 =>
  (m_X12_thrown N Λ r1.2 v2).bind fun r3 =>
  if r3 = v5 then
    (if v5 = 0 then
      (gd (inb 0 (aZ Λ v3)) <|
      if (lg_cmp (r1.2.2 v3 (0 : Int32).toNatClampNeg) (Int32.toInt64 r1.1)) = 0 then
        (jn_L_law__1493 N Λ L sc r1.2 k23 v0 v1 v2 v3 v4)
      else
        (some 0))
    else
      (jn_L_law__1493 N Λ L sc r1.2 k23 v0 v1 v2 v3 v4))
  else
    (some 0)
def jn_L_law__1439 (N : Nat) (Λ : Lay) (L : Nat) (sc : Nat → Int32) (μ : Mem) (k23 : Int32 × Mem → Option Int32) (v0 : Nat) (v1 : Nat) (v2 : Nat) (v3 : Nat) (v4 : Int32) (s0 : Nat) (s1 : Int32) : Option (Int32) :=
  (m_L_goes N Λ μ s0 s1 v3).bind fun r1 =>
  gd (inb (v4 + 1) L) <|
  if (sc (v4 + 1).toNatClampNeg) = 0 then
    (jn_L_law__1460 N Λ L sc r1.2 k23 v0 v1 v2 v3 v4 r1.1 v2 0)
  else
    (jn_L_law__1460 N Λ L sc r1.2 k23 v0 v1 v2 v3 v4 r1.1 v2 1)
def jn_L_law__1278 (N : Nat) (Λ : Lay) (L : Nat) (sc : Nat → Int32) (μ : Mem) (k23 : Int32 × Mem → Option Int32) (v0 : Nat) (v1 : Nat) (v2 : Nat) (v3 : Nat) (v4 : Int32) : Option (Int32) :=
  jn_L_law__2587 N Λ L sc μ k23 v0 v1 v2 v3 v4
def jn_L_law__1210 (N : Nat) (Λ : Lay) (L : Nat) (sc : Nat → Int32) (μ : Mem) (k23 : Int32 × Mem → Option Int32) (v0 : Nat) (v1 : Nat) (v2 : Nat) (v3 : Nat) (v4 : Int32) : Option (Int32) :=
  jn_L_law__2587 N Λ L sc μ k23 v0 v1 v2 v3 v4
def jn_L_law__1154 (N : Nat) (Λ : Lay) (L : Nat) (sc : Nat → Int32) (μ : Mem) (k23 : Int32 × Mem → Option Int32) (v0 : Nat) (v1 : Nat) (v2 : Nat) (v3 : Nat) (v4 : Int32) : Option (Int32) :=
  jn_L_law__2587 N Λ L sc μ k23 v0 v1 v2 v3 v4
def jn_L_law__1098 (N : Nat) (Λ : Lay) (L : Nat) (sc : Nat → Int32) (μ : Mem) (k23 : Int32 × Mem → Option Int32) (v0 : Nat) (v1 : Nat) (v2 : Nat) (v3 : Nat) (v4 : Int32) : Option (Int32) :=
  jn_L_law__2587 N Λ L sc μ k23 v0 v1 v2 v3 v4
def jn_L_law__1092 (N : Nat) (Λ : Lay) (L : Nat) (sc : Nat → Int32) (μ : Mem) (k23 : Int32 × Mem → Option Int32) (v0 : Nat) (v1 : Nat) (v2 : Nat) (v3 : Nat) (v4 : Int32) (s0 : Int64) (s1 : Int64) : Option (Int32) :=
  if (lg_cmp s0 s1) = 0 then
    (jn_L_law__1098 N Λ L sc μ k23 v0 v1 v2 v3 v4)
  else
    (some 0)
def jn_L_law__1058 (N : Nat) (Λ : Lay) (L : Nat) (sc : Nat → Int32) (μ : Mem) (k23 : Int32 × Mem → Option Int32) (v0 : Nat) (v1 : Nat) (v2 : Nat) (v3 : Nat) (v4 : Int32) (v5 : Int32) (s0 : Nat) (s1 : Int32) (s2 : Int32) : Option (Int32) :=
  (m_X12_block N Λ μ s0 s1 s2).bind fun r1 =>
  (m_X12_thrown N Λ r1.2 v2).bind fun r3 =>
  if r3 = v5 then
    (if v5 = 0 then
      (gd (inb 0 (aZ Λ v3)) <|
      if r1.1 = 0 then
        (jn_L_law__1092 N Λ L sc r1.2 k23 v0 v1 v2 v3 v4 (r1.2.2 v3 (0 : Int32).toNatClampNeg) 0)
      else
        (jn_L_law__1092 N Λ L sc r1.2 k23 v0 v1 v2 v3 v4 (r1.2.2 v3 (0 : Int32).toNatClampNeg) 1))
    else
      (jn_L_law__1098 N Λ L sc r1.2 k23 v0 v1 v2 v3 v4))
  else
    (some 0)
def jn_L_law__1031 (N : Nat) (Λ : Lay) (L : Nat) (sc : Nat → Int32) (μ : Mem) (k23 : Int32 × Mem → Option Int32) (v0 : Nat) (v1 : Nat) (v2 : Nat) (v3 : Nat) (v4 : Int32) (s0 : Nat) (s1 : Int32) (s2 : Int32) : Option (Int32) :=
  (m_L_block N Λ μ s0 s1 s2 v3).bind fun r1 =>
  gd (inb (v4 + 1) L) <|
  gd (inb (v4 + 2) L) <|
  if (sc (v4 + 2).toNatClampNeg) = 0 then
    (jn_L_law__1058 N Λ L sc r1.2 k23 v0 v1 v2 v3 v4 r1.1 v2 (sc (v4 + 1).toNatClampNeg) 0)
  else
    (jn_L_law__1058 N Λ L sc r1.2 k23 v0 v1 v2 v3 v4 r1.1 v2 (sc (v4 + 1).toNatClampNeg) 1)
def jn_L_law__1007 (N : Nat) (Λ : Lay) (L : Nat) (sc : Nat → Int32) (μ : Mem) (k23 : Int32 × Mem → Option Int32) (v0 : Nat) (v1 : Nat) (v2 : Nat) (v3 : Nat) (v4 : Int32) : Option (Int32) :=
  jn_L_law__2587 N Λ L sc μ k23 v0 v1 v2 v3 v4
def jn_L_law__927 (N : Nat) (Λ : Lay) (L : Nat) (sc : Nat → Int32) (μ : Mem) (k23 : Int32 × Mem → Option Int32) (v0 : Nat) (v1 : Nat) (v2 : Nat) (v3 : Nat) (v4 : Int32) : Option (Int32) :=
  jn_L_law__2587 N Λ L sc μ k23 v0 v1 v2 v3 v4
def jn_L_law__871 (N : Nat) (Λ : Lay) (L : Nat) (sc : Nat → Int32) (μ : Mem) (k23 : Int32 × Mem → Option Int32) (v0 : Nat) (v1 : Nat) (v2 : Nat) (v3 : Nat) (v4 : Int32) : Option (Int32) :=
  jn_L_law__2587 N Λ L sc μ k23 v0 v1 v2 v3 v4
def jn_L_law__803 (N : Nat) (Λ : Lay) (L : Nat) (sc : Nat → Int32) (μ : Mem) (k23 : Int32 × Mem → Option Int32) (v0 : Nat) (v1 : Nat) (v2 : Nat) (v3 : Nat) (v4 : Int32) : Option (Int32) :=
  jn_L_law__2587 N Λ L sc μ k23 v0 v1 v2 v3 v4
def jn_L_law__797 (N : Nat) (Λ : Lay) (L : Nat) (sc : Nat → Int32) (μ : Mem) (k23 : Int32 × Mem → Option Int32) (v0 : Nat) (v1 : Nat) (v2 : Nat) (v3 : Nat) (v4 : Int32) (s0 : Int64) (s1 : Int64) : Option (Int32) :=
  if (lg_cmp s0 s1) = 0 then
    (jn_L_law__803 N Λ L sc μ k23 v0 v1 v2 v3 v4)
  else
    (some 0)
def jn_L_law__763 (N : Nat) (Λ : Lay) (L : Nat) (sc : Nat → Int32) (μ : Mem) (k23 : Int32 × Mem → Option Int32) (v0 : Nat) (v1 : Nat) (v2 : Nat) (v3 : Nat) (v4 : Int32) (v5 : Int32) (s0 : Nat) (s1 : Int32) : Option (Int32) :=
  (m_X12_gate N Λ μ s0 s1).bind fun r1 =>
  (m_X12_thrown N Λ r1.2 v2).bind fun r3 =>
  if r3 = v5 then
    (if v5 = 0 then
      (gd (inb 0 (aZ Λ v3)) <|
      if r1.1 = 0 then
        (jn_L_law__797 N Λ L sc r1.2 k23 v0 v1 v2 v3 v4 (r1.2.2 v3 (0 : Int32).toNatClampNeg) 0)
      else
        (jn_L_law__797 N Λ L sc r1.2 k23 v0 v1 v2 v3 v4 (r1.2.2 v3 (0 : Int32).toNatClampNeg) 1))
    else
      (jn_L_law__803 N Λ L sc r1.2 k23 v0 v1 v2 v3 v4))
  else
    (some 0)
def jn_L_law__742 (N : Nat) (Λ : Lay) (L : Nat) (sc : Nat → Int32) (μ : Mem) (k23 : Int32 × Mem → Option Int32) (v0 : Nat) (v1 : Nat) (v2 : Nat) (v3 : Nat) (v4 : Int32) (s0 : Nat) (s1 : Int32) : Option (Int32) :=
  (m_L_gate N Λ μ s0 s1 v3).bind fun r1 =>
  gd (inb (v4 + 1) L) <|
  if (sc (v4 + 1).toNatClampNeg) = 0 then
    (jn_L_law__763 N Λ L sc r1.2 k23 v0 v1 v2 v3 v4 r1.1 v2 0)
  else
    (jn_L_law__763 N Λ L sc r1.2 k23 v0 v1 v2 v3 v4 r1.1 v2 1)
def jn_L_law__724 (N : Nat) (Λ : Lay) (L : Nat) (sc : Nat → Int32) (μ : Mem) (k23 : Int32 × Mem → Option Int32) (v0 : Nat) (v1 : Nat) (v2 : Nat) (v3 : Nat) (v4 : Int32) : Option (Int32) :=
  jn_L_law__2587 N Λ L sc μ k23 v0 v1 v2 v3 v4
def jn_L_law__668 (N : Nat) (Λ : Lay) (L : Nat) (sc : Nat → Int32) (μ : Mem) (k23 : Int32 × Mem → Option Int32) (v0 : Nat) (v1 : Nat) (v2 : Nat) (v3 : Nat) (v4 : Int32) : Option (Int32) :=
  jn_L_law__2587 N Λ L sc μ k23 v0 v1 v2 v3 v4
def jn_L_law__612 (N : Nat) (Λ : Lay) (L : Nat) (sc : Nat → Int32) (μ : Mem) (k23 : Int32 × Mem → Option Int32) (v0 : Nat) (v1 : Nat) (v2 : Nat) (v3 : Nat) (v4 : Int32) : Option (Int32) :=
  jn_L_law__2587 N Λ L sc μ k23 v0 v1 v2 v3 v4
def jn_L_law__544 (N : Nat) (Λ : Lay) (L : Nat) (sc : Nat → Int32) (μ : Mem) (k23 : Int32 × Mem → Option Int32) (v0 : Nat) (v1 : Nat) (v2 : Nat) (v3 : Nat) (v4 : Int32) : Option (Int32) :=
  jn_L_law__2587 N Λ L sc μ k23 v0 v1 v2 v3 v4
def jn_L_law__463 (N : Nat) (Λ : Lay) (L : Nat) (sc : Nat → Int32) (μ : Mem) (k23 : Int32 × Mem → Option Int32) (v0 : Nat) (v1 : Nat) (v2 : Nat) (v3 : Nat) (v4 : Int32) : Option (Int32) :=
  jn_L_law__2587 N Λ L sc μ k23 v0 v1 v2 v3 v4
def jn_L_law__419 (N : Nat) (Λ : Lay) (L : Nat) (sc : Nat → Int32) (μ : Mem) (k23 : Int32 × Mem → Option Int32) (v0 : Nat) (v1 : Nat) (v2 : Nat) (v3 : Nat) (v4 : Int32) : Option (Int32) :=
  jn_L_law__2587 N Λ L sc μ k23 v0 v1 v2 v3 v4
def bd_L_law__23 (N : Nat) (Λ : Lay) (L : Nat) (sc : Nat → Int32) (μ : Mem) (k23 : Int32 × Mem → Option Int32) (v0 : Nat) (v1 : Nat) (v2 : Nat) (v3 : Nat) (v4 : Int32) : Option (Int32) :=
  if ((Int32.ofNat L) - 6) < v4 then
    (some 1)
  else
    (gd (inb v4 L) <|
    if ((sc v4.toNatClampNeg) &&& 63) = 0 then
      (gd (inb (v4 + 1) L) <|
      gd (inb (v4 + 2) L) <|
      gd (inb (v4 + 3) L) <|
      gd (inb (v4 + 4) L) <|
      gd (inb (v4 + 5) L) <|
      (m_X11_feed N Λ μ v1 (sc (v4 + 1).toNatClampNeg) (sc (v4 + 2).toNatClampNeg) (sc (v4 + 3).toNatClampNeg) (sc (v4 + 4).toNatClampNeg) (sc (v4 + 5).toNatClampNeg)).bind fun r9 =>
      gd (inb (v4 + 1) L) <|
      gd (inb (v4 + 2) L) <|
      gd (inb (v4 + 3) L) <|
      gd (inb (v4 + 4) L) <|
      gd (inb (v4 + 5) L) <|
      (m_X12_feed N Λ r9.2 v2 (sc (v4 + 1).toNatClampNeg) (sc (v4 + 2).toNatClampNeg) (sc (v4 + 3).toNatClampNeg) (sc (v4 + 4).toNatClampNeg) (sc (v4 + 5).toNatClampNeg)).bind fun r16 =>
      if r9.1 = r16.1 then
        (jn_L_law__2587 N Λ L sc r16.2 k23 v0 v1 v2 v3 v4)
      else
        (some 0))
    else
    if ((sc v4.toNatClampNeg) &&& 63) = 1 then
      (gd (inb (v4 + 1) L) <|
      (m_X11_end N Λ μ v1 (sc (v4 + 1).toNatClampNeg)).bind fun r21 =>
      gd (inb (v4 + 1) L) <|
      (m_X12_end N Λ r21.2 v2 (sc (v4 + 1).toNatClampNeg)).bind fun r24 =>
      if r21.1 = r24.1 then
        (jn_L_law__2587 N Λ L sc r24.2 k23 v0 v1 v2 v3 v4)
      else
        (some 0))
    else
    if ((sc v4.toNatClampNeg) &&& 63) = 2 then
      ((m_L_dock N Λ μ v1 v3).bind fun r28 =>
      (m_X12_dock N Λ r28.2 v2).bind fun r30 =>
      (m_X12_thrown N Λ r30.2 v2).bind fun r32 =>
      if r32 = r28.1 then
        (if r28.1 = 0 then
          (gd (inb 0 (aZ Λ v3)) <|
          if (lg_cmp (r30.2.2 v3 (0 : Int32).toNatClampNeg) (Int32.toInt64 r30.1)) = 0 then
            (jn_L_law__419 N Λ L sc r30.2 k23 v0 v1 v2 v3 v4)
          else
            (some 0))
        else
          (jn_L_law__419 N Λ L sc r30.2 k23 v0 v1 v2 v3 v4))
      else
        (some 0))
    else
    if ((sc v4.toNatClampNeg) &&& 63) = 3 then
      ((m_L_law N Λ μ v1 v3).bind fun r39 =>
      (m_X12_law N Λ r39.2 v2).bind fun r41 =>
      (m_X12_thrown N Λ r41.2 v2).bind fun r43 =>
      if r43 = r39.1 then
        (if r39.1 = 0 then
          (gd (inb 0 (aZ Λ v3)) <|
          if (lg_cmp (r41.2.2 v3 (0 : Int32).toNatClampNeg) (Int32.toInt64 r41.1)) = 0 then
            (jn_L_law__463 N Λ L sc r41.2 k23 v0 v1 v2 v3 v4)
          else
            (some 0))
        else
          (jn_L_law__463 N Λ L sc r41.2 k23 v0 v1 v2 v3 v4))
      else
        (some 0))
    else
    if ((sc v4.toNatClampNeg) &&& 63) = 4 then
      ((m_X11_fault N Λ μ v1).bind fun r50 =>
      (m_X12_fault N Λ μ v2).bind fun r52 =>
      if r50 = r52.1 then
        (jn_L_law__2587 N Λ L sc r52.2 k23 v0 v1 v2 v3 v4)
      else
        (some 0))
    else
    if ((sc v4.toNatClampNeg) &&& 63) = 5 then
      (gd (inb (v4 + 1) L) <|
      gd (inb (v4 + 2) L) <|
      (m_L_ship N Λ μ v1 (sc (v4 + 1).toNatClampNeg) (sc (v4 + 2).toNatClampNeg) v3).bind fun r58 =>
      gd (inb (v4 + 1) L) <|
      gd (inb (v4 + 2) L) <|
      (m_X12_ship N Λ r58.2 v2 (sc (v4 + 1).toNatClampNeg) (sc (v4 + 2).toNatClampNeg)).bind fun r62 =>
      (m_X12_thrown N Λ r62.2 v2).bind fun r64 =>
      if r64 = r58.1 then
        (if r58.1 = 0 then
          (gd (inb 0 (aZ Λ v3)) <|
          if (lg_cmp (r62.2.2 v3 (0 : Int32).toNatClampNeg) (Int32.toInt64 r62.1)) = 0 then
            (jn_L_law__544 N Λ L sc r62.2 k23 v0 v1 v2 v3 v4)
          else
            (some 0))
        else
          (jn_L_law__544 N Λ L sc r62.2 k23 v0 v1 v2 v3 v4))
      else
        (some 0))
    else
    if ((sc v4.toNatClampNeg) &&& 63) = 6 then
      (gd (inb (v4 + 1) L) <|
      gd (inb (v4 + 2) L) <|
      (m_L_place N Λ μ v1 (sc (v4 + 1).toNatClampNeg) (sc (v4 + 2).toNatClampNeg) v3).bind fun r73 =>
      gd (inb (v4 + 1) L) <|
      gd (inb (v4 + 2) L) <|
      (m_X12_place N Λ r73.2 v2 (sc (v4 + 1).toNatClampNeg) (sc (v4 + 2).toNatClampNeg)).bind fun r77 =>
      (m_X12_thrown N Λ r77.2 v2).bind fun r79 =>
      if r79 = r73.1 then
        (if r73.1 = 0 then
          (gd (inb 0 (aZ Λ v3)) <|
          if (lg_cmp (r77.2.2 v3 (0 : Int32).toNatClampNeg) (Int32.toInt64 r77.1)) = 0 then
            (jn_L_law__612 N Λ L sc r77.2 k23 v0 v1 v2 v3 v4)
          else
            (some 0))
        else
          (jn_L_law__612 N Λ L sc r77.2 k23 v0 v1 v2 v3 v4))
      else
        (some 0))
    else
    if ((sc v4.toNatClampNeg) &&& 63) = 7 then
      (gd (inb (v4 + 1) L) <|
      (m_L_tide N Λ μ v1 (sc (v4 + 1).toNatClampNeg) v3).bind fun r87 =>
      gd (inb (v4 + 1) L) <|
      (m_X12_tide N Λ r87.2 v2 (sc (v4 + 1).toNatClampNeg)).bind fun r90 =>
      (m_X12_thrown N Λ r90.2 v2).bind fun r92 =>
      if r92 = r87.1 then
        (if r87.1 = 0 then
          (gd (inb 0 (aZ Λ v3)) <|
          if (lg_cmp (r90.2.2 v3 (0 : Int32).toNatClampNeg) (Int32.toInt64 r90.1)) = 0 then
            (jn_L_law__668 N Λ L sc r90.2 k23 v0 v1 v2 v3 v4)
          else
            (some 0))
        else
          (jn_L_law__668 N Λ L sc r90.2 k23 v0 v1 v2 v3 v4))
      else
        (some 0))
    else
    if ((sc v4.toNatClampNeg) &&& 63) = 8 then
      (gd (inb (v4 + 1) L) <|
      (m_L_hours N Λ μ v1 (sc (v4 + 1).toNatClampNeg) v3).bind fun r100 =>
      gd (inb (v4 + 1) L) <|
      (m_X12_hours N Λ r100.2 v2 (sc (v4 + 1).toNatClampNeg)).bind fun r103 =>
      (m_X12_thrown N Λ r103.2 v2).bind fun r105 =>
      if r105 = r100.1 then
        (if r100.1 = 0 then
          (gd (inb 0 (aZ Λ v3)) <|
          if (lg_cmp (r103.2.2 v3 (0 : Int32).toNatClampNeg) (Int32.toInt64 r103.1)) = 0 then
            (jn_L_law__724 N Λ L sc r103.2 k23 v0 v1 v2 v3 v4)
          else
            (some 0))
        else
          (jn_L_law__724 N Λ L sc r103.2 k23 v0 v1 v2 v3 v4))
      else
        (some 0))
    else
    if ((sc v4.toNatClampNeg) &&& 63) = 9 then
      (gd (inb (v4 + 1) L) <|
      if (sc (v4 + 1).toNatClampNeg) = 0 then
        (jn_L_law__742 N Λ L sc μ k23 v0 v1 v2 v3 v4 v1 0)
      else
        (jn_L_law__742 N Λ L sc μ k23 v0 v1 v2 v3 v4 v1 1))
    else
    if ((sc v4.toNatClampNeg) &&& 63) = 10 then
      (gd (inb (v4 + 1) L) <|
      gd (inb (v4 + 2) L) <|
      (m_L_enter N Λ μ v1 (sc (v4 + 1).toNatClampNeg) (sc (v4 + 2).toNatClampNeg) v3).bind fun r117 =>
      gd (inb (v4 + 1) L) <|
      gd (inb (v4 + 2) L) <|
      (m_X12_enter N Λ r117.2 v2 (sc (v4 + 1).toNatClampNeg) (sc (v4 + 2).toNatClampNeg)).bind fun r121 =>
      (m_X12_thrown N Λ r121.2 v2).bind fun r123 =>
      if r123 = r117.1 then
        (if r117.1 = 0 then
          (gd (inb 0 (aZ Λ v3)) <|
          if (lg_cmp (r121.2.2 v3 (0 : Int32).toNatClampNeg) (Int32.toInt64 r121.1)) = 0 then
            (jn_L_law__871 N Λ L sc r121.2 k23 v0 v1 v2 v3 v4)
          else
            (some 0))
        else
          (jn_L_law__871 N Λ L sc r121.2 k23 v0 v1 v2 v3 v4))
      else
        (some 0))
    else
    if ((sc v4.toNatClampNeg) &&& 63) = 11 then
      (gd (inb (v4 + 1) L) <|
      (m_L_leave N Λ μ v1 (sc (v4 + 1).toNatClampNeg) v3).bind fun r131 =>
      gd (inb (v4 + 1) L) <|
      (m_X12_leave N Λ r131.2 v2 (sc (v4 + 1).toNatClampNeg)).bind fun r134 =>
      (m_X12_thrown N Λ r134.2 v2).bind fun r136 =>
      if r136 = r131.1 then
        (if r131.1 = 0 then
          (gd (inb 0 (aZ Λ v3)) <|
          if (lg_cmp (r134.2.2 v3 (0 : Int32).toNatClampNeg) (Int32.toInt64 r134.1)) = 0 then
            (jn_L_law__927 N Λ L sc r134.2 k23 v0 v1 v2 v3 v4)
          else
            (some 0))
        else
          (jn_L_law__927 N Λ L sc r134.2 k23 v0 v1 v2 v3 v4))
      else
        (some 0))
    else
    if ((sc v4.toNatClampNeg) &&& 63) = 12 then
      (gd (inb (v4 + 1) L) <|
      gd (inb (v4 + 2) L) <|
      gd (inb (v4 + 3) L) <|
      (m_L_comes N Λ μ v1 (sc (v4 + 1).toNatClampNeg) (sc (v4 + 2).toNatClampNeg) (sc (v4 + 3).toNatClampNeg) v3).bind fun r146 =>
      gd (inb (v4 + 1) L) <|
      gd (inb (v4 + 2) L) <|
      gd (inb (v4 + 3) L) <|
      (m_X12_comes N Λ r146.2 v2 (sc (v4 + 1).toNatClampNeg) (sc (v4 + 2).toNatClampNeg) (sc (v4 + 3).toNatClampNeg)).bind fun r151 =>
      (m_X12_thrown N Λ r151.2 v2).bind fun r153 =>
      if r153 = r146.1 then
        (if r146.1 = 0 then
          (gd (inb 0 (aZ Λ v3)) <|
          if (lg_cmp (r151.2.2 v3 (0 : Int32).toNatClampNeg) (Int32.toInt64 r151.1)) = 0 then
            (jn_L_law__1007 N Λ L sc r151.2 k23 v0 v1 v2 v3 v4)
          else
            (some 0))
        else
          (jn_L_law__1007 N Λ L sc r151.2 k23 v0 v1 v2 v3 v4))
      else
        (some 0))
    else
    if ((sc v4.toNatClampNeg) &&& 63) = 13 then
      (gd (inb (v4 + 1) L) <|
      gd (inb (v4 + 2) L) <|
      if (sc (v4 + 2).toNatClampNeg) = 0 then
        (jn_L_law__1031 N Λ L sc μ k23 v0 v1 v2 v3 v4 v1 (sc (v4 + 1).toNatClampNeg) 0)
      else
        (jn_L_law__1031 N Λ L sc μ k23 v0 v1 v2 v3 v4 v1 (sc (v4 + 1).toNatClampNeg) 1))
    else
    if ((sc v4.toNatClampNeg) &&& 63) = 14 then
      (gd (inb (v4 + 1) L) <|
      (m_L_pumps N Λ μ v1 (sc (v4 + 1).toNatClampNeg) v3).bind fun r165 =>
      gd (inb (v4 + 1) L) <|
      (m_X12_pumps N Λ r165.2 v2 (sc (v4 + 1).toNatClampNeg)).bind fun r168 =>
      (m_X12_thrown N Λ r168.2 v2).bind fun r170 =>
      if r170 = r165.1 then
        (if r165.1 = 0 then
          (gd (inb 0 (aZ Λ v3)) <|
          if (lg_cmp (r168.2.2 v3 (0 : Int32).toNatClampNeg) (Int32.toInt64 r168.1)) = 0 then
            (jn_L_law__1154 N Λ L sc r168.2 k23 v0 v1 v2 v3 v4)
          else
            (some 0))
        else
          (jn_L_law__1154 N Λ L sc r168.2 k23 v0 v1 v2 v3 v4))
      else
        (some 0))
    else
    if ((sc v4.toNatClampNeg) &&& 63) = 15 then
      (gd (inb (v4 + 1) L) <|
      (m_L_hands N Λ μ v1 (sc (v4 + 1).toNatClampNeg) v3).bind fun r178 =>
      gd (inb (v4 + 1) L) <|
      (m_X12_hands N Λ r178.2 v2 (sc (v4 + 1).toNatClampNeg)).bind fun r181 =>
      (m_X12_thrown N Λ r181.2 v2).bind fun r183 =>
      if r183 = r178.1 then
        (if r178.1 = 0 then
          (gd (inb 0 (aZ Λ v3)) <|
          if (lg_cmp (r181.2.2 v3 (0 : Int32).toNatClampNeg) (Int32.toInt64 r181.1)) = 0 then
            (jn_L_law__1210 N Λ L sc r181.2 k23 v0 v1 v2 v3 v4)
          else
            (some 0))
        else
          (jn_L_law__1210 N Λ L sc r181.2 k23 v0 v1 v2 v3 v4))
      else
        (some 0))
    else
    if ((sc v4.toNatClampNeg) &&& 63) = 16 then
      (gd (inb (v4 + 1) L) <|
      gd (inb (v4 + 2) L) <|
      (m_L_flow N Λ μ v1 (sc (v4 + 1).toNatClampNeg) (sc (v4 + 2).toNatClampNeg) v3).bind fun r192 =>
      gd (inb (v4 + 1) L) <|
      gd (inb (v4 + 2) L) <|
      (m_X12_flow N Λ r192.2 v2 (sc (v4 + 1).toNatClampNeg) (sc (v4 + 2).toNatClampNeg)).bind fun r196 =>
      (m_X12_thrown N Λ r196.2 v2).bind fun r198 =>
      if r198 = r192.1 then
        (if r192.1 = 0 then
          (gd (inb 0 (aZ Λ v3)) <|
          if (lg_cmp (r196.2.2 v3 (0 : Int32).toNatClampNeg) (Int32.toInt64 r196.1)) = 0 then
            (jn_L_law__1278 N Λ L sc r196.2 k23 v0 v1 v2 v3 v4)
          else
            (some 0))
        else
          (jn_L_law__1278 N Λ L sc r196.2 k23 v0 v1 v2 v3 v4))
      else
        (some 0))
    else
    if ((sc v4.toNatClampNeg) &&& 63) = 17 then
      ((m_X11_pulls N Λ μ v1).bind fun r205 =>
      (m_X12_pulls N Λ r205.2 v2).bind fun r207 =>
      if r205.1 = r207.1 then
        (jn_L_law__2587 N Λ L sc r207.2 k23 v0 v1 v2 v3 v4)
      else
        (some 0))
    else
    if ((sc v4.toNatClampNeg) &&& 63) = 18 then
      ((m_X11_leaks N Λ μ v1).bind fun r211 =>
      (m_X12_leaks N Λ r211.2 v2).bind fun r213 =>
      if r211.1 = r213.1 then
        (jn_L_law__2587 N Λ L sc r213.2 k23 v0 v1 v2 v3 v4)
      else
        (some 0))
    else
    if ((sc v4.toNatClampNeg) &&& 63) = 19 then
      ((m_X11_even N Λ μ v1).bind fun r217 =>
      (m_X12_even N Λ μ v2).bind fun r219 =>
      if r217 = r219.1 then
        (jn_L_law__2587 N Λ L sc r219.2 k23 v0 v1 v2 v3 v4)
      else
        (some 0))
    else
    if ((sc v4.toNatClampNeg) &&& 63) = 20 then
      ((m_X11_room N Λ μ v1).bind fun r223 =>
      (m_X12_room N Λ μ v2).bind fun r225 =>
      if r223 = r225.1 then
        (jn_L_law__2587 N Λ L sc r225.2 k23 v0 v1 v2 v3 v4)
      else
        (some 0))
    else
    if ((sc v4.toNatClampNeg) &&& 63) = 21 then
      ((m_X11_load N Λ μ v1).bind fun r229 =>
      (m_X12_load N Λ r229.2 v2).bind fun r231 =>
      if r229.1 = r231.1 then
        (jn_L_law__2587 N Λ L sc r231.2 k23 v0 v1 v2 v3 v4)
      else
        (some 0))
    else
    if ((sc v4.toNatClampNeg) &&& 63) = 22 then
      ((m_X11_which N Λ μ v1).bind fun r235 =>
      (m_X12_which N Λ r235.2 v2).bind fun r237 =>
      if r235.1 = r237.1 then
        (jn_L_law__2587 N Λ L sc r237.2 k23 v0 v1 v2 v3 v4)
      else
        (some 0))
    else
    if ((sc v4.toNatClampNeg) &&& 63) = 23 then
      ((m_X11_dry N Λ μ v1).bind fun r241 =>
      (m_X12_dry N Λ r241.2 v2).bind fun r243 =>
      if r241.1 = r243.1 then
        (jn_L_law__2587 N Λ L sc r243.2 k23 v0 v1 v2 v3 v4)
      else
        (some 0))
    else
    if ((sc v4.toNatClampNeg) &&& 63) = 24 then
      ((m_X11_ready N Λ μ v1).bind fun r247 =>
      (m_X12_ready N Λ r247.2 v2).bind fun r249 =>
      if r247.1 = r249.1 then
        (jn_L_law__2587 N Λ L sc r249.2 k23 v0 v1 v2 v3 v4)
      else
        (some 0))
    else
    if ((sc v4.toNatClampNeg) &&& 63) = 25 then
      ((m_X11_ease N Λ μ v1).bind fun r253 =>
      (m_X12_ease N Λ r253.2 v2).bind fun r255 =>
      if r253.1 = r255.1 then
        (jn_L_law__2587 N Λ L sc r255.2 k23 v0 v1 v2 v3 v4)
      else
        (some 0))
    else
    if ((sc v4.toNatClampNeg) &&& 63) = 26 then
      ((m_X11_cost N Λ μ v1).bind fun r259 =>
      (m_X12_cost N Λ r259.2 v2).bind fun r261 =>
      if r259.1 = r261.1 then
        (jn_L_law__2587 N Λ L sc r261.2 k23 v0 v1 v2 v3 v4)
      else
        (some 0))
    else
    if ((sc v4.toNatClampNeg) &&& 63) = 27 then
      ((m_X11_first N Λ μ v1).bind fun r265 =>
      (m_X12_first N Λ r265.2 v2).bind fun r267 =>
      if r265.1 = r267.1 then
        (jn_L_law__2587 N Λ L sc r267.2 k23 v0 v1 v2 v3 v4)
      else
        (some 0))
    else
    if ((sc v4.toNatClampNeg) &&& 63) = 28 then
      (gd (inb (v4 + 1) L) <|
      if (sc (v4 + 1).toNatClampNeg) = 0 then
        (jn_L_law__1439 N Λ L sc μ k23 v0 v1 v2 v3 v4 v1 0)
      else
        (jn_L_law__1439 N Λ L sc μ k23 v0 v1 v2 v3 v4 v1 1))
    else
    if ((sc v4.toNatClampNeg) &&& 63) = 29 then
      ((m_L_ask N Λ μ v1 v3).bind fun r274 =>
      (m_X12_ask N Λ r274.2 v2).bind fun r276 =>
      (m_X12_thrown N Λ r276.2 v2).bind fun r278 =>
      if r278 = r274.1 then
        (if r274.1 = 0 then
          (gd (inb 0 (aZ Λ v3)) <|
          if (lg_cmp (r276.2.2 v3 (0 : Int32).toNatClampNeg) (Int32.toInt64 r276.1)) = 0 then
            (jn_L_law__1537 N Λ L sc r276.2 k23 v0 v1 v2 v3 v4)
          else
            (some 0))
        else
          (jn_L_law__1537 N Λ L sc r276.2 k23 v0 v1 v2 v3 v4))
      else
        (some 0))
    else
    if ((sc v4.toNatClampNeg) &&& 63) = 30 then
      ((m_L_lies N Λ μ v1 v3).bind fun r285 =>
      (m_X12_lies N Λ r285.2 v2).bind fun r287 =>
      (m_X12_thrown N Λ r287.2 v2).bind fun r289 =>
      if r289 = r285.1 then
        (if r285.1 = 0 then
          (gd (inb 0 (aZ Λ v3)) <|
          if (lg_cmp (r287.2.2 v3 (0 : Int32).toNatClampNeg) (Int32.toInt64 r287.1)) = 0 then
            (jn_L_law__1581 N Λ L sc r287.2 k23 v0 v1 v2 v3 v4)
          else
            (some 0))
        else
          (jn_L_law__1581 N Λ L sc r287.2 k23 v0 v1 v2 v3 v4))
      else
        (some 0))
    else
    if ((sc v4.toNatClampNeg) &&& 63) = 31 then
      ((m_L_likely N Λ μ v1 v3).bind fun r296 =>
      (m_X12_likely N Λ r296.2 v2).bind fun r298 =>
      (m_X12_thrown N Λ r298.2 v2).bind fun r300 =>
      if r300 = r296.1 then
        (if r296.1 = 0 then
          (gd (inb 0 (aZ Λ v3)) <|
          if (lg_cmp (r298.2.2 v3 (0 : Int32).toNatClampNeg) (Int32.toInt64 r298.1)) = 0 then
            (jn_L_law__1625 N Λ L sc r298.2 k23 v0 v1 v2 v3 v4)
          else
            (some 0))
        else
          (jn_L_law__1625 N Λ L sc r298.2 k23 v0 v1 v2 v3 v4))
      else
        (some 0))
    else
    if ((sc v4.toNatClampNeg) &&& 63) = 32 then
      ((m_L_sound N Λ μ v1 v3).bind fun r307 =>
      (m_X12_sound N Λ r307.2 v2).bind fun r309 =>
      (m_X12_thrown N Λ r309.2 v2).bind fun r311 =>
      if r311 = r307.1 then
        (if r307.1 = 0 then
          (gd (inb 0 (aZ Λ v3)) <|
          if (lg_cmp (r309.2.2 v3 (0 : Int32).toNatClampNeg) (Int32.toInt64 r309.1)) = 0 then
            (jn_L_law__1669 N Λ L sc r309.2 k23 v0 v1 v2 v3 v4)
          else
            (some 0))
        else
          (jn_L_law__1669 N Λ L sc r309.2 k23 v0 v1 v2 v3 v4))
      else
        (some 0))
    else
    if ((sc v4.toNatClampNeg) &&& 63) = 33 then
      ((m_X11_knocks N Λ μ v1).bind fun r318 =>
      (m_X12_knocks N Λ μ v2).bind fun r320 =>
      if r318 = r320.1 then
        (jn_L_law__2587 N Λ L sc r320.2 k23 v0 v1 v2 v3 v4)
      else
        (some 0))
    else
    if ((sc v4.toNatClampNeg) &&& 63) = 34 then
      ((m_X11_knock N Λ μ v1).bind fun r324 =>
      (m_X12_knock N Λ μ v2).bind fun r326 =>
      if r324 = r326.1 then
        (jn_L_law__2587 N Λ L sc r326.2 k23 v0 v1 v2 v3 v4)
      else
        (some 0))
    else
    if ((sc v4.toNatClampNeg) &&& 63) = 35 then
      (gd (inb (v4 + 1) L) <|
      (m_L_beds N Λ μ v1 (sc (v4 + 1).toNatClampNeg) v3).bind fun r331 =>
      gd (inb (v4 + 1) L) <|
      (m_X12_beds N Λ r331.2 v2 (sc (v4 + 1).toNatClampNeg)).bind fun r334 =>
      (m_X12_thrown N Λ r334.2 v2).bind fun r336 =>
      if r336 = r331.1 then
        (if r331.1 = 0 then
          (gd (inb 0 (aZ Λ v3)) <|
          if (lg_cmp (r334.2.2 v3 (0 : Int32).toNatClampNeg) (Int32.toInt64 r334.1)) = 0 then
            (jn_L_law__1751 N Λ L sc r334.2 k23 v0 v1 v2 v3 v4)
          else
            (some 0))
        else
          (jn_L_law__1751 N Λ L sc r334.2 k23 v0 v1 v2 v3 v4))
      else
        (some 0))
    else
    if ((sc v4.toNatClampNeg) &&& 63) = 36 then
      (gd (inb (v4 + 1) L) <|
      (m_L_pairs N Λ μ v1 (sc (v4 + 1).toNatClampNeg) v3).bind fun r344 =>
      gd (inb (v4 + 1) L) <|
      (m_X12_pairs N Λ r344.2 v2 (sc (v4 + 1).toNatClampNeg)).bind fun r347 =>
      (m_X12_thrown N Λ r347.2 v2).bind fun r349 =>
      if r349 = r344.1 then
        (if r344.1 = 0 then
          (gd (inb 0 (aZ Λ v3)) <|
          if (lg_cmp (r347.2.2 v3 (0 : Int32).toNatClampNeg) (Int32.toInt64 r347.1)) = 0 then
            (jn_L_law__1807 N Λ L sc r347.2 k23 v0 v1 v2 v3 v4)
          else
            (some 0))
        else
          (jn_L_law__1807 N Λ L sc r347.2 k23 v0 v1 v2 v3 v4))
      else
        (some 0))
    else
    if ((sc v4.toNatClampNeg) &&& 63) = 37 then
      (gd (inb (v4 + 1) L) <|
      (m_L_rests N Λ μ v1 (sc (v4 + 1).toNatClampNeg) v3).bind fun r357 =>
      gd (inb (v4 + 1) L) <|
      (m_X12_rests N Λ r357.2 v2 (sc (v4 + 1).toNatClampNeg)).bind fun r360 =>
      (m_X12_thrown N Λ r360.2 v2).bind fun r362 =>
      if r362 = r357.1 then
        (if r357.1 = 0 then
          (gd (inb 0 (aZ Λ v3)) <|
          if (lg_cmp (r360.2.2 v3 (0 : Int32).toNatClampNeg) (Int32.toInt64 r360.1)) = 0 then
            (jn_L_law__1863 N Λ L sc r360.2 k23 v0 v1 v2 v3 v4)
          else
            (some 0))
        else
          (jn_L_law__1863 N Λ L sc r360.2 k23 v0 v1 v2 v3 v4))
      else
        (some 0))
    else
    if ((sc v4.toNatClampNeg) &&& 63) = 38 then
      (gd (inb (v4 + 1) L) <|
      gd (inb (v4 + 2) L) <|
      (m_L_odds N Λ μ v1 (sc (v4 + 1).toNatClampNeg) (sc (v4 + 2).toNatClampNeg) v3).bind fun r371 =>
      gd (inb (v4 + 1) L) <|
      gd (inb (v4 + 2) L) <|
      (m_X12_odds N Λ r371.2 v2 (sc (v4 + 1).toNatClampNeg) (sc (v4 + 2).toNatClampNeg)).bind fun r375 =>
      (m_X12_thrown N Λ r375.2 v2).bind fun r377 =>
      if r377 = r371.1 then
        (if r371.1 = 0 then
          (gd (inb 0 (aZ Λ v3)) <|
          if (lg_cmp (r375.2.2 v3 (0 : Int32).toNatClampNeg) (Int32.toInt64 r375.1)) = 0 then
            (jn_L_law__1931 N Λ L sc r375.2 k23 v0 v1 v2 v3 v4)
          else
            (some 0))
        else
          (jn_L_law__1931 N Λ L sc r375.2 k23 v0 v1 v2 v3 v4))
      else
        (some 0))
    else
    if ((sc v4.toNatClampNeg) &&& 63) = 39 then
      (gd (inb (v4 + 1) L) <|
      (m_L_most N Λ μ v1 (sc (v4 + 1).toNatClampNeg) v3).bind fun r385 =>
      gd (inb (v4 + 1) L) <|
      (m_X12_most N Λ r385.2 v2 (sc (v4 + 1).toNatClampNeg)).bind fun r388 =>
      (m_X12_thrown N Λ r388.2 v2).bind fun r390 =>
      if r390 = r385.1 then
        (if r385.1 = 0 then
          (gd (inb 0 (aZ Λ v3)) <|
          if (lg_cmp (r388.2.2 v3 (0 : Int32).toNatClampNeg) (Int32.toInt64 r388.1)) = 0 then
            (jn_L_law__1987 N Λ L sc r388.2 k23 v0 v1 v2 v3 v4)
          else
            (some 0))
        else
          (jn_L_law__1987 N Λ L sc r388.2 k23 v0 v1 v2 v3 v4))
      else
        (some 0))
    else
    if ((sc v4.toNatClampNeg) &&& 63) = 40 then
      ((m_X11_waiting N Λ μ v1).bind fun r397 =>
      (m_X12_waiting N Λ μ v2).bind fun r399 =>
      if r397 = r399.1 then
        (jn_L_law__2587 N Λ L sc r399.2 k23 v0 v1 v2 v3 v4)
      else
        (some 0))
    else
    if ((sc v4.toNatClampNeg) &&& 63) = 41 then
      ((m_X11_docked N Λ μ v1).bind fun r403 =>
      (m_X12_docked N Λ μ v2).bind fun r405 =>
      if r403 = r405.1 then
        (jn_L_law__2587 N Λ L sc r405.2 k23 v0 v1 v2 v3 v4)
      else
        (some 0))
    else
    if ((sc v4.toNatClampNeg) &&& 63) = 42 then
      ((m_X11_gone N Λ μ v1).bind fun r409 =>
      (m_X12_gone N Λ μ v2).bind fun r411 =>
      if r409 = r411.1 then
        (jn_L_law__2587 N Λ L sc r411.2 k23 v0 v1 v2 v3 v4)
      else
        (some 0))
    else
    if ((sc v4.toNatClampNeg) &&& 63) = 43 then
      ((m_X11_hurt N Λ μ v1).bind fun r415 =>
      (m_X12_hurt N Λ μ v2).bind fun r417 =>
      if r415 = r417.1 then
        (jn_L_law__2587 N Λ L sc r417.2 k23 v0 v1 v2 v3 v4)
      else
        (some 0))
    else
    if ((sc v4.toNatClampNeg) &&& 63) = 44 then
      ((m_X11_twins N Λ μ v1).bind fun r421 =>
      (m_X12_twins N Λ μ v2).bind fun r423 =>
      if r421 = r423.1 then
        (jn_L_law__2587 N Λ L sc r423.2 k23 v0 v1 v2 v3 v4)
      else
        (some 0))
    else
    if ((sc v4.toNatClampNeg) &&& 63) = 45 then
      (gd (inb (v4 + 1) L) <|
      if (sc (v4 + 1).toNatClampNeg) = 0 then
        (jn_L_law__2070 N Λ L sc μ k23 v0 v1 v2 v3 v4 v1 0)
      else
        (jn_L_law__2070 N Λ L sc μ k23 v0 v1 v2 v3 v4 v1 1))
    else
    if ((sc v4.toNatClampNeg) &&& 63) = 46 then
      (gd (inb (v4 + 1) L) <|
      gd (inb (v4 + 2) L) <|
      if (sc (v4 + 2).toNatClampNeg) = 0 then
        (jn_L_law__2117 N Λ L sc μ k23 v0 v1 v2 v3 v4 v1 (sc (v4 + 1).toNatClampNeg) 0)
      else
        (jn_L_law__2117 N Λ L sc μ k23 v0 v1 v2 v3 v4 v1 (sc (v4 + 1).toNatClampNeg) 1))
    else
    if ((sc v4.toNatClampNeg) &&& 63) = 47 then
      (gd (inb (v4 + 1) L) <|
      gd (inb (v4 + 2) L) <|
      if (sc (v4 + 2).toNatClampNeg) = 0 then
        (jn_L_law__2201 N Λ L sc μ k23 v0 v1 v2 v3 v4 v1 (sc (v4 + 1).toNatClampNeg) 0)
      else
        (jn_L_law__2201 N Λ L sc μ k23 v0 v1 v2 v3 v4 v1 (sc (v4 + 1).toNatClampNeg) 1))
    else
    if ((sc v4.toNatClampNeg) &&& 63) = 48 then
      (gd (inb (v4 + 1) L) <|
      gd (inb (v4 + 2) L) <|
      if (sc (v4 + 2).toNatClampNeg) = 0 then
        (jn_L_law__2285 N Λ L sc μ k23 v0 v1 v2 v3 v4 v1 (sc (v4 + 1).toNatClampNeg) 0)
      else
        (jn_L_law__2285 N Λ L sc μ k23 v0 v1 v2 v3 v4 v1 (sc (v4 + 1).toNatClampNeg) 1))
    else
    if ((sc v4.toNatClampNeg) &&& 63) = 49 then
      (gd (inb (v4 + 1) L) <|
      gd (inb (v4 + 2) L) <|
      if (sc (v4 + 2).toNatClampNeg) = 0 then
        (jn_L_law__2369 N Λ L sc μ k23 v0 v1 v2 v3 v4 v1 (sc (v4 + 1).toNatClampNeg) 0)
      else
        (jn_L_law__2369 N Λ L sc μ k23 v0 v1 v2 v3 v4 v1 (sc (v4 + 1).toNatClampNeg) 1))
    else
    if ((sc v4.toNatClampNeg) &&& 63) = 50 then
      (gd (inb (v4 + 1) L) <|
      gd (inb (v4 + 2) L) <|
      (m_L_log N Λ μ v1 (sc (v4 + 1).toNatClampNeg) (sc (v4 + 2).toNatClampNeg) v3).bind fun r448 =>
      gd (inb (v4 + 1) L) <|
      gd (inb (v4 + 2) L) <|
      (m_X12_log N Λ r448.2 v2 (sc (v4 + 1).toNatClampNeg) (sc (v4 + 2).toNatClampNeg)).bind fun r452 =>
      (m_X12_thrown N Λ r452.2 v2).bind fun r454 =>
      if r454 = r448.1 then
        (if r448.1 = 0 then
          (gd (inb 0 (aZ Λ v3)) <|
          if (lg_cmp (r452.2.2 v3 (0 : Int32).toNatClampNeg) (Int32.toInt64 r452.1)) = 0 then
            (jn_L_law__2497 N Λ L sc r452.2 k23 v0 v1 v2 v3 v4)
          else
            (some 0))
        else
          (jn_L_law__2497 N Λ L sc r452.2 k23 v0 v1 v2 v3 v4))
      else
        (some 0))
    else
    if ((sc v4.toNatClampNeg) &&& 63) = 51 then
      (gd (inb (v4 + 1) L) <|
      (m_X11_seed N Λ μ v1 (sc (v4 + 1).toNatClampNeg)).bind fun r462 =>
      gd (inb (v4 + 1) L) <|
      (m_X12_seed N Λ r462.2 v2 (sc (v4 + 1).toNatClampNeg)).bind fun r465 =>
      if r462.1 = r465.1 then
        (jn_L_law__2587 N Λ L sc r465.2 k23 v0 v1 v2 v3 v4)
      else
        (some 0))
    else
    if ((sc v4.toNatClampNeg) &&& 63) = 52 then
      ((m_X11_undo N Λ μ v1).bind fun r469 =>
      (m_X12_undo N Λ r469.2 v2).bind fun r471 =>
      if r469.1 = r471.1 then
        (jn_L_law__2587 N Λ L sc r471.2 k23 v0 v1 v2 v3 v4)
      else
        (some 0))
    else
    if ((sc v4.toNatClampNeg) &&& 63) = 53 then
      ((m_X11_image N Λ μ v1).bind fun r475 =>
      (m_X12_image N Λ r475 v2).bind fun r477 =>
      jn_L_law__2587 N Λ L sc r477 k23 v0 v1 v2 v3 v4)
    else
    if ((sc v4.toNatClampNeg) &&& 63) = 54 then
      ((m_X11_back N Λ μ v1).bind fun r480 =>
      (m_X12_back N Λ r480.2 v2).bind fun r482 =>
      if r480.1 = r482.1 then
        (jn_L_law__2587 N Λ L sc r482.2 k23 v0 v1 v2 v3 v4)
      else
        (some 0))
    else
    if ((sc v4.toNatClampNeg) &&& 63) = 55 then
      (gd (inb (v4 + 1) L) <|
      (m_X11_count N Λ μ v1 (sc (v4 + 1).toNatClampNeg)).bind fun r487 =>
      gd (inb (v4 + 1) L) <|
      (m_X12_count N Λ μ v2 (sc (v4 + 1).toNatClampNeg)).bind fun r490 =>
      if r487 = r490.1 then
        (jn_L_law__2587 N Λ L sc r490.2 k23 v0 v1 v2 v3 v4)
      else
        (some 0))
    else
      (jn_L_law__2587 N Λ L sc μ k23 v0 v1 v2 v3 v4))
def lp_L_law__23 (n N : Nat) (Λ : Lay) (L : Nat) (sc : Nat → Int32) (v0 v1 v2 v3 : Nat) (s : Int32 × Mem) : Option Int32 := cw (fun k s => bd_L_law__23 N Λ L sc s.2 k v0 v1 v2 v3 s.1) n s

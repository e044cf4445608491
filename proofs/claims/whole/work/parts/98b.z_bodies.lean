/-! the law by its calls -/
def tl_56 (N : Nat) (Λ : Lay) (L : Nat) (sc : Nat → Int32) (μ : Mem) (k23 : Int32 × Mem → Option Int32) (v0 : Nat) (v1 : Nat) (v2 : Nat) (v3 : Nat) (v4 : Int32) : Option Int32 := jn_L_law__2587 N Λ L sc μ k23 v0 v1 v2 v3 v4
def bo_55 (N : Nat) (Λ : Lay) (L : Nat) (sc : Nat → Int32) (μ : Mem) (k23 : Int32 × Mem → Option Int32) (v0 : Nat) (v1 : Nat) (v2 : Nat) (v3 : Nat) (v4 : Int32) : Option Int32 :=
      (gd (inb (v4 + 1) L) <|
      (m_X11_count N Λ μ v1 (sc (v4 + 1).toNatClampNeg)).bind fun r487 =>
      gd (inb (v4 + 1) L) <|
      (m_X12_count N Λ μ v2 (sc (v4 + 1).toNatClampNeg)).bind fun r490 =>
      if r487 = r490.1 then
        (jn_L_law__2587 N Λ L sc r490.2 k23 v0 v1 v2 v3 v4)
      else
        (some 0))
def tl_55 (N : Nat) (Λ : Lay) (L : Nat) (sc : Nat → Int32) (μ : Mem) (k23 : Int32 × Mem → Option Int32) (v0 : Nat) (v1 : Nat) (v2 : Nat) (v3 : Nat) (v4 : Int32) : Option Int32 := if ((sc v4.toNatClampNeg) &&& 63) = 55 then bo_55 N Λ L sc μ k23 v0 v1 v2 v3 v4 else tl_56 N Λ L sc μ k23 v0 v1 v2 v3 v4
def bo_54 (N : Nat) (Λ : Lay) (L : Nat) (sc : Nat → Int32) (μ : Mem) (k23 : Int32 × Mem → Option Int32) (v0 : Nat) (v1 : Nat) (v2 : Nat) (v3 : Nat) (v4 : Int32) : Option Int32 :=
      ((m_X11_back N Λ μ v1).bind fun r480 =>
      (m_X12_back N Λ r480.2 v2).bind fun r482 =>
      if r480.1 = r482.1 then
        (jn_L_law__2587 N Λ L sc r482.2 k23 v0 v1 v2 v3 v4)
      else
        (some 0))
def tl_54 (N : Nat) (Λ : Lay) (L : Nat) (sc : Nat → Int32) (μ : Mem) (k23 : Int32 × Mem → Option Int32) (v0 : Nat) (v1 : Nat) (v2 : Nat) (v3 : Nat) (v4 : Int32) : Option Int32 := if ((sc v4.toNatClampNeg) &&& 63) = 54 then bo_54 N Λ L sc μ k23 v0 v1 v2 v3 v4 else tl_55 N Λ L sc μ k23 v0 v1 v2 v3 v4
def bo_53 (N : Nat) (Λ : Lay) (L : Nat) (sc : Nat → Int32) (μ : Mem) (k23 : Int32 × Mem → Option Int32) (v0 : Nat) (v1 : Nat) (v2 : Nat) (v3 : Nat) (v4 : Int32) : Option Int32 :=
      ((m_X11_image N Λ μ v1).bind fun r475 =>
      (m_X12_image N Λ r475 v2).bind fun r477 =>
      jn_L_law__2587 N Λ L sc r477 k23 v0 v1 v2 v3 v4)
def tl_53 (N : Nat) (Λ : Lay) (L : Nat) (sc : Nat → Int32) (μ : Mem) (k23 : Int32 × Mem → Option Int32) (v0 : Nat) (v1 : Nat) (v2 : Nat) (v3 : Nat) (v4 : Int32) : Option Int32 := if ((sc v4.toNatClampNeg) &&& 63) = 53 then bo_53 N Λ L sc μ k23 v0 v1 v2 v3 v4 else tl_54 N Λ L sc μ k23 v0 v1 v2 v3 v4
def bo_52 (N : Nat) (Λ : Lay) (L : Nat) (sc : Nat → Int32) (μ : Mem) (k23 : Int32 × Mem → Option Int32) (v0 : Nat) (v1 : Nat) (v2 : Nat) (v3 : Nat) (v4 : Int32) : Option Int32 :=
      ((m_X11_undo N Λ μ v1).bind fun r469 =>
      (m_X12_undo N Λ r469.2 v2).bind fun r471 =>
      if r469.1 = r471.1 then
        (jn_L_law__2587 N Λ L sc r471.2 k23 v0 v1 v2 v3 v4)
      else
        (some 0))
def tl_52 (N : Nat) (Λ : Lay) (L : Nat) (sc : Nat → Int32) (μ : Mem) (k23 : Int32 × Mem → Option Int32) (v0 : Nat) (v1 : Nat) (v2 : Nat) (v3 : Nat) (v4 : Int32) : Option Int32 := if ((sc v4.toNatClampNeg) &&& 63) = 52 then bo_52 N Λ L sc μ k23 v0 v1 v2 v3 v4 else tl_53 N Λ L sc μ k23 v0 v1 v2 v3 v4
def bo_51 (N : Nat) (Λ : Lay) (L : Nat) (sc : Nat → Int32) (μ : Mem) (k23 : Int32 × Mem → Option Int32) (v0 : Nat) (v1 : Nat) (v2 : Nat) (v3 : Nat) (v4 : Int32) : Option Int32 :=
      (gd (inb (v4 + 1) L) <|
      (m_X11_seed N Λ μ v1 (sc (v4 + 1).toNatClampNeg)).bind fun r462 =>
      gd (inb (v4 + 1) L) <|
      (m_X12_seed N Λ r462.2 v2 (sc (v4 + 1).toNatClampNeg)).bind fun r465 =>
      if r462.1 = r465.1 then
        (jn_L_law__2587 N Λ L sc r465.2 k23 v0 v1 v2 v3 v4)
      else
        (some 0))
def tl_51 (N : Nat) (Λ : Lay) (L : Nat) (sc : Nat → Int32) (μ : Mem) (k23 : Int32 × Mem → Option Int32) (v0 : Nat) (v1 : Nat) (v2 : Nat) (v3 : Nat) (v4 : Int32) : Option Int32 := if ((sc v4.toNatClampNeg) &&& 63) = 51 then bo_51 N Λ L sc μ k23 v0 v1 v2 v3 v4 else tl_52 N Λ L sc μ k23 v0 v1 v2 v3 v4
def bo_50 (N : Nat) (Λ : Lay) (L : Nat) (sc : Nat → Int32) (μ : Mem) (k23 : Int32 × Mem → Option Int32) (v0 : Nat) (v1 : Nat) (v2 : Nat) (v3 : Nat) (v4 : Int32) : Option Int32 :=
      (gd (inb (v4 + 1) L) <|
      gd (inb (v4 + 2) L) <|
      (m_L_log N Λ μ v1 (sc (v4 + 1).toNatClampNeg) (sc (v4 + 2).toNatClampNeg) v3).bind fun r448 =>
      gd (inb (v4 + 1) L) <|
      gd (inb (v4 + 2) L) <|
      (m_X12_log N Λ r448.2 v2 (sc (v4 + 1).toNatClampNeg) (sc (v4 + 2).toNatClampNeg)).bind fun r452 =>
      (m_X12_thrown N Λ r452.2 v2).bind fun r454 =>
      if r454 = r448.1 then
        (if r448.1 = 0 then
          (gd (inb 0 (aZ Λ v3)) <|
          if (lg_cmp (r452.2.2 v3 (0 : Int32).toNatClampNeg) (Int32.toInt64 r452.1)) = 0 then
            (jn_L_law__2497 N Λ L sc r452.2 k23 v0 v1 v2 v3 v4)
          else
            (some 0))
        else
          (jn_L_law__2497 N Λ L sc r452.2 k23 v0 v1 v2 v3 v4))
      else
        (some 0))
def tl_50 (N : Nat) (Λ : Lay) (L : Nat) (sc : Nat → Int32) (μ : Mem) (k23 : Int32 × Mem → Option Int32) (v0 : Nat) (v1 : Nat) (v2 : Nat) (v3 : Nat) (v4 : Int32) : Option Int32 := if ((sc v4.toNatClampNeg) &&& 63) = 50 then bo_50 N Λ L sc μ k23 v0 v1 v2 v3 v4 else tl_51 N Λ L sc μ k23 v0 v1 v2 v3 v4
def bo_49 (N : Nat) (Λ : Lay) (L : Nat) (sc : Nat → Int32) (μ : Mem) (k23 : Int32 × Mem → Option Int32) (v0 : Nat) (v1 : Nat) (v2 : Nat) (v3 : Nat) (v4 : Int32) : Option Int32 :=
      (gd (inb (v4 + 1) L) <|
      gd (inb (v4 + 2) L) <|
      if (sc (v4 + 2).toNatClampNeg) = 0 then
        (jn_L_law__2369 N Λ L sc μ k23 v0 v1 v2 v3 v4 v1 (sc (v4 + 1).toNatClampNeg) 0)
      else
        (jn_L_law__2369 N Λ L sc μ k23 v0 v1 v2 v3 v4 v1 (sc (v4 + 1).toNatClampNeg) 1))
def tl_49 (N : Nat) (Λ : Lay) (L : Nat) (sc : Nat → Int32) (μ : Mem) (k23 : Int32 × Mem → Option Int32) (v0 : Nat) (v1 : Nat) (v2 : Nat) (v3 : Nat) (v4 : Int32) : Option Int32 := if ((sc v4.toNatClampNeg) &&& 63) = 49 then bo_49 N Λ L sc μ k23 v0 v1 v2 v3 v4 else tl_50 N Λ L sc μ k23 v0 v1 v2 v3 v4
def bo_48 (N : Nat) (Λ : Lay) (L : Nat) (sc : Nat → Int32) (μ : Mem) (k23 : Int32 × Mem → Option Int32) (v0 : Nat) (v1 : Nat) (v2 : Nat) (v3 : Nat) (v4 : Int32) : Option Int32 :=
      (gd (inb (v4 + 1) L) <|
      gd (inb (v4 + 2) L) <|
      if (sc (v4 + 2).toNatClampNeg) = 0 then
        (jn_L_law__2285 N Λ L sc μ k23 v0 v1 v2 v3 v4 v1 (sc (v4 + 1).toNatClampNeg) 0)
      else
        (jn_L_law__2285 N Λ L sc μ k23 v0 v1 v2 v3 v4 v1 (sc (v4 + 1).toNatClampNeg) 1))
def tl_48 (N : Nat) (Λ : Lay) (L : Nat) (sc : Nat → Int32) (μ : Mem) (k23 : Int32 × Mem → Option Int32) (v0 : Nat) (v1 : Nat) (v2 : Nat) (v3 : Nat) (v4 : Int32) : Option Int32 := if ((sc v4.toNatClampNeg) &&& 63) = 48 then bo_48 N Λ L sc μ k23 v0 v1 v2 v3 v4 else tl_49 N Λ L sc μ k23 v0 v1 v2 v3 v4
def bo_47 (N : Nat) (Λ : Lay) (L : Nat) (sc : Nat → Int32) (μ : Mem) (k23 : Int32 × Mem → Option Int32) (v0 : Nat) (v1 : Nat) (v2 : Nat) (v3 : Nat) (v4 : Int32) : Option Int32 :=
      (gd (inb (v4 + 1) L) <|
      gd (inb (v4 + 2) L) <|
      if (sc (v4 + 2).toNatClampNeg) = 0 then
        (jn_L_law__2201 N Λ L sc μ k23 v0 v1 v2 v3 v4 v1 (sc (v4 + 1).toNatClampNeg) 0)
      else
        (jn_L_law__2201 N Λ L sc μ k23 v0 v1 v2 v3 v4 v1 (sc (v4 + 1).toNatClampNeg) 1))
def tl_47 (N : Nat) (Λ : Lay) (L : Nat) (sc : Nat → Int32) (μ : Mem) (k23 : Int32 × Mem → Option Int32) (v0 : Nat) (v1 : Nat) (v2 : Nat) (v3 : Nat) (v4 : Int32) : Option Int32 := if ((sc v4.toNatClampNeg) &&& 63) = 47 then bo_47 N Λ L sc μ k23 v0 v1 v2 v3 v4 else tl_48 N Λ L sc μ k23 v0 v1 v2 v3 v4
def bo_46 (N : Nat) (Λ : Lay) (L : Nat) (sc : Nat → Int32) (μ : Mem) (k23 : Int32 × Mem → Option Int32) (v0 : Nat) (v1 : Nat) (v2 : Nat) (v3 : Nat) (v4 : Int32) : Option Int32 :=
      (gd (inb (v4 + 1) L) <|
      gd (inb (v4 + 2) L) <|
      if (sc (v4 + 2).toNatClampNeg) = 0 then
        (jn_L_law__2117 N Λ L sc μ k23 v0 v1 v2 v3 v4 v1 (sc (v4 + 1).toNatClampNeg) 0)
      else
        (jn_L_law__2117 N Λ L sc μ k23 v0 v1 v2 v3 v4 v1 (sc (v4 + 1).toNatClampNeg) 1))
def tl_46 (N : Nat) (Λ : Lay) (L : Nat) (sc : Nat → Int32) (μ : Mem) (k23 : Int32 × Mem → Option Int32) (v0 : Nat) (v1 : Nat) (v2 : Nat) (v3 : Nat) (v4 : Int32) : Option Int32 := if ((sc v4.toNatClampNeg) &&& 63) = 46 then bo_46 N Λ L sc μ k23 v0 v1 v2 v3 v4 else tl_47 N Λ L sc μ k23 v0 v1 v2 v3 v4
def bo_45 (N : Nat) (Λ : Lay) (L : Nat) (sc : Nat → Int32) (μ : Mem) (k23 : Int32 × Mem → Option Int32) (v0 : Nat) (v1 : Nat) (v2 : Nat) (v3 : Nat) (v4 : Int32) : Option Int32 :=
      (gd (inb (v4 + 1) L) <|
      if (sc (v4 + 1).toNatClampNeg) = 0 then
        (jn_L_law__2070 N Λ L sc μ k23 v0 v1 v2 v3 v4 v1 0)
      else
        (jn_L_law__2070 N Λ L sc μ k23 v0 v1 v2 v3 v4 v1 1))
def tl_45 (N : Nat) (Λ : Lay) (L : Nat) (sc : Nat → Int32) (μ : Mem) (k23 : Int32 × Mem → Option Int32) (v0 : Nat) (v1 : Nat) (v2 : Nat) (v3 : Nat) (v4 : Int32) : Option Int32 := if ((sc v4.toNatClampNeg) &&& 63) = 45 then bo_45 N Λ L sc μ k23 v0 v1 v2 v3 v4 else tl_46 N Λ L sc μ k23 v0 v1 v2 v3 v4
def bo_44 (N : Nat) (Λ : Lay) (L : Nat) (sc : Nat → Int32) (μ : Mem) (k23 : Int32 × Mem → Option Int32) (v0 : Nat) (v1 : Nat) (v2 : Nat) (v3 : Nat) (v4 : Int32) : Option Int32 :=
      ((m_X11_twins N Λ μ v1).bind fun r421 =>
      (m_X12_twins N Λ μ v2).bind fun r423 =>
      if r421 = r423.1 then
        (jn_L_law__2587 N Λ L sc r423.2 k23 v0 v1 v2 v3 v4)
      else
        (some 0))
def tl_44 (N : Nat) (Λ : Lay) (L : Nat) (sc : Nat → Int32) (μ : Mem) (k23 : Int32 × Mem → Option Int32) (v0 : Nat) (v1 : Nat) (v2 : Nat) (v3 : Nat) (v4 : Int32) : Option Int32 := if ((sc v4.toNatClampNeg) &&& 63) = 44 then bo_44 N Λ L sc μ k23 v0 v1 v2 v3 v4 else tl_45 N Λ L sc μ k23 v0 v1 v2 v3 v4
def bo_43 (N : Nat) (Λ : Lay) (L : Nat) (sc : Nat → Int32) (μ : Mem) (k23 : Int32 × Mem → Option Int32) (v0 : Nat) (v1 : Nat) (v2 : Nat) (v3 : Nat) (v4 : Int32) : Option Int32 :=
      ((m_X11_hurt N Λ μ v1).bind fun r415 =>
      (m_X12_hurt N Λ μ v2).bind fun r417 =>
      if r415 = r417.1 then
        (jn_L_law__2587 N Λ L sc r417.2 k23 v0 v1 v2 v3 v4)
      else
        (some 0))
def tl_43 (N : Nat) (Λ : Lay) (L : Nat) (sc : Nat → Int32) (μ : Mem) (k23 : Int32 × Mem → Option Int32) (v0 : Nat) (v1 : Nat) (v2 : Nat) (v3 : Nat) (v4 : Int32) : Option Int32 := if ((sc v4.toNatClampNeg) &&& 63) = 43 then bo_43 N Λ L sc μ k23 v0 v1 v2 v3 v4 else tl_44 N Λ L sc μ k23 v0 v1 v2 v3 v4
def bo_42 (N : Nat) (Λ : Lay) (L : Nat) (sc : Nat → Int32) (μ : Mem) (k23 : Int32 × Mem → Option Int32) (v0 : Nat) (v1 : Nat) (v2 : Nat) (v3 : Nat) (v4 : Int32) : Option Int32 :=
      ((m_X11_gone N Λ μ v1).bind fun r409 =>
      (m_X12_gone N Λ μ v2).bind fun r411 =>
      if r409 = r411.1 then
        (jn_L_law__2587 N Λ L sc r411.2 k23 v0 v1 v2 v3 v4)
      else
        (some 0))
def tl_42 (N : Nat) (Λ : Lay) (L : Nat) (sc : Nat → Int32) (μ : Mem) (k23 : Int32 × Mem → Option Int32) (v0 : Nat) (v1 : Nat) (v2 : Nat) (v3 : Nat) (v4 : Int32) : Option Int32 := if ((sc v4.toNatClampNeg) &&& 63) = 42 then bo_42 N Λ L sc μ k23 v0 v1 v2 v3 v4 else tl_43 N Λ L sc μ k23 v0 v1 v2 v3 v4
def bo_41 (N : Nat) (Λ : Lay) (L : Nat) (sc : Nat → Int32) (μ : Mem) (k23 : Int32 × Mem → Option Int32) (v0 : Nat) (v1 : Nat) (v2 : Nat) (v3 : Nat) (v4 : Int32) : Option Int32 :=
      ((m_X11_docked N Λ μ v1).bind fun r403 =>
      (m_X12_docked N Λ μ v2).bind fun r405 =>
      if r403 = r405.1 then
        (jn_L_law__2587 N Λ L sc r405.2 k23 v0 v1 v2 v3 v4)
      else
        (some 0))
def tl_41 (N : Nat) (Λ : Lay) (L : Nat) (sc : Nat → Int32) (μ : Mem) (k23 : Int32 × Mem → Option Int32) (v0 : Nat) (v1 : Nat) (v2 : Nat) (v3 : Nat) (v4 : Int32) : Option Int32 := if ((sc v4.toNatClampNeg) &&& 63) = 41 then bo_41 N Λ L sc μ k23 v0 v1 v2 v3 v4 else tl_42 N Λ L sc μ k23 v0 v1 v2 v3 v4
def bo_40 (N : Nat) (Λ : Lay) (L : Nat) (sc : Nat → Int32) (μ : Mem) (k23 : Int32 × Mem → Option Int32) (v0 : Nat) (v1 : Nat) (v2 : Nat) (v3 : Nat) (v4 : Int32) : Option Int32 :=
      ((m_X11_waiting N Λ μ v1).bind fun r397 =>
      (m_X12_waiting N Λ μ v2).bind fun r399 =>
      if r397 = r399.1 then
        (jn_L_law__2587 N Λ L sc r399.2 k23 v0 v1 v2 v3 v4)
      else
        (some 0))
def tl_40 (N : Nat) (Λ : Lay) (L : Nat) (sc : Nat → Int32) (μ : Mem) (k23 : Int32 × Mem → Option Int32) (v0 : Nat) (v1 : Nat) (v2 : Nat) (v3 : Nat) (v4 : Int32) : Option Int32 := if ((sc v4.toNatClampNeg) &&& 63) = 40 then bo_40 N Λ L sc μ k23 v0 v1 v2 v3 v4 else tl_41 N Λ L sc μ k23 v0 v1 v2 v3 v4
def bo_39 (N : Nat) (Λ : Lay) (L : Nat) (sc : Nat → Int32) (μ : Mem) (k23 : Int32 × Mem → Option Int32) (v0 : Nat) (v1 : Nat) (v2 : Nat) (v3 : Nat) (v4 : Int32) : Option Int32 :=
      (gd (inb (v4 + 1) L) <|
      (m_L_most N Λ μ v1 (sc (v4 + 1).toNatClampNeg) v3).bind fun r385 =>
      gd (inb (v4 + 1) L) <|
      (m_X12_most N Λ r385.2 v2 (sc (v4 + 1).toNatClampNeg)).bind fun r388 =>
      (m_X12_thrown N Λ r388.2 v2).bind fun r390 =>
      if r390 = r385.1 then
        (if r385.1 = 0 then
          (gd (inb 0 (aZ Λ v3)) <|
          if (lg_cmp (r388.2.2 v3 (0 : Int32).toNatClampNeg) (Int32.toInt64 r388.1)) = 0 then
            (jn_L_law__1987 N Λ L sc r388.2 k23 v0 v1 v2 v3 v4)
          else
            (some 0))
        else
          (jn_L_law__1987 N Λ L sc r388.2 k23 v0 v1 v2 v3 v4))
      else
        (some 0))
def tl_39 (N : Nat) (Λ : Lay) (L : Nat) (sc : Nat → Int32) (μ : Mem) (k23 : Int32 × Mem → Option Int32) (v0 : Nat) (v1 : Nat) (v2 : Nat) (v3 : Nat) (v4 : Int32) : Option Int32 := if ((sc v4.toNatClampNeg) &&& 63) = 39 then bo_39 N Λ L sc μ k23 v0 v1 v2 v3 v4 else tl_40 N Λ L sc μ k23 v0 v1 v2 v3 v4
def bo_38 (N : Nat) (Λ : Lay) (L : Nat) (sc : Nat → Int32) (μ : Mem) (k23 : Int32 × Mem → Option Int32) (v0 : Nat) (v1 : Nat) (v2 : Nat) (v3 : Nat) (v4 : Int32) : Option Int32 :=
      (gd (inb (v4 + 1) L) <|
      gd (inb (v4 + 2) L) <|
      (m_L_odds N Λ μ v1 (sc (v4 + 1).toNatClampNeg) (sc (v4 + 2).toNatClampNeg) v3).bind fun r371 =>
      gd (inb (v4 + 1) L) <|
      gd (inb (v4 + 2) L) <|
      (m_X12_odds N Λ r371.2 v2 (sc (v4 + 1).toNatClampNeg) (sc (v4 + 2).toNatClampNeg)).bind fun r375 =>
      (m_X12_thrown N Λ r375.2 v2).bind fun r377 =>
      if r377 = r371.1 then
        (if r371.1 = 0 then
          (gd (inb 0 (aZ Λ v3)) <|
          if (lg_cmp (r375.2.2 v3 (0 : Int32).toNatClampNeg) (Int32.toInt64 r375.1)) = 0 then
            (jn_L_law__1931 N Λ L sc r375.2 k23 v0 v1 v2 v3 v4)
          else
            (some 0))
        else
          (jn_L_law__1931 N Λ L sc r375.2 k23 v0 v1 v2 v3 v4))
      else
        (some 0))
def tl_38 (N : Nat) (Λ : Lay) (L : Nat) (sc : Nat → Int32) (μ : Mem) (k23 : Int32 × Mem → Option Int32) (v0 : Nat) (v1 : Nat) (v2 : Nat) (v3 : Nat) (v4 : Int32) : Option Int32 := if ((sc v4.toNatClampNeg) &&& 63) = 38 then bo_38 N Λ L sc μ k23 v0 v1 v2 v3 v4 else tl_39 N Λ L sc μ k23 v0 v1 v2 v3 v4
def bo_37 (N : Nat) (Λ : Lay) (L : Nat) (sc : Nat → Int32) (μ : Mem) (k23 : Int32 × Mem → Option Int32) (v0 : Nat) (v1 : Nat) (v2 : Nat) (v3 : Nat) (v4 : Int32) : Option Int32 :=
      (gd (inb (v4 + 1) L) <|
      (m_L_rests N Λ μ v1 (sc (v4 + 1).toNatClampNeg) v3).bind fun r357 =>
      gd (inb (v4 + 1) L) <|
      (m_X12_rests N Λ r357.2 v2 (sc (v4 + 1).toNatClampNeg)).bind fun r360 =>
      (m_X12_thrown N Λ r360.2 v2).bind fun r362 =>
      if r362 = r357.1 then
        (if r357.1 = 0 then
          (gd (inb 0 (aZ Λ v3)) <|
          if (lg_cmp (r360.2.2 v3 (0 : Int32).toNatClampNeg) (Int32.toInt64 r360.1)) = 0 then
            (jn_L_law__1863 N Λ L sc r360.2 k23 v0 v1 v2 v3 v4)
          else
            (some 0))
        else
          (jn_L_law__1863 N Λ L sc r360.2 k23 v0 v1 v2 v3 v4))
      else
        (some 0))
def tl_37 (N : Nat) (Λ : Lay) (L : Nat) (sc : Nat → Int32) (μ : Mem) (k23 : Int32 × Mem → Option Int32) (v0 : Nat) (v1 : Nat) (v2 : Nat) (v3 : Nat) (v4 : Int32) : Option Int32 := if ((sc v4.toNatClampNeg) &&& 63) = 37 then bo_37 N Λ L sc μ k23 v0 v1 v2 v3 v4 else tl_38 N Λ L sc μ k23 v0 v1 v2 v3 v4
def bo_36 (N : Nat) (Λ : Lay) (L : Nat) (sc : Nat → Int32) (μ : Mem) (k23 : Int32 × Mem → Option Int32) (v0 : Nat) (v1 : Nat) (v2 : Nat) (v3 : Nat) (v4 : Int32) : Option Int32 :=
      (gd (inb (v4 + 1) L) <|
      (m_L_pairs N Λ μ v1 (sc (v4 + 1).toNatClampNeg) v3).bind fun r344 =>
      gd (inb (v4 + 1) L) <|
      (m_X12_pairs N Λ r344.2 v2 (sc (v4 + 1).toNatClampNeg)).bind fun r347 =>
      (m_X12_thrown N Λ r347.2 v2).bind fun r349 =>
      if r349 = r344.1 then
        (if r344.1 = 0 then
          (gd (inb 0 (aZ Λ v3)) <|
          if (lg_cmp (r347.2.2 v3 (0 : Int32).toNatClampNeg) (Int32.toInt64 r347.1)) = 0 then
            (jn_L_law__1807 N Λ L sc r347.2 k23 v0 v1 v2 v3 v4)
          else
            (some 0))
        else
          (jn_L_law__1807 N Λ L sc r347.2 k23 v0 v1 v2 v3 v4))
      else
        (some 0))
def tl_36 (N : Nat) (Λ : Lay) (L : Nat) (sc : Nat → Int32) (μ : Mem) (k23 : Int32 × Mem → Option Int32) (v0 : Nat) (v1 : Nat) (v2 : Nat) (v3 : Nat) (v4 : Int32) : Option Int32 := if ((sc v4.toNatClampNeg) &&& 63) = 36 then bo_36 N Λ L sc μ k23 v0 v1 v2 v3 v4 else tl_37 N Λ L sc μ k23 v0 v1 v2 v3 v4
def bo_35 (N : Nat) (Λ : Lay) (L : Nat) (sc : Nat → Int32) (μ : Mem) (k23 : Int32 × Mem → Option Int32) (v0 : Nat) (v1 : Nat) (v2 : Nat) (v3 : Nat) (v4 : Int32) : Option Int32 :=
      (gd (inb (v4 + 1) L) <|
      (m_L_beds N Λ μ v1 (sc (v4 + 1).toNatClampNeg) v3).bind fun r331 =>
      gd (inb (v4 + 1) L) <|
      (m_X12_beds N Λ r331.2 v2 (sc (v4 + 1).toNatClampNeg)).bind fun r334 =>
      (m_X12_thrown N Λ r334.2 v2).bind fun r336 =>
      if r336 = r331.1 then
        (if r331.1 = 0 then
          (gd (inb 0 (aZ Λ v3)) <|
          if (lg_cmp (r334.2.2 v3 (0 : Int32).toNatClampNeg) (Int32.toInt64 r334.1)) = 0 then
            (jn_L_law__1751 N Λ L sc r334.2 k23 v0 v1 v2 v3 v4)
          else
            (some 0))
        else
          (jn_L_law__1751 N Λ L sc r334.2 k23 v0 v1 v2 v3 v4))
      else
        (some 0))
def tl_35 (N : Nat) (Λ : Lay) (L : Nat) (sc : Nat → Int32) (μ : Mem) (k23 : Int32 × Mem → Option Int32) (v0 : Nat) (v1 : Nat) (v2 : Nat) (v3 : Nat) (v4 : Int32) : Option Int32 := if ((sc v4.toNatClampNeg) &&& 63) = 35 then bo_35 N Λ L sc μ k23 v0 v1 v2 v3 v4 else tl_36 N Λ L sc μ k23 v0 v1 v2 v3 v4
def bo_34 (N : Nat) (Λ : Lay) (L : Nat) (sc : Nat → Int32) (μ : Mem) (k23 : Int32 × Mem → Option Int32) (v0 : Nat) (v1 : Nat) (v2 : Nat) (v3 : Nat) (v4 : Int32) : Option Int32 :=
      ((m_X11_knock N Λ μ v1).bind fun r324 =>
      (m_X12_knock N Λ μ v2).bind fun r326 =>
      if r324 = r326.1 then
        (jn_L_law__2587 N Λ L sc r326.2 k23 v0 v1 v2 v3 v4)
      else
        (some 0))
def tl_34 (N : Nat) (Λ : Lay) (L : Nat) (sc : Nat → Int32) (μ : Mem) (k23 : Int32 × Mem → Option Int32) (v0 : Nat) (v1 : Nat) (v2 : Nat) (v3 : Nat) (v4 : Int32) : Option Int32 := if ((sc v4.toNatClampNeg) &&& 63) = 34 then bo_34 N Λ L sc μ k23 v0 v1 v2 v3 v4 else tl_35 N Λ L sc μ k23 v0 v1 v2 v3 v4
def bo_33 (N : Nat) (Λ : Lay) (L : Nat) (sc : Nat → Int32) (μ : Mem) (k23 : Int32 × Mem → Option Int32) (v0 : Nat) (v1 : Nat) (v2 : Nat) (v3 : Nat) (v4 : Int32) : Option Int32 :=
      ((m_X11_knocks N Λ μ v1).bind fun r318 =>
      (m_X12_knocks N Λ μ v2).bind fun r320 =>
      if r318 = r320.1 then
        (jn_L_law__2587 N Λ L sc r320.2 k23 v0 v1 v2 v3 v4)
      else
        (some 0))
def tl_33 (N : Nat) (Λ : Lay) (L : Nat) (sc : Nat → Int32) (μ : Mem) (k23 : Int32 × Mem → Option Int32) (v0 : Nat) (v1 : Nat) (v2 : Nat) (v3 : Nat) (v4 : Int32) : Option Int32 := if ((sc v4.toNatClampNeg) &&& 63) = 33 then bo_33 N Λ L sc μ k23 v0 v1 v2 v3 v4 else tl_34 N Λ L sc μ k23 v0 v1 v2 v3 v4
def bo_32 (N : Nat) (Λ : Lay) (L : Nat) (sc : Nat → Int32) (μ : Mem) (k23 : Int32 × Mem → Option Int32) (v0 : Nat) (v1 : Nat) (v2 : Nat) (v3 : Nat) (v4 : Int32) : Option Int32 :=
      ((m_L_sound N Λ μ v1 v3).bind fun r307 =>
      (m_X12_sound N Λ r307.2 v2).bind fun r309 =>
      (m_X12_thrown N Λ r309.2 v2).bind fun r311 =>
      if r311 = r307.1 then
        (if r307.1 = 0 then
          (gd (inb 0 (aZ Λ v3)) <|
          if (lg_cmp (r309.2.2 v3 (0 : Int32).toNatClampNeg) (Int32.toInt64 r309.1)) = 0 then
            (jn_L_law__1669 N Λ L sc r309.2 k23 v0 v1 v2 v3 v4)
          else
            (some 0))
        else
          (jn_L_law__1669 N Λ L sc r309.2 k23 v0 v1 v2 v3 v4))
      else
        (some 0))
def tl_32 (N : Nat) (Λ : Lay) (L : Nat) (sc : Nat → Int32) (μ : Mem) (k23 : Int32 × Mem → Option Int32) (v0 : Nat) (v1 : Nat) (v2 : Nat) (v3 : Nat) (v4 : Int32) : Option Int32 := if ((sc v4.toNatClampNeg) &&& 63) = 32 then bo_32 N Λ L sc μ k23 v0 v1 v2 v3 v4 else tl_33 N Λ L sc μ k23 v0 v1 v2 v3 v4
def bo_31 (N : Nat) (Λ : Lay) (L : Nat) (sc : Nat → Int32) (μ : Mem) (k23 : Int32 × Mem → Option Int32) (v0 : Nat) (v1 : Nat) (v2 : Nat) (v3 : Nat) (v4 : Int32) : Option Int32 :=
      ((m_L_likely N Λ μ v1 v3).bind fun r296 =>
      (m_X12_likely N Λ r296.2 v2).bind fun r298 =>
      (m_X12_thrown N Λ r298.2 v2).bind fun r300 =>
      if r300 = r296.1 then
        (if r296.1 = 0 then
          (gd (inb 0 (aZ Λ v3)) <|
          if (lg_cmp (r298.2.2 v3 (0 : Int32).toNatClampNeg) (Int32.toInt64 r298.1)) = 0 then
            (jn_L_law__1625 N Λ L sc r298.2 k23 v0 v1 v2 v3 v4)
          else
            (some 0))
        else
          (jn_L_law__1625 N Λ L sc r298.2 k23 v0 v1 v2 v3 v4))
      else
        (some 0))
def tl_31 (N : Nat) (Λ : Lay) (L : Nat) (sc : Nat → Int32) (μ : Mem) (k23 : Int32 × Mem → Option Int32) (v0 : Nat) (v1 : Nat) (v2 : Nat) (v3 : Nat) (v4 : Int32) : Option Int32 := if ((sc v4.toNatClampNeg) &&& 63) = 31 then bo_31 N Λ L sc μ k23 v0 v1 v2 v3 v4 else tl_32 N Λ L sc μ k23 v0 v1 v2 v3 v4
def bo_30 (N : Nat) (Λ : Lay) (L : Nat) (sc : Nat → Int32) (μ : Mem) (k23 : Int32 × Mem → Option Int32) (v0 : Nat) (v1 : Nat) (v2 : Nat) (v3 : Nat) (v4 : Int32) : Option Int32 :=
      ((m_L_lies N Λ μ v1 v3).bind fun r285 =>
      (m_X12_lies N Λ r285.2 v2).bind fun r287 =>
      (m_X12_thrown N Λ r287.2 v2).bind fun r289 =>
      if r289 = r285.1 then
        (if r285.1 = 0 then
          (gd (inb 0 (aZ Λ v3)) <|
          if (lg_cmp (r287.2.2 v3 (0 : Int32).toNatClampNeg) (Int32.toInt64 r287.1)) = 0 then
            (jn_L_law__1581 N Λ L sc r287.2 k23 v0 v1 v2 v3 v4)
          else
            (some 0))
        else
          (jn_L_law__1581 N Λ L sc r287.2 k23 v0 v1 v2 v3 v4))
      else
        (some 0))
def tl_30 (N : Nat) (Λ : Lay) (L : Nat) (sc : Nat → Int32) (μ : Mem) (k23 : Int32 × Mem → Option Int32) (v0 : Nat) (v1 : Nat) (v2 : Nat) (v3 : Nat) (v4 : Int32) : Option Int32 := if ((sc v4.toNatClampNeg) &&& 63) = 30 then bo_30 N Λ L sc μ k23 v0 v1 v2 v3 v4 else tl_31 N Λ L sc μ k23 v0 v1 v2 v3 v4
def bo_29 (N : Nat) (Λ : Lay) (L : Nat) (sc : Nat → Int32) (μ : Mem) (k23 : Int32 × Mem → Option Int32) (v0 : Nat) (v1 : Nat) (v2 : Nat) (v3 : Nat) (v4 : Int32) : Option Int32 :=
      ((m_L_ask N Λ μ v1 v3).bind fun r274 =>
      (m_X12_ask N Λ r274.2 v2).bind fun r276 =>
      (m_X12_thrown N Λ r276.2 v2).bind fun r278 =>
      if r278 = r274.1 then
        (if r274.1 = 0 then
          (gd (inb 0 (aZ Λ v3)) <|
          if (lg_cmp (r276.2.2 v3 (0 : Int32).toNatClampNeg) (Int32.toInt64 r276.1)) = 0 then
            (jn_L_law__1537 N Λ L sc r276.2 k23 v0 v1 v2 v3 v4)
          else
            (some 0))
        else
          (jn_L_law__1537 N Λ L sc r276.2 k23 v0 v1 v2 v3 v4))
      else
        (some 0))
def tl_29 (N : Nat) (Λ : Lay) (L : Nat) (sc : Nat → Int32) (μ : Mem) (k23 : Int32 × Mem → Option Int32) (v0 : Nat) (v1 : Nat) (v2 : Nat) (v3 : Nat) (v4 : Int32) : Option Int32 := if ((sc v4.toNatClampNeg) &&& 63) = 29 then bo_29 N Λ L sc μ k23 v0 v1 v2 v3 v4 else tl_30 N Λ L sc μ k23 v0 v1 v2 v3 v4
def bo_28 (N : Nat) (Λ : Lay) (L : Nat) (sc : Nat → Int32) (μ : Mem) (k23 : Int32 × Mem → Option Int32) (v0 : Nat) (v1 : Nat) (v2 : Nat) (v3 : Nat) (v4 : Int32) : Option Int32 :=
      (gd (inb (v4 + 1) L) <|
      if (sc (v4 + 1).toNatClampNeg) = 0 then
        (jn_L_law__1439 N Λ L sc μ k23 v0 v1 v2 v3 v4 v1 0)
      else
        (jn_L_law__1439 N Λ L sc μ k23 v0 v1 v2 v3 v4 v1 1))
def tl_28 (N : Nat) (Λ : Lay) (L : Nat) (sc : Nat → Int32) (μ : Mem) (k23 : Int32 × Mem → Option Int32) (v0 : Nat) (v1 : Nat) (v2 : Nat) (v3 : Nat) (v4 : Int32) : Option Int32 := if ((sc v4.toNatClampNeg) &&& 63) = 28 then bo_28 N Λ L sc μ k23 v0 v1 v2 v3 v4 else tl_29 N Λ L sc μ k23 v0 v1 v2 v3 v4
def bo_27 (N : Nat) (Λ : Lay) (L : Nat) (sc : Nat → Int32) (μ : Mem) (k23 : Int32 × Mem → Option Int32) (v0 : Nat) (v1 : Nat) (v2 : Nat) (v3 : Nat) (v4 : Int32) : Option Int32 :=
      ((m_X11_first N Λ μ v1).bind fun r265 =>
      (m_X12_first N Λ r265.2 v2).bind fun r267 =>
      if r265.1 = r267.1 then
        (jn_L_law__2587 N Λ L sc r267.2 k23 v0 v1 v2 v3 v4)
      else
        (some 0))
def tl_27 (N : Nat) (Λ : Lay) (L : Nat) (sc : Nat → Int32) (μ : Mem) (k23 : Int32 × Mem → Option Int32) (v0 : Nat) (v1 : Nat) (v2 : Nat) (v3 : Nat) (v4 : Int32) : Option Int32 := if ((sc v4.toNatClampNeg) &&& 63) = 27 then bo_27 N Λ L sc μ k23 v0 v1 v2 v3 v4 else tl_28 N Λ L sc μ k23 v0 v1 v2 v3 v4
def bo_26 (N : Nat) (Λ : Lay) (L : Nat) (sc : Nat → Int32) (μ : Mem) (k23 : Int32 × Mem → Option Int32) (v0 : Nat) (v1 : Nat) (v2 : Nat) (v3 : Nat) (v4 : Int32) : Option Int32 :=
      ((m_X11_cost N Λ μ v1).bind fun r259 =>
      (m_X12_cost N Λ r259.2 v2).bind fun r261 =>
      if r259.1 = r261.1 then
        (jn_L_law__2587 N Λ L sc r261.2 k23 v0 v1 v2 v3 v4)
      else
        (some 0))
def tl_26 (N : Nat) (Λ : Lay) (L : Nat) (sc : Nat → Int32) (μ : Mem) (k23 : Int32 × Mem → Option Int32) (v0 : Nat) (v1 : Nat) (v2 : Nat) (v3 : Nat) (v4 : Int32) : Option Int32 := if ((sc v4.toNatClampNeg) &&& 63) = 26 then bo_26 N Λ L sc μ k23 v0 v1 v2 v3 v4 else tl_27 N Λ L sc μ k23 v0 v1 v2 v3 v4
def bo_25 (N : Nat) (Λ : Lay) (L : Nat) (sc : Nat → Int32) (μ : Mem) (k23 : Int32 × Mem → Option Int32) (v0 : Nat) (v1 : Nat) (v2 : Nat) (v3 : Nat) (v4 : Int32) : Option Int32 :=
      ((m_X11_ease N Λ μ v1).bind fun r253 =>
      (m_X12_ease N Λ r253.2 v2).bind fun r255 =>
      if r253.1 = r255.1 then
        (jn_L_law__2587 N Λ L sc r255.2 k23 v0 v1 v2 v3 v4)
      else
        (some 0))
def tl_25 (N : Nat) (Λ : Lay) (L : Nat) (sc : Nat → Int32) (μ : Mem) (k23 : Int32 × Mem → Option Int32) (v0 : Nat) (v1 : Nat) (v2 : Nat) (v3 : Nat) (v4 : Int32) : Option Int32 := if ((sc v4.toNatClampNeg) &&& 63) = 25 then bo_25 N Λ L sc μ k23 v0 v1 v2 v3 v4 else tl_26 N Λ L sc μ k23 v0 v1 v2 v3 v4
def bo_24 (N : Nat) (Λ : Lay) (L : Nat) (sc : Nat → Int32) (μ : Mem) (k23 : Int32 × Mem → Option Int32) (v0 : Nat) (v1 : Nat) (v2 : Nat) (v3 : Nat) (v4 : Int32) : Option Int32 :=
      ((m_X11_ready N Λ μ v1).bind fun r247 =>
      (m_X12_ready N Λ r247.2 v2).bind fun r249 =>
      if r247.1 = r249.1 then
        (jn_L_law__2587 N Λ L sc r249.2 k23 v0 v1 v2 v3 v4)
      else
        (some 0))
def tl_24 (N : Nat) (Λ : Lay) (L : Nat) (sc : Nat → Int32) (μ : Mem) (k23 : Int32 × Mem → Option Int32) (v0 : Nat) (v1 : Nat) (v2 : Nat) (v3 : Nat) (v4 : Int32) : Option Int32 := if ((sc v4.toNatClampNeg) &&& 63) = 24 then bo_24 N Λ L sc μ k23 v0 v1 v2 v3 v4 else tl_25 N Λ L sc μ k23 v0 v1 v2 v3 v4
def bo_23 (N : Nat) (Λ : Lay) (L : Nat) (sc : Nat → Int32) (μ : Mem) (k23 : Int32 × Mem → Option Int32) (v0 : Nat) (v1 : Nat) (v2 : Nat) (v3 : Nat) (v4 : Int32) : Option Int32 :=
      ((m_X11_dry N Λ μ v1).bind fun r241 =>
      (m_X12_dry N Λ r241.2 v2).bind fun r243 =>
      if r241.1 = r243.1 then
        (jn_L_law__2587 N Λ L sc r243.2 k23 v0 v1 v2 v3 v4)
      else
        (some 0))
def tl_23 (N : Nat) (Λ : Lay) (L : Nat) (sc : Nat → Int32) (μ : Mem) (k23 : Int32 × Mem → Option Int32) (v0 : Nat) (v1 : Nat) (v2 : Nat) (v3 : Nat) (v4 : Int32) : Option Int32 := if ((sc v4.toNatClampNeg) &&& 63) = 23 then bo_23 N Λ L sc μ k23 v0 v1 v2 v3 v4 else tl_24 N Λ L sc μ k23 v0 v1 v2 v3 v4
def bo_22 (N : Nat) (Λ : Lay) (L : Nat) (sc : Nat → Int32) (μ : Mem) (k23 : Int32 × Mem → Option Int32) (v0 : Nat) (v1 : Nat) (v2 : Nat) (v3 : Nat) (v4 : Int32) : Option Int32 :=
      ((m_X11_which N Λ μ v1).bind fun r235 =>
      (m_X12_which N Λ r235.2 v2).bind fun r237 =>
      if r235.1 = r237.1 then
        (jn_L_law__2587 N Λ L sc r237.2 k23 v0 v1 v2 v3 v4)
      else
        (some 0))
def tl_22 (N : Nat) (Λ : Lay) (L : Nat) (sc : Nat → Int32) (μ : Mem) (k23 : Int32 × Mem → Option Int32) (v0 : Nat) (v1 : Nat) (v2 : Nat) (v3 : Nat) (v4 : Int32) : Option Int32 := if ((sc v4.toNatClampNeg) &&& 63) = 22 then bo_22 N Λ L sc μ k23 v0 v1 v2 v3 v4 else tl_23 N Λ L sc μ k23 v0 v1 v2 v3 v4
def bo_21 (N : Nat) (Λ : Lay) (L : Nat) (sc : Nat → Int32) (μ : Mem) (k23 : Int32 × Mem → Option Int32) (v0 : Nat) (v1 : Nat) (v2 : Nat) (v3 : Nat) (v4 : Int32) : Option Int32 :=
      ((m_X11_load N Λ μ v1).bind fun r229 =>
      (m_X12_load N Λ r229.2 v2).bind fun r231 =>
      if r229.1 = r231.1 then
        (jn_L_law__2587 N Λ L sc r231.2 k23 v0 v1 v2 v3 v4)
      else
        (some 0))
def tl_21 (N : Nat) (Λ : Lay) (L : Nat) (sc : Nat → Int32) (μ : Mem) (k23 : Int32 × Mem → Option Int32) (v0 : Nat) (v1 : Nat) (v2 : Nat) (v3 : Nat) (v4 : Int32) : Option Int32 := if ((sc v4.toNatClampNeg) &&& 63) = 21 then bo_21 N Λ L sc μ k23 v0 v1 v2 v3 v4 else tl_22 N Λ L sc μ k23 v0 v1 v2 v3 v4
def bo_20 (N : Nat) (Λ : Lay) (L : Nat) (sc : Nat → Int32) (μ : Mem) (k23 : Int32 × Mem → Option Int32) (v0 : Nat) (v1 : Nat) (v2 : Nat) (v3 : Nat) (v4 : Int32) : Option Int32 :=
      ((m_X11_room N Λ μ v1).bind fun r223 =>
      (m_X12_room N Λ μ v2).bind fun r225 =>
      if r223 = r225.1 then
        (jn_L_law__2587 N Λ L sc r225.2 k23 v0 v1 v2 v3 v4)
      else
        (some 0))
def tl_20 (N : Nat) (Λ : Lay) (L : Nat) (sc : Nat → Int32) (μ : Mem) (k23 : Int32 × Mem → Option Int32) (v0 : Nat) (v1 : Nat) (v2 : Nat) (v3 : Nat) (v4 : Int32) : Option Int32 := if ((sc v4.toNatClampNeg) &&& 63) = 20 then bo_20 N Λ L sc μ k23 v0 v1 v2 v3 v4 else tl_21 N Λ L sc μ k23 v0 v1 v2 v3 v4
def bo_19 (N : Nat) (Λ : Lay) (L : Nat) (sc : Nat → Int32) (μ : Mem) (k23 : Int32 × Mem → Option Int32) (v0 : Nat) (v1 : Nat) (v2 : Nat) (v3 : Nat) (v4 : Int32) : Option Int32 :=
      ((m_X11_even N Λ μ v1).bind fun r217 =>
      (m_X12_even N Λ μ v2).bind fun r219 =>
      if r217 = r219.1 then
        (jn_L_law__2587 N Λ L sc r219.2 k23 v0 v1 v2 v3 v4)
      else
        (some 0))
def tl_19 (N : Nat) (Λ : Lay) (L : Nat) (sc : Nat → Int32) (μ : Mem) (k23 : Int32 × Mem → Option Int32) (v0 : Nat) (v1 : Nat) (v2 : Nat) (v3 : Nat) (v4 : Int32) : Option Int32 := if ((sc v4.toNatClampNeg) &&& 63) = 19 then bo_19 N Λ L sc μ k23 v0 v1 v2 v3 v4 else tl_20 N Λ L sc μ k23 v0 v1 v2 v3 v4
def bo_18 (N : Nat) (Λ : Lay) (L : Nat) (sc : Nat → Int32) (μ : Mem) (k23 : Int32 × Mem → Option Int32) (v0 : Nat) (v1 : Nat) (v2 : Nat) (v3 : Nat) (v4 : Int32) : Option Int32 :=
      ((m_X11_leaks N Λ μ v1).bind fun r211 =>
      (m_X12_leaks N Λ r211.2 v2).bind fun r213 =>
      if r211.1 = r213.1 then
        (jn_L_law__2587 N Λ L sc r213.2 k23 v0 v1 v2 v3 v4)
      else
        (some 0))
def tl_18 (N : Nat) (Λ : Lay) (L : Nat) (sc : Nat → Int32) (μ : Mem) (k23 : Int32 × Mem → Option Int32) (v0 : Nat) (v1 : Nat) (v2 : Nat) (v3 : Nat) (v4 : Int32) : Option Int32 := if ((sc v4.toNatClampNeg) &&& 63) = 18 then bo_18 N Λ L sc μ k23 v0 v1 v2 v3 v4 else tl_19 N Λ L sc μ k23 v0 v1 v2 v3 v4
def bo_17 (N : Nat) (Λ : Lay) (L : Nat) (sc : Nat → Int32) (μ : Mem) (k23 : Int32 × Mem → Option Int32) (v0 : Nat) (v1 : Nat) (v2 : Nat) (v3 : Nat) (v4 : Int32) : Option Int32 :=
      ((m_X11_pulls N Λ μ v1).bind fun r205 =>
      (m_X12_pulls N Λ r205.2 v2).bind fun r207 =>
      if r205.1 = r207.1 then
        (jn_L_law__2587 N Λ L sc r207.2 k23 v0 v1 v2 v3 v4)
      else
        (some 0))
def tl_17 (N : Nat) (Λ : Lay) (L : Nat) (sc : Nat → Int32) (μ : Mem) (k23 : Int32 × Mem → Option Int32) (v0 : Nat) (v1 : Nat) (v2 : Nat) (v3 : Nat) (v4 : Int32) : Option Int32 := if ((sc v4.toNatClampNeg) &&& 63) = 17 then bo_17 N Λ L sc μ k23 v0 v1 v2 v3 v4 else tl_18 N Λ L sc μ k23 v0 v1 v2 v3 v4
def bo_16 (N : Nat) (Λ : Lay) (L : Nat) (sc : Nat → Int32) (μ : Mem) (k23 : Int32 × Mem → Option Int32) (v0 : Nat) (v1 : Nat) (v2 : Nat) (v3 : Nat) (v4 : Int32) : Option Int32 :=
      (gd (inb (v4 + 1) L) <|
      gd (inb (v4 + 2) L) <|
      (m_L_flow N Λ μ v1 (sc (v4 + 1).toNatClampNeg) (sc (v4 + 2).toNatClampNeg) v3).bind fun r192 =>
      gd (inb (v4 + 1) L) <|
      gd (inb (v4 + 2) L) <|
      (m_X12_flow N Λ r192.2 v2 (sc (v4 + 1).toNatClampNeg) (sc (v4 + 2).toNatClampNeg)).bind fun r196 =>
      (m_X12_thrown N Λ r196.2 v2).bind fun r198 =>
      if r198 = r192.1 then
        (if r192.1 = 0 then
          (gd (inb 0 (aZ Λ v3)) <|
          if (lg_cmp (r196.2.2 v3 (0 : Int32).toNatClampNeg) (Int32.toInt64 r196.1)) = 0 then
            (jn_L_law__1278 N Λ L sc r196.2 k23 v0 v1 v2 v3 v4)
          else
            (some 0))
        else
          (jn_L_law__1278 N Λ L sc r196.2 k23 v0 v1 v2 v3 v4))
      else
        (some 0))
def tl_16 (N : Nat) (Λ : Lay) (L : Nat) (sc : Nat → Int32) (μ : Mem) (k23 : Int32 × Mem → Option Int32) (v0 : Nat) (v1 : Nat) (v2 : Nat) (v3 : Nat) (v4 : Int32) : Option Int32 := if ((sc v4.toNatClampNeg) &&& 63) = 16 then bo_16 N Λ L sc μ k23 v0 v1 v2 v3 v4 else tl_17 N Λ L sc μ k23 v0 v1 v2 v3 v4
def bo_15 (N : Nat) (Λ : Lay) (L : Nat) (sc : Nat → Int32) (μ : Mem) (k23 : Int32 × Mem → Option Int32) (v0 : Nat) (v1 : Nat) (v2 : Nat) (v3 : Nat) (v4 : Int32) : Option Int32 :=
      (gd (inb (v4 + 1) L) <|
      (m_L_hands N Λ μ v1 (sc (v4 + 1).toNatClampNeg) v3).bind fun r178 =>
      gd (inb (v4 + 1) L) <|
      (m_X12_hands N Λ r178.2 v2 (sc (v4 + 1).toNatClampNeg)).bind fun r181 =>
      (m_X12_thrown N Λ r181.2 v2).bind fun r183 =>
      if r183 = r178.1 then
        (if r178.1 = 0 then
          (gd (inb 0 (aZ Λ v3)) <|
          if (lg_cmp (r181.2.2 v3 (0 : Int32).toNatClampNeg) (Int32.toInt64 r181.1)) = 0 then
            (jn_L_law__1210 N Λ L sc r181.2 k23 v0 v1 v2 v3 v4)
          else
            (some 0))
        else
          (jn_L_law__1210 N Λ L sc r181.2 k23 v0 v1 v2 v3 v4))
      else
        (some 0))
def tl_15 (N : Nat) (Λ : Lay) (L : Nat) (sc : Nat → Int32) (μ : Mem) (k23 : Int32 × Mem → Option Int32) (v0 : Nat) (v1 : Nat) (v2 : Nat) (v3 : Nat) (v4 : Int32) : Option Int32 := if ((sc v4.toNatClampNeg) &&& 63) = 15 then bo_15 N Λ L sc μ k23 v0 v1 v2 v3 v4 else tl_16 N Λ L sc μ k23 v0 v1 v2 v3 v4
def bo_14 (N : Nat) (Λ : Lay) (L : Nat) (sc : Nat → Int32) (μ : Mem) (k23 : Int32 × Mem → Option Int32) (v0 : Nat) (v1 : Nat) (v2 : Nat) (v3 : Nat) (v4 : Int32) : Option Int32 :=
      (gd (inb (v4 + 1) L) <|
      (m_L_pumps N Λ μ v1 (sc (v4 + 1).toNatClampNeg) v3).bind fun r165 =>
      gd (inb (v4 + 1) L) <|
      (m_X12_pumps N Λ r165.2 v2 (sc (v4 + 1).toNatClampNeg)).bind fun r168 =>
      (m_X12_thrown N Λ r168.2 v2).bind fun r170 =>
      if r170 = r165.1 then
        (if r165.1 = 0 then
          (gd (inb 0 (aZ Λ v3)) <|
          if (lg_cmp (r168.2.2 v3 (0 : Int32).toNatClampNeg) (Int32.toInt64 r168.1)) = 0 then
            (jn_L_law__1154 N Λ L sc r168.2 k23 v0 v1 v2 v3 v4)
          else
            (some 0))
        else
          (jn_L_law__1154 N Λ L sc r168.2 k23 v0 v1 v2 v3 v4))
      else
        (some 0))
def tl_14 (N : Nat) (Λ : Lay) (L : Nat) (sc : Nat → Int32) (μ : Mem) (k23 : Int32 × Mem → Option Int32) (v0 : Nat) (v1 : Nat) (v2 : Nat) (v3 : Nat) (v4 : Int32) : Option Int32 := if ((sc v4.toNatClampNeg) &&& 63) = 14 then bo_14 N Λ L sc μ k23 v0 v1 v2 v3 v4 else tl_15 N Λ L sc μ k23 v0 v1 v2 v3 v4
def bo_13 (N : Nat) (Λ : Lay) (L : Nat) (sc : Nat → Int32) (μ : Mem) (k23 : Int32 × Mem → Option Int32) (v0 : Nat) (v1 : Nat) (v2 : Nat) (v3 : Nat) (v4 : Int32) : Option Int32 :=
      (gd (inb (v4 + 1) L) <|
      gd (inb (v4 + 2) L) <|
      if (sc (v4 + 2).toNatClampNeg) = 0 then
        (jn_L_law__1031 N Λ L sc μ k23 v0 v1 v2 v3 v4 v1 (sc (v4 + 1).toNatClampNeg) 0)
      else
        (jn_L_law__1031 N Λ L sc μ k23 v0 v1 v2 v3 v4 v1 (sc (v4 + 1).toNatClampNeg) 1))
def tl_13 (N : Nat) (Λ : Lay) (L : Nat) (sc : Nat → Int32) (μ : Mem) (k23 : Int32 × Mem → Option Int32) (v0 : Nat) (v1 : Nat) (v2 : Nat) (v3 : Nat) (v4 : Int32) : Option Int32 := if ((sc v4.toNatClampNeg) &&& 63) = 13 then bo_13 N Λ L sc μ k23 v0 v1 v2 v3 v4 else tl_14 N Λ L sc μ k23 v0 v1 v2 v3 v4
def bo_12 (N : Nat) (Λ : Lay) (L : Nat) (sc : Nat → Int32) (μ : Mem) (k23 : Int32 × Mem → Option Int32) (v0 : Nat) (v1 : Nat) (v2 : Nat) (v3 : Nat) (v4 : Int32) : Option Int32 :=
      (gd (inb (v4 + 1) L) <|
      gd (inb (v4 + 2) L) <|
      gd (inb (v4 + 3) L) <|
      (m_L_comes N Λ μ v1 (sc (v4 + 1).toNatClampNeg) (sc (v4 + 2).toNatClampNeg) (sc (v4 + 3).toNatClampNeg) v3).bind fun r146 =>
      gd (inb (v4 + 1) L) <|
      gd (inb (v4 + 2) L) <|
      gd (inb (v4 + 3) L) <|
      (m_X12_comes N Λ r146.2 v2 (sc (v4 + 1).toNatClampNeg) (sc (v4 + 2).toNatClampNeg) (sc (v4 + 3).toNatClampNeg)).bind fun r151 =>
      (m_X12_thrown N Λ r151.2 v2).bind fun r153 =>
      if r153 = r146.1 then
        (if r146.1 = 0 then
          (gd (inb 0 (aZ Λ v3)) <|
          if (lg_cmp (r151.2.2 v3 (0 : Int32).toNatClampNeg) (Int32.toInt64 r151.1)) = 0 then
            (jn_L_law__1007 N Λ L sc r151.2 k23 v0 v1 v2 v3 v4)
          else
            (some 0))
        else
          (jn_L_law__1007 N Λ L sc r151.2 k23 v0 v1 v2 v3 v4))
      else
        (some 0))
def tl_12 (N : Nat) (Λ : Lay) (L : Nat) (sc : Nat → Int32) (μ : Mem) (k23 : Int32 × Mem → Option Int32) (v0 : Nat) (v1 : Nat) (v2 : Nat) (v3 : Nat) (v4 : Int32) : Option Int32 := if ((sc v4.toNatClampNeg) &&& 63) = 12 then bo_12 N Λ L sc μ k23 v0 v1 v2 v3 v4 else tl_13 N Λ L sc μ k23 v0 v1 v2 v3 v4
def bo_11 (N : Nat) (Λ : Lay) (L : Nat) (sc : Nat → Int32) (μ : Mem) (k23 : Int32 × Mem → Option Int32) (v0 : Nat) (v1 : Nat) (v2 : Nat) (v3 : Nat) (v4 : Int32) : Option Int32 :=
      (gd (inb (v4 + 1) L) <|
      (m_L_leave N Λ μ v1 (sc (v4 + 1).toNatClampNeg) v3).bind fun r131 =>
      gd (inb (v4 + 1) L) <|
      (m_X12_leave N Λ r131.2 v2 (sc (v4 + 1).toNatClampNeg)).bind fun r134 =>
      (m_X12_thrown N Λ r134.2 v2).bind fun r136 =>
      if r136 = r131.1 then
        (if r131.1 = 0 then
          (gd (inb 0 (aZ Λ v3)) <|
          if (lg_cmp (r134.2.2 v3 (0 : Int32).toNatClampNeg) (Int32.toInt64 r134.1)) = 0 then
            (jn_L_law__927 N Λ L sc r134.2 k23 v0 v1 v2 v3 v4)
          else
            (some 0))
        else
          (jn_L_law__927 N Λ L sc r134.2 k23 v0 v1 v2 v3 v4))
      else
        (some 0))
def tl_11 (N : Nat) (Λ : Lay) (L : Nat) (sc : Nat → Int32) (μ : Mem) (k23 : Int32 × Mem → Option Int32) (v0 : Nat) (v1 : Nat) (v2 : Nat) (v3 : Nat) (v4 : Int32) : Option Int32 := if ((sc v4.toNatClampNeg) &&& 63) = 11 then bo_11 N Λ L sc μ k23 v0 v1 v2 v3 v4 else tl_12 N Λ L sc μ k23 v0 v1 v2 v3 v4
def bo_10 (N : Nat) (Λ : Lay) (L : Nat) (sc : Nat → Int32) (μ : Mem) (k23 : Int32 × Mem → Option Int32) (v0 : Nat) (v1 : Nat) (v2 : Nat) (v3 : Nat) (v4 : Int32) : Option Int32 :=
      (gd (inb (v4 + 1) L) <|
      gd (inb (v4 + 2) L) <|
      (m_L_enter N Λ μ v1 (sc (v4 + 1).toNatClampNeg) (sc (v4 + 2).toNatClampNeg) v3).bind fun r117 =>
      gd (inb (v4 + 1) L) <|
      gd (inb (v4 + 2) L) <|
      (m_X12_enter N Λ r117.2 v2 (sc (v4 + 1).toNatClampNeg) (sc (v4 + 2).toNatClampNeg)).bind fun r121 =>
      (m_X12_thrown N Λ r121.2 v2).bind fun r123 =>
      if r123 = r117.1 then
        (if r117.1 = 0 then
          (gd (inb 0 (aZ Λ v3)) <|
          if (lg_cmp (r121.2.2 v3 (0 : Int32).toNatClampNeg) (Int32.toInt64 r121.1)) = 0 then
            (jn_L_law__871 N Λ L sc r121.2 k23 v0 v1 v2 v3 v4)
          else
            (some 0))
        else
          (jn_L_law__871 N Λ L sc r121.2 k23 v0 v1 v2 v3 v4))
      else
        (some 0))
def tl_10 (N : Nat) (Λ : Lay) (L : Nat) (sc : Nat → Int32) (μ : Mem) (k23 : Int32 × Mem → Option Int32) (v0 : Nat) (v1 : Nat) (v2 : Nat) (v3 : Nat) (v4 : Int32) : Option Int32 := if ((sc v4.toNatClampNeg) &&& 63) = 10 then bo_10 N Λ L sc μ k23 v0 v1 v2 v3 v4 else tl_11 N Λ L sc μ k23 v0 v1 v2 v3 v4
def bo_9 (N : Nat) (Λ : Lay) (L : Nat) (sc : Nat → Int32) (μ : Mem) (k23 : Int32 × Mem → Option Int32) (v0 : Nat) (v1 : Nat) (v2 : Nat) (v3 : Nat) (v4 : Int32) : Option Int32 :=
      (gd (inb (v4 + 1) L) <|
      if (sc (v4 + 1).toNatClampNeg) = 0 then
        (jn_L_law__742 N Λ L sc μ k23 v0 v1 v2 v3 v4 v1 0)
      else
        (jn_L_law__742 N Λ L sc μ k23 v0 v1 v2 v3 v4 v1 1))
def tl_9 (N : Nat) (Λ : Lay) (L : Nat) (sc : Nat → Int32) (μ : Mem) (k23 : Int32 × Mem → Option Int32) (v0 : Nat) (v1 : Nat) (v2 : Nat) (v3 : Nat) (v4 : Int32) : Option Int32 := if ((sc v4.toNatClampNeg) &&& 63) = 9 then bo_9 N Λ L sc μ k23 v0 v1 v2 v3 v4 else tl_10 N Λ L sc μ k23 v0 v1 v2 v3 v4
def bo_8 (N : Nat) (Λ : Lay) (L : Nat) (sc : Nat → Int32) (μ : Mem) (k23 : Int32 × Mem → Option Int32) (v0 : Nat) (v1 : Nat) (v2 : Nat) (v3 : Nat) (v4 : Int32) : Option Int32 :=
      (gd (inb (v4 + 1) L) <|
      (m_L_hours N Λ μ v1 (sc (v4 + 1).toNatClampNeg) v3).bind fun r100 =>
      gd (inb (v4 + 1) L) <|
      (m_X12_hours N Λ r100.2 v2 (sc (v4 + 1).toNatClampNeg)).bind fun r103 =>
      (m_X12_thrown N Λ r103.2 v2).bind fun r105 =>
      if r105 = r100.1 then
        (if r100.1 = 0 then
          (gd (inb 0 (aZ Λ v3)) <|
          if (lg_cmp (r103.2.2 v3 (0 : Int32).toNatClampNeg) (Int32.toInt64 r103.1)) = 0 then
            (jn_L_law__724 N Λ L sc r103.2 k23 v0 v1 v2 v3 v4)
          else
            (some 0))
        else
          (jn_L_law__724 N Λ L sc r103.2 k23 v0 v1 v2 v3 v4))
      else
        (some 0))
def tl_8 (N : Nat) (Λ : Lay) (L : Nat) (sc : Nat → Int32) (μ : Mem) (k23 : Int32 × Mem → Option Int32) (v0 : Nat) (v1 : Nat) (v2 : Nat) (v3 : Nat) (v4 : Int32) : Option Int32 := if ((sc v4.toNatClampNeg) &&& 63) = 8 then bo_8 N Λ L sc μ k23 v0 v1 v2 v3 v4 else tl_9 N Λ L sc μ k23 v0 v1 v2 v3 v4
def bo_7 (N : Nat) (Λ : Lay) (L : Nat) (sc : Nat → Int32) (μ : Mem) (k23 : Int32 × Mem → Option Int32) (v0 : Nat) (v1 : Nat) (v2 : Nat) (v3 : Nat) (v4 : Int32) : Option Int32 :=
      (gd (inb (v4 + 1) L) <|
      (m_L_tide N Λ μ v1 (sc (v4 + 1).toNatClampNeg) v3).bind fun r87 =>
      gd (inb (v4 + 1) L) <|
      (m_X12_tide N Λ r87.2 v2 (sc (v4 + 1).toNatClampNeg)).bind fun r90 =>
      (m_X12_thrown N Λ r90.2 v2).bind fun r92 =>
      if r92 = r87.1 then
        (if r87.1 = 0 then
          (gd (inb 0 (aZ Λ v3)) <|
          if (lg_cmp (r90.2.2 v3 (0 : Int32).toNatClampNeg) (Int32.toInt64 r90.1)) = 0 then
            (jn_L_law__668 N Λ L sc r90.2 k23 v0 v1 v2 v3 v4)
          else
            (some 0))
        else
          (jn_L_law__668 N Λ L sc r90.2 k23 v0 v1 v2 v3 v4))
      else
        (some 0))
def tl_7 (N : Nat) (Λ : Lay) (L : Nat) (sc : Nat → Int32) (μ : Mem) (k23 : Int32 × Mem → Option Int32) (v0 : Nat) (v1 : Nat) (v2 : Nat) (v3 : Nat) (v4 : Int32) : Option Int32 := if ((sc v4.toNatClampNeg) &&& 63) = 7 then bo_7 N Λ L sc μ k23 v0 v1 v2 v3 v4 else tl_8 N Λ L sc μ k23 v0 v1 v2 v3 v4
def bo_6 (N : Nat) (Λ : Lay) (L : Nat) (sc : Nat → Int32) (μ : Mem) (k23 : Int32 × Mem → Option Int32) (v0 : Nat) (v1 : Nat) (v2 : Nat) (v3 : Nat) (v4 : Int32) : Option Int32 :=
      (gd (inb (v4 + 1) L) <|
      gd (inb (v4 + 2) L) <|
      (m_L_place N Λ μ v1 (sc (v4 + 1).toNatClampNeg) (sc (v4 + 2).toNatClampNeg) v3).bind fun r73 =>
      gd (inb (v4 + 1) L) <|
      gd (inb (v4 + 2) L) <|
      (m_X12_place N Λ r73.2 v2 (sc (v4 + 1).toNatClampNeg) (sc (v4 + 2).toNatClampNeg)).bind fun r77 =>
      (m_X12_thrown N Λ r77.2 v2).bind fun r79 =>
      if r79 = r73.1 then
        (if r73.1 = 0 then
          (gd (inb 0 (aZ Λ v3)) <|
          if (lg_cmp (r77.2.2 v3 (0 : Int32).toNatClampNeg) (Int32.toInt64 r77.1)) = 0 then
            (jn_L_law__612 N Λ L sc r77.2 k23 v0 v1 v2 v3 v4)
          else
            (some 0))
        else
          (jn_L_law__612 N Λ L sc r77.2 k23 v0 v1 v2 v3 v4))
      else
        (some 0))
def tl_6 (N : Nat) (Λ : Lay) (L : Nat) (sc : Nat → Int32) (μ : Mem) (k23 : Int32 × Mem → Option Int32) (v0 : Nat) (v1 : Nat) (v2 : Nat) (v3 : Nat) (v4 : Int32) : Option Int32 := if ((sc v4.toNatClampNeg) &&& 63) = 6 then bo_6 N Λ L sc μ k23 v0 v1 v2 v3 v4 else tl_7 N Λ L sc μ k23 v0 v1 v2 v3 v4
def bo_5 (N : Nat) (Λ : Lay) (L : Nat) (sc : Nat → Int32) (μ : Mem) (k23 : Int32 × Mem → Option Int32) (v0 : Nat) (v1 : Nat) (v2 : Nat) (v3 : Nat) (v4 : Int32) : Option Int32 :=
      (gd (inb (v4 + 1) L) <|
      gd (inb (v4 + 2) L) <|
      (m_L_ship N Λ μ v1 (sc (v4 + 1).toNatClampNeg) (sc (v4 + 2).toNatClampNeg) v3).bind fun r58 =>
      gd (inb (v4 + 1) L) <|
      gd (inb (v4 + 2) L) <|
      (m_X12_ship N Λ r58.2 v2 (sc (v4 + 1).toNatClampNeg) (sc (v4 + 2).toNatClampNeg)).bind fun r62 =>
      (m_X12_thrown N Λ r62.2 v2).bind fun r64 =>
      if r64 = r58.1 then
        (if r58.1 = 0 then
          (gd (inb 0 (aZ Λ v3)) <|
          if (lg_cmp (r62.2.2 v3 (0 : Int32).toNatClampNeg) (Int32.toInt64 r62.1)) = 0 then
            (jn_L_law__544 N Λ L sc r62.2 k23 v0 v1 v2 v3 v4)
          else
            (some 0))
        else
          (jn_L_law__544 N Λ L sc r62.2 k23 v0 v1 v2 v3 v4))
      else
        (some 0))
def tl_5 (N : Nat) (Λ : Lay) (L : Nat) (sc : Nat → Int32) (μ : Mem) (k23 : Int32 × Mem → Option Int32) (v0 : Nat) (v1 : Nat) (v2 : Nat) (v3 : Nat) (v4 : Int32) : Option Int32 := if ((sc v4.toNatClampNeg) &&& 63) = 5 then bo_5 N Λ L sc μ k23 v0 v1 v2 v3 v4 else tl_6 N Λ L sc μ k23 v0 v1 v2 v3 v4
def bo_4 (N : Nat) (Λ : Lay) (L : Nat) (sc : Nat → Int32) (μ : Mem) (k23 : Int32 × Mem → Option Int32) (v0 : Nat) (v1 : Nat) (v2 : Nat) (v3 : Nat) (v4 : Int32) : Option Int32 :=
      ((m_X11_fault N Λ μ v1).bind fun r50 =>
      (m_X12_fault N Λ μ v2).bind fun r52 =>
      if r50 = r52.1 then
        (jn_L_law__2587 N Λ L sc r52.2 k23 v0 v1 v2 v3 v4)
      else
        (some 0))
def tl_4 (N : Nat) (Λ : Lay) (L : Nat) (sc : Nat → Int32) (μ : Mem) (k23 : Int32 × Mem → Option Int32) (v0 : Nat) (v1 : Nat) (v2 : Nat) (v3 : Nat) (v4 : Int32) : Option Int32 := if ((sc v4.toNatClampNeg) &&& 63) = 4 then bo_4 N Λ L sc μ k23 v0 v1 v2 v3 v4 else tl_5 N Λ L sc μ k23 v0 v1 v2 v3 v4
def bo_3 (N : Nat) (Λ : Lay) (L : Nat) (sc : Nat → Int32) (μ : Mem) (k23 : Int32 × Mem → Option Int32) (v0 : Nat) (v1 : Nat) (v2 : Nat) (v3 : Nat) (v4 : Int32) : Option Int32 :=
      ((m_L_law N Λ μ v1 v3).bind fun r39 =>
      (m_X12_law N Λ r39.2 v2).bind fun r41 =>
      (m_X12_thrown N Λ r41.2 v2).bind fun r43 =>
      if r43 = r39.1 then
        (if r39.1 = 0 then
          (gd (inb 0 (aZ Λ v3)) <|
          if (lg_cmp (r41.2.2 v3 (0 : Int32).toNatClampNeg) (Int32.toInt64 r41.1)) = 0 then
            (jn_L_law__463 N Λ L sc r41.2 k23 v0 v1 v2 v3 v4)
          else
            (some 0))
        else
          (jn_L_law__463 N Λ L sc r41.2 k23 v0 v1 v2 v3 v4))
      else
        (some 0))
def tl_3 (N : Nat) (Λ : Lay) (L : Nat) (sc : Nat → Int32) (μ : Mem) (k23 : Int32 × Mem → Option Int32) (v0 : Nat) (v1 : Nat) (v2 : Nat) (v3 : Nat) (v4 : Int32) : Option Int32 := if ((sc v4.toNatClampNeg) &&& 63) = 3 then bo_3 N Λ L sc μ k23 v0 v1 v2 v3 v4 else tl_4 N Λ L sc μ k23 v0 v1 v2 v3 v4
def bo_2 (N : Nat) (Λ : Lay) (L : Nat) (sc : Nat → Int32) (μ : Mem) (k23 : Int32 × Mem → Option Int32) (v0 : Nat) (v1 : Nat) (v2 : Nat) (v3 : Nat) (v4 : Int32) : Option Int32 :=
      ((m_L_dock N Λ μ v1 v3).bind fun r28 =>
      (m_X12_dock N Λ r28.2 v2).bind fun r30 =>
      (m_X12_thrown N Λ r30.2 v2).bind fun r32 =>
      if r32 = r28.1 then
        (if r28.1 = 0 then
          (gd (inb 0 (aZ Λ v3)) <|
          if (lg_cmp (r30.2.2 v3 (0 : Int32).toNatClampNeg) (Int32.toInt64 r30.1)) = 0 then
            (jn_L_law__419 N Λ L sc r30.2 k23 v0 v1 v2 v3 v4)
          else
            (some 0))
        else
          (jn_L_law__419 N Λ L sc r30.2 k23 v0 v1 v2 v3 v4))
      else
        (some 0))
def tl_2 (N : Nat) (Λ : Lay) (L : Nat) (sc : Nat → Int32) (μ : Mem) (k23 : Int32 × Mem → Option Int32) (v0 : Nat) (v1 : Nat) (v2 : Nat) (v3 : Nat) (v4 : Int32) : Option Int32 := if ((sc v4.toNatClampNeg) &&& 63) = 2 then bo_2 N Λ L sc μ k23 v0 v1 v2 v3 v4 else tl_3 N Λ L sc μ k23 v0 v1 v2 v3 v4
def bo_1 (N : Nat) (Λ : Lay) (L : Nat) (sc : Nat → Int32) (μ : Mem) (k23 : Int32 × Mem → Option Int32) (v0 : Nat) (v1 : Nat) (v2 : Nat) (v3 : Nat) (v4 : Int32) : Option Int32 :=
      (gd (inb (v4 + 1) L) <|
      (m_X11_end N Λ μ v1 (sc (v4 + 1).toNatClampNeg)).bind fun r21 =>
      gd (inb (v4 + 1) L) <|
      (m_X12_end N Λ r21.2 v2 (sc (v4 + 1).toNatClampNeg)).bind fun r24 =>
      if r21.1 = r24.1 then
        (jn_L_law__2587 N Λ L sc r24.2 k23 v0 v1 v2 v3 v4)
      else
        (some 0))
def tl_1 (N : Nat) (Λ : Lay) (L : Nat) (sc : Nat → Int32) (μ : Mem) (k23 : Int32 × Mem → Option Int32) (v0 : Nat) (v1 : Nat) (v2 : Nat) (v3 : Nat) (v4 : Int32) : Option Int32 := if ((sc v4.toNatClampNeg) &&& 63) = 1 then bo_1 N Λ L sc μ k23 v0 v1 v2 v3 v4 else tl_2 N Λ L sc μ k23 v0 v1 v2 v3 v4
def bo_0 (N : Nat) (Λ : Lay) (L : Nat) (sc : Nat → Int32) (μ : Mem) (k23 : Int32 × Mem → Option Int32) (v0 : Nat) (v1 : Nat) (v2 : Nat) (v3 : Nat) (v4 : Int32) : Option Int32 :=
      (gd (inb (v4 + 1) L) <|
      gd (inb (v4 + 2) L) <|
      gd (inb (v4 + 3) L) <|
      gd (inb (v4 + 4) L) <|
      gd (inb (v4 + 5) L) <|
      (m_X11_feed N Λ μ v1 (sc (v4 + 1).toNatClampNeg) (sc (v4 + 2).toNatClampNeg) (sc (v4 + 3).toNatClampNeg) (sc (v4 + 4).toNatClampNeg) (sc (v4 + 5).toNatClampNeg)).bind fun r9 =>
      gd (inb (v4 + 1) L) <|
      gd (inb (v4 + 2) L) <|
      gd (inb (v4 + 3) L) <|
      gd (inb (v4 + 4) L) <|
      gd (inb (v4 + 5) L) <|
      (m_X12_feed N Λ r9.2 v2 (sc (v4 + 1).toNatClampNeg) (sc (v4 + 2).toNatClampNeg) (sc (v4 + 3).toNatClampNeg) (sc (v4 + 4).toNatClampNeg) (sc (v4 + 5).toNatClampNeg)).bind fun r16 =>
      if r9.1 = r16.1 then
        (jn_L_law__2587 N Λ L sc r16.2 k23 v0 v1 v2 v3 v4)
      else
        (some 0))
def tl_0 (N : Nat) (Λ : Lay) (L : Nat) (sc : Nat → Int32) (μ : Mem) (k23 : Int32 × Mem → Option Int32) (v0 : Nat) (v1 : Nat) (v2 : Nat) (v3 : Nat) (v4 : Int32) : Option Int32 := if ((sc v4.toNatClampNeg) &&& 63) = 0 then bo_0 N Λ L sc μ k23 v0 v1 v2 v3 v4 else tl_1 N Λ L sc μ k23 v0 v1 v2 v3 v4
theorem bd_tl (N : Nat) (Λ : Lay) (L : Nat) (sc : Nat → Int32) (μ : Mem) (k23 : Int32 × Mem → Option Int32) (v0 : Nat) (v1 : Nat) (v2 : Nat) (v3 : Nat) (v4 : Int32) : bd_L_law__23 N Λ L sc μ k23 v0 v1 v2 v3 v4 = (if ((Int32.ofNat L) - 6) < v4 then some 1 else gd (inb v4 L) (tl_0 N Λ L sc μ k23 v0 v1 v2 v3 v4)) := rfl

abbrev rm_XI_bitCount : Room := { frames := 0, cells := 0, slots := 0, locals := 0 }
set_option maxRecDepth 20000 in
set_option maxHeartbeats 4000000 in
theorem tm_XI_bitCount {x : Ctx} {Λ : Lay} (C : Cx x cXI_bitCount 1 (some .int) RXI Λ rm_XI_bitCount) (N : Nat) (μ : Mem) (v0 : Int32) {r : Int32} (hm : m_XI_bitCount N Λ μ v0 = some r) : J x 1 Λ (QI x Λ r μ) 0 [(0, .int v0)] [] μ := by
  refine j_iload_n C 0 dXI_bitCount_0 rfl ?_
  refine j_iload_n C 0 dXI_bitCount_1 rfl ?_
  refine j_iconst C (v := 1) dXI_bitCount_2 rfl ?_
  refine j_iushr C dXI_bitCount_3 ?_
  refine j_ldcw C (v := 1431655765) wk_729 dXI_bitCount_4 ?_
  refine j_iand C dXI_bitCount_7 ?_
  refine j_isub C dXI_bitCount_8 ?_
  obtain ⟨y1, e2, hm⟩ := lt_some hm
  refine j_topi e2 ?_
  refine j_istore_n C (lv' := [(0, .int y1)]) dXI_bitCount_9 (by decide) rfl ?_
  refine j_iload_n C 0 dXI_bitCount_10 rfl ?_
  refine j_ldcw C (v := 858993459) wk_730 dXI_bitCount_11 ?_
  refine j_iand C dXI_bitCount_14 ?_
  refine j_iload_n C 0 dXI_bitCount_15 rfl ?_
  refine j_iconst C (v := 2) dXI_bitCount_16 rfl ?_
  refine j_iushr C dXI_bitCount_17 ?_
  refine j_ldcw C (v := 858993459) wk_730 dXI_bitCount_18 ?_
  refine j_iand C dXI_bitCount_21 ?_
  refine j_iadd C dXI_bitCount_22 ?_
  obtain ⟨y3, e4, hm⟩ := lt_some hm
  refine j_topi e4 ?_
  refine j_istore_n C (lv' := [(0, .int y3)]) dXI_bitCount_23 (by decide) rfl ?_
  refine j_iload_n C 0 dXI_bitCount_24 rfl ?_
  refine j_iload_n C 0 dXI_bitCount_25 rfl ?_
  refine j_iconst C (v := 4) dXI_bitCount_26 rfl ?_
  refine j_iushr C dXI_bitCount_27 ?_
  refine j_iadd C dXI_bitCount_28 ?_
  refine j_ldcw C (v := 252645135) wk_731 dXI_bitCount_29 ?_
  refine j_iand C dXI_bitCount_32 ?_
  obtain ⟨y5, e6, hm⟩ := lt_some hm
  refine j_topi e6 ?_
  refine j_istore_n C (lv' := [(0, .int y5)]) dXI_bitCount_33 (by decide) rfl ?_
  refine j_iload_n C 0 dXI_bitCount_34 rfl ?_
  refine j_iload_n C 0 dXI_bitCount_35 rfl ?_
  refine j_bipush C (v := 8) dXI_bitCount_36 rfl ?_
  refine j_iushr C dXI_bitCount_38 ?_
  refine j_iadd C dXI_bitCount_39 ?_
  obtain ⟨y7, e8, hm⟩ := lt_some hm
  refine j_topi e8 ?_
  refine j_istore_n C (lv' := [(0, .int y7)]) dXI_bitCount_40 (by decide) rfl ?_
  refine j_iload_n C 0 dXI_bitCount_41 rfl ?_
  refine j_iload_n C 0 dXI_bitCount_42 rfl ?_
  refine j_bipush C (v := 16) dXI_bitCount_43 rfl ?_
  refine j_iushr C dXI_bitCount_45 ?_
  refine j_iadd C dXI_bitCount_46 ?_
  obtain ⟨y9, e10, hm⟩ := lt_some hm
  refine j_topi e10 ?_
  refine j_istore_n C (lv' := [(0, .int y9)]) dXI_bitCount_47 (by decide) rfl ?_
  refine j_iload_n C 0 dXI_bitCount_48 rfl ?_
  refine j_bipush C (v := 63) dXI_bitCount_49 rfl ?_
  refine j_iand C dXI_bitCount_51 ?_
  obtain rfl := Option.some.inj hm
  exact j_ireti C dXI_bitCount_52
set_option maxRecDepth 20000 in
set_option maxHeartbeats 4000000 in
theorem mc_XI_bitCount (l : Launch) (N : Nat) (Λ : Lay) (μ : Mem) (v0 : Int32) {r : Int32} (hm : m_XI_bitCount N Λ μ v0 = some r) : MI l yXI_bitCount cXI_bitCount 1 (some .int) rm_XI_bitCount Λ [.int v0] μ r μ := mi_of rfl (Nat.le_of_ble_eq_true rfl) (fun x C _ => tm_XI_bitCount C _ _ _  hm)
abbrev rm_XI_ntz : Room := { frames := 0, cells := 0, slots := 0, locals := 0 }
set_option maxRecDepth 20000 in
set_option maxHeartbeats 4000000 in
theorem tj_XI_ntz_74 {x : Ctx} {Λ : Lay} (C : Cx x cXI_ntz 2 (some .int) RXI Λ rm_XI_ntz) (N : Nat) (μ : Mem) (v0 : Int32) (v1 : Int32) {r : Int32} (hm : jn_XI_ntz_74 N Λ μ v0 v1 = some r) : J x 2 Λ (QI x Λ r μ) 74 [(0, .int v0), (1, .int v1)] [] μ := by
  refine j_iload_n C 1 dXI_ntz_74 rfl ?_
  refine j_iload_n C 0 dXI_ntz_75 rfl ?_
  refine j_iconst C (v := 1) dXI_ntz_76 rfl ?_
  refine j_iushr C dXI_ntz_77 ?_
  refine j_iadd C dXI_ntz_78 ?_
  obtain rfl := Option.some.inj hm
  exact j_ireti C dXI_ntz_79
set_option maxRecDepth 20000 in
set_option maxHeartbeats 4000000 in
theorem tj_XI_ntz_62 {x : Ctx} {Λ : Lay} (C : Cx x cXI_ntz 2 (some .int) RXI Λ rm_XI_ntz) (N : Nat) (μ : Mem) (v0 : Int32) (v1 : Int32) {r : Int32} (hm : jn_XI_ntz_62 N Λ μ v0 v1 = some r) : J x 2 Λ (QI x Λ r μ) 62 [(0, .int v0), (1, .int v1)] [] μ := by
  refine j_iload_n C 0 dXI_ntz_62 rfl ?_
  refine j_iconst C (v := 4) dXI_ntz_63 rfl ?_
  refine j_icmp_le C (tgt := 74) dXI_ntz_64 (by decide) (fun h1 => ?_) (fun h1 => ?_)
  · replace hm := if_t hm h1
    exact tj_XI_ntz_74 C _ _ _ _  hm
  · replace hm := if_f hm h1
    obtain ⟨y2, e3, hm⟩ := lt_some hm
    refine j_iinc C 1 (v := y2) (lv' := [(1, .int y2), (0, .int v0)]) dXI_ntz_67 rfl (by rw [e3]; rfl) (by decide) rfl ?_
    refine j_iload_n C 1 dXI_ntz_70 rfl ?_
    refine j_iconst C (v := 2) dXI_ntz_71 rfl ?_
    refine j_iushr C dXI_ntz_72 ?_
    obtain ⟨y4, e5, hm⟩ := lt_some hm
    refine j_topi e5 ?_
    refine j_istore_n C (lv' := [(0, .int y4), (1, .int y2)]) dXI_ntz_73 (by decide) rfl ?_
    exact tj_XI_ntz_74 C _ _ _ _  hm
set_option maxRecDepth 20000 in
set_option maxHeartbeats 4000000 in
theorem tj_XI_ntz_49 {x : Ctx} {Λ : Lay} (C : Cx x cXI_ntz 2 (some .int) RXI Λ rm_XI_ntz) (N : Nat) (μ : Mem) (v0 : Int32) (v1 : Int32) {r : Int32} (hm : jn_XI_ntz_49 N Λ μ v0 v1 = some r) : J x 2 Λ (QI x Λ r μ) 49 [(0, .int v0), (1, .int v1)] [] μ := by
  refine j_iload_n C 0 dXI_ntz_49 rfl ?_
  refine j_bipush C (v := 16) dXI_ntz_50 rfl ?_
  refine j_icmp_le C (tgt := 62) dXI_ntz_52 (by decide) (fun h1 => ?_) (fun h1 => ?_)
  · replace hm := if_t hm h1
    exact tj_XI_ntz_62 C _ _ _ _  hm
  · replace hm := if_f hm h1
    obtain ⟨y2, e3, hm⟩ := lt_some hm
    refine j_iinc C 1 (v := y2) (lv' := [(1, .int y2), (0, .int v0)]) dXI_ntz_55 rfl (by rw [e3]; rfl) (by decide) rfl ?_
    refine j_iload_n C 1 dXI_ntz_58 rfl ?_
    refine j_iconst C (v := 4) dXI_ntz_59 rfl ?_
    refine j_iushr C dXI_ntz_60 ?_
    obtain ⟨y4, e5, hm⟩ := lt_some hm
    refine j_topi e5 ?_
    refine j_istore_n C (lv' := [(0, .int y4), (1, .int y2)]) dXI_ntz_61 (by decide) rfl ?_
    exact tj_XI_ntz_62 C _ _ _ _  hm
set_option maxRecDepth 20000 in
set_option maxHeartbeats 4000000 in
theorem tj_XI_ntz_34 {x : Ctx} {Λ : Lay} (C : Cx x cXI_ntz 2 (some .int) RXI Λ rm_XI_ntz) (N : Nat) (μ : Mem) (v0 : Int32) (v1 : Int32) {r : Int32} (hm : jn_XI_ntz_34 N Λ μ v0 v1 = some r) : J x 2 Λ (QI x Λ r μ) 34 [(0, .int v0), (1, .int v1)] [] μ := by
  refine j_iload_n C 0 dXI_ntz_34 rfl ?_
  refine j_sipush C (v := 256) dXI_ntz_35 rfl ?_
  refine j_icmp_le C (tgt := 49) dXI_ntz_38 (by decide) (fun h1 => ?_) (fun h1 => ?_)
  · replace hm := if_t hm h1
    exact tj_XI_ntz_49 C _ _ _ _  hm
  · replace hm := if_f hm h1
    obtain ⟨y2, e3, hm⟩ := lt_some hm
    refine j_iinc C 1 (v := y2) (lv' := [(1, .int y2), (0, .int v0)]) dXI_ntz_41 rfl (by rw [e3]; rfl) (by decide) rfl ?_
    refine j_iload_n C 1 dXI_ntz_44 rfl ?_
    refine j_bipush C (v := 8) dXI_ntz_45 rfl ?_
    refine j_iushr C dXI_ntz_47 ?_
    obtain ⟨y4, e5, hm⟩ := lt_some hm
    refine j_topi e5 ?_
    refine j_istore_n C (lv' := [(0, .int y4), (1, .int y2)]) dXI_ntz_48 (by decide) rfl ?_
    exact tj_XI_ntz_49 C _ _ _ _  hm
set_option maxRecDepth 20000 in
set_option maxHeartbeats 4000000 in
theorem tm_XI_ntz {x : Ctx} {Λ : Lay} (C : Cx x cXI_ntz 2 (some .int) RXI Λ rm_XI_ntz) (N : Nat) (μ : Mem) (v0 : Int32) {r : Int32} (hm : m_XI_ntz N Λ μ v0 = some r) : J x 2 Λ (QI x Λ r μ) 0 [(0, .int v0)] [] μ := by
  refine j_iload_n C 0 dXI_ntz_0 rfl ?_
  refine j_iconst C (v := -1) dXI_ntz_1 rfl ?_
  refine j_ixor C dXI_ntz_2 ?_
  refine j_iload_n C 0 dXI_ntz_3 rfl ?_
  refine j_iconst C (v := 1) dXI_ntz_4 rfl ?_
  refine j_isub C dXI_ntz_5 ?_
  refine j_iand C dXI_ntz_6 ?_
  obtain ⟨y1, e2, hm⟩ := lt_some hm
  refine j_topi e2 ?_
  refine j_istore_n C (lv' := [(0, .int y1)]) dXI_ntz_7 (by decide) rfl ?_
  refine j_iload_n C 0 dXI_ntz_8 rfl ?_
  refine j_if_gt C (tgt := 17) dXI_ntz_9 (by decide) (fun h3 => ?_) (fun h3 => ?_)
  · replace hm := if_t hm h3
    refine j_iconst C (v := 1) dXI_ntz_17 rfl ?_
    refine j_istore_n C (lv' := [(1, .int 1), (0, .int y1)]) dXI_ntz_18 (by decide) rfl ?_
    refine j_iload_n C 1 dXI_ntz_19 rfl ?_
    refine j_ldcw C (v := 65536) wk_1425 dXI_ntz_20 ?_
    refine j_icmp_le C (tgt := 34) dXI_ntz_23 (by decide) (fun h4 => ?_) (fun h4 => ?_)
    · replace hm := if_t hm h4
      refine j_sub [1, 0] rfl ?_
      exact tj_XI_ntz_34 C _ _ _ _  hm
    · replace hm := if_f hm h4
      obtain ⟨y5, e6, hm⟩ := lt_some hm
      refine j_iinc C 0 (v := y5) (lv' := [(1, .int y5), (0, .int y1)]) dXI_ntz_26 rfl (by rw [e6]; rfl) (by decide) rfl ?_
      refine j_iload_n C 1 dXI_ntz_29 rfl ?_
      refine j_bipush C (v := 16) dXI_ntz_30 rfl ?_
      refine j_iushr C dXI_ntz_32 ?_
      obtain ⟨y7, e8, hm⟩ := lt_some hm
      refine j_topi e8 ?_
      refine j_istore_n C (lv' := [(0, .int y7), (1, .int y5)]) dXI_ntz_33 (by decide) rfl ?_
      exact tj_XI_ntz_34 C _ _ _ _  hm
  · replace hm := if_f hm h3
    refine j_iload_n C 0 dXI_ntz_12 rfl ?_
    refine j_bipush C (v := 32) dXI_ntz_13 rfl ?_
    refine j_iand C dXI_ntz_15 ?_
    obtain rfl := Option.some.inj hm
    exact j_ireti C dXI_ntz_16
set_option maxRecDepth 20000 in
set_option maxHeartbeats 4000000 in
theorem mc_XI_ntz (l : Launch) (N : Nat) (Λ : Lay) (μ : Mem) (v0 : Int32) {r : Int32} (hm : m_XI_ntz N Λ μ v0 = some r) : MI l yXI_ntz cXI_ntz 2 (some .int) rm_XI_ntz Λ [.int v0] μ r μ := mi_of rfl (Nat.le_of_ble_eq_true rfl) (fun x C _ => tm_XI_ntz C _ _ _  hm)
abbrev rm_XG_ntz : Room := { frames := 1, cells := 0, slots := 0, locals := 21 }
set_option maxRecDepth 20000 in
set_option maxHeartbeats 4000000 in
theorem tj_XG_ntz_25 {x : Ctx} {Λ : Lay} (C : Cx x cXG_ntz 3 (some .int) RXG Λ rm_XG_ntz) (N : Nat) (μ : Mem) (s0 : Int32) {r : Int32} (hm : jn_XG_ntz_25 N Λ μ s0 = some r) : J x 3 Λ (QI x Λ r μ) 25 [] [.int s0] μ := by
  obtain rfl := Option.some.inj hm
  exact j_ireti C dXG_ntz_25
set_option maxRecDepth 20000 in
set_option maxHeartbeats 4000000 in
theorem tm_XG_ntz {x : Ctx} {Λ : Lay} (C : Cx x cXG_ntz 3 (some .int) RXG Λ rm_XG_ntz) (N : Nat) (μ : Mem) (v0 : Int64) {r : Int32} (hm : m_XG_ntz N Λ μ v0 = some r) : J x 3 Λ (QI x Λ r μ) 0 [(0, .long v0)] [] μ := by
  refine j_lload_n C 0 dXG_ntz_0 rfl ?_
  refine j_l2i C dXG_ntz_1 ?_
  obtain ⟨y1, e2, hm⟩ := lt_some hm
  refine j_topi e2 ?_
  refine j_istore_n C (lv' := [(2, .int y1), (0, .long v0)]) dXG_ntz_2 (by decide) rfl ?_
  refine j_iload_n C 0 dXG_ntz_3 rfl ?_
  refine j_if_ne C (tgt := 21) dXG_ntz_4 (by decide) (fun h3 => ?_) (fun h3 => ?_)
  · replace hm := if_f hm h3
    refine j_iload_n C 0 dXG_ntz_21 rfl ?_
    obtain ⟨r4, h5, hm⟩ := bd_some hm
    refine call_I (run_LS C ls_XG_311 ⟨rfl, rfl, Nat.le_of_ble_eq_true rfl, Nat.le_of_ble_eq_true rfl⟩ (As := [.int y1]) rfl rfl (Nat.le_of_ble_eq_true rfl) dXG_ntz_22 (mc_XI_ntz _ _ _ _ _  h5)) ?_
    refine j_sub [] rfl ?_
    exact tj_XG_ntz_25 C _ _ _  hm
  · replace hm := if_t hm h3
    refine j_bipush C (v := 32) dXG_ntz_7 rfl ?_
    refine j_lload_n C 1 dXG_ntz_9 rfl ?_
    refine j_bipush C (v := 32) dXG_ntz_10 rfl ?_
    refine j_lushr C dXG_ntz_12 ?_
    refine j_l2i C dXG_ntz_13 ?_
    obtain ⟨r6, h7, hm⟩ := bd_some hm
    refine call_I (run_LS C ls_XG_311 ⟨rfl, rfl, Nat.le_of_ble_eq_true rfl, Nat.le_of_ble_eq_true rfl⟩ (As := [.int (Int64.toInt32 ((v0.toUInt64 >>> ((Int32.toInt64 32).toUInt64 &&& Int64.toUInt64 63)).toInt64))]) rfl rfl (Nat.le_of_ble_eq_true rfl) dXG_ntz_14 (mc_XI_ntz _ _ _ _ _  h7)) ?_
    refine j_iadd C dXG_ntz_17 ?_
    refine j_goto C (tgt := 25) dXG_ntz_18 (by decide) ?_
    refine j_sub [] rfl ?_
    exact tj_XG_ntz_25 C _ _ _  hm
set_option maxRecDepth 20000 in
set_option maxHeartbeats 4000000 in
theorem mc_XG_ntz (l : Launch) (N : Nat) (Λ : Lay) (μ : Mem) (v0 : Int64) {r : Int32} (hm : m_XG_ntz N Λ μ v0 = some r) : MI l yXG_ntz cXG_ntz 3 (some .int) rm_XG_ntz Λ [.long v0] μ r μ := mi_of rfl (Nat.le_of_ble_eq_true rfl) (fun x C _ => tm_XG_ntz C _ _ _  hm)
abbrev rm_X10_sign : Room := { frames := 0, cells := 0, slots := 0, locals := 0 }
set_option maxRecDepth 20000 in
set_option maxHeartbeats 4000000 in
theorem tj_X10_sign_26 {x : Ctx} {Λ : Lay} (C : Cx x cX10_sign 2 (some .int) RX10 Λ rm_X10_sign) (N : Nat) (μ : Mem) (s0 : Int32) {r : Int32} (hm : jn_X10_sign_26 N Λ μ s0 = some r) : J x 2 Λ (QI x Λ r μ) 26 [] [.int s0] μ := by
  obtain rfl := Option.some.inj hm
  exact j_ireti C dX10_sign_26
set_option maxRecDepth 20000 in
set_option maxHeartbeats 4000000 in
theorem tj_X10_sign_25 {x : Ctx} {Λ : Lay} (C : Cx x cX10_sign 2 (some .int) RX10 Λ rm_X10_sign) (N : Nat) (μ : Mem) {r : Int32} (hm : jn_X10_sign_25 N Λ μ = some r) : J x 2 Λ (QI x Λ r μ) 25 [] [] μ := by
  refine j_iconst C (v := -1) dX10_sign_25 rfl ?_
  exact tj_X10_sign_26 C _ _ _  hm
set_option maxRecDepth 20000 in
set_option maxHeartbeats 4000000 in
theorem tm_X10_sign {x : Ctx} {Λ : Lay} (C : Cx x cX10_sign 2 (some .int) RX10 Λ rm_X10_sign) (N : Nat) (μ : Mem) (v0 : Nat) (v1 : Int32) (hv0 : inL Λ v0 9) {r : Int32} (hm : m_X10_sign N Λ μ v0 v1 = some r) : J x 2 Λ (QI x Λ r μ) 0 [(0, .ref v0), (1, .int v1)] [] μ := by
  refine j_iload_n C 1 dX10_sign_0 rfl ?_
  refine j_if_lt C (tgt := 25) dX10_sign_1 (by decide) (fun h1 => ?_) (fun h1 => ?_)
  · replace hm := if_t hm h1
    refine j_sub [] rfl ?_
    exact tj_X10_sign_25 C _ _  hm
  · replace hm := if_f hm h1
    refine j_iload_n C 1 dX10_sign_4 rfl ?_
    refine j_aload_n C 0 dX10_sign_5 rfl ?_
    refine j_getI C fg_X10_15_9 hv0 dX10_sign_6 ?_
    refine j_icmp_ge C (tgt := 25) dX10_sign_9 (by decide) (fun h2 => ?_) (fun h2 => ?_)
    · replace hm := if_t hm h2
      refine j_sub [] rfl ?_
      exact tj_X10_sign_25 C _ _  hm
    · replace hm := if_f hm h2
      refine j_aload_n C 0 dX10_sign_12 rfl ?_
      obtain ⟨q3, h4, hm⟩ := bd_some hm
      refine j_getR C fg_X10_9_9 hv0 (dr_spec h4).1 dX10_sign_13 ?_
      refine j_iload_n C 1 dX10_sign_16 rfl ?_
      obtain ⟨h5, hm⟩ := gd_some hm
      refine j_bald C ((dr_spec h4).2) h5 dX10_sign_17 ?_
      refine j_sipush C (v := 255) dX10_sign_18 rfl ?_
      refine j_iand C dX10_sign_21 ?_
      refine j_goto C (tgt := 26) dX10_sign_22 (by decide) ?_
      refine j_sub [] rfl ?_
      exact tj_X10_sign_26 C _ _ _  hm
set_option maxRecDepth 20000 in
set_option maxHeartbeats 4000000 in
theorem mc_X10_sign (l : Launch) (N : Nat) (Λ : Lay) (μ : Mem) (v0 : Nat) (v1 : Int32) (hv0 : inL Λ v0 9) {r : Int32} (hm : m_X10_sign N Λ μ v0 v1 = some r) : MI l yX10_sign cX10_sign 2 (some .int) rm_X10_sign Λ [.ref v0, .int v1] μ r μ := mi_of rfl (Nat.le_of_ble_eq_true rfl) (fun x C _ => tm_X10_sign C _ _ _ _ hv0 hm)
abbrev rm_X11_placeBits : Room := { frames := 0, cells := 0, slots := 0, locals := 0 }
set_option maxRecDepth 20000 in
set_option maxHeartbeats 4000000 in
theorem tm_X11_placeBits {x : Ctx} {Λ : Lay} (C : Cx x cX11_placeBits 2 (some .int) RX11 Λ rm_X11_placeBits) (N : Nat) (μ : Mem) (v0 : Int32) (v1 : Int32) {r : Int32} (hm : m_X11_placeBits N Λ μ v0 v1 = some r) : J x 2 Λ (QI x Λ r μ) 0 [(0, .int v0), (1, .int v1)] [] μ := by
  refine j_iconst C (v := 1) dX11_placeBits_0 rfl ?_
  refine j_iload_n C 1 dX11_placeBits_1 rfl ?_
  refine j_ishl C dX11_placeBits_2 ?_
  refine j_iconst C (v := 1) dX11_placeBits_3 rfl ?_
  refine j_isub C dX11_placeBits_4 ?_
  refine j_iload_n C 0 dX11_placeBits_5 rfl ?_
  refine j_ishl C dX11_placeBits_6 ?_
  obtain rfl := Option.some.inj hm
  exact j_ireti C dX11_placeBits_7
set_option maxRecDepth 20000 in
set_option maxHeartbeats 4000000 in
theorem mc_X11_placeBits (l : Launch) (N : Nat) (Λ : Lay) (μ : Mem) (v0 : Int32) (v1 : Int32) {r : Int32} (hm : m_X11_placeBits N Λ μ v0 v1 = some r) : MI l yX11_placeBits cX11_placeBits 2 (some .int) rm_X11_placeBits Λ [.int v0, .int v1] μ r μ := mi_of rfl (Nat.le_of_ble_eq_true rfl) (fun x C _ => tm_X11_placeBits C _ _ _ _  hm)
abbrev rm_X11_isRoom : Room := { frames := 1, cells := 0, slots := 0, locals := 21 }
set_option maxRecDepth 20000 in
set_option maxHeartbeats 4000000 in
theorem tj_X11_isRoom_23 {x : Ctx} {Λ : Lay} (C : Cx x cX11_isRoom 3 (some .boolean) RX11 Λ rm_X11_isRoom) (N : Nat) (μ : Mem) (s0 : Int32) {r : Int32} (hm : jn_X11_isRoom_23 N Λ μ s0 = some r) : J x 3 Λ (QI x Λ r μ) 23 [] [.int s0] μ := by
  obtain ⟨h1, hm⟩ := gd_some hm
  obtain rfl := Option.some.inj hm
  exact j_iretz C h1 dX11_isRoom_23
set_option maxRecDepth 20000 in
set_option maxHeartbeats 4000000 in
theorem tj_X11_isRoom_22 {x : Ctx} {Λ : Lay} (C : Cx x cX11_isRoom 3 (some .boolean) RX11 Λ rm_X11_isRoom) (N : Nat) (μ : Mem) {r : Int32} (hm : jn_X11_isRoom_22 N Λ μ = some r) : J x 3 Λ (QI x Λ r μ) 22 [] [] μ := by
  refine j_iconst C (v := 0) dX11_isRoom_22 rfl ?_
  exact tj_X11_isRoom_23 C _ _ _  hm
set_option maxRecDepth 20000 in
set_option maxHeartbeats 4000000 in
theorem tm_X11_isRoom {x : Ctx} {Λ : Lay} (C : Cx x cX11_isRoom 3 (some .boolean) RX11 Λ rm_X11_isRoom) (N : Nat) (μ : Mem) (v0 : Int32) (v1 : Int32) (v2 : Int32) {r : Int32} (hm : m_X11_isRoom N Λ μ v0 v1 v2 = some r) : J x 3 Λ (QI x Λ r μ) 0 [(0, .int v0), (1, .int v1), (2, .int v2)] [] μ := by
  refine j_iload_n C 1 dX11_isRoom_0 rfl ?_
  refine j_iload_n C 2 dX11_isRoom_1 rfl ?_
  refine j_iadd C dX11_isRoom_2 ?_
  refine j_bipush C (v := 24) dX11_isRoom_3 rfl ?_
  refine j_icmp_gt C (tgt := 22) dX11_isRoom_5 (by decide) (fun h1 => ?_) (fun h1 => ?_)
  · replace hm := if_t hm h1
    refine j_sub [] rfl ?_
    exact tj_X11_isRoom_22 C _ _  hm
  · replace hm := if_f hm h1
    refine j_iload_n C 0 dX11_isRoom_8 rfl ?_
    refine j_iload_n C 1 dX11_isRoom_9 rfl ?_
    refine j_iload_n C 2 dX11_isRoom_10 rfl ?_
    obtain ⟨r2, h3, hm⟩ := bd_some hm
    refine call_I (run_LS C ls_X11_444 ⟨rfl, rfl, Nat.le_of_ble_eq_true rfl, Nat.le_of_ble_eq_true rfl⟩ (As := [.int v1, .int v2]) rfl rfl (Nat.le_of_ble_eq_true rfl) dX11_isRoom_11 (mc_X11_placeBits _ _ _ _ _ _  h3)) ?_
    refine j_iand C dX11_isRoom_14 ?_
    refine j_if_ne C (tgt := 22) dX11_isRoom_15 (by decide) (fun h4 => ?_) (fun h4 => ?_)
    · replace hm := if_f hm h4
      refine j_sub [] rfl ?_
      exact tj_X11_isRoom_22 C _ _  hm
    · replace hm := if_t hm h4
      refine j_iconst C (v := 1) dX11_isRoom_18 rfl ?_
      refine j_goto C (tgt := 23) dX11_isRoom_19 (by decide) ?_
      refine j_sub [] rfl ?_
      exact tj_X11_isRoom_23 C _ _ _  hm
set_option maxRecDepth 20000 in
set_option maxHeartbeats 4000000 in
theorem mc_X11_isRoom (l : Launch) (N : Nat) (Λ : Lay) (μ : Mem) (v0 : Int32) (v1 : Int32) (v2 : Int32) {r : Int32} (hm : m_X11_isRoom N Λ μ v0 v1 v2 = some r) : MI l yX11_isRoom cX11_isRoom 3 (some .boolean) rm_X11_isRoom Λ [.int v0, .int v1, .int v2] μ r μ := mi_of rfl (Nat.le_of_ble_eq_true rfl) (fun x C _ => tm_X11_isRoom C _ _ _ _ _  hm)
abbrev rm_X2_copy : Room := { frames := 1, cells := 0, slots := 0, locals := 60 }
set_option maxRecDepth 20000 in
set_option maxHeartbeats 4000000 in
theorem tm_X2_copy {x : Ctx} {Λ : Lay} (C : Cx x cX2_copy 2 none RX2 Λ rm_X2_copy) (N : Nat) (μ : Mem) (v0 : Nat) (v1 : Nat) (hv0 : inL Λ v0 2) (hv1 : inL Λ v1 2) {r : Mem} (hm : m_X2_copy N Λ μ v0 v1 = some r) : J x 2 Λ (QV x Λ r) 0 [(0, .ref v0), (1, .ref v1)] [] μ := by
  refine j_aload_n C 0 dX2_copy_0 rfl ?_
  refine j_aload_n C 1 dX2_copy_1 rfl ?_
  refine j_getI C fg_X2_9_2 hv1 dX2_copy_2 ?_
  obtain ⟨μ1, e2, hm⟩ := lt_some hm
  refine j_putI C fp_X2_9_2 hv0 e2 dX2_copy_5 ?_
  refine j_aload_n C 0 dX2_copy_8 rfl ?_
  refine j_aload_n C 1 dX2_copy_9 rfl ?_
  refine j_getI C fg_X2_31_2 hv1 dX2_copy_10 ?_
  obtain ⟨μ3, e4, hm⟩ := lt_some hm
  refine j_putI C fp_X2_31_2 hv0 e4 dX2_copy_13 ?_
  refine j_aload_n C 1 dX2_copy_16 rfl ?_
  obtain ⟨q5, h6, hm⟩ := bd_some hm
  refine j_getR C fg_X2_15_2 hv1 (dr_spec h6).1 dX2_copy_17 ?_
  refine j_iconst C (v := 0) dX2_copy_20 rfl ?_
  refine j_aload_n C 0 dX2_copy_21 rfl ?_
  obtain ⟨q7, h8, hm⟩ := bd_some hm
  refine j_getR C fg_X2_15_2 hv0 (dr_spec h8).1 dX2_copy_22 ?_
  refine j_iconst C (v := 0) dX2_copy_25 rfl ?_
  refine j_bipush C (v := 12) dX2_copy_26 rfl ?_
  obtain ⟨h9, hm⟩ := gd_some hm
  obtain ⟨μ10, e11, hm⟩ := lt_some hm
  refine j_acopy C wk_713 ⟨Nat.le_of_ble_eq_true rfl, Nat.le_of_ble_eq_true rfl⟩ ((dr_spec h6).2) ((dr_spec h8).2) h9 e11 dX2_copy_28 ?_
  refine j_aload_n C 1 dX2_copy_31 rfl ?_
  obtain ⟨q12, h13, hm⟩ := bd_some hm
  refine j_getR C fg_X2_19_2 hv1 (dr_spec h13).1 dX2_copy_32 ?_
  refine j_iconst C (v := 0) dX2_copy_35 rfl ?_
  refine j_aload_n C 0 dX2_copy_36 rfl ?_
  obtain ⟨q14, h15, hm⟩ := bd_some hm
  refine j_getR C fg_X2_19_2 hv0 (dr_spec h15).1 dX2_copy_37 ?_
  refine j_iconst C (v := 0) dX2_copy_40 rfl ?_
  refine j_bipush C (v := 12) dX2_copy_41 rfl ?_
  obtain ⟨h16, hm⟩ := gd_some hm
  obtain ⟨μ17, e18, hm⟩ := lt_some hm
  refine j_acopy C wk_713 ⟨Nat.le_of_ble_eq_true rfl, Nat.le_of_ble_eq_true rfl⟩ ((dr_spec h13).2) ((dr_spec h15).2) h16 e18 dX2_copy_43 ?_
  refine j_aload_n C 1 dX2_copy_46 rfl ?_
  obtain ⟨q19, h20, hm⟩ := bd_some hm
  refine j_getR C fg_X2_22_2 hv1 (dr_spec h20).1 dX2_copy_47 ?_
  refine j_iconst C (v := 0) dX2_copy_50 rfl ?_
  refine j_aload_n C 0 dX2_copy_51 rfl ?_
  obtain ⟨q21, h22, hm⟩ := bd_some hm
  refine j_getR C fg_X2_22_2 hv0 (dr_spec h22).1 dX2_copy_52 ?_
  refine j_iconst C (v := 0) dX2_copy_55 rfl ?_
  refine j_bipush C (v := 12) dX2_copy_56 rfl ?_
  obtain ⟨h23, hm⟩ := gd_some hm
  obtain ⟨μ24, e25, hm⟩ := lt_some hm
  refine j_acopy C wk_713 ⟨Nat.le_of_ble_eq_true rfl, Nat.le_of_ble_eq_true rfl⟩ ((dr_spec h20).2) ((dr_spec h22).2) h23 e25 dX2_copy_58 ?_
  refine j_aload_n C 1 dX2_copy_61 rfl ?_
  obtain ⟨q26, h27, hm⟩ := bd_some hm
  refine j_getR C fg_X2_25_2 hv1 (dr_spec h27).1 dX2_copy_62 ?_
  refine j_iconst C (v := 0) dX2_copy_65 rfl ?_
  refine j_aload_n C 0 dX2_copy_66 rfl ?_
  obtain ⟨q28, h29, hm⟩ := bd_some hm
  refine j_getR C fg_X2_25_2 hv0 (dr_spec h29).1 dX2_copy_67 ?_
  refine j_iconst C (v := 0) dX2_copy_70 rfl ?_
  refine j_sipush C (v := 400) dX2_copy_71 rfl ?_
  obtain ⟨h30, hm⟩ := gd_some hm
  obtain ⟨μ31, e32, hm⟩ := lt_some hm
  refine j_acopy C wk_713 ⟨Nat.le_of_ble_eq_true rfl, Nat.le_of_ble_eq_true rfl⟩ ((dr_spec h27).2) ((dr_spec h29).2) h30 e32 dX2_copy_74 ?_
  obtain rfl := Option.some.inj hm
  exact j_vret C dX2_copy_77
set_option maxRecDepth 20000 in
set_option maxHeartbeats 4000000 in
theorem mc_X2_copy (l : Launch) (N : Nat) (Λ : Lay) (μ : Mem) (v0 : Nat) (v1 : Nat) (hv0 : inL Λ v0 2) (hv1 : inL Λ v1 2) {r : Mem} (hm : m_X2_copy N Λ μ v0 v1 = some r) : MV l yX2_copy cX2_copy 2 rm_X2_copy Λ [.ref v0, .ref v1] μ r := mv_of rfl (Nat.le_of_ble_eq_true rfl) (fun x C _ => tm_X2_copy C _ _ _ _ hv0 hv1 hm)
abbrev rm_X2_clear : Room := { frames := 0, cells := 0, slots := 0, locals := 0 }
set_option maxRecDepth 20000 in
set_option maxHeartbeats 4000000 in
theorem tm_X2_clear {x : Ctx} {Λ : Lay} (C : Cx x cX2_clear 1 none RX2 Λ rm_X2_clear) (N : Nat) (μ : Mem) (v0 : Nat) (hv0 : inL Λ v0 2) {r : Mem} (hm : m_X2_clear N Λ μ v0 = some r) : J x 1 Λ (QV x Λ r) 0 [(0, .ref v0)] [] μ := by
  refine j_aload_n C 0 dX2_clear_0 rfl ?_
  refine j_iconst C (v := 0) dX2_clear_1 rfl ?_
  obtain ⟨μ1, e2, hm⟩ := lt_some hm
  refine j_putI C fp_X2_9_2 hv0 e2 dX2_clear_2 ?_
  refine j_aload_n C 0 dX2_clear_5 rfl ?_
  refine j_iconst C (v := 0) dX2_clear_6 rfl ?_
  obtain ⟨μ3, e4, hm⟩ := lt_some hm
  refine j_putI C fp_X2_31_2 hv0 e4 dX2_clear_7 ?_
  obtain rfl := Option.some.inj hm
  exact j_vret C dX2_clear_10
set_option maxRecDepth 20000 in
set_option maxHeartbeats 4000000 in
theorem mc_X2_clear (l : Launch) (N : Nat) (Λ : Lay) (μ : Mem) (v0 : Nat) (hv0 : inL Λ v0 2) {r : Mem} (hm : m_X2_clear N Λ μ v0 = some r) : MV l yX2_clear cX2_clear 1 rm_X2_clear Λ [.ref v0] μ r := mv_of rfl (Nat.le_of_ble_eq_true rfl) (fun x C _ => tm_X2_clear C _ _ _ hv0 hm)
abbrev rm_X2_beginLine : Room := { frames := 0, cells := 0, slots := 0, locals := 0 }
set_option maxRecDepth 20000 in
set_option maxHeartbeats 4000000 in
theorem tj_X2_beginLine_29 {x : Ctx} {Λ : Lay} (C : Cx x cX2_beginLine 3 none RX2 Λ rm_X2_beginLine) (N : Nat) (μ : Mem) {r : Mem} (hm : jn_X2_beginLine_29 N Λ μ = some r) : J x 3 Λ (QV x Λ r) 29 [] [] μ := by
  obtain rfl := Option.some.inj hm
  exact j_vret C dX2_beginLine_29
set_option maxRecDepth 20000 in
set_option maxHeartbeats 4000000 in
theorem tm_X2_beginLine {x : Ctx} {Λ : Lay} (C : Cx x cX2_beginLine 3 none RX2 Λ rm_X2_beginLine) (N : Nat) (μ : Mem) (v0 : Nat) (v1 : Int32) (v2 : Int32) (hv0 : inL Λ v0 2) {r : Mem} (hm : m_X2_beginLine N Λ μ v0 v1 v2 = some r) : J x 3 Λ (QV x Λ r) 0 [(0, .ref v0), (1, .int v1), (2, .int v2)] [] μ := by
  refine j_aload_n C 0 dX2_beginLine_0 rfl ?_
  refine j_getI C fg_X2_9_2 hv0 dX2_beginLine_1 ?_
  refine j_bipush C (v := 12) dX2_beginLine_4 rfl ?_
  refine j_icmp_ge C (tgt := 29) dX2_beginLine_6 (by decide) (fun h1 => ?_) (fun h1 => ?_)
  · replace hm := if_t hm h1
    refine j_sub [] rfl ?_
    exact tj_X2_beginLine_29 C _ _  hm
  · replace hm := if_f hm h1
    refine j_aload_n C 0 dX2_beginLine_9 rfl ?_
    obtain ⟨q2, h3, hm⟩ := bd_some hm
    refine j_getR C fg_X2_15_2 hv0 (dr_spec h3).1 dX2_beginLine_10 ?_
    refine j_aload_n C 0 dX2_beginLine_13 rfl ?_
    refine j_getI C fg_X2_9_2 hv0 dX2_beginLine_14 ?_
    refine j_iload_n C 1 dX2_beginLine_17 rfl ?_
    obtain ⟨h4, hm⟩ := gd_some hm
    obtain ⟨μ5, e6, hm⟩ := lt_some hm
    refine j_iast C ((dr_spec h3).2) h4 e6 dX2_beginLine_18 ?_
    refine j_aload_n C 0 dX2_beginLine_19 rfl ?_
    obtain ⟨q7, h8, hm⟩ := bd_some hm
    refine j_getR C fg_X2_19_2 hv0 (dr_spec h8).1 dX2_beginLine_20 ?_
    refine j_aload_n C 0 dX2_beginLine_23 rfl ?_
    refine j_getI C fg_X2_9_2 hv0 dX2_beginLine_24 ?_
    refine j_iload_n C 2 dX2_beginLine_27 rfl ?_
    obtain ⟨h9, hm⟩ := gd_some hm
    obtain ⟨μ10, e11, hm⟩ := lt_some hm
    refine j_iast C ((dr_spec h8).2) h9 e11 dX2_beginLine_28 ?_
    refine j_sub [] rfl ?_
    exact tj_X2_beginLine_29 C _ _  hm
set_option maxRecDepth 20000 in
set_option maxHeartbeats 4000000 in
theorem mc_X2_beginLine (l : Launch) (N : Nat) (Λ : Lay) (μ : Mem) (v0 : Nat) (v1 : Int32) (v2 : Int32) (hv0 : inL Λ v0 2) {r : Mem} (hm : m_X2_beginLine N Λ μ v0 v1 v2 = some r) : MV l yX2_beginLine cX2_beginLine 3 rm_X2_beginLine Λ [.ref v0, .int v1, .int v2] μ r := mv_of rfl (Nat.le_of_ble_eq_true rfl) (fun x C _ => tm_X2_beginLine C _ _ _ _ _ hv0 hm)
abbrev rm_X2_endLine : Room := { frames := 0, cells := 0, slots := 0, locals := 0 }
set_option maxRecDepth 20000 in
set_option maxHeartbeats 4000000 in
theorem tj_X2_endLine_32 {x : Ctx} {Λ : Lay} (C : Cx x cX2_endLine 1 none RX2 Λ rm_X2_endLine) (N : Nat) (μ : Mem) {r : Mem} (hm : jn_X2_endLine_32 N Λ μ = some r) : J x 1 Λ (QV x Λ r) 32 [] [] μ := by
  obtain rfl := Option.some.inj hm
  exact j_vret C dX2_endLine_32
set_option maxRecDepth 20000 in
set_option maxHeartbeats 4000000 in
theorem tm_X2_endLine {x : Ctx} {Λ : Lay} (C : Cx x cX2_endLine 1 none RX2 Λ rm_X2_endLine) (N : Nat) (μ : Mem) (v0 : Nat) (hv0 : inL Λ v0 2) {r : Mem} (hm : m_X2_endLine N Λ μ v0 = some r) : J x 1 Λ (QV x Λ r) 0 [(0, .ref v0)] [] μ := by
  refine j_aload_n C 0 dX2_endLine_0 rfl ?_
  refine j_getI C fg_X2_9_2 hv0 dX2_endLine_1 ?_
  refine j_bipush C (v := 12) dX2_endLine_4 rfl ?_
  refine j_icmp_ge C (tgt := 32) dX2_endLine_6 (by decide) (fun h1 => ?_) (fun h1 => ?_)
  · replace hm := if_t hm h1
    refine j_sub [] rfl ?_
    exact tj_X2_endLine_32 C _ _  hm
  · replace hm := if_f hm h1
    refine j_aload_n C 0 dX2_endLine_9 rfl ?_
    obtain ⟨q2, h3, hm⟩ := bd_some hm
    refine j_getR C fg_X2_22_2 hv0 (dr_spec h3).1 dX2_endLine_10 ?_
    refine j_aload_n C 0 dX2_endLine_13 rfl ?_
    refine j_getI C fg_X2_9_2 hv0 dX2_endLine_14 ?_
    refine j_aload_n C 0 dX2_endLine_17 rfl ?_
    refine j_getI C fg_X2_31_2 hv0 dX2_endLine_18 ?_
    obtain ⟨h4, hm⟩ := gd_some hm
    obtain ⟨μ5, e6, hm⟩ := lt_some hm
    refine j_iast C ((dr_spec h3).2) h4 e6 dX2_endLine_21 ?_
    refine j_aload_n C 0 dX2_endLine_22 rfl ?_
    refine j_dup C dX2_endLine_23 rfl ?_
    refine j_getI C fg_X2_9_2 hv0 dX2_endLine_24 ?_
    refine j_iconst C (v := 1) dX2_endLine_27 rfl ?_
    refine j_iadd C dX2_endLine_28 ?_
    obtain ⟨μ7, e8, hm⟩ := lt_some hm
    refine j_putI C fp_X2_9_2 hv0 e8 dX2_endLine_29 ?_
    refine j_sub [] rfl ?_
    exact tj_X2_endLine_32 C _ _  hm
set_option maxRecDepth 20000 in
set_option maxHeartbeats 4000000 in
theorem mc_X2_endLine (l : Launch) (N : Nat) (Λ : Lay) (μ : Mem) (v0 : Nat) (hv0 : inL Λ v0 2) {r : Mem} (hm : m_X2_endLine N Λ μ v0 = some r) : MV l yX2_endLine cX2_endLine 1 rm_X2_endLine Λ [.ref v0] μ r := mv_of rfl (Nat.le_of_ble_eq_true rfl) (fun x C _ => tm_X2_endLine C _ _ _ hv0 hm)
abbrev rm_X2_add : Room := { frames := 0, cells := 0, slots := 0, locals := 0 }
set_option maxRecDepth 20000 in
set_option maxHeartbeats 4000000 in
theorem tj_X2_add_30 {x : Ctx} {Λ : Lay} (C : Cx x cX2_add 2 (some .boolean) RX2 Λ rm_X2_add) (N : Nat) (μ : Mem) {r : Int32 × Mem} (hm : jn_X2_add_30 N Λ μ = some r) : J x 2 Λ (QI x Λ r.1 r.2) 30 [] [] μ := by
  refine j_iconst C (v := 1) dX2_add_30 rfl ?_
  obtain rfl := Option.some.inj hm
  exact j_iretz C rfl dX2_add_31
set_option maxRecDepth 20000 in
set_option maxHeartbeats 4000000 in
theorem tm_X2_add {x : Ctx} {Λ : Lay} (C : Cx x cX2_add 2 (some .boolean) RX2 Λ rm_X2_add) (N : Nat) (μ : Mem) (v0 : Nat) (v1 : Int32) (hv0 : inL Λ v0 2) {r : Int32 × Mem} (hm : m_X2_add N Λ μ v0 v1 = some r) : J x 2 Λ (QI x Λ r.1 r.2) 0 [(0, .ref v0), (1, .int v1)] [] μ := by
  refine j_aload_n C 0 dX2_add_0 rfl ?_
  refine j_getI C fg_X2_31_2 hv0 dX2_add_1 ?_
  refine j_sipush C (v := 400) dX2_add_4 rfl ?_
  refine j_icmp_ge C (tgt := 30) dX2_add_7 (by decide) (fun h1 => ?_) (fun h1 => ?_)
  · replace hm := if_t hm h1
    refine j_sub [] rfl ?_
    exact tj_X2_add_30 C _ _  hm
  · replace hm := if_f hm h1
    refine j_aload_n C 0 dX2_add_10 rfl ?_
    obtain ⟨q2, h3, hm⟩ := bd_some hm
    refine j_getR C fg_X2_25_2 hv0 (dr_spec h3).1 dX2_add_11 ?_
    refine j_aload_n C 0 dX2_add_14 rfl ?_
    refine j_getI C fg_X2_31_2 hv0 dX2_add_15 ?_
    refine j_iload_n C 1 dX2_add_18 rfl ?_
    obtain ⟨h4, hm⟩ := gd_some hm
    obtain ⟨μ5, e6, hm⟩ := lt_some hm
    refine j_iast C ((dr_spec h3).2) h4 e6 dX2_add_19 ?_
    refine j_aload_n C 0 dX2_add_20 rfl ?_
    refine j_dup C dX2_add_21 rfl ?_
    refine j_getI C fg_X2_31_2 hv0 dX2_add_22 ?_
    refine j_iconst C (v := 1) dX2_add_25 rfl ?_
    refine j_iadd C dX2_add_26 ?_
    obtain ⟨μ7, e8, hm⟩ := lt_some hm
    refine j_putI C fp_X2_31_2 hv0 e8 dX2_add_27 ?_
    refine j_sub [] rfl ?_
    exact tj_X2_add_30 C _ _  hm
set_option maxRecDepth 20000 in
set_option maxHeartbeats 4000000 in
theorem mc_X2_add (l : Launch) (N : Nat) (Λ : Lay) (μ : Mem) (v0 : Nat) (v1 : Int32) (hv0 : inL Λ v0 2) {r : Int32 × Mem} (hm : m_X2_add N Λ μ v0 v1 = some r) : MI l yX2_add cX2_add 2 (some .boolean) rm_X2_add Λ [.ref v0, .int v1] μ r.1 r.2 := mi_of rfl (Nat.le_of_ble_eq_true rfl) (fun x C _ => tm_X2_add C _ _ _ _ hv0 hm)
abbrev rm_X2_joined : Room := { frames := 0, cells := 0, slots := 0, locals := 0 }
set_option maxRecDepth 20000 in
set_option maxHeartbeats 4000000 in
theorem tj_X2_joined_58 {x : Ctx} {Λ : Lay} (C : Cx x cX2_joined 3 (some .int) RX2 Λ rm_X2_joined) (N : Nat) (μ : Mem) (s0 : Int32) {r : Int32} (hm : jn_X2_joined_58 N Λ μ s0 = some r) : J x 3 Λ (QI x Λ r μ) 58 [] [.int s0] μ := by
  obtain rfl := Option.some.inj hm
  exact j_ireti C dX2_joined_58
set_option maxRecDepth 20000 in
set_option maxHeartbeats 4000000 in
theorem tj_X2_joined_69 {x : Ctx} {Λ : Lay} (C : Cx x cX2_joined 3 (some .int) RX2 Λ rm_X2_joined) (N : Nat) (μ : Mem) (s0 : Int32) {r : Int32} (hm : jn_X2_joined_69 N Λ μ s0 = some r) : J x 3 Λ (QI x Λ r μ) 69 [] [.int s0] μ := by
  obtain rfl := Option.some.inj hm
  exact j_ireti C dX2_joined_69
set_option maxRecDepth 20000 in
set_option maxHeartbeats 4000000 in
theorem tm_X2_joined {x : Ctx} {Λ : Lay} (C : Cx x cX2_joined 3 (some .int) RX2 Λ rm_X2_joined) (N : Nat) (μ : Mem) (v0 : Int32) (v1 : Int32) (v2 : Int32) {r : Int32} (hm : m_X2_joined N Λ μ v0 v1 v2 = some r) : J x 3 Λ (QI x Λ r μ) 0 [(0, .int v0), (1, .int v1), (2, .int v2)] [] μ := by
  refine j_iload_n C 0 dX2_joined_0 rfl ?_
  by_cases h1 : v0 = (-16)
  · replace hm := if_t hm h1
    refine j_tabI C (tgt := 59) (-16) dX2_joined_1 (by rw [h1]; first | done | rfl) (by decide) (by decide) rfl (by decide) ?_
    refine j_iload_n C 1 dX2_joined_59 rfl ?_
    refine j_iload_n C 2 dX2_joined_60 rfl ?_
    refine j_icmp_le C (tgt := 68) dX2_joined_61 (by decide) (fun h2 => ?_) (fun h2 => ?_)
    · replace hm := if_t hm h2
      refine j_iconst C (v := 0) dX2_joined_68 rfl ?_
      refine j_sub [] rfl ?_
      exact tj_X2_joined_69 C _ _ _  hm
    · replace hm := if_f hm h2
      refine j_iconst C (v := 1) dX2_joined_64 rfl ?_
      refine j_goto C (tgt := 69) dX2_joined_65 (by decide) ?_
      refine j_sub [] rfl ?_
      exact tj_X2_joined_69 C _ _ _  hm
  replace hm := if_f hm h1
  by_cases h3 : v0 = (-15)
  · replace hm := if_t hm h3
    refine j_tabI C (tgt := 48) (-15) dX2_joined_1 (by rw [h3]; first | done | rfl) (by decide) (by decide) rfl (by decide) ?_
    refine j_iload_n C 1 dX2_joined_48 rfl ?_
    refine j_iload_n C 2 dX2_joined_49 rfl ?_
    refine j_icmp_ge C (tgt := 57) dX2_joined_50 (by decide) (fun h4 => ?_) (fun h4 => ?_)
    · replace hm := if_t hm h4
      refine j_iconst C (v := 0) dX2_joined_57 rfl ?_
      refine j_sub [] rfl ?_
      exact tj_X2_joined_58 C _ _ _  hm
    · replace hm := if_f hm h4
      refine j_iconst C (v := 1) dX2_joined_53 rfl ?_
      refine j_goto C (tgt := 58) dX2_joined_54 (by decide) ?_
      refine j_sub [] rfl ?_
      exact tj_X2_joined_58 C _ _ _  hm
  replace hm := if_f hm h3
  by_cases h5 : v0 = (-14)
  · replace hm := if_t hm h5
    refine j_tabI C (tgt := 44) (-14) dX2_joined_1 (by rw [h5]; first | done | rfl) (by decide) (by decide) rfl (by decide) ?_
    refine j_iload_n C 1 dX2_joined_44 rfl ?_
    refine j_iload_n C 2 dX2_joined_45 rfl ?_
    refine j_iadd C dX2_joined_46 ?_
    obtain rfl := Option.some.inj hm
    exact j_ireti C dX2_joined_47
  replace hm := if_f hm h5
  by_cases h6 : v0 = (-13)
  · replace hm := if_t hm h6
    refine j_tabI C (tgt := 40) (-13) dX2_joined_1 (by rw [h6]; first | done | rfl) (by decide) (by decide) rfl (by decide) ?_
    refine j_iload_n C 1 dX2_joined_40 rfl ?_
    refine j_iload_n C 2 dX2_joined_41 rfl ?_
    refine j_ior C dX2_joined_42 ?_
    obtain rfl := Option.some.inj hm
    exact j_ireti C dX2_joined_43
  replace hm := if_f hm h6
  by_cases h7 : v0 = (-12)
  · replace hm := if_t hm h7
    refine j_tabI C (tgt := 36) (-12) dX2_joined_1 (by rw [h7]; first | done | rfl) (by decide) (by decide) rfl (by decide) ?_
    refine j_iload_n C 1 dX2_joined_36 rfl ?_
    refine j_iload_n C 2 dX2_joined_37 rfl ?_
    refine j_iand C dX2_joined_38 ?_
    obtain rfl := Option.some.inj hm
    exact j_ireti C dX2_joined_39
  replace hm := if_f hm h7
  refine j_tabO C (tgt := 70) dX2_joined_1 (sw_out v0 [(-16), (-15), (-14), (-13), (-12)] (by decide +kernel) ?_) (by decide) ?_
  · simp only [List.mem_cons, List.not_mem_nil, or_false, not_or]; exact ⟨h1, h3, h5, h6, h7⟩
  refine j_iconst C (v := 0) dX2_joined_70 rfl ?_
  obtain rfl := Option.some.inj hm
  exact j_ireti C dX2_joined_71
set_option maxRecDepth 20000 in
set_option maxHeartbeats 4000000 in
theorem mc_X2_joined (l : Launch) (N : Nat) (Λ : Lay) (μ : Mem) (v0 : Int32) (v1 : Int32) (v2 : Int32) {r : Int32} (hm : m_X2_joined N Λ μ v0 v1 v2 = some r) : MI l yX2_joined cX2_joined 3 (some .int) rm_X2_joined Λ [.int v0, .int v1, .int v2] μ r μ := mi_of rfl (Nat.le_of_ble_eq_true rfl) (fun x C _ => tm_X2_joined C _ _ _ _ _  hm)
abbrev rm_X2_measure : Room := { frames := 0, cells := 0, slots := 0, locals := 0 }
set_option maxRecDepth 20000 in
set_option maxHeartbeats 4000000 in
theorem tj_X2_measure_90 {x : Ctx} {Λ : Lay} (C : Cx x cX2_measure 5 (some .int) RX2 Λ rm_X2_measure) (N : Nat) (μ : Mem) (s0 : Int32) {r : Int32} (hm : jn_X2_measure_90 N Λ μ s0 = some r) : J x 5 Λ (QI x Λ r μ) 90 [] [.int s0] μ := by
  obtain rfl := Option.some.inj hm
  exact j_ireti C dX2_measure_90
set_option maxRecDepth 20000 in
set_option maxHeartbeats 4000000 in
theorem tj_X2_measure_105 {x : Ctx} {Λ : Lay} (C : Cx x cX2_measure 5 (some .int) RX2 Λ rm_X2_measure) (N : Nat) (μ : Mem) (s0 : Int32) {r : Int32} (hm : jn_X2_measure_105 N Λ μ s0 = some r) : J x 5 Λ (QI x Λ r μ) 105 [] [.int s0] μ := by
  obtain rfl := Option.some.inj hm
  exact j_ireti C dX2_measure_105
set_option maxRecDepth 20000 in
set_option maxHeartbeats 4000000 in
theorem tj_X2_measure_120 {x : Ctx} {Λ : Lay} (C : Cx x cX2_measure 5 (some .int) RX2 Λ rm_X2_measure) (N : Nat) (μ : Mem) (s0 : Int32) {r : Int32} (hm : jn_X2_measure_120 N Λ μ s0 = some r) : J x 5 Λ (QI x Λ r μ) 120 [] [.int s0] μ := by
  obtain rfl := Option.some.inj hm
  exact j_ireti C dX2_measure_120
set_option maxRecDepth 20000 in
set_option maxHeartbeats 4000000 in
theorem tj_X2_measure_135 {x : Ctx} {Λ : Lay} (C : Cx x cX2_measure 5 (some .int) RX2 Λ rm_X2_measure) (N : Nat) (μ : Mem) (s0 : Int32) {r : Int32} (hm : jn_X2_measure_135 N Λ μ s0 = some r) : J x 5 Λ (QI x Λ r μ) 135 [] [.int s0] μ := by
  obtain rfl := Option.some.inj hm
  exact j_ireti C dX2_measure_135
set_option maxRecDepth 20000 in
set_option maxHeartbeats 4000000 in
theorem tj_X2_measure_164 {x : Ctx} {Λ : Lay} (C : Cx x cX2_measure 5 (some .int) RX2 Λ rm_X2_measure) (N : Nat) (μ : Mem) (s0 : Int32) {r : Int32} (hm : jn_X2_measure_164 N Λ μ s0 = some r) : J x 5 Λ (QI x Λ r μ) 164 [] [.int s0] μ := by
  obtain rfl := Option.some.inj hm
  exact j_ireti C dX2_measure_164
set_option maxRecDepth 20000 in
set_option maxHeartbeats 4000000 in
theorem tj_X2_measure_178 {x : Ctx} {Λ : Lay} (C : Cx x cX2_measure 5 (some .int) RX2 Λ rm_X2_measure) (N : Nat) (μ : Mem) (s0 : Int32) {r : Int32} (hm : jn_X2_measure_178 N Λ μ s0 = some r) : J x 5 Λ (QI x Λ r μ) 178 [] [.int s0] μ := by
  obtain rfl := Option.some.inj hm
  exact j_ireti C dX2_measure_178
set_option maxRecDepth 20000 in
set_option maxHeartbeats 4000000 in
theorem tj_X2_measure_195 {x : Ctx} {Λ : Lay} (C : Cx x cX2_measure 5 (some .int) RX2 Λ rm_X2_measure) (N : Nat) (μ : Mem) (s0 : Int32) {r : Int32} (hm : jn_X2_measure_195 N Λ μ s0 = some r) : J x 5 Λ (QI x Λ r μ) 195 [] [.int s0] μ := by
  obtain rfl := Option.some.inj hm
  exact j_ireti C dX2_measure_195
set_option maxRecDepth 20000 in
set_option maxHeartbeats 4000000 in
theorem tj_X2_measure_15 {x : Ctx} {Λ : Lay} (C : Cx x cX2_measure 5 (some .int) RX2 Λ rm_X2_measure) (N : Nat) (μ : Mem) (v0 : Int32) (v1 : Nat) (v2 : Int32) (s0 : Int32) (hv1 : inL Λ v1 8) {r : Int32} (hm : jn_X2_measure_15 N Λ μ v0 v1 v2 s0 = some r) : J x 5 Λ (QI x Λ r μ) 15 [(0, .int v0), (1, .ref v1), (2, .int v2)] [.int s0] μ := by
  refine j_istore_n C (lv' := [(3, .int s0), (0, .int v0), (1, .ref v1), (2, .int v2)]) dX2_measure_15 (by decide) rfl ?_
  refine j_aload_n C 2 dX2_measure_16 rfl ?_
  refine j_getI C fg_X2_52_8 hv1 dX2_measure_17 ?_
  refine j_bipush C (v := 12) dX2_measure_20 rfl ?_
  refine j_irem C dX2_measure_22 (by decide) ?_
  obtain ⟨y1, e2, hm⟩ := lt_some hm
  refine j_topi e2 ?_
  refine j_istore C (lv' := [(4, .int y1), (3, .int s0), (0, .int v0), (1, .ref v1), (2, .int v2)]) dX2_measure_23 (by decide) rfl ?_
  refine j_iload_n C 2 dX2_measure_25 rfl ?_
  by_cases h3 : v0 = (-10)
  · replace hm := if_t hm h3
    refine j_tabI C (tgt := 179) (-10) dX2_measure_26 (by rw [h3]; first | done | rfl) (by decide) (by decide) rfl (by decide) ?_
    refine j_iload_n C 1 dX2_measure_179 rfl ?_
    refine j_if_eq C (tgt := 187) dX2_measure_180 (by decide) (fun h4 => ?_) (fun h4 => ?_)
    · replace hm := if_t hm h4
      refine j_aload_n C 3 dX2_measure_187 rfl ?_
      refine j_getI C fg_X2_76_8 hv1 dX2_measure_188 ?_
      refine j_iload_n C 4 dX2_measure_191 rfl ?_
      refine j_ishr C dX2_measure_192 ?_
      refine j_iconst C (v := 1) dX2_measure_193 rfl ?_
      refine j_iand C dX2_measure_194 ?_
      refine j_sub [] rfl ?_
      exact tj_X2_measure_195 C _ _ _  hm
    · replace hm := if_f hm h4
      refine j_iconst C (v := 0) dX2_measure_183 rfl ?_
      refine j_goto C (tgt := 195) dX2_measure_184 (by decide) ?_
      refine j_sub [] rfl ?_
      exact tj_X2_measure_195 C _ _ _  hm
  replace hm := if_f hm h3
  by_cases h5 : v0 = (-9)
  · replace hm := if_t hm h5
    refine j_tabI C (tgt := 165) (-9) dX2_measure_26 (by rw [h5]; first | done | rfl) (by decide) (by decide) rfl (by decide) ?_
    refine j_aload_n C 3 dX2_measure_165 rfl ?_
    refine j_getI C fg_X2_66_8 hv1 dX2_measure_166 ?_
    refine j_iconst C (v := 2) dX2_measure_169 rfl ?_
    refine j_icmp_gt C (tgt := 177) dX2_measure_170 (by decide) (fun h6 => ?_) (fun h6 => ?_)
    · replace hm := if_t hm h6
      refine j_iconst C (v := 0) dX2_measure_177 rfl ?_
      refine j_sub [] rfl ?_
      exact tj_X2_measure_178 C _ _ _  hm
    · replace hm := if_f hm h6
      refine j_iconst C (v := 1) dX2_measure_173 rfl ?_
      refine j_goto C (tgt := 178) dX2_measure_174 (by decide) ?_
      refine j_sub [] rfl ?_
      exact tj_X2_measure_178 C _ _ _  hm
  replace hm := if_f hm h5
  by_cases h7 : v0 = (-8)
  · replace hm := if_t hm h7
    refine j_tabI C (tgt := 152) (-8) dX2_measure_26 (by rw [h7]; first | done | rfl) (by decide) (by decide) rfl (by decide) ?_
    refine j_aload_n C 3 dX2_measure_152 rfl ?_
    refine j_getI C fg_X2_72_8 hv1 dX2_measure_153 ?_
    refine j_if_eq C (tgt := 163) dX2_measure_156 (by decide) (fun h8 => ?_) (fun h8 => ?_)
    · replace hm := if_t hm h8
      refine j_iconst C (v := 0) dX2_measure_163 rfl ?_
      refine j_sub [] rfl ?_
      exact tj_X2_measure_164 C _ _ _  hm
    · replace hm := if_f hm h8
      refine j_iconst C (v := 1) dX2_measure_159 rfl ?_
      refine j_goto C (tgt := 164) dX2_measure_160 (by decide) ?_
      refine j_sub [] rfl ?_
      exact tj_X2_measure_164 C _ _ _  hm
  replace hm := if_f hm h7
  by_cases h9 : v0 = (-7)
  · replace hm := if_t hm h9
    refine j_tabI C (tgt := 149) (-7) dX2_measure_26 (by rw [h9]; first | done | rfl) (by decide) (by decide) rfl (by decide) ?_
    refine j_iload C 0 dX2_measure_149 rfl ?_
    obtain rfl := Option.some.inj hm
    exact j_ireti C dX2_measure_151
  replace hm := if_f hm h9
  by_cases h10 : v0 = (-6)
  · replace hm := if_t hm h10
    refine j_tabI C (tgt := 141) (-6) dX2_measure_26 (by rw [h10]; first | done | rfl) (by decide) (by decide) rfl (by decide) ?_
    refine j_aload_n C 3 dX2_measure_141 rfl ?_
    obtain ⟨q11, h12, hm⟩ := bd_some hm
    refine j_getR C fg_X2_69_8 hv1 (dr_spec h12).1 dX2_measure_142 ?_
    refine j_iload C 0 dX2_measure_145 rfl ?_
    obtain ⟨h13, hm⟩ := gd_some hm
    refine j_iald C ((dr_spec h12).2) h13 dX2_measure_147 ?_
    obtain rfl := Option.some.inj hm
    exact j_ireti C dX2_measure_148
  replace hm := if_f hm h10
  by_cases h14 : v0 = (-5)
  · replace hm := if_t hm h14
    refine j_tabI C (tgt := 136) (-5) dX2_measure_26 (by rw [h14]; first | done | rfl) (by decide) (by decide) rfl (by decide) ?_
    refine j_aload_n C 3 dX2_measure_136 rfl ?_
    refine j_getI C fg_X2_66_8 hv1 dX2_measure_137 ?_
    obtain rfl := Option.some.inj hm
    exact j_ireti C dX2_measure_140
  replace hm := if_f hm h14
  by_cases h15 : v0 = (-4)
  · replace hm := if_t hm h15
    refine j_tabI C (tgt := 121) (-4) dX2_measure_26 (by rw [h15]; first | done | rfl) (by decide) (by decide) rfl (by decide) ?_
    refine j_iload_n C 1 dX2_measure_121 rfl ?_
    refine j_if_eq C (tgt := 129) dX2_measure_122 (by decide) (fun h16 => ?_) (fun h16 => ?_)
    · replace hm := if_t hm h16
      refine j_aload_n C 3 dX2_measure_129 rfl ?_
      obtain ⟨q17, h18, hm⟩ := bd_some hm
      refine j_getR C fg_X2_63_8 hv1 (dr_spec h18).1 dX2_measure_130 ?_
      refine j_iload_n C 4 dX2_measure_133 rfl ?_
      obtain ⟨h19, hm⟩ := gd_some hm
      refine j_iald C ((dr_spec h18).2) h19 dX2_measure_134 ?_
      refine j_sub [] rfl ?_
      exact tj_X2_measure_135 C _ _ _  hm
    · replace hm := if_f hm h16
      refine j_iconst C (v := 0) dX2_measure_125 rfl ?_
      refine j_goto C (tgt := 135) dX2_measure_126 (by decide) ?_
      refine j_sub [] rfl ?_
      exact tj_X2_measure_135 C _ _ _  hm
  replace hm := if_f hm h15
  by_cases h20 : v0 = (-3)
  · replace hm := if_t hm h20
    refine j_tabI C (tgt := 106) (-3) dX2_measure_26 (by rw [h20]; first | done | rfl) (by decide) (by decide) rfl (by decide) ?_
    refine j_iload_n C 1 dX2_measure_106 rfl ?_
    refine j_if_eq C (tgt := 114) dX2_measure_107 (by decide) (fun h21 => ?_) (fun h21 => ?_)
    · replace hm := if_t hm h21
      refine j_aload_n C 3 dX2_measure_114 rfl ?_
      obtain ⟨q22, h23, hm⟩ := bd_some hm
      refine j_getR C fg_X2_60_8 hv1 (dr_spec h23).1 dX2_measure_115 ?_
      refine j_iload_n C 4 dX2_measure_118 rfl ?_
      obtain ⟨h24, hm⟩ := gd_some hm
      refine j_iald C ((dr_spec h23).2) h24 dX2_measure_119 ?_
      refine j_sub [] rfl ?_
      exact tj_X2_measure_120 C _ _ _  hm
    · replace hm := if_f hm h21
      refine j_iconst C (v := 0) dX2_measure_110 rfl ?_
      refine j_goto C (tgt := 120) dX2_measure_111 (by decide) ?_
      refine j_sub [] rfl ?_
      exact tj_X2_measure_120 C _ _ _  hm
  replace hm := if_f hm h20
  by_cases h25 : v0 = (-2)
  · replace hm := if_t hm h25
    refine j_tabI C (tgt := 91) (-2) dX2_measure_26 (by rw [h25]; first | done | rfl) (by decide) (by decide) rfl (by decide) ?_
    refine j_iload_n C 1 dX2_measure_91 rfl ?_
    refine j_if_eq C (tgt := 99) dX2_measure_92 (by decide) (fun h26 => ?_) (fun h26 => ?_)
    · replace hm := if_t hm h26
      refine j_aload_n C 3 dX2_measure_99 rfl ?_
      obtain ⟨q27, h28, hm⟩ := bd_some hm
      refine j_getR C fg_X2_57_8 hv1 (dr_spec h28).1 dX2_measure_100 ?_
      refine j_iload_n C 4 dX2_measure_103 rfl ?_
      obtain ⟨h29, hm⟩ := gd_some hm
      refine j_iald C ((dr_spec h28).2) h29 dX2_measure_104 ?_
      refine j_sub [] rfl ?_
      exact tj_X2_measure_105 C _ _ _  hm
    · replace hm := if_f hm h26
      refine j_iconst C (v := 0) dX2_measure_95 rfl ?_
      refine j_goto C (tgt := 105) dX2_measure_96 (by decide) ?_
      refine j_sub [] rfl ?_
      exact tj_X2_measure_105 C _ _ _  hm
  replace hm := if_f hm h25
  by_cases h30 : v0 = (-1)
  · replace hm := if_t hm h30
    refine j_tabI C (tgt := 80) (-1) dX2_measure_26 (by rw [h30]; first | done | rfl) (by decide) (by decide) rfl (by decide) ?_
    refine j_iload_n C 1 dX2_measure_80 rfl ?_
    refine j_if_eq C (tgt := 89) dX2_measure_81 (by decide) (fun h31 => ?_) (fun h31 => ?_)
    · replace hm := if_t hm h31
      refine j_iload_n C 4 dX2_measure_89 rfl ?_
      refine j_sub [] rfl ?_
      exact tj_X2_measure_90 C _ _ _  hm
    · replace hm := if_f hm h31
      refine j_bipush C (v := 9) dX2_measure_84 rfl ?_
      refine j_goto C (tgt := 90) dX2_measure_86 (by decide) ?_
      refine j_sub [] rfl ?_
      exact tj_X2_measure_90 C _ _ _  hm
  replace hm := if_f hm h30
  refine j_tabO C (tgt := 196) dX2_measure_26 (sw_out v0 [(-10), (-9), (-8), (-7), (-6), (-5), (-4), (-3), (-2), (-1)] (by decide +kernel) ?_) (by decide) ?_
  · simp only [List.mem_cons, List.not_mem_nil, or_false, not_or]; exact ⟨h3, h5, h7, h9, h10, h14, h15, h20, h25, h30⟩
  refine j_iconst C (v := 0) dX2_measure_196 rfl ?_
  obtain rfl := Option.some.inj hm
  exact j_ireti C dX2_measure_197
set_option maxRecDepth 20000 in
set_option maxHeartbeats 4000000 in
theorem tj_X2_measure_10 {x : Ctx} {Λ : Lay} (C : Cx x cX2_measure 5 (some .int) RX2 Λ rm_X2_measure) (N : Nat) (μ : Mem) (v0 : Int32) (v1 : Nat) (v2 : Int32) (hv1 : inL Λ v1 8) {r : Int32} (hm : jn_X2_measure_10 N Λ μ v0 v1 v2 = some r) : J x 5 Λ (QI x Λ r μ) 10 [(0, .int v0), (1, .ref v1), (2, .int v2)] [] μ := by
  refine j_iconst C (v := 1) dX2_measure_10 rfl ?_
  refine j_goto C (tgt := 15) dX2_measure_11 (by decide) ?_
  exact tj_X2_measure_15 C _ _ _ _ _ _ hv1 hm
set_option maxRecDepth 20000 in
set_option maxHeartbeats 4000000 in
theorem tm_X2_measure {x : Ctx} {Λ : Lay} (C : Cx x cX2_measure 5 (some .int) RX2 Λ rm_X2_measure) (N : Nat) (μ : Mem) (v0 : Int32) (v1 : Nat) (v2 : Int32) (hv1 : inL Λ v1 8) {r : Int32} (hm : m_X2_measure N Λ μ v0 v1 v2 = some r) : J x 5 Λ (QI x Λ r μ) 0 [(0, .int v0), (1, .ref v1), (2, .int v2)] [] μ := by
  refine j_iload_n C 2 dX2_measure_0 rfl ?_
  refine j_if_lt C (tgt := 10) dX2_measure_1 (by decide) (fun h1 => ?_) (fun h1 => ?_)
  · replace hm := if_t hm h1
    exact tj_X2_measure_10 C _ _ _ _ _ hv1 hm
  · replace hm := if_f hm h1
    refine j_iload_n C 2 dX2_measure_4 rfl ?_
    refine j_bipush C (v := 8) dX2_measure_5 rfl ?_
    refine j_icmp_lt C (tgt := 14) dX2_measure_7 (by decide) (fun h2 => ?_) (fun h2 => ?_)
    · replace hm := if_t hm h2
      refine j_iconst C (v := 0) dX2_measure_14 rfl ?_
      exact tj_X2_measure_15 C _ _ _ _ _ _ hv1 hm
    · replace hm := if_f hm h2
      exact tj_X2_measure_10 C _ _ _ _ _ hv1 hm
set_option maxRecDepth 20000 in
set_option maxHeartbeats 4000000 in
theorem mc_X2_measure (l : Launch) (N : Nat) (Λ : Lay) (μ : Mem) (v0 : Int32) (v1 : Nat) (v2 : Int32) (hv1 : inL Λ v1 8) {r : Int32} (hm : m_X2_measure N Λ μ v0 v1 v2 = some r) : MI l yX2_measure cX2_measure 5 (some .int) rm_X2_measure Λ [.int v0, .ref v1, .int v2] μ r μ := mi_of rfl (Nat.le_of_ble_eq_true rfl) (fun x C _ => tm_X2_measure C _ _ _ _ _ hv1 hm)
abbrev rm_X2_holds : Room := { frames := 1, cells := 0, slots := 0, locals := 24 }
set_option maxRecDepth 20000 in
set_option maxHeartbeats 4000000 in
theorem tj_X2_holds_148 {x : Ctx} {Λ : Lay} (C : Cx x cX2_holds 8 (some .boolean) RX2 Λ rm_X2_holds) (N : Nat) (μ : Mem) (k6 : Int32 × Int32 × Mem → Option (Int32 × Mem)) (v0 : Nat) (v2 : Int32) (v3 : Nat) (v4 : Int32) (v5 : Int32) (v6 : Int32) (hk6 : ∀ (s : Int32 × Int32 × Mem) (r : Int32 × Mem), k6 s = some r → J x 8 Λ (QI x Λ r.1 r.2) 6 [(0, .ref v0), (2, .int v2), (3, .ref v3), (4, .int v4), (5, .int s.1), (6, .int s.2.1)] [] (s.2.2)) (hv0 : inL Λ v0 2) (hv3 : inL Λ v3 8) {r : Int32 × Mem} (hm : jn_X2_holds_148 N Λ μ k6 v0 v2 v3 v4 v5 v6 = some r) : J x 8 Λ (QI x Λ r.1 r.2) 148 [(0, .ref v0), (2, .int v2), (3, .ref v3), (4, .int v4), (5, .int v5), (6, .int v6)] [] μ := by
  obtain ⟨y1, e2, hm⟩ := lt_some hm
  refine j_iinc C 5 (v := y1) (lv' := [(6, .int y1), (0, .ref v0), (2, .int v2), (3, .ref v3), (4, .int v4), (5, .int v5)]) dX2_holds_148 rfl (by rw [e2]; rfl) (by decide) rfl ?_
  refine j_goto C (tgt := 6) dX2_holds_151 (by decide) ?_
  refine j_sub [1, 2, 3, 4, 5, 0] rfl ?_
  exact hk6 (v5, y1, μ) _ hm
set_option maxRecDepth 20000 in
set_option maxHeartbeats 4000000 in
theorem tj_X2_holds_144 {x : Ctx} {Λ : Lay} (C : Cx x cX2_holds 8 (some .boolean) RX2 Λ rm_X2_holds) (N : Nat) (μ : Mem) (k6 : Int32 × Int32 × Mem → Option (Int32 × Mem)) (v0 : Nat) (v2 : Int32) (v3 : Nat) (v4 : Int32) (v5 : Int32) (v6 : Int32) (s0 : Nat) (s1 : Int32) (s2 : Int32) (hk6 : ∀ (s : Int32 × Int32 × Mem) (r : Int32 × Mem), k6 s = some r → J x 8 Λ (QI x Λ r.1 r.2) 6 [(0, .ref v0), (2, .int v2), (3, .ref v3), (4, .int v4), (5, .int s.1), (6, .int s.2.1)] [] (s.2.2)) (hv0 : inL Λ v0 2) (hv3 : inL Λ v3 8) (hs0 : inL Λ s0 13) {r : Int32 × Mem} (hm : jn_X2_holds_144 N Λ μ k6 v0 v2 v3 v4 v5 v6 s0 s1 s2 = some r) : J x 8 Λ (QI x Λ r.1 r.2) 144 [(0, .ref v0), (2, .int v2), (3, .ref v3), (4, .int v4), (5, .int v5), (6, .int v6)] [.int s2, .int s1, .ref s0] μ := by
  obtain ⟨h1, hm⟩ := gd_some hm
  obtain ⟨μ2, e3, hm⟩ := lt_some hm
  refine j_iast C hs0 h1 e3 dX2_holds_144 ?_
  obtain ⟨y4, e5, hm⟩ := lt_some hm
  refine j_iinc C 4 (v := y4) (lv' := [(5, .int y4), (0, .ref v0), (2, .int v2), (3, .ref v3), (4, .int v4), (6, .int v6)]) dX2_holds_145 rfl (by rw [e5]; rfl) (by decide) rfl ?_
  refine j_sub [1, 2, 3, 4, 0, 5] rfl ?_
  exact tj_X2_holds_148 C _ _ _ _ _ _ _ _ _ hk6 hv0 hv3 hm
set_option maxRecDepth 20000 in
set_option maxHeartbeats 4000000 in
theorem tj_X2_holds_106 {x : Ctx} {Λ : Lay} (C : Cx x cX2_holds 8 (some .boolean) RX2 Λ rm_X2_holds) (N : Nat) (μ : Mem) (k6 : Int32 × Int32 × Mem → Option (Int32 × Mem)) (v0 : Nat) (v2 : Int32) (v3 : Nat) (v4 : Int32) (v5 : Int32) (v6 : Int32) (v7 : Int32) (hk6 : ∀ (s : Int32 × Int32 × Mem) (r : Int32 × Mem), k6 s = some r → J x 8 Λ (QI x Λ r.1 r.2) 6 [(0, .ref v0), (2, .int v2), (3, .ref v3), (4, .int v4), (5, .int s.1), (6, .int s.2.1)] [] (s.2.2)) (hv0 : inL Λ v0 2) (hv3 : inL Λ v3 8) {r : Int32 × Mem} (hm : jn_X2_holds_106 N Λ μ k6 v0 v2 v3 v4 v5 v6 v7 = some r) : J x 8 Λ (QI x Λ r.1 r.2) 106 [(0, .ref v0), (2, .int v2), (3, .ref v3), (4, .int v4), (5, .int v5), (6, .int v6), (7, .int v7)] [] μ := by
  refine j_iload C 6 dX2_holds_106 rfl ?_
  refine j_bipush C (v := -11) dX2_holds_108 rfl ?_
  refine j_icmp_le C (tgt := 148) dX2_holds_110 (by decide) (fun h1 => ?_) (fun h1 => ?_)
  · replace hm := if_t hm h1
    refine j_sub [0, 1, 2, 3, 4, 5] rfl ?_
    exact tj_X2_holds_148 C _ _ _ _ _ _ _ _ _ hk6 hv0 hv3 hm
  · replace hm := if_f hm h1
    refine j_iload C 4 dX2_holds_113 rfl ?_
    refine j_bipush C (v := 32) dX2_holds_115 rfl ?_
    refine j_icmp_ge C (tgt := 148) dX2_holds_117 (by decide) (fun h2 => ?_) (fun h2 => ?_)
    · replace hm := if_t hm h2
      refine j_sub [0, 1, 2, 3, 4, 5] rfl ?_
      exact tj_X2_holds_148 C _ _ _ _ _ _ _ _ _ hk6 hv0 hv3 hm
    · replace hm := if_f hm h2
      refine j_aload_n C 0 dX2_holds_120 rfl ?_
      obtain ⟨q3, h4, hm⟩ := bd_some hm
      refine j_getR C fg_X2_28_2 hv0 (dr_spec h4).1 dX2_holds_121 ?_
      refine j_iload C 4 dX2_holds_124 rfl ?_
      refine j_iload C 6 dX2_holds_126 rfl ?_
      refine j_if_lt C (tgt := 136) dX2_holds_128 (by decide) (fun h5 => ?_) (fun h5 => ?_)
      · replace hm := if_t hm h5
        refine j_iload C 6 dX2_holds_136 rfl ?_
        refine j_aload_n C 2 dX2_holds_138 rfl ?_
        refine j_iload C 3 dX2_holds_139 rfl ?_
        obtain ⟨r6, h7, hm⟩ := bd_some hm
        refine call_I (run_LS C ls_X2_48 ⟨rfl, rfl, Nat.le_of_ble_eq_true rfl, Nat.le_of_ble_eq_true rfl⟩ (As := [.int v7, .ref v3, .int v4]) rfl rfl (Nat.le_of_ble_eq_true rfl) dX2_holds_141 (mc_X2_measure _ _ _ _ _ _ _ hv3 h7)) ?_
        refine j_sub [0, 1, 2, 3, 4, 5] rfl ?_
        exact tj_X2_holds_144 C _ _ _ _ _ _ _ _ _ _ _ _ hk6 hv0 hv3 ((dr_spec h4).2) hm
      · replace hm := if_f hm h5
        refine j_iload C 6 dX2_holds_131 rfl ?_
        refine j_goto C (tgt := 144) dX2_holds_133 (by decide) ?_
        refine j_sub [0, 1, 2, 3, 4, 5] rfl ?_
        exact tj_X2_holds_144 C _ _ _ _ _ _ _ _ _ _ _ _ hk6 hv0 hv3 ((dr_spec h4).2) hm
set_option maxRecDepth 20000 in
set_option maxHeartbeats 4000000 in
theorem tj_X2_holds_57 {x : Ctx} {Λ : Lay} (C : Cx x cX2_holds 8 (some .boolean) RX2 Λ rm_X2_holds) (N : Nat) (μ : Mem) (k6 : Int32 × Int32 × Mem → Option (Int32 × Mem)) (v0 : Nat) (v2 : Int32) (v3 : Nat) (v4 : Int32) (v5 : Int32) (v6 : Int32) (v7 : Int32) (hk6 : ∀ (s : Int32 × Int32 × Mem) (r : Int32 × Mem), k6 s = some r → J x 8 Λ (QI x Λ r.1 r.2) 6 [(0, .ref v0), (2, .int v2), (3, .ref v3), (4, .int v4), (5, .int s.1), (6, .int s.2.1)] [] (s.2.2)) (hv0 : inL Λ v0 2) (hv3 : inL Λ v3 8) {r : Int32 × Mem} (hm : jn_X2_holds_57 N Λ μ k6 v0 v2 v3 v4 v5 v6 v7 = some r) : J x 8 Λ (QI x Λ r.1 r.2) 57 [(0, .ref v0), (2, .int v2), (3, .ref v3), (4, .int v4), (5, .int v5), (6, .int v6), (7, .int v7)] [] μ := by
  refine j_iload C 6 dX2_holds_57 rfl ?_
  refine j_bipush C (v := -11) dX2_holds_59 rfl ?_
  refine j_icmp_ge C (tgt := 106) dX2_holds_61 (by decide) (fun h1 => ?_) (fun h1 => ?_)
  · replace hm := if_t hm h1
    exact tj_X2_holds_106 C _ _ _ _ _ _ _ _ _ _ hk6 hv0 hv3 hm
  · replace hm := if_f hm h1
    refine j_iload C 4 dX2_holds_64 rfl ?_
    refine j_iconst C (v := 2) dX2_holds_66 rfl ?_
    refine j_icmp_lt C (tgt := 106) dX2_holds_67 (by decide) (fun h2 => ?_) (fun h2 => ?_)
    · replace hm := if_t hm h2
      exact tj_X2_holds_106 C _ _ _ _ _ _ _ _ _ _ hk6 hv0 hv3 hm
    · replace hm := if_f hm h2
      obtain ⟨y3, e4, hm⟩ := lt_some hm
      refine j_iinc C 4 (v := y3) (lv' := [(5, .int y3), (0, .ref v0), (2, .int v2), (3, .ref v3), (4, .int v4), (6, .int v6), (7, .int v7)]) dX2_holds_70 rfl (by rw [e4]; rfl) (by decide) rfl ?_
      refine j_aload_n C 1 dX2_holds_73 rfl ?_
      obtain ⟨q5, h6, hm⟩ := bd_some hm
      refine j_getR C fg_X2_28_2 hv0 (dr_spec h6).1 dX2_holds_74 ?_
      refine j_iload C 0 dX2_holds_77 rfl ?_
      refine j_iconst C (v := 1) dX2_holds_79 rfl ?_
      refine j_isub C dX2_holds_80 ?_
      refine j_iload C 6 dX2_holds_81 rfl ?_
      refine j_aload_n C 1 dX2_holds_83 rfl ?_
      obtain ⟨q7, h8, hm⟩ := bd_some hm
      refine j_getR C fg_X2_28_2 hv0 (dr_spec h8).1 dX2_holds_84 ?_
      refine j_iload C 0 dX2_holds_87 rfl ?_
      refine j_iconst C (v := 1) dX2_holds_89 rfl ?_
      refine j_isub C dX2_holds_90 ?_
      obtain ⟨h9, hm⟩ := gd_some hm
      refine j_iald C ((dr_spec h8).2) h9 dX2_holds_91 ?_
      refine j_aload_n C 1 dX2_holds_92 rfl ?_
      obtain ⟨q10, h11, hm⟩ := bd_some hm
      refine j_getR C fg_X2_28_2 hv0 (dr_spec h11).1 dX2_holds_93 ?_
      refine j_iload C 0 dX2_holds_96 rfl ?_
      obtain ⟨h12, hm⟩ := gd_some hm
      refine j_iald C ((dr_spec h11).2) h12 dX2_holds_98 ?_
      obtain ⟨r13, h14, hm⟩ := bd_some hm
      refine call_I (run_LS C ls_X2_44 ⟨rfl, rfl, Nat.le_of_ble_eq_true rfl, Nat.le_of_ble_eq_true rfl⟩ (As := [.int v7, .int (μ.1 q7 (y3 - 1).toNatClampNeg), .int (μ.1 q10 y3.toNatClampNeg)]) rfl rfl (Nat.le_of_ble_eq_true rfl) dX2_holds_99 (mc_X2_joined _ _ _ _ _ _ _  h14)) ?_
      obtain ⟨h15, hm⟩ := gd_some hm
      obtain ⟨μ16, e17, hm⟩ := lt_some hm
      refine j_iast C ((dr_spec h6).2) h15 e17 dX2_holds_102 ?_
      refine j_goto C (tgt := 148) dX2_holds_103 (by decide) ?_
      refine j_sub [1, 2, 3, 4, 0, 5] rfl ?_
      exact tj_X2_holds_148 C _ _ _ _ _ _ _ _ _ hk6 hv0 hv3 hm
set_option maxRecDepth 20000 in
set_option maxHeartbeats 4000000 in
theorem tj_X2_holds_173 {x : Ctx} {Λ : Lay} (C : Cx x cX2_holds 8 (some .boolean) RX2 Λ rm_X2_holds) (N : Nat) (μ : Mem) (s0 : Int32) {r : Int32 × Mem} (hm : jn_X2_holds_173 N Λ μ s0 = some r) : J x 8 Λ (QI x Λ r.1 r.2) 173 [] [.int s0] μ := by
  obtain ⟨h1, hm⟩ := gd_some hm
  obtain rfl := Option.some.inj hm
  exact j_iretz C h1 dX2_holds_173
set_option maxRecDepth 20000 in
set_option maxHeartbeats 4000000 in
theorem tj_X2_holds_168 {x : Ctx} {Λ : Lay} (C : Cx x cX2_holds 8 (some .boolean) RX2 Λ rm_X2_holds) (N : Nat) (μ : Mem) {r : Int32 × Mem} (hm : jn_X2_holds_168 N Λ μ = some r) : J x 8 Λ (QI x Λ r.1 r.2) 168 [] [] μ := by
  refine j_iconst C (v := 1) dX2_holds_168 rfl ?_
  refine j_goto C (tgt := 173) dX2_holds_169 (by decide) ?_
  exact tj_X2_holds_173 C _ _ _  hm
set_option maxRecDepth 20000 in
set_option maxHeartbeats 4000000 in
theorem tb_X2_holds_6 {x : Ctx} {Λ : Lay} (C : Cx x cX2_holds 8 (some .boolean) RX2 Λ rm_X2_holds) (N : Nat) (μ : Mem) (k6 : Int32 × Int32 × Mem → Option (Int32 × Mem)) (v0 : Nat) (v2 : Int32) (v3 : Nat) (v4 : Int32) (v5 : Int32) (v6 : Int32) (hk6 : ∀ (s : Int32 × Int32 × Mem) (r : Int32 × Mem), k6 s = some r → J x 8 Λ (QI x Λ r.1 r.2) 6 [(0, .ref v0), (2, .int v2), (3, .ref v3), (4, .int v4), (5, .int s.1), (6, .int s.2.1)] [] (s.2.2)) (hv0 : inL Λ v0 2) (hv3 : inL Λ v3 8) {r : Int32 × Mem} (hm : bd_X2_holds_6 N Λ μ k6 v0 v2 v3 v4 v5 v6 = some r) : J x 8 Λ (QI x Λ r.1 r.2) 6 [(0, .ref v0), (2, .int v2), (3, .ref v3), (4, .int v4), (5, .int v5), (6, .int v6)] [] μ := by
  refine j_iload C 5 dX2_holds_6 rfl ?_
  refine j_iload_n C 1 dX2_holds_8 rfl ?_
  refine j_icmp_ge C (tgt := 154) dX2_holds_9 (by decide) (fun h1 => ?_) (fun h1 => ?_)
  · replace hm := if_t hm h1
    refine j_iload C 4 dX2_holds_154 rfl ?_
    refine j_if_eq C (tgt := 168) dX2_holds_156 (by decide) (fun h2 => ?_) (fun h2 => ?_)
    · replace hm := if_t hm h2
      refine j_sub [] rfl ?_
      exact tj_X2_holds_168 C _ _  hm
    · replace hm := if_f hm h2
      refine j_aload_n C 0 dX2_holds_159 rfl ?_
      obtain ⟨q3, h4, hm⟩ := bd_some hm
      refine j_getR C fg_X2_28_2 hv0 (dr_spec h4).1 dX2_holds_160 ?_
      refine j_iconst C (v := 0) dX2_holds_163 rfl ?_
      obtain ⟨h5, hm⟩ := gd_some hm
      refine j_iald C ((dr_spec h4).2) h5 dX2_holds_164 ?_
      refine j_if_eq C (tgt := 172) dX2_holds_165 (by decide) (fun h6 => ?_) (fun h6 => ?_)
      · replace hm := if_t hm h6
        refine j_iconst C (v := 0) dX2_holds_172 rfl ?_
        refine j_sub [] rfl ?_
        exact tj_X2_holds_173 C _ _ _  hm
      · replace hm := if_f hm h6
        refine j_sub [] rfl ?_
        exact tj_X2_holds_168 C _ _  hm
  · replace hm := if_f hm h1
    refine j_aload_n C 0 dX2_holds_12 rfl ?_
    obtain ⟨q7, h8, hm⟩ := bd_some hm
    refine j_getR C fg_X2_25_2 hv0 (dr_spec h8).1 dX2_holds_13 ?_
    refine j_iload C 5 dX2_holds_16 rfl ?_
    obtain ⟨h9, hm⟩ := gd_some hm
    refine j_iald C ((dr_spec h8).2) h9 dX2_holds_18 ?_
    obtain ⟨y10, e11, hm⟩ := lt_some hm
    refine j_topi e11 ?_
    refine j_istore C (lv' := [(7, .int y10), (0, .ref v0), (2, .int v2), (3, .ref v3), (4, .int v4), (5, .int v5), (6, .int v6)]) dX2_holds_19 (by decide) rfl ?_
    refine j_iload C 0 dX2_holds_21 rfl ?_
    refine j_bipush C (v := -11) dX2_holds_23 rfl ?_
    refine j_icmp_ne C (tgt := 57) dX2_holds_25 (by decide) (fun h12 => ?_) (fun h12 => ?_)
    · replace hm := if_f hm h12
      refine j_sub [1, 2, 3, 4, 5, 6, 0] rfl ?_
      exact tj_X2_holds_57 C _ _ _ _ _ _ _ _ _ _ hk6 hv0 hv3 hm
    · replace hm := if_t hm h12
      refine j_iload C 5 dX2_holds_28 rfl ?_
      refine j_iconst C (v := 1) dX2_holds_30 rfl ?_
      refine j_icmp_lt C (tgt := 57) dX2_holds_31 (by decide) (fun h13 => ?_) (fun h13 => ?_)
      · replace hm := if_t hm h13
        refine j_sub [1, 2, 3, 4, 5, 6, 0] rfl ?_
        exact tj_X2_holds_57 C _ _ _ _ _ _ _ _ _ _ hk6 hv0 hv3 hm
      · replace hm := if_f hm h13
        refine j_aload_n C 1 dX2_holds_34 rfl ?_
        obtain ⟨q14, h15, hm⟩ := bd_some hm
        refine j_getR C fg_X2_28_2 hv0 (dr_spec h15).1 dX2_holds_35 ?_
        refine j_iload C 5 dX2_holds_38 rfl ?_
        refine j_iconst C (v := 1) dX2_holds_40 rfl ?_
        refine j_isub C dX2_holds_41 ?_
        refine j_iconst C (v := 1) dX2_holds_42 rfl ?_
        refine j_aload_n C 1 dX2_holds_43 rfl ?_
        obtain ⟨q16, h17, hm⟩ := bd_some hm
        refine j_getR C fg_X2_28_2 hv0 (dr_spec h17).1 dX2_holds_44 ?_
        refine j_iload C 5 dX2_holds_47 rfl ?_
        refine j_iconst C (v := 1) dX2_holds_49 rfl ?_
        refine j_isub C dX2_holds_50 ?_
        obtain ⟨h18, hm⟩ := gd_some hm
        refine j_iald C ((dr_spec h17).2) h18 dX2_holds_51 ?_
        refine j_isub C dX2_holds_52 ?_
        obtain ⟨h19, hm⟩ := gd_some hm
        obtain ⟨μ20, e21, hm⟩ := lt_some hm
        refine j_iast C ((dr_spec h15).2) h19 e21 dX2_holds_53 ?_
        refine j_goto C (tgt := 148) dX2_holds_54 (by decide) ?_
        refine j_sub [1, 2, 3, 4, 5, 6] rfl ?_
        exact tj_X2_holds_148 C _ _ _ _ _ _ _ _ _ hk6 hv0 hv3 hm
set_option maxRecDepth 20000 in
set_option maxHeartbeats 4000000 in
theorem tl_X2_holds_6 {x : Ctx} {Λ : Lay} (C : Cx x cX2_holds 8 (some .boolean) RX2 Λ rm_X2_holds) (N : Nat) (v0 : Nat) (v2 : Int32) (v3 : Nat) (v4 : Int32) (hv0 : inL Λ v0 2) (hv3 : inL Λ v3 8) (s : Int32 × Int32 × Mem) {r : Int32 × Mem} (hm : lp_X2_holds_6 N Λ v0 v2 v3 v4 s = some r) : J x 8 Λ (QI x Λ r.1 r.2) 6 [(0, .ref v0), (2, .int v2), (3, .ref v3), (4, .int v4), (5, .int s.1), (6, .int s.2.1)] [] (s.2.2) :=
  cw_ind (P := fun s r => J x 8 Λ (QI x Λ r.1 r.2) 6 [(0, .ref v0), (2, .int v2), (3, .ref v3), (4, .int v4), (5, .int s.1), (6, .int s.2.1)] [] (s.2.2)) (fun k hkk s r e => tb_X2_holds_6 C _ _ _ _ _ _ _ _ _ hkk hv0 hv3 e) N s r hm
set_option maxRecDepth 20000 in
set_option maxHeartbeats 4000000 in
theorem tm_X2_holds {x : Ctx} {Λ : Lay} (C : Cx x cX2_holds 8 (some .boolean) RX2 Λ rm_X2_holds) (N : Nat) (μ : Mem) (v0 : Nat) (v1 : Int32) (v2 : Int32) (v3 : Nat) (v4 : Int32) (hv0 : inL Λ v0 2) (hv3 : inL Λ v3 8) {r : Int32 × Mem} (hm : m_X2_holds N Λ μ v0 v1 v2 v3 v4 = some r) : J x 8 Λ (QI x Λ r.1 r.2) 0 [(0, .ref v0), (1, .int v1), (2, .int v2), (3, .ref v3), (4, .int v4)] [] μ := by
  refine j_iconst C (v := 0) dX2_holds_0 rfl ?_
  refine j_istore C (lv' := [(5, .int 0), (0, .ref v0), (1, .int v1), (2, .int v2), (3, .ref v3), (4, .int v4)]) dX2_holds_1 (by decide) rfl ?_
  refine j_iload_n C 2 dX2_holds_3 rfl ?_
  refine j_istore C (lv' := [(6, .int v1), (5, .int 0), (0, .ref v0), (1, .int v1), (2, .int v2), (3, .ref v3), (4, .int v4)]) dX2_holds_4 (by decide) rfl ?_
  refine j_sub [2, 4, 5, 6, 1, 0] rfl ?_
  exact tl_X2_holds_6 C _ _ _ _ _ hv0 hv3 (0, v1, μ) hm
set_option maxRecDepth 20000 in
set_option maxHeartbeats 4000000 in
theorem mc_X2_holds (l : Launch) (N : Nat) (Λ : Lay) (μ : Mem) (v0 : Nat) (v1 : Int32) (v2 : Int32) (v3 : Nat) (v4 : Int32) (hv0 : inL Λ v0 2) (hv3 : inL Λ v3 8) {r : Int32 × Mem} (hm : m_X2_holds N Λ μ v0 v1 v2 v3 v4 = some r) : MI l yX2_holds cX2_holds 8 (some .boolean) rm_X2_holds Λ [.ref v0, .int v1, .int v2, .ref v3, .int v4] μ r.1 r.2 := mi_of rfl (Nat.le_of_ble_eq_true rfl) (fun x C _ => tm_X2_holds C _ _ _ _ _ _ _ hv0 hv3 hm)
abbrev rm_X2_sumOf : Room := { frames := 2, cells := 0, slots := 0, locals := 51 }
set_option maxRecDepth 20000 in
set_option maxHeartbeats 4000000 in
theorem tj_X2_sumOf_59 {x : Ctx} {Λ : Lay} (C : Cx x cX2_sumOf 7 (some .int) RX2 Λ rm_X2_sumOf) (N : Nat) (μ : Mem) (k9 : Int32 × Int32 × Int32 × Mem → Option (Int32 × Mem)) (v0 : Nat) (v1 : Int32) (v2 : Nat) (v3 : Int32) (v4 : Int32) (v6 : Int32) (hk9 : ∀ (s : Int32 × Int32 × Int32 × Mem) (r : Int32 × Mem), k9 s = some r → J x 7 Λ (QI x Λ r.1 r.2) 9 [(0, .ref v0), (1, .int v1), (2, .ref v2), (3, .int v3), (4, .int s.1), (5, .int s.2.1), (6, .int s.2.2.1)] [] (s.2.2.2)) (hv0 : inL Λ v0 2) (hv2 : inL Λ v2 8) {r : Int32 × Mem} (hm : jn_X2_sumOf_59 N Λ μ k9 v0 v1 v2 v3 v4 v6 = some r) : J x 7 Λ (QI x Λ r.1 r.2) 59 [(0, .ref v0), (1, .int v1), (2, .ref v2), (3, .int v3), (4, .int v4), (6, .int v6)] [] μ := by
  refine j_aload_n C 0 dX2_sumOf_59 rfl ?_
  obtain ⟨q1, h2, hm⟩ := bd_some hm
  refine j_getR C fg_X2_22_2 hv0 (dr_spec h2).1 dX2_sumOf_60 ?_
  refine j_iload C 5 dX2_sumOf_63 rfl ?_
  obtain ⟨h3, hm⟩ := gd_some hm
  refine j_iald C ((dr_spec h2).2) h3 dX2_sumOf_65 ?_
  obtain ⟨y4, e5, hm⟩ := lt_some hm
  refine j_topi e5 ?_
  refine j_istore C (lv' := [(5, .int y4), (0, .ref v0), (1, .int v1), (2, .ref v2), (3, .int v3), (4, .int v4), (6, .int v6)]) dX2_sumOf_66 (by decide) rfl ?_
  obtain ⟨y6, e7, hm⟩ := lt_some hm
  refine j_iinc C 6 (v := y6) (lv' := [(6, .int y6), (5, .int y4), (0, .ref v0), (1, .int v1), (2, .ref v2), (3, .int v3), (4, .int v4)]) dX2_sumOf_68 rfl (by rw [e7]; rfl) (by decide) rfl ?_
  refine j_goto C (tgt := 9) dX2_sumOf_71 (by decide) ?_
  refine j_sub [2, 3, 4, 5, 6, 1, 0] rfl ?_
  exact hk9 (v4, y4, y6, μ) _ hm
set_option maxRecDepth 20000 in
set_option maxHeartbeats 4000000 in
theorem tb_X2_sumOf_9 {x : Ctx} {Λ : Lay} (C : Cx x cX2_sumOf 7 (some .int) RX2 Λ rm_X2_sumOf) (N : Nat) (μ : Mem) (k9 : Int32 × Int32 × Int32 × Mem → Option (Int32 × Mem)) (v0 : Nat) (v1 : Int32) (v2 : Nat) (v3 : Int32) (v4 : Int32) (v5 : Int32) (v6 : Int32) (hk9 : ∀ (s : Int32 × Int32 × Int32 × Mem) (r : Int32 × Mem), k9 s = some r → J x 7 Λ (QI x Λ r.1 r.2) 9 [(0, .ref v0), (1, .int v1), (2, .ref v2), (3, .int v3), (4, .int s.1), (5, .int s.2.1), (6, .int s.2.2.1)] [] (s.2.2.2)) (hv0 : inL Λ v0 2) (hv2 : inL Λ v2 8) {r : Int32 × Mem} (hm : bd_X2_sumOf_9 N Λ μ k9 v0 v1 v2 v3 v4 v5 v6 = some r) : J x 7 Λ (QI x Λ r.1 r.2) 9 [(0, .ref v0), (1, .int v1), (2, .ref v2), (3, .int v3), (4, .int v4), (5, .int v5), (6, .int v6)] [] μ := by
  refine j_iload C 6 dX2_sumOf_9 rfl ?_
  refine j_aload_n C 0 dX2_sumOf_11 rfl ?_
  refine j_getI C fg_X2_9_2 hv0 dX2_sumOf_12 ?_
  refine j_icmp_ge C (tgt := 74) dX2_sumOf_15 (by decide) (fun h1 => ?_) (fun h1 => ?_)
  · replace hm := if_t hm h1
    refine j_iload C 4 dX2_sumOf_74 rfl ?_
    obtain rfl := Option.some.inj hm
    exact j_ireti C dX2_sumOf_76
  · replace hm := if_f hm h1
    refine j_aload_n C 0 dX2_sumOf_18 rfl ?_
    obtain ⟨q2, h3, hm⟩ := bd_some hm
    refine j_getR C fg_X2_15_2 hv0 (dr_spec h3).1 dX2_sumOf_19 ?_
    refine j_iload C 6 dX2_sumOf_22 rfl ?_
    obtain ⟨h4, hm⟩ := gd_some hm
    refine j_iald C ((dr_spec h3).2) h4 dX2_sumOf_24 ?_
    refine j_iload_n C 1 dX2_sumOf_25 rfl ?_
    refine j_icmp_ne C (tgt := 59) dX2_sumOf_26 (by decide) (fun h5 => ?_) (fun h5 => ?_)
    · replace hm := if_f hm h5
      refine j_sub [0, 1, 2, 3, 4, 6] rfl ?_
      exact tj_X2_sumOf_59 C _ _ _ _ _ _ _ _ _ hk9 hv0 hv2 hm
    · replace hm := if_t hm h5
      refine j_aload_n C 0 dX2_sumOf_29 rfl ?_
      refine j_iload C 5 dX2_sumOf_30 rfl ?_
      refine j_aload_n C 0 dX2_sumOf_32 rfl ?_
      obtain ⟨q6, h7, hm⟩ := bd_some hm
      refine j_getR C fg_X2_22_2 hv0 (dr_spec h7).1 dX2_sumOf_33 ?_
      refine j_iload C 6 dX2_sumOf_36 rfl ?_
      obtain ⟨h8, hm⟩ := gd_some hm
      refine j_iald C ((dr_spec h7).2) h8 dX2_sumOf_38 ?_
      refine j_aload_n C 2 dX2_sumOf_39 rfl ?_
      refine j_iload_n C 3 dX2_sumOf_40 rfl ?_
      obtain ⟨r9, h10, hm⟩ := bd_some hm
      refine call_I (run_LV C lk_X2_40 ⟨rfl, rfl, Nat.le_of_ble_eq_true rfl, Nat.le_of_ble_eq_true rfl⟩ (As := [.int v5, .int (μ.1 q6 v6.toNatClampNeg), .ref v2, .int v3]) hv0 rfl rfl (Nat.le_of_ble_eq_true rfl) dX2_sumOf_41 (mc_X2_holds _ _ _ _ _ _ _ _ _ hv0 hv2 h10)) ?_
      refine j_if_eq C (tgt := 59) dX2_sumOf_44 (by decide) (fun h11 => ?_) (fun h11 => ?_)
      · replace hm := if_t hm h11
        refine j_sub [0, 1, 2, 3, 4, 6] rfl ?_
        exact tj_X2_sumOf_59 C _ _ _ _ _ _ _ _ _ hk9 hv0 hv2 hm
      · replace hm := if_f hm h11
        refine j_iload C 4 dX2_sumOf_47 rfl ?_
        refine j_aload_n C 0 dX2_sumOf_49 rfl ?_
        obtain ⟨q12, h13, hm⟩ := bd_some hm
        refine j_getR C fg_X2_19_2 hv0 (dr_spec h13).1 dX2_sumOf_50 ?_
        refine j_iload C 6 dX2_sumOf_53 rfl ?_
        obtain ⟨h14, hm⟩ := gd_some hm
        refine j_iald C ((dr_spec h13).2) h14 dX2_sumOf_55 ?_
        refine j_iadd C dX2_sumOf_56 ?_
        obtain ⟨y15, e16, hm⟩ := lt_some hm
        refine j_topi e16 ?_
        refine j_istore C (lv' := [(4, .int y15), (0, .ref v0), (1, .int v1), (2, .ref v2), (3, .int v3), (5, .int v5), (6, .int v6)]) dX2_sumOf_57 (by decide) rfl ?_
        refine j_sub [1, 2, 3, 4, 0, 6] rfl ?_
        exact tj_X2_sumOf_59 C _ _ _ _ _ _ _ _ _ hk9 hv0 hv2 hm
set_option maxRecDepth 20000 in
set_option maxHeartbeats 4000000 in
theorem tl_X2_sumOf_9 {x : Ctx} {Λ : Lay} (C : Cx x cX2_sumOf 7 (some .int) RX2 Λ rm_X2_sumOf) (N : Nat) (v0 : Nat) (v1 : Int32) (v2 : Nat) (v3 : Int32) (hv0 : inL Λ v0 2) (hv2 : inL Λ v2 8) (s : Int32 × Int32 × Int32 × Mem) {r : Int32 × Mem} (hm : lp_X2_sumOf_9 N Λ v0 v1 v2 v3 s = some r) : J x 7 Λ (QI x Λ r.1 r.2) 9 [(0, .ref v0), (1, .int v1), (2, .ref v2), (3, .int v3), (4, .int s.1), (5, .int s.2.1), (6, .int s.2.2.1)] [] (s.2.2.2) :=
  cw_ind (P := fun s r => J x 7 Λ (QI x Λ r.1 r.2) 9 [(0, .ref v0), (1, .int v1), (2, .ref v2), (3, .int v3), (4, .int s.1), (5, .int s.2.1), (6, .int s.2.2.1)] [] (s.2.2.2)) (fun k hkk s r e => tb_X2_sumOf_9 C _ _ _ _ _ _ _ _ _ _ hkk hv0 hv2 e) N s r hm
set_option maxRecDepth 20000 in
set_option maxHeartbeats 4000000 in
theorem tm_X2_sumOf {x : Ctx} {Λ : Lay} (C : Cx x cX2_sumOf 7 (some .int) RX2 Λ rm_X2_sumOf) (N : Nat) (μ : Mem) (v0 : Nat) (v1 : Int32) (v2 : Nat) (v3 : Int32) (hv0 : inL Λ v0 2) (hv2 : inL Λ v2 8) {r : Int32 × Mem} (hm : m_X2_sumOf N Λ μ v0 v1 v2 v3 = some r) : J x 7 Λ (QI x Λ r.1 r.2) 0 [(0, .ref v0), (1, .int v1), (2, .ref v2), (3, .int v3)] [] μ := by
  refine j_iconst C (v := 0) dX2_sumOf_0 rfl ?_
  refine j_istore C (lv' := [(4, .int 0), (0, .ref v0), (1, .int v1), (2, .ref v2), (3, .int v3)]) dX2_sumOf_1 (by decide) rfl ?_
  refine j_iconst C (v := 0) dX2_sumOf_3 rfl ?_
  refine j_istore C (lv' := [(5, .int 0), (4, .int 0), (0, .ref v0), (1, .int v1), (2, .ref v2), (3, .int v3)]) dX2_sumOf_4 (by decide) rfl ?_
  refine j_iconst C (v := 0) dX2_sumOf_6 rfl ?_
  refine j_istore C (lv' := [(6, .int 0), (5, .int 0), (4, .int 0), (0, .ref v0), (1, .int v1), (2, .ref v2), (3, .int v3)]) dX2_sumOf_7 (by decide) rfl ?_
  refine j_sub [3, 4, 5, 6, 2, 1, 0] rfl ?_
  exact tl_X2_sumOf_9 C _ _ _ _ _ hv0 hv2 (0, 0, 0, μ) hm
set_option maxRecDepth 20000 in
set_option maxHeartbeats 4000000 in
theorem mc_X2_sumOf (l : Launch) (N : Nat) (Λ : Lay) (μ : Mem) (v0 : Nat) (v1 : Int32) (v2 : Nat) (v3 : Int32) (hv0 : inL Λ v0 2) (hv2 : inL Λ v2 8) {r : Int32 × Mem} (hm : m_X2_sumOf N Λ μ v0 v1 v2 v3 = some r) : MI l yX2_sumOf cX2_sumOf 7 (some .int) rm_X2_sumOf Λ [.ref v0, .int v1, .ref v2, .int v3] μ r.1 r.2 := mi_of rfl (Nat.le_of_ble_eq_true rfl) (fun x C _ => tm_X2_sumOf C _ _ _ _ _ _ hv0 hv2 hm)
abbrev rm_X4_copy : Room := { frames := 1, cells := 0, slots := 0, locals := 60 }
set_option maxRecDepth 20000 in
set_option maxHeartbeats 4000000 in
theorem tm_X4_copy {x : Ctx} {Λ : Lay} (C : Cx x cX4_copy 2 none RX4 Λ rm_X4_copy) (N : Nat) (μ : Mem) (v0 : Nat) (v1 : Nat) (hv0 : inL Λ v0 4) (hv1 : inL Λ v1 4) {r : Mem} (hm : m_X4_copy N Λ μ v0 v1 = some r) : J x 2 Λ (QV x Λ r) 0 [(0, .ref v0), (1, .ref v1)] [] μ := by
  refine j_aload_n C 0 dX4_copy_0 rfl ?_
  refine j_aload_n C 1 dX4_copy_1 rfl ?_
  refine j_getI C fg_X4_15_4 hv1 dX4_copy_2 ?_
  obtain ⟨μ1, e2, hm⟩ := lt_some hm
  refine j_putI C fp_X4_15_4 hv0 e2 dX4_copy_5 ?_
  refine j_aload_n C 0 dX4_copy_8 rfl ?_
  refine j_aload_n C 1 dX4_copy_9 rfl ?_
  refine j_getI C fg_X4_19_4 hv1 dX4_copy_10 ?_
  obtain ⟨μ3, e4, hm⟩ := lt_some hm
  refine j_putI C fp_X4_19_4 hv0 e4 dX4_copy_13 ?_
  refine j_aload_n C 1 dX4_copy_16 rfl ?_
  obtain ⟨q5, h6, hm⟩ := bd_some hm
  refine j_getR C fg_X4_11_4 hv1 (dr_spec h6).1 dX4_copy_17 ?_
  refine j_iconst C (v := 0) dX4_copy_20 rfl ?_
  refine j_aload_n C 0 dX4_copy_21 rfl ?_
  obtain ⟨q7, h8, hm⟩ := bd_some hm
  refine j_getR C fg_X4_11_4 hv0 (dr_spec h8).1 dX4_copy_22 ?_
  refine j_iconst C (v := 0) dX4_copy_25 rfl ?_
  refine j_sipush C (v := 300) dX4_copy_26 rfl ?_
  obtain ⟨h9, hm⟩ := gd_some hm
  obtain ⟨μ10, e11, hm⟩ := lt_some hm
  refine j_acopy C wk_567 ⟨Nat.le_of_ble_eq_true rfl, Nat.le_of_ble_eq_true rfl⟩ ((dr_spec h6).2) ((dr_spec h8).2) h9 e11 dX4_copy_29 ?_
  obtain rfl := Option.some.inj hm
  exact j_vret C dX4_copy_32
set_option maxRecDepth 20000 in
set_option maxHeartbeats 4000000 in
theorem mc_X4_copy (l : Launch) (N : Nat) (Λ : Lay) (μ : Mem) (v0 : Nat) (v1 : Nat) (hv0 : inL Λ v0 4) (hv1 : inL Λ v1 4) {r : Mem} (hm : m_X4_copy N Λ μ v0 v1 = some r) : MV l yX4_copy cX4_copy 2 rm_X4_copy Λ [.ref v0, .ref v1] μ r := mv_of rfl (Nat.le_of_ble_eq_true rfl) (fun x C _ => tm_X4_copy C _ _ _ _ hv0 hv1 hm)
abbrev rm_X4_add : Room := { frames := 1, cells := 0, slots := 0, locals := 60 }
set_option maxRecDepth 20000 in
set_option maxHeartbeats 4000000 in
theorem tm_X4_add {x : Ctx} {Λ : Lay} (C : Cx x cX4_add 7 none RX4 Λ rm_X4_add) (N : Nat) (μ : Mem) (v0 : Nat) (v1 : Int32) (v2 : Int32) (v3 : Int32) (v4 : Int32) (v5 : Int32) (hv0 : inL Λ v0 4) {r : Mem} (hm : m_X4_add N Λ μ v0 v1 v2 v3 v4 v5 = some r) : J x 7 Λ (QV x Λ r) 0 [(0, .ref v0), (1, .int v1), (2, .int v2), (3, .int v3), (4, .int v4), (5, .int v5)] [] μ := by
  refine j_aload_n C 0 dX4_add_0 rfl ?_
  refine j_getI C fg_X4_19_4 hv0 dX4_add_1 ?_
  refine j_iconst C (v := 5) dX4_add_4 rfl ?_
  refine j_imul C dX4_add_5 ?_
  obtain ⟨y1, e2, hm⟩ := lt_some hm
  refine j_topi e2 ?_
  refine j_istore C (lv' := [(6, .int y1), (0, .ref v0), (1, .int v1), (2, .int v2), (3, .int v3), (4, .int v4), (5, .int v5)]) dX4_add_6 (by decide) rfl ?_
  refine j_aload_n C 1 dX4_add_8 rfl ?_
  obtain ⟨q3, h4, hm⟩ := bd_some hm
  refine j_getR C fg_X4_11_4 hv0 (dr_spec h4).1 dX4_add_9 ?_
  refine j_iload C 0 dX4_add_12 rfl ?_
  refine j_iload_n C 2 dX4_add_14 rfl ?_
  obtain ⟨h5, hm⟩ := gd_some hm
  obtain ⟨μ6, e7, hm⟩ := lt_some hm
  refine j_iast C ((dr_spec h4).2) h5 e7 dX4_add_15 ?_
  refine j_aload_n C 1 dX4_add_16 rfl ?_
  obtain ⟨q8, h9, hm⟩ := bd_some hm
  refine j_getR C fg_X4_11_4 hv0 (dr_spec h9).1 dX4_add_17 ?_
  refine j_iload C 0 dX4_add_20 rfl ?_
  refine j_iconst C (v := 1) dX4_add_22 rfl ?_
  refine j_iadd C dX4_add_23 ?_
  refine j_iload_n C 3 dX4_add_24 rfl ?_
  obtain ⟨h10, hm⟩ := gd_some hm
  obtain ⟨μ11, e12, hm⟩ := lt_some hm
  refine j_iast C ((dr_spec h9).2) h10 e12 dX4_add_25 ?_
  refine j_aload_n C 1 dX4_add_26 rfl ?_
  obtain ⟨q13, h14, hm⟩ := bd_some hm
  refine j_getR C fg_X4_11_4 hv0 (dr_spec h14).1 dX4_add_27 ?_
  refine j_iload C 0 dX4_add_30 rfl ?_
  refine j_iconst C (v := 2) dX4_add_32 rfl ?_
  refine j_iadd C dX4_add_33 ?_
  refine j_iload_n C 4 dX4_add_34 rfl ?_
  obtain ⟨h15, hm⟩ := gd_some hm
  obtain ⟨μ16, e17, hm⟩ := lt_some hm
  refine j_iast C ((dr_spec h14).2) h15 e17 dX4_add_35 ?_
  refine j_aload_n C 1 dX4_add_36 rfl ?_
  obtain ⟨q18, h19, hm⟩ := bd_some hm
  refine j_getR C fg_X4_11_4 hv0 (dr_spec h19).1 dX4_add_37 ?_
  refine j_iload C 0 dX4_add_40 rfl ?_
  refine j_iconst C (v := 3) dX4_add_42 rfl ?_
  refine j_iadd C dX4_add_43 ?_
  refine j_iload C 5 dX4_add_44 rfl ?_
  obtain ⟨h20, hm⟩ := gd_some hm
  obtain ⟨μ21, e22, hm⟩ := lt_some hm
  refine j_iast C ((dr_spec h19).2) h20 e22 dX4_add_46 ?_
  refine j_aload_n C 1 dX4_add_47 rfl ?_
  obtain ⟨q23, h24, hm⟩ := bd_some hm
  refine j_getR C fg_X4_11_4 hv0 (dr_spec h24).1 dX4_add_48 ?_
  refine j_iload C 0 dX4_add_51 rfl ?_
  refine j_iconst C (v := 4) dX4_add_53 rfl ?_
  refine j_iadd C dX4_add_54 ?_
  refine j_iload C 6 dX4_add_55 rfl ?_
  obtain ⟨h25, hm⟩ := gd_some hm
  obtain ⟨μ26, e27, hm⟩ := lt_some hm
  refine j_iast C ((dr_spec h24).2) h25 e27 dX4_add_57 ?_
  refine j_aload_n C 1 dX4_add_58 rfl ?_
  refine j_aload_n C 1 dX4_add_59 rfl ?_
  refine j_getI C fg_X4_19_4 hv0 dX4_add_60 ?_
  refine j_iconst C (v := 1) dX4_add_63 rfl ?_
  refine j_iadd C dX4_add_64 ?_
  refine j_bipush C (v := 60) dX4_add_65 rfl ?_
  refine j_irem C dX4_add_67 (by decide) ?_
  obtain ⟨μ28, e29, hm⟩ := lt_some hm
  refine j_putI C fp_X4_19_4 hv0 e29 dX4_add_68 ?_
  refine j_aload_n C 1 dX4_add_71 rfl ?_
  refine j_aload_n C 1 dX4_add_72 rfl ?_
  refine j_getI C fg_X4_15_4 hv0 dX4_add_73 ?_
  refine j_iconst C (v := 1) dX4_add_76 rfl ?_
  refine j_iadd C dX4_add_77 ?_
  refine j_bipush C (v := 60) dX4_add_78 rfl ?_
  refine j_mmin C wk_614 ⟨Nat.le_of_ble_eq_true rfl, Nat.le_of_ble_eq_true rfl⟩ dX4_add_80 ?_
  obtain ⟨μ30, e31, hm⟩ := lt_some hm
  refine j_putI C fp_X4_15_4 hv0 e31 dX4_add_83 ?_
  obtain rfl := Option.some.inj hm
  exact j_vret C dX4_add_86
set_option maxRecDepth 20000 in
set_option maxHeartbeats 4000000 in
theorem mc_X4_add (l : Launch) (N : Nat) (Λ : Lay) (μ : Mem) (v0 : Nat) (v1 : Int32) (v2 : Int32) (v3 : Int32) (v4 : Int32) (v5 : Int32) (hv0 : inL Λ v0 4) {r : Mem} (hm : m_X4_add N Λ μ v0 v1 v2 v3 v4 v5 = some r) : MV l yX4_add cX4_add 7 rm_X4_add Λ [.ref v0, .int v1, .int v2, .int v3, .int v4, .int v5] μ r := mv_of rfl (Nat.le_of_ble_eq_true rfl) (fun x C _ => tm_X4_add C _ _ _ _ _ _ _ _ hv0 hm)
abbrev rm_X4_cell : Room := { frames := 0, cells := 0, slots := 0, locals := 0 }
set_option maxRecDepth 20000 in
set_option maxHeartbeats 4000000 in
theorem tj_X4_cell_21 {x : Ctx} {Λ : Lay} (C : Cx x cX4_cell 3 (some .int) RX4 Λ rm_X4_cell) (N : Nat) (μ : Mem) {r : Int32} (hm : jn_X4_cell_21 N Λ μ = some r) : J x 3 Λ (QI x Λ r μ) 21 [] [] μ := by
  refine j_iconst C (v := -1) dX4_cell_21 rfl ?_
  obtain rfl := Option.some.inj hm
  exact j_ireti C dX4_cell_22
set_option maxRecDepth 20000 in
set_option maxHeartbeats 4000000 in
theorem tm_X4_cell {x : Ctx} {Λ : Lay} (C : Cx x cX4_cell 3 (some .int) RX4 Λ rm_X4_cell) (N : Nat) (μ : Mem) (v0 : Nat) (v1 : Int32) (v2 : Int32) (hv0 : inL Λ v0 4) {r : Int32} (hm : m_X4_cell N Λ μ v0 v1 v2 = some r) : J x 3 Λ (QI x Λ r μ) 0 [(0, .ref v0), (1, .int v1), (2, .int v2)] [] μ := by
  refine j_iload_n C 1 dX4_cell_0 rfl ?_
  refine j_if_lt C (tgt := 21) dX4_cell_1 (by decide) (fun h1 => ?_) (fun h1 => ?_)
  · replace hm := if_t hm h1
    refine j_sub [] rfl ?_
    exact tj_X4_cell_21 C _ _  hm
  · replace hm := if_f hm h1
    refine j_iload_n C 1 dX4_cell_4 rfl ?_
    refine j_aload_n C 0 dX4_cell_5 rfl ?_
    refine j_getI C fg_X4_15_4 hv0 dX4_cell_6 ?_
    refine j_icmp_ge C (tgt := 21) dX4_cell_9 (by decide) (fun h2 => ?_) (fun h2 => ?_)
    · replace hm := if_t hm h2
      refine j_sub [] rfl ?_
      exact tj_X4_cell_21 C _ _  hm
    · replace hm := if_f hm h2
      refine j_iload_n C 2 dX4_cell_12 rfl ?_
      refine j_if_lt C (tgt := 21) dX4_cell_13 (by decide) (fun h3 => ?_) (fun h3 => ?_)
      · replace hm := if_t hm h3
        refine j_sub [] rfl ?_
        exact tj_X4_cell_21 C _ _  hm
      · replace hm := if_f hm h3
        refine j_iload_n C 2 dX4_cell_16 rfl ?_
        refine j_iconst C (v := 5) dX4_cell_17 rfl ?_
        refine j_icmp_lt C (tgt := 23) dX4_cell_18 (by decide) (fun h4 => ?_) (fun h4 => ?_)
        · replace hm := if_t hm h4
          refine j_aload_n C 0 dX4_cell_23 rfl ?_
          obtain ⟨q5, h6, hm⟩ := bd_some hm
          refine j_getR C fg_X4_11_4 hv0 (dr_spec h6).1 dX4_cell_24 ?_
          refine j_aload_n C 0 dX4_cell_27 rfl ?_
          refine j_getI C fg_X4_19_4 hv0 dX4_cell_28 ?_
          refine j_bipush C (v := 60) dX4_cell_31 rfl ?_
          refine j_iadd C dX4_cell_33 ?_
          refine j_iconst C (v := 1) dX4_cell_34 rfl ?_
          refine j_isub C dX4_cell_35 ?_
          refine j_iload_n C 1 dX4_cell_36 rfl ?_
          refine j_isub C dX4_cell_37 ?_
          refine j_bipush C (v := 60) dX4_cell_38 rfl ?_
          refine j_irem C dX4_cell_40 (by decide) ?_
          refine j_iconst C (v := 5) dX4_cell_41 rfl ?_
          refine j_imul C dX4_cell_42 ?_
          refine j_iload_n C 2 dX4_cell_43 rfl ?_
          refine j_iadd C dX4_cell_44 ?_
          obtain ⟨h7, hm⟩ := gd_some hm
          refine j_iald C ((dr_spec h6).2) h7 dX4_cell_45 ?_
          obtain rfl := Option.some.inj hm
          exact j_ireti C dX4_cell_46
        · replace hm := if_f hm h4
          refine j_sub [] rfl ?_
          exact tj_X4_cell_21 C _ _  hm
set_option maxRecDepth 20000 in
set_option maxHeartbeats 4000000 in
theorem mc_X4_cell (l : Launch) (N : Nat) (Λ : Lay) (μ : Mem) (v0 : Nat) (v1 : Int32) (v2 : Int32) (hv0 : inL Λ v0 4) {r : Int32} (hm : m_X4_cell N Λ μ v0 v1 v2 = some r) : MI l yX4_cell cX4_cell 3 (some .int) rm_X4_cell Λ [.ref v0, .int v1, .int v2] μ r μ := mi_of rfl (Nat.le_of_ble_eq_true rfl) (fun x C _ => tm_X4_cell C _ _ _ _ _ hv0 hm)
abbrev rm_X4_rowsOf : Room := { frames := 1, cells := 0, slots := 0, locals := 22 }
set_option maxRecDepth 20000 in
set_option maxHeartbeats 4000000 in
theorem tj_X4_rowsOf_25 {x : Ctx} {Λ : Lay} (C : Cx x cX4_rowsOf 4 (some .int) RX4 Λ rm_X4_rowsOf) (N : Nat) (μ : Mem) (k4 : Int32 × Int32 → Option (Int32)) (v0 : Nat) (v1 : Int32) (v2 : Int32) (v3 : Int32) (hk4 : ∀ (s : Int32 × Int32) (r : Int32), k4 s = some r → J x 4 Λ (QI x Λ r μ) 4 [(0, .ref v0), (1, .int v1), (2, .int s.1), (3, .int s.2)] [] (μ)) (hv0 : inL Λ v0 4) {r : Int32} (hm : jn_X4_rowsOf_25 N Λ μ k4 v0 v1 v2 v3 = some r) : J x 4 Λ (QI x Λ r μ) 25 [(0, .ref v0), (1, .int v1), (2, .int v2), (3, .int v3)] [] μ := by
  obtain ⟨y1, e2, hm⟩ := lt_some hm
  refine j_iinc C 3 (v := y1) (lv' := [(3, .int y1), (0, .ref v0), (1, .int v1), (2, .int v2)]) dX4_rowsOf_25 rfl (by rw [e2]; rfl) (by decide) rfl ?_
  refine j_goto C (tgt := 4) dX4_rowsOf_28 (by decide) ?_
  refine j_sub [1, 2, 3, 0] rfl ?_
  exact hk4 (v2, y1) _ hm
set_option maxRecDepth 20000 in
set_option maxHeartbeats 4000000 in
theorem tb_X4_rowsOf_4 {x : Ctx} {Λ : Lay} (C : Cx x cX4_rowsOf 4 (some .int) RX4 Λ rm_X4_rowsOf) (N : Nat) (μ : Mem) (k4 : Int32 × Int32 → Option (Int32)) (v0 : Nat) (v1 : Int32) (v2 : Int32) (v3 : Int32) (hk4 : ∀ (s : Int32 × Int32) (r : Int32), k4 s = some r → J x 4 Λ (QI x Λ r μ) 4 [(0, .ref v0), (1, .int v1), (2, .int s.1), (3, .int s.2)] [] (μ)) (hv0 : inL Λ v0 4) {r : Int32} (hm : bd_X4_rowsOf_4 N Λ μ k4 v0 v1 v2 v3 = some r) : J x 4 Λ (QI x Λ r μ) 4 [(0, .ref v0), (1, .int v1), (2, .int v2), (3, .int v3)] [] μ := by
  refine j_iload_n C 3 dX4_rowsOf_4 rfl ?_
  refine j_aload_n C 0 dX4_rowsOf_5 rfl ?_
  refine j_getI C fg_X4_15_4 hv0 dX4_rowsOf_6 ?_
  refine j_icmp_ge C (tgt := 31) dX4_rowsOf_9 (by decide) (fun h1 => ?_) (fun h1 => ?_)
  · replace hm := if_t hm h1
    refine j_iload_n C 2 dX4_rowsOf_31 rfl ?_
    obtain rfl := Option.some.inj hm
    exact j_ireti C dX4_rowsOf_32
  · replace hm := if_f hm h1
    refine j_aload_n C 0 dX4_rowsOf_12 rfl ?_
    refine j_iload_n C 3 dX4_rowsOf_13 rfl ?_
    refine j_iconst C (v := 1) dX4_rowsOf_14 rfl ?_
    obtain ⟨r2, h3, hm⟩ := bd_some hm
    refine call_I (run_LV C lk_X4_34 ⟨rfl, rfl, Nat.le_of_ble_eq_true rfl, Nat.le_of_ble_eq_true rfl⟩ (As := [.int v3, .int 1]) hv0 rfl rfl (Nat.le_of_ble_eq_true rfl) dX4_rowsOf_15 (mc_X4_cell _ _ _ _ _ _ _ hv0 h3)) ?_
    refine j_iload_n C 1 dX4_rowsOf_18 rfl ?_
    refine j_icmp_ne C (tgt := 25) dX4_rowsOf_19 (by decide) (fun h4 => ?_) (fun h4 => ?_)
    · replace hm := if_f hm h4
      exact tj_X4_rowsOf_25 C _ _ _ _ _ _ _ hk4 hv0 hm
    · replace hm := if_t hm h4
      obtain ⟨y5, e6, hm⟩ := lt_some hm
      refine j_iinc C 2 (v := y5) (lv' := [(2, .int y5), (0, .ref v0), (1, .int v1), (3, .int v3)]) dX4_rowsOf_22 rfl (by rw [e6]; rfl) (by decide) rfl ?_
      refine j_sub [1, 2, 0, 3] rfl ?_
      exact tj_X4_rowsOf_25 C _ _ _ _ _ _ _ hk4 hv0 hm
set_option maxRecDepth 20000 in
set_option maxHeartbeats 4000000 in
theorem tl_X4_rowsOf_4 {x : Ctx} {Λ : Lay} (C : Cx x cX4_rowsOf 4 (some .int) RX4 Λ rm_X4_rowsOf) (N : Nat) (μ : Mem) (v0 : Nat) (v1 : Int32) (hv0 : inL Λ v0 4) (s : Int32 × Int32) {r : Int32} (hm : lp_X4_rowsOf_4 N Λ μ v0 v1 s = some r) : J x 4 Λ (QI x Λ r μ) 4 [(0, .ref v0), (1, .int v1), (2, .int s.1), (3, .int s.2)] [] (μ) :=
  cw_ind (P := fun s r => J x 4 Λ (QI x Λ r μ) 4 [(0, .ref v0), (1, .int v1), (2, .int s.1), (3, .int s.2)] [] (μ)) (fun k hkk s r e => tb_X4_rowsOf_4 C _ _ _ _ _ _ _ hkk hv0 e) N s r hm
set_option maxRecDepth 20000 in
set_option maxHeartbeats 4000000 in
theorem tm_X4_rowsOf {x : Ctx} {Λ : Lay} (C : Cx x cX4_rowsOf 4 (some .int) RX4 Λ rm_X4_rowsOf) (N : Nat) (μ : Mem) (v0 : Nat) (v1 : Int32) (hv0 : inL Λ v0 4) {r : Int32} (hm : m_X4_rowsOf N Λ μ v0 v1 = some r) : J x 4 Λ (QI x Λ r μ) 0 [(0, .ref v0), (1, .int v1)] [] μ := by
  refine j_iconst C (v := 0) dX4_rowsOf_0 rfl ?_
  refine j_istore_n C (lv' := [(2, .int 0), (0, .ref v0), (1, .int v1)]) dX4_rowsOf_1 (by decide) rfl ?_
  refine j_iconst C (v := 0) dX4_rowsOf_2 rfl ?_
  refine j_istore_n C (lv' := [(3, .int 0), (2, .int 0), (0, .ref v0), (1, .int v1)]) dX4_rowsOf_3 (by decide) rfl ?_
  refine j_sub [2, 3, 1, 0] rfl ?_
  exact tl_X4_rowsOf_4 C _ _ _ _ hv0 (0, 0) hm
set_option maxRecDepth 20000 in
set_option maxHeartbeats 4000000 in
theorem mc_X4_rowsOf (l : Launch) (N : Nat) (Λ : Lay) (μ : Mem) (v0 : Nat) (v1 : Int32) (hv0 : inL Λ v0 4) {r : Int32} (hm : m_X4_rowsOf N Λ μ v0 v1 = some r) : MI l yX4_rowsOf cX4_rowsOf 4 (some .int) rm_X4_rowsOf Λ [.ref v0, .int v1] μ r μ := mi_of rfl (Nat.le_of_ble_eq_true rfl) (fun x C _ => tm_X4_rowsOf C _ _ _ _ hv0 hm)
abbrev rm_X4_latestHourOf : Room := { frames := 1, cells := 0, slots := 0, locals := 22 }
set_option maxRecDepth 20000 in
set_option maxHeartbeats 4000000 in
theorem tb_X4_latestHourOf_2 {x : Ctx} {Λ : Lay} (C : Cx x cX4_latestHourOf 3 (some .int) RX4 Λ rm_X4_latestHourOf) (N : Nat) (μ : Mem) (k2 : Int32 → Option (Int32)) (v0 : Nat) (v1 : Int32) (v2 : Int32) (hk2 : ∀ (s : Int32) (r : Int32), k2 s = some r → J x 3 Λ (QI x Λ r μ) 2 [(0, .ref v0), (1, .int v1), (2, .int s)] [] (μ)) (hv0 : inL Λ v0 4) {r : Int32} (hm : bd_X4_latestHourOf_2 N Λ μ k2 v0 v1 v2 = some r) : J x 3 Λ (QI x Λ r μ) 2 [(0, .ref v0), (1, .int v1), (2, .int v2)] [] μ := by
  refine j_iload_n C 2 dX4_latestHourOf_2 rfl ?_
  refine j_aload_n C 0 dX4_latestHourOf_3 rfl ?_
  refine j_getI C fg_X4_15_4 hv0 dX4_latestHourOf_4 ?_
  refine j_icmp_ge C (tgt := 33) dX4_latestHourOf_7 (by decide) (fun h1 => ?_) (fun h1 => ?_)
  · replace hm := if_t hm h1
    refine j_iconst C (v := -1) dX4_latestHourOf_33 rfl ?_
    obtain rfl := Option.some.inj hm
    exact j_ireti C dX4_latestHourOf_34
  · replace hm := if_f hm h1
    refine j_aload_n C 0 dX4_latestHourOf_10 rfl ?_
    refine j_iload_n C 2 dX4_latestHourOf_11 rfl ?_
    refine j_iconst C (v := 1) dX4_latestHourOf_12 rfl ?_
    obtain ⟨r2, h3, hm⟩ := bd_some hm
    refine call_I (run_LV C lk_X4_34 ⟨rfl, rfl, Nat.le_of_ble_eq_true rfl, Nat.le_of_ble_eq_true rfl⟩ (As := [.int v2, .int 1]) hv0 rfl rfl (Nat.le_of_ble_eq_true rfl) dX4_latestHourOf_13 (mc_X4_cell _ _ _ _ _ _ _ hv0 h3)) ?_
    refine j_iload_n C 1 dX4_latestHourOf_16 rfl ?_
    refine j_icmp_ne C (tgt := 27) dX4_latestHourOf_17 (by decide) (fun h4 => ?_) (fun h4 => ?_)
    · replace hm := if_f hm h4
      obtain ⟨y5, e6, hm⟩ := lt_some hm
      refine j_iinc C 2 (v := y5) (lv' := [(2, .int y5), (0, .ref v0), (1, .int v1)]) dX4_latestHourOf_27 rfl (by rw [e6]; rfl) (by decide) rfl ?_
      refine j_goto C (tgt := 2) dX4_latestHourOf_30 (by decide) ?_
      refine j_sub [1, 2, 0] rfl ?_
      exact hk2 y5 _ hm
    · replace hm := if_t hm h4
      refine j_aload_n C 0 dX4_latestHourOf_20 rfl ?_
      refine j_iload_n C 2 dX4_latestHourOf_21 rfl ?_
      refine j_iconst C (v := 0) dX4_latestHourOf_22 rfl ?_
      obtain ⟨r7, h8, hm⟩ := bd_some hm
      refine call_I (run_LV C lk_X4_34 ⟨rfl, rfl, Nat.le_of_ble_eq_true rfl, Nat.le_of_ble_eq_true rfl⟩ (As := [.int v2, .int 0]) hv0 rfl rfl (Nat.le_of_ble_eq_true rfl) dX4_latestHourOf_23 (mc_X4_cell _ _ _ _ _ _ _ hv0 h8)) ?_
      obtain rfl := Option.some.inj hm
      exact j_ireti C dX4_latestHourOf_26
set_option maxRecDepth 20000 in
set_option maxHeartbeats 4000000 in
theorem tl_X4_latestHourOf_2 {x : Ctx} {Λ : Lay} (C : Cx x cX4_latestHourOf 3 (some .int) RX4 Λ rm_X4_latestHourOf) (N : Nat) (μ : Mem) (v0 : Nat) (v1 : Int32) (hv0 : inL Λ v0 4) (s : Int32) {r : Int32} (hm : lp_X4_latestHourOf_2 N Λ μ v0 v1 s = some r) : J x 3 Λ (QI x Λ r μ) 2 [(0, .ref v0), (1, .int v1), (2, .int s)] [] (μ) :=
  cw_ind (P := fun s r => J x 3 Λ (QI x Λ r μ) 2 [(0, .ref v0), (1, .int v1), (2, .int s)] [] (μ)) (fun k hkk s r e => tb_X4_latestHourOf_2 C _ _ _ _ _ _ hkk hv0 e) N s r hm
set_option maxRecDepth 20000 in
set_option maxHeartbeats 4000000 in
theorem tm_X4_latestHourOf {x : Ctx} {Λ : Lay} (C : Cx x cX4_latestHourOf 3 (some .int) RX4 Λ rm_X4_latestHourOf) (N : Nat) (μ : Mem) (v0 : Nat) (v1 : Int32) (hv0 : inL Λ v0 4) {r : Int32} (hm : m_X4_latestHourOf N Λ μ v0 v1 = some r) : J x 3 Λ (QI x Λ r μ) 0 [(0, .ref v0), (1, .int v1)] [] μ := by
  refine j_iconst C (v := 0) dX4_latestHourOf_0 rfl ?_
  refine j_istore_n C (lv' := [(2, .int 0), (0, .ref v0), (1, .int v1)]) dX4_latestHourOf_1 (by decide) rfl ?_
  refine j_sub [1, 2, 0] rfl ?_
  exact tl_X4_latestHourOf_2 C _ _ _ _ hv0 0 hm
set_option maxRecDepth 20000 in
set_option maxHeartbeats 4000000 in
theorem mc_X4_latestHourOf (l : Launch) (N : Nat) (Λ : Lay) (μ : Mem) (v0 : Nat) (v1 : Int32) (hv0 : inL Λ v0 4) {r : Int32} (hm : m_X4_latestHourOf N Λ μ v0 v1 = some r) : MI l yX4_latestHourOf cX4_latestHourOf 3 (some .int) rm_X4_latestHourOf Λ [.ref v0, .int v1] μ r μ := mi_of rfl (Nat.le_of_ble_eq_true rfl) (fun x C _ => tm_X4_latestHourOf C _ _ _ _ hv0 hm)
abbrev rm_X10_addFour : Room := { frames := 0, cells := 0, slots := 0, locals := 0 }
set_option maxRecDepth 20000 in
set_option maxHeartbeats 4000000 in
theorem tj_X10_addFour_40 {x : Ctx} {Λ : Lay} (C : Cx x cX10_addFour 3 none RX10 Λ rm_X10_addFour) (N : Nat) (μ : Mem) (k3 : Int32 × Mem → Option (Mem)) (v0 : Nat) (v1 : Int32) (v2 : Int32) (hk3 : ∀ (s : Int32 × Mem) (r : Mem), k3 s = some r → J x 3 Λ (QV x Λ r) 3 [(0, .ref v0), (1, .int v1), (2, .int s.1)] [] (s.2)) (hv0 : inL Λ v0 9) {r : Mem} (hm : jn_X10_addFour_40 N Λ μ k3 v0 v1 v2 = some r) : J x 3 Λ (QV x Λ r) 40 [(0, .ref v0), (1, .int v1), (2, .int v2)] [] μ := by
  obtain ⟨y1, e2, hm⟩ := lt_some hm
  refine j_iinc C 2 (v := y1) (lv' := [(2, .int y1), (0, .ref v0), (1, .int v1)]) dX10_addFour_40 rfl (by rw [e2]; rfl) (by decide) rfl ?_
  refine j_goto C (tgt := 3) dX10_addFour_43 (by decide) ?_
  refine j_sub [1, 2, 0] rfl ?_
  exact hk3 (y1, μ) _ hm
set_option maxRecDepth 20000 in
set_option maxHeartbeats 4000000 in
theorem tb_X10_addFour_3 {x : Ctx} {Λ : Lay} (C : Cx x cX10_addFour 3 none RX10 Λ rm_X10_addFour) (N : Nat) (μ : Mem) (k3 : Int32 × Mem → Option (Mem)) (v0 : Nat) (v1 : Int32) (v2 : Int32) (hk3 : ∀ (s : Int32 × Mem) (r : Mem), k3 s = some r → J x 3 Λ (QV x Λ r) 3 [(0, .ref v0), (1, .int v1), (2, .int s.1)] [] (s.2)) (hv0 : inL Λ v0 9) {r : Mem} (hm : bd_X10_addFour_3 N Λ μ k3 v0 v1 v2 = some r) : J x 3 Λ (QV x Λ r) 3 [(0, .ref v0), (1, .int v1), (2, .int v2)] [] μ := by
  refine j_iload_n C 2 dX10_addFour_3 rfl ?_
  refine j_if_lt C (tgt := 46) dX10_addFour_4 (by decide) (fun h1 => ?_) (fun h1 => ?_)
  · replace hm := if_t hm h1
    obtain rfl := Option.some.inj hm
    exact j_vret C dX10_addFour_46
  · replace hm := if_f hm h1
    refine j_aload_n C 0 dX10_addFour_7 rfl ?_
    refine j_getI C fg_X10_15_9 hv0 dX10_addFour_8 ?_
    refine j_sipush C (v := 400) dX10_addFour_11 rfl ?_
    refine j_icmp_ge C (tgt := 40) dX10_addFour_14 (by decide) (fun h2 => ?_) (fun h2 => ?_)
    · replace hm := if_t hm h2
      exact tj_X10_addFour_40 C _ _ _ _ _ _ hk3 hv0 hm
    · replace hm := if_f hm h2
      refine j_aload_n C 0 dX10_addFour_17 rfl ?_
      obtain ⟨q3, h4, hm⟩ := bd_some hm
      refine j_getR C fg_X10_9_9 hv0 (dr_spec h4).1 dX10_addFour_18 ?_
      refine j_aload_n C 0 dX10_addFour_21 rfl ?_
      refine j_getI C fg_X10_15_9 hv0 dX10_addFour_22 ?_
      refine j_iload_n C 1 dX10_addFour_25 rfl ?_
      refine j_iload_n C 2 dX10_addFour_26 rfl ?_
      refine j_ishr C dX10_addFour_27 ?_
      refine j_i2b C dX10_addFour_28 ?_
      obtain ⟨h5, hm⟩ := gd_some hm
      obtain ⟨μ6, e7, hm⟩ := lt_some hm
      refine j_bast C ((dr_spec h4).2) h5 e7 dX10_addFour_29 ?_
      refine j_aload_n C 0 dX10_addFour_30 rfl ?_
      refine j_dup C dX10_addFour_31 rfl ?_
      refine j_getI C fg_X10_15_9 hv0 dX10_addFour_32 ?_
      refine j_iconst C (v := 1) dX10_addFour_35 rfl ?_
      refine j_iadd C dX10_addFour_36 ?_
      obtain ⟨μ8, e9, hm⟩ := lt_some hm
      refine j_putI C fp_X10_15_9 hv0 e9 dX10_addFour_37 ?_
      exact tj_X10_addFour_40 C _ _ _ _ _ _ hk3 hv0 hm
set_option maxRecDepth 20000 in
set_option maxHeartbeats 4000000 in
theorem tl_X10_addFour_3 {x : Ctx} {Λ : Lay} (C : Cx x cX10_addFour 3 none RX10 Λ rm_X10_addFour) (N : Nat) (v0 : Nat) (v1 : Int32) (hv0 : inL Λ v0 9) (s : Int32 × Mem) {r : Mem} (hm : lp_X10_addFour_3 N Λ v0 v1 s = some r) : J x 3 Λ (QV x Λ r) 3 [(0, .ref v0), (1, .int v1), (2, .int s.1)] [] (s.2) :=
  cw_ind (P := fun s r => J x 3 Λ (QV x Λ r) 3 [(0, .ref v0), (1, .int v1), (2, .int s.1)] [] (s.2)) (fun k hkk s r e => tb_X10_addFour_3 C _ _ _ _ _ _ hkk hv0 e) N s r hm
set_option maxRecDepth 20000 in
set_option maxHeartbeats 4000000 in
theorem tm_X10_addFour {x : Ctx} {Λ : Lay} (C : Cx x cX10_addFour 3 none RX10 Λ rm_X10_addFour) (N : Nat) (μ : Mem) (v0 : Nat) (v1 : Int32) (hv0 : inL Λ v0 9) {r : Mem} (hm : m_X10_addFour N Λ μ v0 v1 = some r) : J x 3 Λ (QV x Λ r) 0 [(0, .ref v0), (1, .int v1)] [] μ := by
  refine j_bipush C (v := 24) dX10_addFour_0 rfl ?_
  refine j_istore_n C (lv' := [(2, .int 24), (0, .ref v0), (1, .int v1)]) dX10_addFour_2 (by decide) rfl ?_
  refine j_sub [1, 2, 0] rfl ?_
  exact tl_X10_addFour_3 C _ _ _ hv0 (24, μ) hm
set_option maxRecDepth 20000 in
set_option maxHeartbeats 4000000 in
theorem mc_X10_addFour (l : Launch) (N : Nat) (Λ : Lay) (μ : Mem) (v0 : Nat) (v1 : Int32) (hv0 : inL Λ v0 9) {r : Mem} (hm : m_X10_addFour N Λ μ v0 v1 = some r) : MV l yX10_addFour cX10_addFour 3 rm_X10_addFour Λ [.ref v0, .int v1] μ r := mv_of rfl (Nat.le_of_ble_eq_true rfl) (fun x C _ => tm_X10_addFour C _ _ _ _ hv0 hm)

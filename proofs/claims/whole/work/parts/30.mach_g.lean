abbrev rm_X11_feed : Room := { frames := 1, cells := 0, slots := 0, locals := 22 }
set_option maxRecDepth 20000 in
set_option maxHeartbeats 4000000 in
theorem tm_X11_feed {x : Ctx} {Λ : Lay} (C : Cx x cX11_feed 6 (some .int) RX11 Λ rm_X11_feed) (N : Nat) (μ : Mem) (v0 : Nat) (v1 : Int32) (v2 : Int32) (v3 : Int32) (v4 : Int32) (v5 : Int32) (hv0 : inL Λ v0 10) {r : Int32 × Mem} (hm : m_X11_feed N Λ μ v0 v1 v2 v3 v4 v5 = some r) : J x 6 Λ (QI x Λ r.1 r.2) 0 [(0, .ref v0), (1, .int v1), (2, .int v2), (3, .int v3), (4, .int v4), (5, .int v5)] [] μ := by
  refine j_aload_n C 0 dX11_feed_0 rfl ?_
  obtain ⟨q1, h2, hm⟩ := bd_some hm
  refine j_getR C fg_X11_10_10 hv0 (dr_spec h2).1 dX11_feed_1 ?_
  refine j_getI C fg_X11_92_9 ((dr_spec h2).2) dX11_feed_4 ?_
  refine j_bipush C (v := 20) dX11_feed_7 rfl ?_
  refine j_iadd C dX11_feed_9 ?_
  refine j_sipush C (v := 400) dX11_feed_10 rfl ?_
  refine j_icmp_le C (tgt := 18) dX11_feed_13 (by decide) (fun h3 => ?_) (fun h3 => ?_)
  · replace hm := if_t hm h3
    refine j_aload_n C 0 dX11_feed_18 rfl ?_
    obtain ⟨q4, h5, hm⟩ := bd_some hm
    refine j_getR C fg_X11_10_10 hv0 (dr_spec h5).1 dX11_feed_19 ?_
    refine j_iload_n C 1 dX11_feed_22 rfl ?_
    obtain ⟨r6, h7, hm⟩ := bd_some hm
    refine call_V (run_LV C lk_X11_95 ⟨rfl, rfl, Nat.le_of_ble_eq_true rfl, Nat.le_of_ble_eq_true rfl⟩ (As := [.int v1]) ((dr_spec h5).2) rfl rfl (Nat.le_of_ble_eq_true rfl) dX11_feed_23 (mc_X10_addFour _ _ _ _ _ _ ((dr_spec h5).2) h7)) ?_
    refine j_aload_n C 0 dX11_feed_26 rfl ?_
    obtain ⟨q8, h9, hm⟩ := bd_some hm
    refine j_getR C fg_X11_10_10 hv0 (dr_spec h9).1 dX11_feed_27 ?_
    refine j_iload_n C 2 dX11_feed_30 rfl ?_
    obtain ⟨r10, h11, hm⟩ := bd_some hm
    refine call_V (run_LV C lk_X11_95 ⟨rfl, rfl, Nat.le_of_ble_eq_true rfl, Nat.le_of_ble_eq_true rfl⟩ (As := [.int v2]) ((dr_spec h9).2) rfl rfl (Nat.le_of_ble_eq_true rfl) dX11_feed_31 (mc_X10_addFour _ _ _ _ _ _ ((dr_spec h9).2) h11)) ?_
    refine j_aload_n C 0 dX11_feed_34 rfl ?_
    obtain ⟨q12, h13, hm⟩ := bd_some hm
    refine j_getR C fg_X11_10_10 hv0 (dr_spec h13).1 dX11_feed_35 ?_
    refine j_iload_n C 3 dX11_feed_38 rfl ?_
    obtain ⟨r14, h15, hm⟩ := bd_some hm
    refine call_V (run_LV C lk_X11_95 ⟨rfl, rfl, Nat.le_of_ble_eq_true rfl, Nat.le_of_ble_eq_true rfl⟩ (As := [.int v3]) ((dr_spec h13).2) rfl rfl (Nat.le_of_ble_eq_true rfl) dX11_feed_39 (mc_X10_addFour _ _ _ _ _ _ ((dr_spec h13).2) h15)) ?_
    refine j_aload_n C 0 dX11_feed_42 rfl ?_
    obtain ⟨q16, h17, hm⟩ := bd_some hm
    refine j_getR C fg_X11_10_10 hv0 (dr_spec h17).1 dX11_feed_43 ?_
    refine j_iload C 4 dX11_feed_46 rfl ?_
    obtain ⟨r18, h19, hm⟩ := bd_some hm
    refine call_V (run_LV C lk_X11_95 ⟨rfl, rfl, Nat.le_of_ble_eq_true rfl, Nat.le_of_ble_eq_true rfl⟩ (As := [.int v4]) ((dr_spec h17).2) rfl rfl (Nat.le_of_ble_eq_true rfl) dX11_feed_48 (mc_X10_addFour _ _ _ _ _ _ ((dr_spec h17).2) h19)) ?_
    refine j_aload_n C 0 dX11_feed_51 rfl ?_
    obtain ⟨q20, h21, hm⟩ := bd_some hm
    refine j_getR C fg_X11_10_10 hv0 (dr_spec h21).1 dX11_feed_52 ?_
    refine j_iload C 5 dX11_feed_55 rfl ?_
    obtain ⟨r22, h23, hm⟩ := bd_some hm
    refine call_V (run_LV C lk_X11_95 ⟨rfl, rfl, Nat.le_of_ble_eq_true rfl, Nat.le_of_ble_eq_true rfl⟩ (As := [.int v5]) ((dr_spec h21).2) rfl rfl (Nat.le_of_ble_eq_true rfl) dX11_feed_57 (mc_X10_addFour _ _ _ _ _ _ ((dr_spec h21).2) h23)) ?_
    refine j_aload_n C 0 dX11_feed_60 rfl ?_
    obtain ⟨q24, h25, hm⟩ := bd_some hm
    refine j_getR C fg_X11_10_10 hv0 (dr_spec h25).1 dX11_feed_61 ?_
    refine j_getI C fg_X11_92_9 ((dr_spec h25).2) dX11_feed_64 ?_
    obtain rfl := Option.some.inj hm
    exact j_ireti C dX11_feed_67
  · replace hm := if_f hm h3
    refine j_iconst C (v := -1) dX11_feed_16 rfl ?_
    obtain rfl := Option.some.inj hm
    exact j_ireti C dX11_feed_17
set_option maxRecDepth 20000 in
set_option maxHeartbeats 4000000 in
theorem mc_X11_feed (l : Launch) (N : Nat) (Λ : Lay) (μ : Mem) (v0 : Nat) (v1 : Int32) (v2 : Int32) (v3 : Int32) (v4 : Int32) (v5 : Int32) (hv0 : inL Λ v0 10) {r : Int32 × Mem} (hm : m_X11_feed N Λ μ v0 v1 v2 v3 v4 v5 = some r) : MI l yX11_feed cX11_feed 6 (some .int) rm_X11_feed Λ [.ref v0, .int v1, .int v2, .int v3, .int v4, .int v5] μ r.1 r.2 := mi_of rfl (Nat.le_of_ble_eq_true rfl) (fun x C _ => tm_X11_feed C _ _ _ _ _ _ _ _ hv0 hm)
abbrev rm_X11_end : Room := { frames := 0, cells := 0, slots := 0, locals := 0 }
set_option maxRecDepth 20000 in
set_option maxHeartbeats 4000000 in
theorem tj_X11_end_15 {x : Ctx} {Λ : Lay} (C : Cx x cX11_end 2 (some .boolean) RX11 Λ rm_X11_end) (N : Nat) (μ : Mem) {r : Int32 × Mem} (hm : jn_X11_end_15 N Λ μ = some r) : J x 2 Λ (QI x Λ r.1 r.2) 15 [] [] μ := by
  refine j_iconst C (v := 0) dX11_end_15 rfl ?_
  obtain rfl := Option.some.inj hm
  exact j_iretz C rfl dX11_end_16
set_option maxRecDepth 20000 in
set_option maxHeartbeats 4000000 in
theorem tm_X11_end {x : Ctx} {Λ : Lay} (C : Cx x cX11_end 2 (some .boolean) RX11 Λ rm_X11_end) (N : Nat) (μ : Mem) (v0 : Nat) (v1 : Int32) (hv0 : inL Λ v0 10) {r : Int32 × Mem} (hm : m_X11_end N Λ μ v0 v1 = some r) : J x 2 Λ (QI x Λ r.1 r.2) 0 [(0, .ref v0), (1, .int v1)] [] μ := by
  refine j_iload_n C 1 dX11_end_0 rfl ?_
  refine j_if_lt C (tgt := 15) dX11_end_1 (by decide) (fun h1 => ?_) (fun h1 => ?_)
  · replace hm := if_t hm h1
    refine j_sub [] rfl ?_
    exact tj_X11_end_15 C _ _  hm
  · replace hm := if_f hm h1
    refine j_iload_n C 1 dX11_end_4 rfl ?_
    refine j_aload_n C 0 dX11_end_5 rfl ?_
    obtain ⟨q2, h3, hm⟩ := bd_some hm
    refine j_getR C fg_X11_10_10 hv0 (dr_spec h3).1 dX11_end_6 ?_
    refine j_getI C fg_X11_92_9 ((dr_spec h3).2) dX11_end_9 ?_
    refine j_icmp_le C (tgt := 17) dX11_end_12 (by decide) (fun h4 => ?_) (fun h4 => ?_)
    · replace hm := if_t hm h4
      refine j_aload_n C 0 dX11_end_17 rfl ?_
      obtain ⟨q5, h6, hm⟩ := bd_some hm
      refine j_getR C fg_X11_10_10 hv0 (dr_spec h6).1 dX11_end_18 ?_
      refine j_iload_n C 1 dX11_end_21 rfl ?_
      obtain ⟨μ7, e8, hm⟩ := lt_some hm
      refine j_putI C fp_X11_92_9 ((dr_spec h6).2) e8 dX11_end_22 ?_
      refine j_iconst C (v := 1) dX11_end_25 rfl ?_
      obtain rfl := Option.some.inj hm
      exact j_iretz C rfl dX11_end_26
    · replace hm := if_f hm h4
      refine j_sub [] rfl ?_
      exact tj_X11_end_15 C _ _  hm
set_option maxRecDepth 20000 in
set_option maxHeartbeats 4000000 in
theorem mc_X11_end (l : Launch) (N : Nat) (Λ : Lay) (μ : Mem) (v0 : Nat) (v1 : Int32) (hv0 : inL Λ v0 10) {r : Int32 × Mem} (hm : m_X11_end N Λ μ v0 v1 = some r) : MI l yX11_end cX11_end 2 (some .boolean) rm_X11_end Λ [.ref v0, .int v1] μ r.1 r.2 := mi_of rfl (Nat.le_of_ble_eq_true rfl) (fun x C _ => tm_X11_end C _ _ _ _ hv0 hm)
abbrev rm_X11_dock : Room := { frames := 57, cells := 1, slots := 6, locals := 4405 }
set_option maxRecDepth 20000 in
set_option maxHeartbeats 4000000 in
theorem tm_X11_dock {x : Ctx} {Λ : Lay} (C : Cx x cX11_dock 1 (some .int) RX11 Λ rm_X11_dock) (N : Nat) (μ : Mem) (v0 : Nat) (hN : NT x) (hk : xk x + 1 ≤ (rm_X11_dock).cells ∧ xl x + 6 ≤ (rm_X11_dock).slots) (hv0 : inL Λ v0 10) {r : RX_} (hm : m_X11_dock N Λ μ v0 = some r) : J x 1 Λ (QXI x Λ rm_X11_dock r) 0 [(0, .ref v0)] [] μ := by
  refine j_aload_n C 0 dX11_dock_0 rfl ?_
  obtain ⟨q1, h2, hm⟩ := bd_some hm
  refine j_getR C fg_X11_23_10 hv0 (dr_spec h2).1 dX11_dock_1 ?_
  refine j_aload_n C 0 dX11_dock_4 rfl ?_
  obtain ⟨q3, h4, hm⟩ := bd_some hm
  refine j_getR C fg_X11_19_10 hv0 (dr_spec h4).1 dX11_dock_5 ?_
  obtain ⟨r5, h6, hm⟩ := bd_some hm
  refine call_V (run_LV C lk_X11_99 ⟨rfl, rfl, Nat.le_of_ble_eq_true rfl, Nat.le_of_ble_eq_true rfl⟩ (As := [.ref q3]) ((dr_spec h2).2) rfl rfl (Nat.le_of_ble_eq_true rfl) dX11_dock_8 (mc_X9_copy _ _ _ _ _ _ ((dr_spec h2).2) ((dr_spec h4).2) h6)) ?_
  refine j_aload_n C 0 dX11_dock_11 rfl ?_
  refine j_aload_n C 0 dX11_dock_12 rfl ?_
  obtain ⟨q7, h8, hm⟩ := bd_some hm
  refine j_getR C fg_X11_47_10 hv0 (dr_spec h8).1 dX11_dock_13 ?_
  refine j_bipush C (v := 14) dX11_dock_16 rfl ?_
  obtain ⟨r9, h10, hm⟩ := bd_some hm
  refine call_I (run_LU C lu_X11_103_1 ⟨rfl, rfl, Nat.le_of_ble_eq_true rfl, Nat.le_of_ble_eq_true rfl⟩ (As := [.int 14]) ((dr_spec h8).2) rfl rfl (Nat.le_of_ble_eq_true rfl) dX11_dock_18 (mc_X7_readLines_1 _ _ _ _ _ _ ((dr_spec h8).2) h10)) ?_
  obtain ⟨μ11, e12, hm⟩ := lt_some hm
  refine j_putI C fp_X11_88_10 hv0 e12 dX11_dock_21 ?_
  refine j_aload_n C 0 dX11_dock_24 rfl ?_
  obtain ⟨q13, h14, hm⟩ := bd_some hm
  refine j_getR C fg_X11_10_10 hv0 (dr_spec h14).1 dX11_dock_25 ?_
  refine j_iconst C (v := 0) dX11_dock_28 rfl ?_
  obtain ⟨μ15, e16, hm⟩ := lt_some hm
  refine j_putI C fp_X11_92_9 ((dr_spec h14).2) e16 dX11_dock_29 ?_
  refine j_aload_n C 0 dX11_dock_32 rfl ?_
  refine j_getI C fg_X11_88_10 hv0 dX11_dock_33 ?_
  refine j_iconst C (v := -1) dX11_dock_36 rfl ?_
  refine j_icmp_eq C (tgt := 50) dX11_dock_37 (by decide) (fun h17 => ?_) (fun h17 => ?_)
  · replace hm := if_t hm h17
    refine j_aload_n C 0 dX11_dock_50 rfl ?_
    obtain ⟨q18, h19, hm⟩ := bd_some hm
    refine j_getR C fg_X11_19_10 hv0 (dr_spec h19).1 dX11_dock_51 ?_
    refine j_getI C fg_X11_114_8 ((dr_spec h19).2) dX11_dock_54 ?_
    refine j_bipush C (v := 12) dX11_dock_57 rfl ?_
    refine j_icmp_lt C (tgt := 72) dX11_dock_59 (by decide) (fun h20 => ?_) (fun h20 => ?_)
    · replace hm := if_t hm h20
      refine j_aload_n C 0 dX11_dock_72 rfl ?_
      obtain ⟨q21, h22, hm⟩ := bd_some hm
      refine j_getR C fg_X11_19_10 hv0 (dr_spec h22).1 dX11_dock_73 ?_
      refine j_aload_n C 0 dX11_dock_76 rfl ?_
      obtain ⟨q23, h24, hm⟩ := bd_some hm
      refine j_getR C fg_X11_23_10 hv0 (dr_spec h24).1 dX11_dock_77 ?_
      obtain ⟨r25, h26, hm⟩ := bd_some hm
      refine call_V (run_LV C lk_X11_99 ⟨rfl, rfl, Nat.le_of_ble_eq_true rfl, Nat.le_of_ble_eq_true rfl⟩ (As := [.ref q23]) ((dr_spec h22).2) rfl rfl (Nat.le_of_ble_eq_true rfl) dX11_dock_80 (mc_X9_copy _ _ _ _ _ _ ((dr_spec h22).2) ((dr_spec h24).2) h26)) ?_
      refine j_aload_n C 0 dX11_dock_83 rfl ?_
      obtain ⟨q27, h28, hm⟩ := bd_some hm
      refine j_getR C fg_X11_19_10 hv0 (dr_spec h28).1 dX11_dock_84 ?_
      refine j_dup C dX11_dock_87 rfl ?_
      refine j_getI C fg_X11_114_8 ((dr_spec h28).2) dX11_dock_88 ?_
      refine j_iconst C (v := 1) dX11_dock_91 rfl ?_
      refine j_iadd C dX11_dock_92 ?_
      obtain ⟨μ29, e30, hm⟩ := lt_some hm
      refine j_putI C fp_X11_114_8 ((dr_spec h28).2) e30 dX11_dock_93 ?_
      refine j_aload_n C 0 dX11_dock_96 rfl ?_
      obtain ⟨q31, h32, hm⟩ := bd_some hm
      refine j_getR C fg_X11_63_10 hv0 (dr_spec h32).1 dX11_dock_97 ?_
      obtain ⟨r33, h34, hm⟩ := bd_some hm
      refine call_V (run_LV C lk_X11_122 ⟨rfl, rfl, Nat.le_of_ble_eq_true rfl, Nat.le_of_ble_eq_true rfl⟩ (As := []) ((dr_spec h32).2) rfl rfl (Nat.le_of_ble_eq_true rfl) dX11_dock_100 (mc_X5_forget _ _ _ _ _ ((dr_spec h32).2) h34)) ?_
      refine j_aload_n C 0 dX11_dock_103 rfl ?_
      obtain ⟨q35, h36, hm⟩ := bd_some hm
      refine j_getR C fg_X11_19_10 hv0 (dr_spec h36).1 dX11_dock_104 ?_
      refine j_getI C fg_X11_114_8 ((dr_spec h36).2) dX11_dock_107 ?_
      obtain rfl := Option.some.inj hm
      exact jx_ireti C dX11_dock_110
    · replace hm := if_f hm h20
      obtain rfl := Option.some.inj hm
      exact jx_throwS C hN tr_117_119_121 rfl (hk_sub hk (Nat.le_of_ble_eq_true rfl) (Nat.le_of_ble_eq_true rfl)) ⟨Nat.le_of_ble_eq_true rfl, Nat.le_of_ble_eq_true rfl⟩ rfl dX11_dock_62 dX11_dock_65 dX11_dock_66 dX11_dock_68 dX11_dock_71
  · replace hm := if_f hm h17
    obtain rfl := Option.some.inj hm
    exact jx_throwS C hN tr_107_109_111 rfl (hk_sub hk (Nat.le_of_ble_eq_true rfl) (Nat.le_of_ble_eq_true rfl)) ⟨Nat.le_of_ble_eq_true rfl, Nat.le_of_ble_eq_true rfl⟩ rfl dX11_dock_40 dX11_dock_43 dX11_dock_44 dX11_dock_46 dX11_dock_49
set_option maxRecDepth 20000 in
set_option maxHeartbeats 4000000 in
theorem mcx_X11_dock (l : Launch) (hst : l.stackTraces = false) (N : Nat) (Λ : Lay) (μ : Mem) (v0 : Nat) (hv0 : inL Λ v0 10) {r : RX_} (hm : m_X11_dock N Λ μ v0 = some r) : MXI l yX11_dock cX11_dock 1 (some .int) rm_X11_dock Λ [.ref v0] μ r := mxi_of hst rfl (Nat.le_of_ble_eq_true rfl) (fun x C _ hN h0 => tm_X11_dock C _ _ _ hN (hk_0 h0) hv0 hm)
abbrev rm_X11_law : Room := { frames := 57, cells := 1, slots := 6, locals := 4405 }
set_option maxRecDepth 20000 in
set_option maxHeartbeats 4000000 in
theorem tm_X11_law {x : Ctx} {Λ : Lay} (C : Cx x cX11_law 1 (some .int) RX11 Λ rm_X11_law) (N : Nat) (μ : Mem) (v0 : Nat) (hN : NT x) (hk : xk x + 1 ≤ (rm_X11_law).cells ∧ xl x + 6 ≤ (rm_X11_law).slots) (hv0 : inL Λ v0 10) {r : RX_} (hm : m_X11_law N Λ μ v0 = some r) : J x 1 Λ (QXI x Λ rm_X11_law r) 0 [(0, .ref v0)] [] μ := by
  refine j_aload_n C 0 dX11_law_0 rfl ?_
  obtain ⟨q1, h2, hm⟩ := bd_some hm
  refine j_getR C fg_X11_36_10 hv0 (dr_spec h2).1 dX11_law_1 ?_
  obtain ⟨r3, h4, hm⟩ := bd_some hm
  refine call_V (run_LV C lk_X11_125 ⟨rfl, rfl, Nat.le_of_ble_eq_true rfl, Nat.le_of_ble_eq_true rfl⟩ (As := []) ((dr_spec h2).2) rfl rfl (Nat.le_of_ble_eq_true rfl) dX11_law_4 (mc_X2_clear _ _ _ _ _ ((dr_spec h2).2) h4)) ?_
  refine j_aload_n C 0 dX11_law_7 rfl ?_
  refine j_aload_n C 0 dX11_law_8 rfl ?_
  obtain ⟨q5, h6, hm⟩ := bd_some hm
  refine j_getR C fg_X11_56_10 hv0 (dr_spec h6).1 dX11_law_9 ?_
  refine j_bipush C (v := 12) dX11_law_12 rfl ?_
  obtain ⟨r7, h8, hm⟩ := bd_some hm
  refine call_I (run_LU C lu_X11_128_3 ⟨rfl, rfl, Nat.le_of_ble_eq_true rfl, Nat.le_of_ble_eq_true rfl⟩ (As := [.int 12]) ((dr_spec h6).2) rfl rfl (Nat.le_of_ble_eq_true rfl) dX11_law_14 (mc_X7_readLines_3 _ _ _ _ _ _ ((dr_spec h6).2) h8)) ?_
  obtain ⟨μ9, e10, hm⟩ := lt_some hm
  refine j_putI C fp_X11_88_10 hv0 e10 dX11_law_17 ?_
  refine j_aload_n C 0 dX11_law_20 rfl ?_
  obtain ⟨q11, h12, hm⟩ := bd_some hm
  refine j_getR C fg_X11_10_10 hv0 (dr_spec h12).1 dX11_law_21 ?_
  refine j_iconst C (v := 0) dX11_law_24 rfl ?_
  obtain ⟨μ13, e14, hm⟩ := lt_some hm
  refine j_putI C fp_X11_92_9 ((dr_spec h12).2) e14 dX11_law_25 ?_
  refine j_aload_n C 0 dX11_law_28 rfl ?_
  refine j_getI C fg_X11_88_10 hv0 dX11_law_29 ?_
  refine j_iconst C (v := -1) dX11_law_32 rfl ?_
  refine j_icmp_eq C (tgt := 46) dX11_law_33 (by decide) (fun h15 => ?_) (fun h15 => ?_)
  · replace hm := if_t hm h15
    refine j_aload_n C 0 dX11_law_46 rfl ?_
    obtain ⟨q16, h17, hm⟩ := bd_some hm
    refine j_getR C fg_X11_32_10 hv0 (dr_spec h17).1 dX11_law_47 ?_
    refine j_aload_n C 0 dX11_law_50 rfl ?_
    obtain ⟨q18, h19, hm⟩ := bd_some hm
    refine j_getR C fg_X11_36_10 hv0 (dr_spec h19).1 dX11_law_51 ?_
    obtain ⟨r20, h21, hm⟩ := bd_some hm
    refine call_V (run_LV C lk_X11_131 ⟨rfl, rfl, Nat.le_of_ble_eq_true rfl, Nat.le_of_ble_eq_true rfl⟩ (As := [.ref q18]) ((dr_spec h17).2) rfl rfl (Nat.le_of_ble_eq_true rfl) dX11_law_54 (mc_X2_copy _ _ _ _ _ _ ((dr_spec h17).2) ((dr_spec h19).2) h21)) ?_
    refine j_aload_n C 0 dX11_law_57 rfl ?_
    obtain ⟨q22, h23, hm⟩ := bd_some hm
    refine j_getR C fg_X11_63_10 hv0 (dr_spec h23).1 dX11_law_58 ?_
    obtain ⟨r24, h25, hm⟩ := bd_some hm
    refine call_V (run_LV C lk_X11_122 ⟨rfl, rfl, Nat.le_of_ble_eq_true rfl, Nat.le_of_ble_eq_true rfl⟩ (As := []) ((dr_spec h23).2) rfl rfl (Nat.le_of_ble_eq_true rfl) dX11_law_61 (mc_X5_forget _ _ _ _ _ ((dr_spec h23).2) h25)) ?_
    refine j_aload_n C 0 dX11_law_64 rfl ?_
    obtain ⟨q26, h27, hm⟩ := bd_some hm
    refine j_getR C fg_X11_32_10 hv0 (dr_spec h27).1 dX11_law_65 ?_
    refine j_getI C fg_X11_134_2 ((dr_spec h27).2) dX11_law_68 ?_
    obtain rfl := Option.some.inj hm
    exact jx_ireti C dX11_law_71
  · replace hm := if_f hm h15
    obtain rfl := Option.some.inj hm
    exact jx_throwS C hN tr_107_129_111 rfl (hk_sub hk (Nat.le_of_ble_eq_true rfl) (Nat.le_of_ble_eq_true rfl)) ⟨Nat.le_of_ble_eq_true rfl, Nat.le_of_ble_eq_true rfl⟩ rfl dX11_law_36 dX11_law_39 dX11_law_40 dX11_law_42 dX11_law_45
set_option maxRecDepth 20000 in
set_option maxHeartbeats 4000000 in
theorem mcx_X11_law (l : Launch) (hst : l.stackTraces = false) (N : Nat) (Λ : Lay) (μ : Mem) (v0 : Nat) (hv0 : inL Λ v0 10) {r : RX_} (hm : m_X11_law N Λ μ v0 = some r) : MXI l yX11_law cX11_law 1 (some .int) rm_X11_law Λ [.ref v0] μ r := mxi_of hst rfl (Nat.le_of_ble_eq_true rfl) (fun x C _ hN h0 => tm_X11_law C _ _ _ hN (hk_0 h0) hv0 hm)
abbrev rm_X11_fault : Room := { frames := 0, cells := 0, slots := 0, locals := 0 }
set_option maxRecDepth 20000 in
set_option maxHeartbeats 4000000 in
theorem tm_X11_fault {x : Ctx} {Λ : Lay} (C : Cx x cX11_fault 1 (some .int) RX11 Λ rm_X11_fault) (N : Nat) (μ : Mem) (v0 : Nat) (hv0 : inL Λ v0 10) {r : Int32} (hm : m_X11_fault N Λ μ v0 = some r) : J x 1 Λ (QI x Λ r μ) 0 [(0, .ref v0)] [] μ := by
  refine j_aload_n C 0 dX11_fault_0 rfl ?_
  refine j_getI C fg_X11_88_10 hv0 dX11_fault_1 ?_
  obtain rfl := Option.some.inj hm
  exact j_ireti C dX11_fault_4
set_option maxRecDepth 20000 in
set_option maxHeartbeats 4000000 in
theorem mc_X11_fault (l : Launch) (N : Nat) (Λ : Lay) (μ : Mem) (v0 : Nat) (hv0 : inL Λ v0 10) {r : Int32} (hm : m_X11_fault N Λ μ v0 = some r) : MI l yX11_fault cX11_fault 1 (some .int) rm_X11_fault Λ [.ref v0] μ r μ := mi_of rfl (Nat.le_of_ble_eq_true rfl) (fun x C _ => tm_X11_fault C _ _ _ hv0 hm)
abbrev rm_X11_needShip : Room := { frames := 6, cells := 1, slots := 6, locals := 120 }
set_option maxRecDepth 20000 in
set_option maxHeartbeats 4000000 in
theorem tj_X11_needShip_15 {x : Ctx} {Λ : Lay} (C : Cx x cX11_needShip 2 none RX11 Λ rm_X11_needShip) (N : Nat) (μ : Mem) (hN : NT x) (hk : xk x + 1 ≤ (rm_X11_needShip).cells ∧ xl x + 6 ≤ (rm_X11_needShip).slots) {r : RX_} (hm : jn_X11_needShip_15 N Λ μ = some r) : J x 2 Λ (QXV x Λ rm_X11_needShip r) 15 [] [] μ := by
  obtain rfl := Option.some.inj hm
  exact jx_throwSW C hN tr_417_419_421 rfl (hk_sub hk (Nat.le_of_ble_eq_true rfl) (Nat.le_of_ble_eq_true rfl)) ⟨Nat.le_of_ble_eq_true rfl, Nat.le_of_ble_eq_true rfl⟩ rfl dX11_needShip_15 dX11_needShip_18 dX11_needShip_19 dX11_needShip_22 dX11_needShip_25
set_option maxRecDepth 20000 in
set_option maxHeartbeats 4000000 in
theorem tm_X11_needShip {x : Ctx} {Λ : Lay} (C : Cx x cX11_needShip 2 none RX11 Λ rm_X11_needShip) (N : Nat) (μ : Mem) (v0 : Nat) (v1 : Int32) (hN : NT x) (hk : xk x + 1 ≤ (rm_X11_needShip).cells ∧ xl x + 6 ≤ (rm_X11_needShip).slots) (hv0 : inL Λ v0 10) {r : RX_} (hm : m_X11_needShip N Λ μ v0 v1 = some r) : J x 2 Λ (QXV x Λ rm_X11_needShip r) 0 [(0, .ref v0), (1, .int v1)] [] μ := by
  refine j_iload_n C 1 dX11_needShip_0 rfl ?_
  refine j_if_lt C (tgt := 15) dX11_needShip_1 (by decide) (fun h1 => ?_) (fun h1 => ?_)
  · replace hm := if_t hm h1
    refine j_sub [] rfl ?_
    exact tj_X11_needShip_15 C _ _ hN ((hk_sub hk (Nat.le_of_ble_eq_true rfl) (Nat.le_of_ble_eq_true rfl))) hm
  · replace hm := if_f hm h1
    refine j_iload_n C 1 dX11_needShip_4 rfl ?_
    refine j_aload_n C 0 dX11_needShip_5 rfl ?_
    obtain ⟨q2, h3, hm⟩ := bd_some hm
    refine j_getR C fg_X11_19_10 hv0 (dr_spec h3).1 dX11_needShip_6 ?_
    refine j_getI C fg_X11_253_8 ((dr_spec h3).2) dX11_needShip_9 ?_
    refine j_icmp_lt C (tgt := 26) dX11_needShip_12 (by decide) (fun h4 => ?_) (fun h4 => ?_)
    · replace hm := if_t hm h4
      obtain rfl := Option.some.inj hm
      exact jx_vret C dX11_needShip_26
    · replace hm := if_f hm h4
      refine j_sub [] rfl ?_
      exact tj_X11_needShip_15 C _ _ hN ((hk_sub hk (Nat.le_of_ble_eq_true rfl) (Nat.le_of_ble_eq_true rfl))) hm
set_option maxRecDepth 20000 in
set_option maxHeartbeats 4000000 in
theorem mcx_X11_needShip (l : Launch) (hst : l.stackTraces = false) (N : Nat) (Λ : Lay) (μ : Mem) (v0 : Nat) (v1 : Int32) (hv0 : inL Λ v0 10) {r : RX_} (hm : m_X11_needShip N Λ μ v0 v1 = some r) : MXV l yX11_needShip cX11_needShip 2 rm_X11_needShip Λ [.ref v0, .int v1] μ r := mxv_of hst rfl (Nat.le_of_ble_eq_true rfl) (fun x C _ hN h0 => tm_X11_needShip C _ _ _ _ hN (hk_0 h0) hv0 hm)
abbrev rm_X11_ship : Room := { frames := 7, cells := 2, slots := 12, locals := 141 }
set_option maxRecDepth 20000 in
set_option maxHeartbeats 4000000 in
theorem tj_X11_ship_138 {x : Ctx} {Λ : Lay} (C : Cx x cX11_ship 3 (some .int) RX11 Λ rm_X11_ship) (N : Nat) (μ : Mem) (s0 : Int32) (hN : NT x) (hk : xk x + 0 ≤ (rm_X11_ship).cells ∧ xl x + 0 ≤ (rm_X11_ship).slots) {r : RX_} (hm : jn_X11_ship_138 N Λ μ s0 = some r) : J x 3 Λ (QXI x Λ rm_X11_ship r) 138 [] [.int s0] μ := by
  obtain rfl := Option.some.inj hm
  exact jx_ireti C dX11_ship_138
set_option maxRecDepth 20000 in
set_option maxHeartbeats 4000000 in
theorem tj_X11_ship_168 {x : Ctx} {Λ : Lay} (C : Cx x cX11_ship 3 (some .int) RX11 Λ rm_X11_ship) (N : Nat) (μ : Mem) (s0 : Int32) (hN : NT x) (hk : xk x + 0 ≤ (rm_X11_ship).cells ∧ xl x + 0 ≤ (rm_X11_ship).slots) {r : RX_} (hm : jn_X11_ship_168 N Λ μ s0 = some r) : J x 3 Λ (QXI x Λ rm_X11_ship r) 168 [] [.int s0] μ := by
  obtain rfl := Option.some.inj hm
  exact jx_ireti C dX11_ship_168
set_option maxRecDepth 20000 in
set_option maxHeartbeats 4000000 in
theorem tj_X11_ship_185 {x : Ctx} {Λ : Lay} (C : Cx x cX11_ship 3 (some .int) RX11 Λ rm_X11_ship) (N : Nat) (μ : Mem) (s0 : Int32) (hN : NT x) (hk : xk x + 0 ≤ (rm_X11_ship).cells ∧ xl x + 0 ≤ (rm_X11_ship).slots) {r : RX_} (hm : jn_X11_ship_185 N Λ μ s0 = some r) : J x 3 Λ (QXI x Λ rm_X11_ship r) 185 [] [.int s0] μ := by
  obtain rfl := Option.some.inj hm
  exact jx_ireti C dX11_ship_185
set_option maxRecDepth 20000 in
set_option maxHeartbeats 4000000 in
theorem tm_X11_ship {x : Ctx} {Λ : Lay} (C : Cx x cX11_ship 3 (some .int) RX11 Λ rm_X11_ship) (N : Nat) (μ : Mem) (v0 : Nat) (v1 : Int32) (v2 : Int32) (hN : NT x) (hk : xk x + 2 ≤ (rm_X11_ship).cells ∧ xl x + 12 ≤ (rm_X11_ship).slots) (hv0 : inL Λ v0 10) {r : RX_} (hm : m_X11_ship N Λ μ v0 v1 v2 = some r) : J x 3 Λ (QXI x Λ rm_X11_ship r) 0 [(0, .ref v0), (1, .int v1), (2, .int v2)] [] μ := by
  refine j_aload_n C 0 dX11_ship_0 rfl ?_
  refine j_iload_n C 1 dX11_ship_1 rfl ?_
  obtain ⟨r1, h2, hm⟩ := bd_some hm
  refine call_XV C hN (runx_LV C lk_X11_137 ⟨Nat.le_of_ble_eq_true rfl, Nat.le_of_ble_eq_true rfl⟩ (hk_sub hk (Nat.le_of_ble_eq_true rfl) (Nat.le_of_ble_eq_true rfl)) (As := [.int v1]) hv0 rfl rfl (Nat.le_of_ble_eq_true rfl) dX11_ship_2 (mcx_X11_needShip _ hN.2 _ _ _ _ _ hv0 h2)) (hk_sub hk (Nat.le_of_ble_eq_true rfl) (Nat.le_of_ble_eq_true rfl)) (fun e3 => ?_) (fun e3 => ?_)
  rotate_left
  · replace hm := if_f hm e3; obtain rfl := Option.some.inj hm; exact ⟨_, rfl⟩
  replace hm := if_t hm e3
  replace C := Cx_bump (a := 1) (b := 6) C (hk_sub hk (Nat.le_of_ble_eq_true rfl) (Nat.le_of_ble_eq_true rfl))
  replace hN := NT_bump (a := 1) (b := 6) hN
  replace hk := hk_bump (a := 1) (b := 6) (n := 1) (m := 6) hk
  refine j_iload_n C 2 dX11_ship_5 rfl ?_
  by_cases h4 : v2 = 0
  · replace hm := if_t hm h4
    refine j_tabI C (tgt := 72) 0 dX11_ship_6 (by rw [h4]; first | done | rfl) (by decide) (by decide) rfl (by decide) ?_
    refine j_aload_n C 0 dX11_ship_72 rfl ?_
    obtain ⟨q5, h6, hm⟩ := bd_some hm
    refine j_getR C fg_X11_19_10 hv0 (dr_spec h6).1 dX11_ship_73 ?_
    obtain ⟨q7, h8, hm⟩ := bd_some hm
    refine j_getR C fg_X11_140_8 ((dr_spec h6).2) (dr_spec h8).1 dX11_ship_76 ?_
    refine j_iload_n C 1 dX11_ship_79 rfl ?_
    obtain ⟨h9, hm⟩ := gd_some hm
    refine j_iald C ((dr_spec h8).2) h9 dX11_ship_80 ?_
    obtain rfl := Option.some.inj hm
    exact jx_ireti C dX11_ship_81
  replace hm := if_f hm h4
  by_cases h10 : v2 = 1
  · replace hm := if_t hm h10
    refine j_tabI C (tgt := 82) 1 dX11_ship_6 (by rw [h10]; first | done | rfl) (by decide) (by decide) rfl (by decide) ?_
    refine j_aload_n C 0 dX11_ship_82 rfl ?_
    obtain ⟨q11, h12, hm⟩ := bd_some hm
    refine j_getR C fg_X11_19_10 hv0 (dr_spec h12).1 dX11_ship_83 ?_
    obtain ⟨q13, h14, hm⟩ := bd_some hm
    refine j_getR C fg_X11_144_8 ((dr_spec h12).2) (dr_spec h14).1 dX11_ship_86 ?_
    refine j_iload_n C 1 dX11_ship_89 rfl ?_
    obtain ⟨h15, hm⟩ := gd_some hm
    refine j_iald C ((dr_spec h14).2) h15 dX11_ship_90 ?_
    obtain rfl := Option.some.inj hm
    exact jx_ireti C dX11_ship_91
  replace hm := if_f hm h10
  by_cases h16 : v2 = 2
  · replace hm := if_t hm h16
    refine j_tabI C (tgt := 92) 2 dX11_ship_6 (by rw [h16]; first | done | rfl) (by decide) (by decide) rfl (by decide) ?_
    refine j_aload_n C 0 dX11_ship_92 rfl ?_
    obtain ⟨q17, h18, hm⟩ := bd_some hm
    refine j_getR C fg_X11_19_10 hv0 (dr_spec h18).1 dX11_ship_93 ?_
    obtain ⟨q19, h20, hm⟩ := bd_some hm
    refine j_getR C fg_X11_147_8 ((dr_spec h18).2) (dr_spec h20).1 dX11_ship_96 ?_
    refine j_iload_n C 1 dX11_ship_99 rfl ?_
    obtain ⟨h21, hm⟩ := gd_some hm
    refine j_iald C ((dr_spec h20).2) h21 dX11_ship_100 ?_
    obtain rfl := Option.some.inj hm
    exact jx_ireti C dX11_ship_101
  replace hm := if_f hm h16
  by_cases h22 : v2 = 3
  · replace hm := if_t hm h22
    refine j_tabI C (tgt := 102) 3 dX11_ship_6 (by rw [h22]; first | done | rfl) (by decide) (by decide) rfl (by decide) ?_
    refine j_aload_n C 0 dX11_ship_102 rfl ?_
    obtain ⟨q23, h24, hm⟩ := bd_some hm
    refine j_getR C fg_X11_19_10 hv0 (dr_spec h24).1 dX11_ship_103 ?_
    obtain ⟨q25, h26, hm⟩ := bd_some hm
    refine j_getR C fg_X11_150_8 ((dr_spec h24).2) (dr_spec h26).1 dX11_ship_106 ?_
    refine j_iload_n C 1 dX11_ship_109 rfl ?_
    obtain ⟨h27, hm⟩ := gd_some hm
    refine j_iald C ((dr_spec h26).2) h27 dX11_ship_110 ?_
    obtain rfl := Option.some.inj hm
    exact jx_ireti C dX11_ship_111
  replace hm := if_f hm h22
  by_cases h28 : v2 = 4
  · replace hm := if_t hm h28
    refine j_tabI C (tgt := 112) 4 dX11_ship_6 (by rw [h28]; first | done | rfl) (by decide) (by decide) rfl (by decide) ?_
    refine j_aload_n C 0 dX11_ship_112 rfl ?_
    obtain ⟨q29, h30, hm⟩ := bd_some hm
    refine j_getR C fg_X11_19_10 hv0 (dr_spec h30).1 dX11_ship_113 ?_
    obtain ⟨q31, h32, hm⟩ := bd_some hm
    refine j_getR C fg_X11_153_8 ((dr_spec h30).2) (dr_spec h32).1 dX11_ship_116 ?_
    refine j_iload_n C 1 dX11_ship_119 rfl ?_
    obtain ⟨h33, hm⟩ := gd_some hm
    refine j_iald C ((dr_spec h32).2) h33 dX11_ship_120 ?_
    obtain rfl := Option.some.inj hm
    exact jx_ireti C dX11_ship_121
  replace hm := if_f hm h28
  by_cases h34 : v2 = 5
  · replace hm := if_t hm h34
    refine j_tabI C (tgt := 122) 5 dX11_ship_6 (by rw [h34]; first | done | rfl) (by decide) (by decide) rfl (by decide) ?_
    refine j_aload_n C 0 dX11_ship_122 rfl ?_
    obtain ⟨q35, h36, hm⟩ := bd_some hm
    refine j_getR C fg_X11_19_10 hv0 (dr_spec h36).1 dX11_ship_123 ?_
    refine j_iload_n C 1 dX11_ship_126 rfl ?_
    obtain ⟨r37, h38, hm⟩ := bd_some hm
    refine call_I (run_LV C lk_X11_156 ⟨rfl, rfl, Nat.le_of_ble_eq_true rfl, Nat.le_of_ble_eq_true rfl⟩ (As := [.int v1]) ((dr_spec h36).2) rfl rfl (Nat.le_of_ble_eq_true rfl) dX11_ship_127 (mc_X9_isHurt _ _ _ _ _ _ ((dr_spec h36).2) h38)) ?_
    refine j_if_eq C (tgt := 137) dX11_ship_130 (by decide) (fun h39 => ?_) (fun h39 => ?_)
    · replace hm := if_t hm h39
      refine j_iconst C (v := 0) dX11_ship_137 rfl ?_
      refine j_sub [] rfl ?_
      exact tj_X11_ship_138 C _ _ _ hN ((hk_sub hk (Nat.le_of_ble_eq_true rfl) (Nat.le_of_ble_eq_true rfl))) hm
    · replace hm := if_f hm h39
      refine j_iconst C (v := 1) dX11_ship_133 rfl ?_
      refine j_goto C (tgt := 138) dX11_ship_134 (by decide) ?_
      refine j_sub [] rfl ?_
      exact tj_X11_ship_138 C _ _ _ hN ((hk_sub hk (Nat.le_of_ble_eq_true rfl) (Nat.le_of_ble_eq_true rfl))) hm
  replace hm := if_f hm h34
  by_cases h40 : v2 = 6
  · replace hm := if_t hm h40
    refine j_tabI C (tgt := 139) 6 dX11_ship_6 (by rw [h40]; first | done | rfl) (by decide) (by decide) rfl (by decide) ?_
    refine j_aload_n C 0 dX11_ship_139 rfl ?_
    obtain ⟨q41, h42, hm⟩ := bd_some hm
    refine j_getR C fg_X11_19_10 hv0 (dr_spec h42).1 dX11_ship_140 ?_
    refine j_iload_n C 1 dX11_ship_143 rfl ?_
    refine j_aload_n C 0 dX11_ship_144 rfl ?_
    obtain ⟨q43, h44, hm⟩ := bd_some hm
    refine j_getR C fg_X11_32_10 hv0 (dr_spec h44).1 dX11_ship_145 ?_
    obtain ⟨r45, h46, hm⟩ := bd_some hm
    refine call_I (run_LV C lk_X11_160 ⟨rfl, rfl, Nat.le_of_ble_eq_true rfl, Nat.le_of_ble_eq_true rfl⟩ (As := [.int v1, .ref q43]) ((dr_spec h42).2) rfl rfl (Nat.le_of_ble_eq_true rfl) dX11_ship_148 (mc_X9_feeOf _ _ _ _ _ _ _ ((dr_spec h42).2) ((dr_spec h44).2) h46)) ?_
    obtain rfl := Option.some.inj hm
    exact jx_ireti C dX11_ship_151
  replace hm := if_f hm h40
  by_cases h47 : v2 = 7
  · replace hm := if_t hm h47
    refine j_tabI C (tgt := 152) 7 dX11_ship_6 (by rw [h47]; first | done | rfl) (by decide) (by decide) rfl (by decide) ?_
    refine j_aload_n C 0 dX11_ship_152 rfl ?_
    obtain ⟨q48, h49, hm⟩ := bd_some hm
    refine j_getR C fg_X11_19_10 hv0 (dr_spec h49).1 dX11_ship_153 ?_
    refine j_iload_n C 1 dX11_ship_156 rfl ?_
    obtain ⟨r50, h51, hm⟩ := bd_some hm
    refine call_I (run_LV C lk_X11_164 ⟨rfl, rfl, Nat.le_of_ble_eq_true rfl, Nat.le_of_ble_eq_true rfl⟩ (As := [.int v1]) ((dr_spec h49).2) rfl rfl (Nat.le_of_ble_eq_true rfl) dX11_ship_157 (mc_X9_floats _ _ _ _ _ _ ((dr_spec h49).2) h51)) ?_
    refine j_if_eq C (tgt := 167) dX11_ship_160 (by decide) (fun h52 => ?_) (fun h52 => ?_)
    · replace hm := if_t hm h52
      refine j_iconst C (v := 0) dX11_ship_167 rfl ?_
      refine j_sub [] rfl ?_
      exact tj_X11_ship_168 C _ _ _ hN ((hk_sub hk (Nat.le_of_ble_eq_true rfl) (Nat.le_of_ble_eq_true rfl))) hm
    · replace hm := if_f hm h52
      refine j_iconst C (v := 1) dX11_ship_163 rfl ?_
      refine j_goto C (tgt := 168) dX11_ship_164 (by decide) ?_
      refine j_sub [] rfl ?_
      exact tj_X11_ship_168 C _ _ _ hN ((hk_sub hk (Nat.le_of_ble_eq_true rfl) (Nat.le_of_ble_eq_true rfl))) hm
  replace hm := if_f hm h47
  by_cases h53 : v2 = 8
  · replace hm := if_t hm h53
    refine j_tabI C (tgt := 169) 8 dX11_ship_6 (by rw [h53]; first | done | rfl) (by decide) (by decide) rfl (by decide) ?_
    refine j_aload_n C 0 dX11_ship_169 rfl ?_
    obtain ⟨q54, h55, hm⟩ := bd_some hm
    refine j_getR C fg_X11_19_10 hv0 (dr_spec h55).1 dX11_ship_170 ?_
    refine j_iload_n C 1 dX11_ship_173 rfl ?_
    obtain ⟨r56, h57, hm⟩ := bd_some hm
    refine call_I (run_LV C lk_X11_167 ⟨rfl, rfl, Nat.le_of_ble_eq_true rfl, Nat.le_of_ble_eq_true rfl⟩ (As := [.int v1]) ((dr_spec h55).2) rfl rfl (Nat.le_of_ble_eq_true rfl) dX11_ship_174 (mc_X9_isBorne _ _ _ _ _ _ ((dr_spec h55).2) h57)) ?_
    refine j_if_eq C (tgt := 184) dX11_ship_177 (by decide) (fun h58 => ?_) (fun h58 => ?_)
    · replace hm := if_t hm h58
      refine j_iconst C (v := 0) dX11_ship_184 rfl ?_
      refine j_sub [] rfl ?_
      exact tj_X11_ship_185 C _ _ _ hN ((hk_sub hk (Nat.le_of_ble_eq_true rfl) (Nat.le_of_ble_eq_true rfl))) hm
    · replace hm := if_f hm h58
      refine j_iconst C (v := 1) dX11_ship_180 rfl ?_
      refine j_goto C (tgt := 185) dX11_ship_181 (by decide) ?_
      refine j_sub [] rfl ?_
      exact tj_X11_ship_185 C _ _ _ hN ((hk_sub hk (Nat.le_of_ble_eq_true rfl) (Nat.le_of_ble_eq_true rfl))) hm
  replace hm := if_f hm h53
  by_cases h59 : v2 = 9
  · replace hm := if_t hm h59
    refine j_tabI C (tgt := 186) 9 dX11_ship_6 (by rw [h59]; first | done | rfl) (by decide) (by decide) rfl (by decide) ?_
    refine j_aload_n C 0 dX11_ship_186 rfl ?_
    obtain ⟨q60, h61, hm⟩ := bd_some hm
    refine j_getR C fg_X11_19_10 hv0 (dr_spec h61).1 dX11_ship_187 ?_
    refine j_iload_n C 1 dX11_ship_190 rfl ?_
    obtain ⟨r62, h63, hm⟩ := bd_some hm
    refine call_I (run_LV C lk_X11_170 ⟨rfl, rfl, Nat.le_of_ble_eq_true rfl, Nat.le_of_ble_eq_true rfl⟩ (As := [.int v1]) ((dr_spec h61).2) rfl rfl (Nat.le_of_ble_eq_true rfl) dX11_ship_191 (mc_X9_wedgesOf _ _ _ _ _ _ ((dr_spec h61).2) h63)) ?_
    obtain rfl := Option.some.inj hm
    exact jx_ireti C dX11_ship_194
  replace hm := if_f hm h59
  by_cases h64 : v2 = 10
  · replace hm := if_t hm h64
    refine j_tabI C (tgt := 195) 10 dX11_ship_6 (by rw [h64]; first | done | rfl) (by decide) (by decide) rfl (by decide) ?_
    refine j_aload_n C 0 dX11_ship_195 rfl ?_
    obtain ⟨q65, h66, hm⟩ := bd_some hm
    refine j_getR C fg_X11_19_10 hv0 (dr_spec h66).1 dX11_ship_196 ?_
    refine j_iload_n C 1 dX11_ship_199 rfl ?_
    obtain ⟨r67, h68, hm⟩ := bd_some hm
    refine call_I (run_LV C lk_X11_173 ⟨rfl, rfl, Nat.le_of_ble_eq_true rfl, Nat.le_of_ble_eq_true rfl⟩ (As := [.int v1]) ((dr_spec h66).2) rfl rfl (Nat.le_of_ble_eq_true rfl) dX11_ship_200 (mc_X9_whenFor _ _ _ _ _ _ ((dr_spec h66).2) h68)) ?_
    obtain rfl := Option.some.inj hm
    exact jx_ireti C dX11_ship_203
  replace hm := if_f hm h64
  by_cases h69 : v2 = 11
  · replace hm := if_t hm h69
    refine j_tabI C (tgt := 204) 11 dX11_ship_6 (by rw [h69]; first | done | rfl) (by decide) (by decide) rfl (by decide) ?_
    refine j_aload_n C 0 dX11_ship_204 rfl ?_
    obtain ⟨q70, h71, hm⟩ := bd_some hm
    refine j_getR C fg_X11_19_10 hv0 (dr_spec h71).1 dX11_ship_205 ?_
    refine j_iload_n C 1 dX11_ship_208 rfl ?_
    obtain ⟨r72, h73, hm⟩ := bd_some hm
    refine call_I (run_LV C lk_X11_176 ⟨rfl, rfl, Nat.le_of_ble_eq_true rfl, Nat.le_of_ble_eq_true rfl⟩ (As := [.int v1]) ((dr_spec h71).2) rfl rfl (Nat.le_of_ble_eq_true rfl) dX11_ship_209 (mc_X9_fitsAt _ _ _ _ _ _ ((dr_spec h71).2) h73)) ?_
    obtain rfl := Option.some.inj hm
    exact jx_ireti C dX11_ship_212
  replace hm := if_f hm h69
  by_cases h74 : v2 = 12
  · replace hm := if_t hm h74
    refine j_tabI C (tgt := 213) 12 dX11_ship_6 (by rw [h74]; first | done | rfl) (by decide) (by decide) rfl (by decide) ?_
    refine j_aload_n C 0 dX11_ship_213 rfl ?_
    obtain ⟨q75, h76, hm⟩ := bd_some hm
    refine j_getR C fg_X11_19_10 hv0 (dr_spec h76).1 dX11_ship_214 ?_
    refine j_iload_n C 1 dX11_ship_217 rfl ?_
    obtain ⟨r77, h78, hm⟩ := bd_some hm
    refine call_I (run_LV C lk_X11_179 ⟨rfl, rfl, Nat.le_of_ble_eq_true rfl, Nat.le_of_ble_eq_true rfl⟩ (As := [.int v1]) ((dr_spec h76).2) rfl rfl (Nat.le_of_ble_eq_true rfl) dX11_ship_218 (mc_X9_shareOf _ _ _ _ _ _ ((dr_spec h76).2) h78)) ?_
    obtain rfl := Option.some.inj hm
    exact jx_ireti C dX11_ship_221
  replace hm := if_f hm h74
  refine j_tabO C (tgt := 222) dX11_ship_6 (sw_out v2 [0, 1, 2, 3, 4, 5, 6, 7, 8, 9, 10, 11, 12] (by decide +kernel) ?_) (by decide) ?_
  · simp only [List.mem_cons, List.not_mem_nil, or_false, not_or]; exact ⟨h4, h10, h16, h22, h28, h34, h40, h47, h53, h59, h64, h69, h74⟩
  obtain rfl := Option.some.inj hm
  exact jx_throwN C hN tr_182_184_186 rfl (hk_sub hk (Nat.le_of_ble_eq_true rfl) (Nat.le_of_ble_eq_true rfl)) ⟨Nat.le_of_ble_eq_true rfl, Nat.le_of_ble_eq_true rfl⟩ rfl dX11_ship_222 dX11_ship_225 dX11_ship_226 dX11_ship_228 dX11_ship_231
set_option maxRecDepth 20000 in
set_option maxHeartbeats 4000000 in
theorem mcx_X11_ship (l : Launch) (hst : l.stackTraces = false) (N : Nat) (Λ : Lay) (μ : Mem) (v0 : Nat) (v1 : Int32) (v2 : Int32) (hv0 : inL Λ v0 10) {r : RX_} (hm : m_X11_ship N Λ μ v0 v1 v2 = some r) : MXI l yX11_ship cX11_ship 3 (some .int) rm_X11_ship Λ [.ref v0, .int v1, .int v2] μ r := mxi_of hst rfl (Nat.le_of_ble_eq_true rfl) (fun x C _ hN h0 => tm_X11_ship C _ _ _ _ _ hN (hk_0 h0) hv0 hm)
abbrev rm_X11_needPlace : Room := { frames := 6, cells := 1, slots := 6, locals := 120 }
set_option maxRecDepth 20000 in
set_option maxHeartbeats 4000000 in
theorem tj_X11_needPlace_10 {x : Ctx} {Λ : Lay} (C : Cx x cX11_needPlace 2 none RX11 Λ rm_X11_needPlace) (N : Nat) (μ : Mem) (hN : NT x) (hk : xk x + 1 ≤ (rm_X11_needPlace).cells ∧ xl x + 6 ≤ (rm_X11_needPlace).slots) {r : RX_} (hm : jn_X11_needPlace_10 N Λ μ = some r) : J x 2 Λ (QXV x Λ rm_X11_needPlace r) 10 [] [] μ := by
  obtain rfl := Option.some.inj hm
  exact jx_throwSW C hN tr_417_422_421 rfl (hk_sub hk (Nat.le_of_ble_eq_true rfl) (Nat.le_of_ble_eq_true rfl)) ⟨Nat.le_of_ble_eq_true rfl, Nat.le_of_ble_eq_true rfl⟩ rfl dX11_needPlace_10 dX11_needPlace_13 dX11_needPlace_14 dX11_needPlace_17 dX11_needPlace_20
set_option maxRecDepth 20000 in
set_option maxHeartbeats 4000000 in
theorem tm_X11_needPlace {x : Ctx} {Λ : Lay} (C : Cx x cX11_needPlace 2 none RX11 Λ rm_X11_needPlace) (N : Nat) (μ : Mem) (v0 : Nat) (v1 : Int32) (hN : NT x) (hk : xk x + 1 ≤ (rm_X11_needPlace).cells ∧ xl x + 6 ≤ (rm_X11_needPlace).slots) (hv0 : inL Λ v0 10) {r : RX_} (hm : m_X11_needPlace N Λ μ v0 v1 = some r) : J x 2 Λ (QXV x Λ rm_X11_needPlace r) 0 [(0, .ref v0), (1, .int v1)] [] μ := by
  refine j_iload_n C 1 dX11_needPlace_0 rfl ?_
  refine j_if_lt C (tgt := 10) dX11_needPlace_1 (by decide) (fun h1 => ?_) (fun h1 => ?_)
  · replace hm := if_t hm h1
    refine j_sub [] rfl ?_
    exact tj_X11_needPlace_10 C _ _ hN ((hk_sub hk (Nat.le_of_ble_eq_true rfl) (Nat.le_of_ble_eq_true rfl))) hm
  · replace hm := if_f hm h1
    refine j_iload_n C 1 dX11_needPlace_4 rfl ?_
    refine j_bipush C (v := 24) dX11_needPlace_5 rfl ?_
    refine j_icmp_lt C (tgt := 21) dX11_needPlace_7 (by decide) (fun h2 => ?_) (fun h2 => ?_)
    · replace hm := if_t hm h2
      obtain rfl := Option.some.inj hm
      exact jx_vret C dX11_needPlace_21
    · replace hm := if_f hm h2
      refine j_sub [] rfl ?_
      exact tj_X11_needPlace_10 C _ _ hN ((hk_sub hk (Nat.le_of_ble_eq_true rfl) (Nat.le_of_ble_eq_true rfl))) hm
set_option maxRecDepth 20000 in
set_option maxHeartbeats 4000000 in
theorem mcx_X11_needPlace (l : Launch) (hst : l.stackTraces = false) (N : Nat) (Λ : Lay) (μ : Mem) (v0 : Nat) (v1 : Int32) (hv0 : inL Λ v0 10) {r : RX_} (hm : m_X11_needPlace N Λ μ v0 v1 = some r) : MXV l yX11_needPlace cX11_needPlace 2 rm_X11_needPlace Λ [.ref v0, .int v1] μ r := mxv_of hst rfl (Nat.le_of_ble_eq_true rfl) (fun x C _ hN h0 => tm_X11_needPlace C _ _ _ _ hN (hk_0 h0) hv0 hm)
abbrev rm_X11_place : Room := { frames := 7, cells := 2, slots := 12, locals := 141 }
set_option maxRecDepth 20000 in
set_option maxHeartbeats 4000000 in
theorem tm_X11_place {x : Ctx} {Λ : Lay} (C : Cx x cX11_place 3 (some .int) RX11 Λ rm_X11_place) (N : Nat) (μ : Mem) (v0 : Nat) (v1 : Int32) (v2 : Int32) (hN : NT x) (hk : xk x + 2 ≤ (rm_X11_place).cells ∧ xl x + 12 ≤ (rm_X11_place).slots) (hv0 : inL Λ v0 10) {r : RX_} (hm : m_X11_place N Λ μ v0 v1 v2 = some r) : J x 3 Λ (QXI x Λ rm_X11_place r) 0 [(0, .ref v0), (1, .int v1), (2, .int v2)] [] μ := by
  refine j_aload_n C 0 dX11_place_0 rfl ?_
  refine j_iload_n C 1 dX11_place_1 rfl ?_
  obtain ⟨r1, h2, hm⟩ := bd_some hm
  refine call_XV C hN (runx_LV C lk_X11_187 ⟨Nat.le_of_ble_eq_true rfl, Nat.le_of_ble_eq_true rfl⟩ (hk_sub hk (Nat.le_of_ble_eq_true rfl) (Nat.le_of_ble_eq_true rfl)) (As := [.int v1]) hv0 rfl rfl (Nat.le_of_ble_eq_true rfl) dX11_place_2 (mcx_X11_needPlace _ hN.2 _ _ _ _ _ hv0 h2)) (hk_sub hk (Nat.le_of_ble_eq_true rfl) (Nat.le_of_ble_eq_true rfl)) (fun e3 => ?_) (fun e3 => ?_)
  rotate_left
  · replace hm := if_f hm e3; obtain rfl := Option.some.inj hm; exact ⟨_, rfl⟩
  replace hm := if_t hm e3
  replace C := Cx_bump (a := 1) (b := 6) C (hk_sub hk (Nat.le_of_ble_eq_true rfl) (Nat.le_of_ble_eq_true rfl))
  replace hN := NT_bump (a := 1) (b := 6) hN
  replace hk := hk_bump (a := 1) (b := 6) (n := 1) (m := 6) hk
  refine j_iload_n C 2 dX11_place_5 rfl ?_
  by_cases h4 : v2 = 0
  · replace hm := if_t hm h4
    refine j_look C (tgt := 32) dX11_place_6 (by decide) (by rw [h4]; first | done | rfl) (by decide) ?_
    refine j_aload_n C 0 dX11_place_32 rfl ?_
    obtain ⟨q5, h6, hm⟩ := bd_some hm
    refine j_getR C fg_X11_19_10 hv0 (dr_spec h6).1 dX11_place_33 ?_
    refine j_getI C fg_X11_190_8 ((dr_spec h6).2) dX11_place_36 ?_
    refine j_iload_n C 1 dX11_place_39 rfl ?_
    refine j_ishr C dX11_place_40 ?_
    refine j_iconst C (v := 1) dX11_place_41 rfl ?_
    refine j_iand C dX11_place_42 ?_
    obtain rfl := Option.some.inj hm
    exact jx_ireti C dX11_place_43
  replace hm := if_f hm h4
  by_cases h7 : v2 = 1
  · replace hm := if_t hm h7
    refine j_look C (tgt := 44) dX11_place_6 (by decide) (by rw [h7]; first | done | rfl) (by decide) ?_
    refine j_aload_n C 0 dX11_place_44 rfl ?_
    obtain ⟨q8, h9, hm⟩ := bd_some hm
    refine j_getR C fg_X11_19_10 hv0 (dr_spec h9).1 dX11_place_45 ?_
    refine j_iload_n C 1 dX11_place_48 rfl ?_
    obtain ⟨r10, h11, hm⟩ := bd_some hm
    refine call_I (run_LV C lk_X11_193 ⟨rfl, rfl, Nat.le_of_ble_eq_true rfl, Nat.le_of_ble_eq_true rfl⟩ (As := [.int v1]) ((dr_spec h9).2) rfl rfl (Nat.le_of_ble_eq_true rfl) dX11_place_49 (mc_X9_shipOn _ _ _ _ _ _ ((dr_spec h9).2) h11)) ?_
    obtain rfl := Option.some.inj hm
    exact jx_ireti C dX11_place_52
  replace hm := if_f hm h7
  refine j_look C (tgt := 53) dX11_place_6 (by decide) (sw_look v2 [0, 1] rfl ?_) (by decide) ?_
  · simp only [List.mem_cons, List.not_mem_nil, or_false, not_or]; exact ⟨h4, h7⟩
  obtain rfl := Option.some.inj hm
  exact jx_throwN C hN tr_182_196_186 rfl (hk_sub hk (Nat.le_of_ble_eq_true rfl) (Nat.le_of_ble_eq_true rfl)) ⟨Nat.le_of_ble_eq_true rfl, Nat.le_of_ble_eq_true rfl⟩ rfl dX11_place_53 dX11_place_56 dX11_place_57 dX11_place_59 dX11_place_62
set_option maxRecDepth 20000 in
set_option maxHeartbeats 4000000 in
theorem mcx_X11_place (l : Launch) (hst : l.stackTraces = false) (N : Nat) (Λ : Lay) (μ : Mem) (v0 : Nat) (v1 : Int32) (v2 : Int32) (hv0 : inL Λ v0 10) {r : RX_} (hm : m_X11_place N Λ μ v0 v1 v2 = some r) : MXI l yX11_place cX11_place 3 (some .int) rm_X11_place Λ [.ref v0, .int v1, .int v2] μ r := mxi_of hst rfl (Nat.le_of_ble_eq_true rfl) (fun x C _ hN h0 => tm_X11_place C _ _ _ _ _ hN (hk_0 h0) hv0 hm)
abbrev rm_X11_needTide : Room := { frames := 6, cells := 1, slots := 6, locals := 120 }
set_option maxRecDepth 20000 in
set_option maxHeartbeats 4000000 in
theorem tj_X11_needTide_10 {x : Ctx} {Λ : Lay} (C : Cx x cX11_needTide 2 none RX11 Λ rm_X11_needTide) (N : Nat) (μ : Mem) (hN : NT x) (hk : xk x + 1 ≤ (rm_X11_needTide).cells ∧ xl x + 6 ≤ (rm_X11_needTide).slots) {r : RX_} (hm : jn_X11_needTide_10 N Λ μ = some r) : J x 2 Λ (QXV x Λ rm_X11_needTide r) 10 [] [] μ := by
  obtain rfl := Option.some.inj hm
  exact jx_throwSW C hN tr_417_424_421 rfl (hk_sub hk (Nat.le_of_ble_eq_true rfl) (Nat.le_of_ble_eq_true rfl)) ⟨Nat.le_of_ble_eq_true rfl, Nat.le_of_ble_eq_true rfl⟩ rfl dX11_needTide_10 dX11_needTide_13 dX11_needTide_14 dX11_needTide_17 dX11_needTide_20
set_option maxRecDepth 20000 in
set_option maxHeartbeats 4000000 in
theorem tm_X11_needTide {x : Ctx} {Λ : Lay} (C : Cx x cX11_needTide 2 none RX11 Λ rm_X11_needTide) (N : Nat) (μ : Mem) (v0 : Nat) (v1 : Int32) (hN : NT x) (hk : xk x + 1 ≤ (rm_X11_needTide).cells ∧ xl x + 6 ≤ (rm_X11_needTide).slots) (hv0 : inL Λ v0 10) {r : RX_} (hm : m_X11_needTide N Λ μ v0 v1 = some r) : J x 2 Λ (QXV x Λ rm_X11_needTide r) 0 [(0, .ref v0), (1, .int v1)] [] μ := by
  refine j_iload_n C 1 dX11_needTide_0 rfl ?_
  refine j_if_lt C (tgt := 10) dX11_needTide_1 (by decide) (fun h1 => ?_) (fun h1 => ?_)
  · replace hm := if_t hm h1
    refine j_sub [] rfl ?_
    exact tj_X11_needTide_10 C _ _ hN ((hk_sub hk (Nat.le_of_ble_eq_true rfl) (Nat.le_of_ble_eq_true rfl))) hm
  · replace hm := if_f hm h1
    refine j_iload_n C 1 dX11_needTide_4 rfl ?_
    refine j_bipush C (v := 12) dX11_needTide_5 rfl ?_
    refine j_icmp_lt C (tgt := 21) dX11_needTide_7 (by decide) (fun h2 => ?_) (fun h2 => ?_)
    · replace hm := if_t hm h2
      obtain rfl := Option.some.inj hm
      exact jx_vret C dX11_needTide_21
    · replace hm := if_f hm h2
      refine j_sub [] rfl ?_
      exact tj_X11_needTide_10 C _ _ hN ((hk_sub hk (Nat.le_of_ble_eq_true rfl) (Nat.le_of_ble_eq_true rfl))) hm
set_option maxRecDepth 20000 in
set_option maxHeartbeats 4000000 in
theorem mcx_X11_needTide (l : Launch) (hst : l.stackTraces = false) (N : Nat) (Λ : Lay) (μ : Mem) (v0 : Nat) (v1 : Int32) (hv0 : inL Λ v0 10) {r : RX_} (hm : m_X11_needTide N Λ μ v0 v1 = some r) : MXV l yX11_needTide cX11_needTide 2 rm_X11_needTide Λ [.ref v0, .int v1] μ r := mxv_of hst rfl (Nat.le_of_ble_eq_true rfl) (fun x C _ hN h0 => tm_X11_needTide C _ _ _ _ hN (hk_0 h0) hv0 hm)
abbrev rm_X11_tide : Room := { frames := 7, cells := 1, slots := 6, locals := 141 }
set_option maxRecDepth 20000 in
set_option maxHeartbeats 4000000 in
theorem tm_X11_tide {x : Ctx} {Λ : Lay} (C : Cx x cX11_tide 2 (some .int) RX11 Λ rm_X11_tide) (N : Nat) (μ : Mem) (v0 : Nat) (v1 : Int32) (hN : NT x) (hk : xk x + 1 ≤ (rm_X11_tide).cells ∧ xl x + 6 ≤ (rm_X11_tide).slots) (hv0 : inL Λ v0 10) {r : RX_} (hm : m_X11_tide N Λ μ v0 v1 = some r) : J x 2 Λ (QXI x Λ rm_X11_tide r) 0 [(0, .ref v0), (1, .int v1)] [] μ := by
  refine j_aload_n C 0 dX11_tide_0 rfl ?_
  refine j_iload_n C 1 dX11_tide_1 rfl ?_
  obtain ⟨r1, h2, hm⟩ := bd_some hm
  refine call_XV C hN (runx_LV C lk_X11_198 ⟨Nat.le_of_ble_eq_true rfl, Nat.le_of_ble_eq_true rfl⟩ (hk_sub hk (Nat.le_of_ble_eq_true rfl) (Nat.le_of_ble_eq_true rfl)) (As := [.int v1]) hv0 rfl rfl (Nat.le_of_ble_eq_true rfl) dX11_tide_2 (mcx_X11_needTide _ hN.2 _ _ _ _ _ hv0 h2)) (hk_sub hk (Nat.le_of_ble_eq_true rfl) (Nat.le_of_ble_eq_true rfl)) (fun e3 => ?_) (fun e3 => ?_)
  rotate_left
  · replace hm := if_f hm e3; obtain rfl := Option.some.inj hm; exact ⟨_, rfl⟩
  replace hm := if_t hm e3
  replace C := Cx_bump (a := 1) (b := 6) C (hk_sub hk (Nat.le_of_ble_eq_true rfl) (Nat.le_of_ble_eq_true rfl))
  replace hN := NT_bump (a := 1) (b := 6) hN
  replace hk := hk_bump (a := 1) (b := 6) (n := 0) (m := 0) hk
  refine j_aload_n C 0 dX11_tide_5 rfl ?_
  obtain ⟨q4, h5, hm⟩ := bd_some hm
  refine j_getR C fg_X11_19_10 hv0 (dr_spec h5).1 dX11_tide_6 ?_
  obtain ⟨q6, h7, hm⟩ := bd_some hm
  refine j_getR C fg_X11_201_8 ((dr_spec h5).2) (dr_spec h7).1 dX11_tide_9 ?_
  refine j_iload_n C 1 dX11_tide_12 rfl ?_
  obtain ⟨h8, hm⟩ := gd_some hm
  refine j_iald C ((dr_spec h7).2) h8 dX11_tide_13 ?_
  obtain rfl := Option.some.inj hm
  exact jx_ireti C dX11_tide_14
set_option maxRecDepth 20000 in
set_option maxHeartbeats 4000000 in
theorem mcx_X11_tide (l : Launch) (hst : l.stackTraces = false) (N : Nat) (Λ : Lay) (μ : Mem) (v0 : Nat) (v1 : Int32) (hv0 : inL Λ v0 10) {r : RX_} (hm : m_X11_tide N Λ μ v0 v1 = some r) : MXI l yX11_tide cX11_tide 2 (some .int) rm_X11_tide Λ [.ref v0, .int v1] μ r := mxi_of hst rfl (Nat.le_of_ble_eq_true rfl) (fun x C _ hN h0 => tm_X11_tide C _ _ _ _ hN (hk_0 h0) hv0 hm)
abbrev rm_X11_hours : Room := { frames := 6, cells := 1, slots := 6, locals := 156 }
set_option maxRecDepth 20000 in
set_option maxHeartbeats 4000000 in
theorem tj_X11_hours_11 {x : Ctx} {Λ : Lay} (C : Cx x cX11_hours 2 (some .int) RX11 Λ rm_X11_hours) (N : Nat) (μ : Mem) (hN : NT x) (hk : xk x + 1 ≤ (rm_X11_hours).cells ∧ xl x + 6 ≤ (rm_X11_hours).slots) {r : RX_} (hm : jn_X11_hours_11 N Λ μ = some r) : J x 2 Λ (QXI x Λ rm_X11_hours r) 11 [] [] μ := by
  obtain rfl := Option.some.inj hm
  exact jx_throwS C hN tr_107_204_111 rfl (hk_sub hk (Nat.le_of_ble_eq_true rfl) (Nat.le_of_ble_eq_true rfl)) ⟨Nat.le_of_ble_eq_true rfl, Nat.le_of_ble_eq_true rfl⟩ rfl dX11_hours_11 dX11_hours_14 dX11_hours_15 dX11_hours_17 dX11_hours_20
set_option maxRecDepth 20000 in
set_option maxHeartbeats 4000000 in
theorem tm_X11_hours {x : Ctx} {Λ : Lay} (C : Cx x cX11_hours 2 (some .int) RX11 Λ rm_X11_hours) (N : Nat) (μ : Mem) (v0 : Nat) (v1 : Int32) (hN : NT x) (hk : xk x + 1 ≤ (rm_X11_hours).cells ∧ xl x + 6 ≤ (rm_X11_hours).slots) (hv0 : inL Λ v0 10) {r : RX_} (hm : m_X11_hours N Λ μ v0 v1 = some r) : J x 2 Λ (QXI x Λ rm_X11_hours r) 0 [(0, .ref v0), (1, .int v1)] [] μ := by
  refine j_iload_n C 1 dX11_hours_0 rfl ?_
  refine j_iconst C (v := 1) dX11_hours_1 rfl ?_
  refine j_icmp_lt C (tgt := 11) dX11_hours_2 (by decide) (fun h1 => ?_) (fun h1 => ?_)
  · replace hm := if_t hm h1
    refine j_sub [] rfl ?_
    exact tj_X11_hours_11 C _ _ hN ((hk_sub hk (Nat.le_of_ble_eq_true rfl) (Nat.le_of_ble_eq_true rfl))) hm
  · replace hm := if_f hm h1
    refine j_iload_n C 1 dX11_hours_5 rfl ?_
    refine j_bipush C (v := 60) dX11_hours_6 rfl ?_
    refine j_icmp_le C (tgt := 21) dX11_hours_8 (by decide) (fun h2 => ?_) (fun h2 => ?_)
    · replace hm := if_t hm h2
      refine j_aload_n C 0 dX11_hours_21 rfl ?_
      obtain ⟨q3, h4, hm⟩ := bd_some hm
      refine j_getR C fg_X11_63_10 hv0 (dr_spec h4).1 dX11_hours_22 ?_
      refine j_aload_n C 0 dX11_hours_25 rfl ?_
      obtain ⟨q5, h6, hm⟩ := bd_some hm
      refine j_getR C fg_X11_19_10 hv0 (dr_spec h6).1 dX11_hours_26 ?_
      obtain ⟨r7, h8, hm⟩ := bd_some hm
      refine call_V (run_LV C lk_X11_206 ⟨rfl, rfl, Nat.le_of_ble_eq_true rfl, Nat.le_of_ble_eq_true rfl⟩ (As := [.ref q5]) ((dr_spec h4).2) rfl rfl (Nat.le_of_ble_eq_true rfl) dX11_hours_29 (mc_X5_remember _ _ _ _ _ _ ((dr_spec h4).2) ((dr_spec h6).2) h8)) ?_
      refine j_aload_n C 0 dX11_hours_32 rfl ?_
      obtain ⟨q9, h10, hm⟩ := bd_some hm
      refine j_getR C fg_X11_19_10 hv0 (dr_spec h10).1 dX11_hours_33 ?_
      refine j_iload_n C 1 dX11_hours_36 rfl ?_
      refine j_aload_n C 0 dX11_hours_37 rfl ?_
      obtain ⟨q11, h12, hm⟩ := bd_some hm
      refine j_getR C fg_X11_32_10 hv0 (dr_spec h12).1 dX11_hours_38 ?_
      refine j_iconst C (v := 1) dX11_hours_41 rfl ?_
      obtain ⟨r13, h14, hm⟩ := bd_some hm
      refine call_I (run_LV C lk_X11_209 ⟨rfl, rfl, Nat.le_of_ble_eq_true rfl, Nat.le_of_ble_eq_true rfl⟩ (As := [.int v1, .ref q11, .int 1]) ((dr_spec h10).2) rfl rfl (Nat.le_of_ble_eq_true rfl) dX11_hours_42 (mc_X9_pass _ _ _ _ _ _ _ _ ((dr_spec h10).2) ((dr_spec h12).2) h14)) ?_
      obtain rfl := Option.some.inj hm
      exact jx_ireti C dX11_hours_45
    · replace hm := if_f hm h2
      refine j_sub [] rfl ?_
      exact tj_X11_hours_11 C _ _ hN ((hk_sub hk (Nat.le_of_ble_eq_true rfl) (Nat.le_of_ble_eq_true rfl))) hm
set_option maxRecDepth 20000 in
set_option maxHeartbeats 4000000 in
theorem mcx_X11_hours (l : Launch) (hst : l.stackTraces = false) (N : Nat) (Λ : Lay) (μ : Mem) (v0 : Nat) (v1 : Int32) (hv0 : inL Λ v0 10) {r : RX_} (hm : m_X11_hours N Λ μ v0 v1 = some r) : MXI l yX11_hours cX11_hours 2 (some .int) rm_X11_hours Λ [.ref v0, .int v1] μ r := mxi_of hst rfl (Nat.le_of_ble_eq_true rfl) (fun x C _ hN h0 => tm_X11_hours C _ _ _ _ hN (hk_0 h0) hv0 hm)
abbrev rm_X11_gate : Room := { frames := 6, cells := 1, slots := 6, locals := 123 }
set_option maxRecDepth 20000 in
set_option maxHeartbeats 4000000 in
theorem tj_X11_gate_61 {x : Ctx} {Λ : Lay} (C : Cx x cX11_gate 3 (some .boolean) RX11 Λ rm_X11_gate) (N : Nat) (μ : Mem) (v0 : Nat) (v1 : Int32) (s0 : Int32) (hN : NT x) (hk : xk x + 0 ≤ (rm_X11_gate).cells ∧ xl x + 0 ≤ (rm_X11_gate).slots) (hv0 : inL Λ v0 10) {r : RX_} (hm : jn_X11_gate_61 N Λ μ v0 v1 s0 = some r) : J x 3 Λ (QXI x Λ rm_X11_gate r) 61 [(0, .ref v0), (1, .int v1)] [.int s0] μ := by
  refine j_istore_n C (lv' := [(2, .int s0), (0, .ref v0), (1, .int v1)]) dX11_gate_61 (by decide) rfl ?_
  refine j_aload_n C 1 dX11_gate_62 rfl ?_
  obtain ⟨q1, h2, hm⟩ := bd_some hm
  refine j_getR C fg_X11_19_10 hv0 (dr_spec h2).1 dX11_gate_63 ?_
  refine j_iload_n C 2 dX11_gate_66 rfl ?_
  obtain ⟨h3, hm⟩ := gd_some hm
  obtain ⟨μ4, e5, hm⟩ := lt_some hm
  refine j_putZ C fp_X11_213_8 h3 ((dr_spec h2).2) e5 dX11_gate_67 ?_
  refine j_iload_n C 0 dX11_gate_70 rfl ?_
  obtain ⟨h6, hm⟩ := gd_some hm
  obtain rfl := Option.some.inj hm
  exact jx_iretz C h6 dX11_gate_71
set_option maxRecDepth 20000 in
set_option maxHeartbeats 4000000 in
theorem tj_X11_gate_34 {x : Ctx} {Λ : Lay} (C : Cx x cX11_gate 3 (some .boolean) RX11 Λ rm_X11_gate) (N : Nat) (μ : Mem) (v0 : Nat) (v1 : Int32) (hN : NT x) (hk : xk x + 0 ≤ (rm_X11_gate).cells ∧ xl x + 0 ≤ (rm_X11_gate).slots) (hv0 : inL Λ v0 10) {r : RX_} (hm : jn_X11_gate_34 N Λ μ v0 v1 = some r) : J x 3 Λ (QXI x Λ rm_X11_gate r) 34 [(0, .ref v0), (1, .int v1)] [] μ := by
  refine j_aload_n C 0 dX11_gate_34 rfl ?_
  obtain ⟨q1, h2, hm⟩ := bd_some hm
  refine j_getR C fg_X11_63_10 hv0 (dr_spec h2).1 dX11_gate_35 ?_
  refine j_aload_n C 0 dX11_gate_38 rfl ?_
  obtain ⟨q3, h4, hm⟩ := bd_some hm
  refine j_getR C fg_X11_19_10 hv0 (dr_spec h4).1 dX11_gate_39 ?_
  obtain ⟨r5, h6, hm⟩ := bd_some hm
  refine call_V (run_LV C lk_X11_206 ⟨rfl, rfl, Nat.le_of_ble_eq_true rfl, Nat.le_of_ble_eq_true rfl⟩ (As := [.ref q3]) ((dr_spec h2).2) rfl rfl (Nat.le_of_ble_eq_true rfl) dX11_gate_42 (mc_X5_remember _ _ _ _ _ _ ((dr_spec h2).2) ((dr_spec h4).2) h6)) ?_
  refine j_aload_n C 0 dX11_gate_45 rfl ?_
  obtain ⟨q7, h8, hm⟩ := bd_some hm
  refine j_getR C fg_X11_19_10 hv0 (dr_spec h8).1 dX11_gate_46 ?_
  refine j_getI C fg_X11_213_8 ((dr_spec h8).2) dX11_gate_49 ?_
  refine j_iload_n C 1 dX11_gate_52 rfl ?_
  refine j_icmp_eq C (tgt := 60) dX11_gate_53 (by decide) (fun h9 => ?_) (fun h9 => ?_)
  · replace hm := if_t hm h9
    refine j_iconst C (v := 0) dX11_gate_60 rfl ?_
    exact tj_X11_gate_61 C _ _ _ _ _ hN ((hk_sub hk (Nat.le_of_ble_eq_true rfl) (Nat.le_of_ble_eq_true rfl))) hv0 hm
  · replace hm := if_f hm h9
    refine j_iconst C (v := 1) dX11_gate_56 rfl ?_
    refine j_goto C (tgt := 61) dX11_gate_57 (by decide) ?_
    exact tj_X11_gate_61 C _ _ _ _ _ hN ((hk_sub hk (Nat.le_of_ble_eq_true rfl) (Nat.le_of_ble_eq_true rfl))) hv0 hm
set_option maxRecDepth 20000 in
set_option maxHeartbeats 4000000 in
theorem tm_X11_gate {x : Ctx} {Λ : Lay} (C : Cx x cX11_gate 3 (some .boolean) RX11 Λ rm_X11_gate) (N : Nat) (μ : Mem) (v0 : Nat) (v1 : Int32) (hN : NT x) (hk : xk x + 1 ≤ (rm_X11_gate).cells ∧ xl x + 6 ≤ (rm_X11_gate).slots) (hv0 : inL Λ v0 10) {r : RX_} (hm : m_X11_gate N Λ μ v0 v1 = some r) : J x 3 Λ (QXI x Λ rm_X11_gate r) 0 [(0, .ref v0), (1, .int v1)] [] μ := by
  refine j_iload_n C 1 dX11_gate_0 rfl ?_
  refine j_if_eq C (tgt := 34) dX11_gate_1 (by decide) (fun h1 => ?_) (fun h1 => ?_)
  · replace hm := if_t hm h1
    exact tj_X11_gate_34 C _ _ _ _ hN ((hk_sub hk (Nat.le_of_ble_eq_true rfl) (Nat.le_of_ble_eq_true rfl))) hv0 hm
  · replace hm := if_f hm h1
    refine j_aload_n C 0 dX11_gate_4 rfl ?_
    obtain ⟨q2, h3, hm⟩ := bd_some hm
    refine j_getR C fg_X11_19_10 hv0 (dr_spec h3).1 dX11_gate_5 ?_
    refine j_getI C fg_X11_213_8 ((dr_spec h3).2) dX11_gate_8 ?_
    refine j_if_ne C (tgt := 34) dX11_gate_11 (by decide) (fun h4 => ?_) (fun h4 => ?_)
    · replace hm := if_f hm h4
      exact tj_X11_gate_34 C _ _ _ _ hN ((hk_sub hk (Nat.le_of_ble_eq_true rfl) (Nat.le_of_ble_eq_true rfl))) hv0 hm
    · replace hm := if_t hm h4
      refine j_aload_n C 0 dX11_gate_14 rfl ?_
      obtain ⟨q5, h6, hm⟩ := bd_some hm
      refine j_getR C fg_X11_19_10 hv0 (dr_spec h6).1 dX11_gate_15 ?_
      obtain ⟨r7, h8, hm⟩ := bd_some hm
      refine call_I (run_LV C lk_X11_217 ⟨rfl, rfl, Nat.le_of_ble_eq_true rfl, Nat.le_of_ble_eq_true rfl⟩ (As := []) ((dr_spec h6).2) rfl rfl (Nat.le_of_ble_eq_true rfl) dX11_gate_18 (mc_X9_isEven _ _ _ _ _ ((dr_spec h6).2) h8)) ?_
      refine j_if_ne C (tgt := 34) dX11_gate_21 (by decide) (fun h9 => ?_) (fun h9 => ?_)
      · replace hm := if_f hm h9
        exact tj_X11_gate_34 C _ _ _ _ hN ((hk_sub hk (Nat.le_of_ble_eq_true rfl) (Nat.le_of_ble_eq_true rfl))) hv0 hm
      · replace hm := if_t hm h9
        obtain rfl := Option.some.inj hm
        exact jx_throwS C hN tr_221_223_225 rfl (hk_sub hk (Nat.le_of_ble_eq_true rfl) (Nat.le_of_ble_eq_true rfl)) ⟨Nat.le_of_ble_eq_true rfl, Nat.le_of_ble_eq_true rfl⟩ rfl dX11_gate_24 dX11_gate_27 dX11_gate_28 dX11_gate_30 dX11_gate_33
set_option maxRecDepth 20000 in
set_option maxHeartbeats 4000000 in
theorem mcx_X11_gate (l : Launch) (hst : l.stackTraces = false) (N : Nat) (Λ : Lay) (μ : Mem) (v0 : Nat) (v1 : Int32) (hv0 : inL Λ v0 10) {r : RX_} (hm : m_X11_gate N Λ μ v0 v1 = some r) : MXI l yX11_gate cX11_gate 3 (some .boolean) rm_X11_gate Λ [.ref v0, .int v1] μ r := mxi_of hst rfl (Nat.le_of_ble_eq_true rfl) (fun x C _ hN h0 => tm_X11_gate C _ _ _ _ hN (hk_0 h0) hv0 hm)
abbrev rm_X11_enter : Room := { frames := 7, cells := 3, slots := 18, locals := 141 }
set_option maxRecDepth 20000 in
set_option maxHeartbeats 4000000 in
theorem tj_X11_enter_74 {x : Ctx} {Λ : Lay} (C : Cx x cX11_enter 3 (some .int) RX11 Λ rm_X11_enter) (N : Nat) (μ : Mem) (hN : NT x) (hk : xk x + 1 ≤ (rm_X11_enter).cells ∧ xl x + 6 ≤ (rm_X11_enter).slots) {r : RX_} (hm : jn_X11_enter_74 N Λ μ = some r) : J x 3 Λ (QXI x Λ rm_X11_enter r) 74 [] [] μ := by
  obtain rfl := Option.some.inj hm
  exact jx_throwS C hN tr_221_237_225 rfl (hk_sub hk (Nat.le_of_ble_eq_true rfl) (Nat.le_of_ble_eq_true rfl)) ⟨Nat.le_of_ble_eq_true rfl, Nat.le_of_ble_eq_true rfl⟩ rfl dX11_enter_74 dX11_enter_77 dX11_enter_78 dX11_enter_80 dX11_enter_83
set_option maxRecDepth 20000 in
set_option maxHeartbeats 4000000 in
theorem tm_X11_enter {x : Ctx} {Λ : Lay} (C : Cx x cX11_enter 3 (some .int) RX11 Λ rm_X11_enter) (N : Nat) (μ : Mem) (v0 : Nat) (v1 : Int32) (v2 : Int32) (hN : NT x) (hk : xk x + 3 ≤ (rm_X11_enter).cells ∧ xl x + 18 ≤ (rm_X11_enter).slots) (hv0 : inL Λ v0 10) {r : RX_} (hm : m_X11_enter N Λ μ v0 v1 v2 = some r) : J x 3 Λ (QXI x Λ rm_X11_enter r) 0 [(0, .ref v0), (1, .int v1), (2, .int v2)] [] μ := by
  refine j_aload_n C 0 dX11_enter_0 rfl ?_
  refine j_iload_n C 1 dX11_enter_1 rfl ?_
  obtain ⟨r1, h2, hm⟩ := bd_some hm
  refine call_XV C hN (runx_LV C lk_X11_137 ⟨Nat.le_of_ble_eq_true rfl, Nat.le_of_ble_eq_true rfl⟩ (hk_sub hk (Nat.le_of_ble_eq_true rfl) (Nat.le_of_ble_eq_true rfl)) (As := [.int v1]) hv0 rfl rfl (Nat.le_of_ble_eq_true rfl) dX11_enter_2 (mcx_X11_needShip _ hN.2 _ _ _ _ _ hv0 h2)) (hk_sub hk (Nat.le_of_ble_eq_true rfl) (Nat.le_of_ble_eq_true rfl)) (fun e3 => ?_) (fun e3 => ?_)
  rotate_left
  · replace hm := if_f hm e3; obtain rfl := Option.some.inj hm; exact ⟨_, rfl⟩
  replace hm := if_t hm e3
  replace C := Cx_bump (a := 1) (b := 6) C (hk_sub hk (Nat.le_of_ble_eq_true rfl) (Nat.le_of_ble_eq_true rfl))
  replace hN := NT_bump (a := 1) (b := 6) hN
  replace hk := hk_bump (a := 1) (b := 6) (n := 2) (m := 12) hk
  refine j_aload_n C 0 dX11_enter_5 rfl ?_
  refine j_iload_n C 2 dX11_enter_6 rfl ?_
  obtain ⟨r4, h5, hm⟩ := bd_some hm
  refine call_XV C hN (runx_LV C lk_X11_187 ⟨Nat.le_of_ble_eq_true rfl, Nat.le_of_ble_eq_true rfl⟩ (hk_sub hk (Nat.le_of_ble_eq_true rfl) (Nat.le_of_ble_eq_true rfl)) (As := [.int v2]) hv0 rfl rfl (Nat.le_of_ble_eq_true rfl) dX11_enter_7 (mcx_X11_needPlace _ hN.2 _ _ _ _ _ hv0 h5)) (hk_sub hk (Nat.le_of_ble_eq_true rfl) (Nat.le_of_ble_eq_true rfl)) (fun e6 => ?_) (fun e6 => ?_)
  rotate_left
  · replace hm := if_f hm e6; obtain rfl := Option.some.inj hm; exact ⟨_, rfl⟩
  replace hm := if_t hm e6
  replace C := Cx_bump (a := 1) (b := 6) C (hk_sub hk (Nat.le_of_ble_eq_true rfl) (Nat.le_of_ble_eq_true rfl))
  replace hN := NT_bump (a := 1) (b := 6) hN
  replace hk := hk_bump (a := 1) (b := 6) (n := 1) (m := 6) hk
  refine j_aload_n C 0 dX11_enter_10 rfl ?_
  obtain ⟨q7, h8, hm⟩ := bd_some hm
  refine j_getR C fg_X11_19_10 hv0 (dr_spec h8).1 dX11_enter_11 ?_
  refine j_getI C fg_X11_213_8 ((dr_spec h8).2) dX11_enter_14 ?_
  refine j_if_eq C (tgt := 74) dX11_enter_17 (by decide) (fun h9 => ?_) (fun h9 => ?_)
  · replace hm := if_t hm h9
    refine j_sub [] rfl ?_
    exact tj_X11_enter_74 C _ _ hN ((hk_sub hk (Nat.le_of_ble_eq_true rfl) (Nat.le_of_ble_eq_true rfl))) hm
  · replace hm := if_f hm h9
    refine j_aload_n C 0 dX11_enter_20 rfl ?_
    obtain ⟨q10, h11, hm⟩ := bd_some hm
    refine j_getR C fg_X11_19_10 hv0 (dr_spec h11).1 dX11_enter_21 ?_
    obtain ⟨q12, h13, hm⟩ := bd_some hm
    refine j_getR C fg_X11_150_8 ((dr_spec h11).2) (dr_spec h13).1 dX11_enter_24 ?_
    refine j_iload_n C 1 dX11_enter_27 rfl ?_
    obtain ⟨h14, hm⟩ := gd_some hm
    refine j_iald C ((dr_spec h13).2) h14 dX11_enter_28 ?_
    refine j_if_ne C (tgt := 74) dX11_enter_29 (by decide) (fun h15 => ?_) (fun h15 => ?_)
    · replace hm := if_f hm h15
      refine j_sub [] rfl ?_
      exact tj_X11_enter_74 C _ _ hN ((hk_sub hk (Nat.le_of_ble_eq_true rfl) (Nat.le_of_ble_eq_true rfl))) hm
    · replace hm := if_t hm h15
      refine j_aload_n C 0 dX11_enter_32 rfl ?_
      obtain ⟨q16, h17, hm⟩ := bd_some hm
      refine j_getR C fg_X11_19_10 hv0 (dr_spec h17).1 dX11_enter_33 ?_
      obtain ⟨q18, h19, hm⟩ := bd_some hm
      refine j_getR C fg_X11_144_8 ((dr_spec h17).2) (dr_spec h19).1 dX11_enter_36 ?_
      refine j_iload_n C 1 dX11_enter_39 rfl ?_
      obtain ⟨h20, hm⟩ := gd_some hm
      refine j_iald C ((dr_spec h19).2) h20 dX11_enter_40 ?_
      refine j_aload_n C 0 dX11_enter_41 rfl ?_
      obtain ⟨q21, h22, hm⟩ := bd_some hm
      refine j_getR C fg_X11_19_10 hv0 (dr_spec h22).1 dX11_enter_42 ?_
      refine j_getI C fg_X11_226_8 ((dr_spec h22).2) dX11_enter_45 ?_
      refine j_icmp_gt C (tgt := 74) dX11_enter_48 (by decide) (fun h23 => ?_) (fun h23 => ?_)
      · replace hm := if_t hm h23
        refine j_sub [] rfl ?_
        exact tj_X11_enter_74 C _ _ hN ((hk_sub hk (Nat.le_of_ble_eq_true rfl) (Nat.le_of_ble_eq_true rfl))) hm
      · replace hm := if_f hm h23
        refine j_aload_n C 0 dX11_enter_51 rfl ?_
        obtain ⟨q24, h25, hm⟩ := bd_some hm
        refine j_getR C fg_X11_19_10 hv0 (dr_spec h25).1 dX11_enter_52 ?_
        obtain ⟨r26, h27, hm⟩ := bd_some hm
        refine call_I (run_LV C lk_X11_229 ⟨rfl, rfl, Nat.le_of_ble_eq_true rfl, Nat.le_of_ble_eq_true rfl⟩ (As := []) ((dr_spec h25).2) rfl rfl (Nat.le_of_ble_eq_true rfl) dX11_enter_55 (mc_X9_takenPlaces _ _ _ _ _ ((dr_spec h25).2) h27)) ?_
        refine j_iload_n C 2 dX11_enter_58 rfl ?_
        refine j_aload_n C 0 dX11_enter_59 rfl ?_
        obtain ⟨q28, h29, hm⟩ := bd_some hm
        refine j_getR C fg_X11_19_10 hv0 (dr_spec h29).1 dX11_enter_60 ?_
        obtain ⟨q30, h31, hm⟩ := bd_some hm
        refine j_getR C fg_X11_140_8 ((dr_spec h29).2) (dr_spec h31).1 dX11_enter_63 ?_
        refine j_iload_n C 1 dX11_enter_66 rfl ?_
        obtain ⟨h32, hm⟩ := gd_some hm
        refine j_iald C ((dr_spec h31).2) h32 dX11_enter_67 ?_
        obtain ⟨r33, h34, hm⟩ := bd_some hm
        refine call_I (run_LS C ls_X11_233 ⟨rfl, rfl, Nat.le_of_ble_eq_true rfl, Nat.le_of_ble_eq_true rfl⟩ (As := [.int r26, .int v2, .int (r4.2.2.1 q30 v1.toNatClampNeg)]) rfl rfl (Nat.le_of_ble_eq_true rfl) dX11_enter_68 (mc_X11_isRoom _ _ _ _ _ _ _  h34)) ?_
        refine j_if_ne C (tgt := 84) dX11_enter_71 (by decide) (fun h35 => ?_) (fun h35 => ?_)
        · replace hm := if_f hm h35
          refine j_aload_n C 0 dX11_enter_84 rfl ?_
          obtain ⟨q36, h37, hm⟩ := bd_some hm
          refine j_getR C fg_X11_63_10 hv0 (dr_spec h37).1 dX11_enter_85 ?_
          refine j_aload_n C 0 dX11_enter_88 rfl ?_
          obtain ⟨q38, h39, hm⟩ := bd_some hm
          refine j_getR C fg_X11_19_10 hv0 (dr_spec h39).1 dX11_enter_89 ?_
          obtain ⟨r40, h41, hm⟩ := bd_some hm
          refine call_V (run_LV C lk_X11_206 ⟨rfl, rfl, Nat.le_of_ble_eq_true rfl, Nat.le_of_ble_eq_true rfl⟩ (As := [.ref q38]) ((dr_spec h37).2) rfl rfl (Nat.le_of_ble_eq_true rfl) dX11_enter_92 (mc_X5_remember _ _ _ _ _ _ ((dr_spec h37).2) ((dr_spec h39).2) h41)) ?_
          refine j_aload_n C 0 dX11_enter_95 rfl ?_
          obtain ⟨q42, h43, hm⟩ := bd_some hm
          refine j_getR C fg_X11_19_10 hv0 (dr_spec h43).1 dX11_enter_96 ?_
          refine j_iload_n C 1 dX11_enter_99 rfl ?_
          refine j_iload_n C 2 dX11_enter_100 rfl ?_
          obtain ⟨r44, h45, hm⟩ := bd_some hm
          refine call_V (run_LV C lk_X11_239 ⟨rfl, rfl, Nat.le_of_ble_eq_true rfl, Nat.le_of_ble_eq_true rfl⟩ (As := [.int v1, .int v2]) ((dr_spec h43).2) rfl rfl (Nat.le_of_ble_eq_true rfl) dX11_enter_101 (mc_X9_letIn _ _ _ _ _ _ _ ((dr_spec h43).2) h45)) ?_
          refine j_aload_n C 0 dX11_enter_104 rfl ?_
          obtain ⟨q46, h47, hm⟩ := bd_some hm
          refine j_getR C fg_X11_19_10 hv0 (dr_spec h47).1 dX11_enter_105 ?_
          obtain ⟨r48, h49, hm⟩ := bd_some hm
          refine call_I (run_LV C lk_X11_243 ⟨rfl, rfl, Nat.le_of_ble_eq_true rfl, Nat.le_of_ble_eq_true rfl⟩ (As := []) ((dr_spec h47).2) rfl rfl (Nat.le_of_ble_eq_true rfl) dX11_enter_108 (mc_X9_freePlaces _ _ _ _ _ ((dr_spec h47).2) h49)) ?_
          obtain rfl := Option.some.inj hm
          exact jx_ireti C dX11_enter_111
        · replace hm := if_t hm h35
          refine j_sub [] rfl ?_
          exact tj_X11_enter_74 C _ _ hN ((hk_sub hk (Nat.le_of_ble_eq_true rfl) (Nat.le_of_ble_eq_true rfl))) hm
set_option maxRecDepth 20000 in
set_option maxHeartbeats 4000000 in
theorem mcx_X11_enter (l : Launch) (hst : l.stackTraces = false) (N : Nat) (Λ : Lay) (μ : Mem) (v0 : Nat) (v1 : Int32) (v2 : Int32) (hv0 : inL Λ v0 10) {r : RX_} (hm : m_X11_enter N Λ μ v0 v1 v2 = some r) : MXI l yX11_enter cX11_enter 3 (some .int) rm_X11_enter Λ [.ref v0, .int v1, .int v2] μ r := mxi_of hst rfl (Nat.le_of_ble_eq_true rfl) (fun x C _ hN h0 => tm_X11_enter C _ _ _ _ _ hN (hk_0 h0) hv0 hm)
abbrev rm_X11_leave : Room := { frames := 7, cells := 2, slots := 12, locals := 141 }
set_option maxRecDepth 20000 in
set_option maxHeartbeats 4000000 in
theorem tj_X11_leave_26 {x : Ctx} {Λ : Lay} (C : Cx x cX11_leave 2 (some .int) RX11 Λ rm_X11_leave) (N : Nat) (μ : Mem) (hN : NT x) (hk : xk x + 1 ≤ (rm_X11_leave).cells ∧ xl x + 6 ≤ (rm_X11_leave).slots) {r : RX_} (hm : jn_X11_leave_26 N Λ μ = some r) : J x 2 Λ (QXI x Λ rm_X11_leave r) 26 [] [] μ := by
  obtain rfl := Option.some.inj hm
  exact jx_throwS C hN tr_221_246_225 rfl (hk_sub hk (Nat.le_of_ble_eq_true rfl) (Nat.le_of_ble_eq_true rfl)) ⟨Nat.le_of_ble_eq_true rfl, Nat.le_of_ble_eq_true rfl⟩ rfl dX11_leave_26 dX11_leave_29 dX11_leave_30 dX11_leave_32 dX11_leave_35
set_option maxRecDepth 20000 in
set_option maxHeartbeats 4000000 in
theorem tm_X11_leave {x : Ctx} {Λ : Lay} (C : Cx x cX11_leave 2 (some .int) RX11 Λ rm_X11_leave) (N : Nat) (μ : Mem) (v0 : Nat) (v1 : Int32) (hN : NT x) (hk : xk x + 2 ≤ (rm_X11_leave).cells ∧ xl x + 12 ≤ (rm_X11_leave).slots) (hv0 : inL Λ v0 10) {r : RX_} (hm : m_X11_leave N Λ μ v0 v1 = some r) : J x 2 Λ (QXI x Λ rm_X11_leave r) 0 [(0, .ref v0), (1, .int v1)] [] μ := by
  refine j_aload_n C 0 dX11_leave_0 rfl ?_
  refine j_iload_n C 1 dX11_leave_1 rfl ?_
  obtain ⟨r1, h2, hm⟩ := bd_some hm
  refine call_XV C hN (runx_LV C lk_X11_137 ⟨Nat.le_of_ble_eq_true rfl, Nat.le_of_ble_eq_true rfl⟩ (hk_sub hk (Nat.le_of_ble_eq_true rfl) (Nat.le_of_ble_eq_true rfl)) (As := [.int v1]) hv0 rfl rfl (Nat.le_of_ble_eq_true rfl) dX11_leave_2 (mcx_X11_needShip _ hN.2 _ _ _ _ _ hv0 h2)) (hk_sub hk (Nat.le_of_ble_eq_true rfl) (Nat.le_of_ble_eq_true rfl)) (fun e3 => ?_) (fun e3 => ?_)
  rotate_left
  · replace hm := if_f hm e3; obtain rfl := Option.some.inj hm; exact ⟨_, rfl⟩
  replace hm := if_t hm e3
  replace C := Cx_bump (a := 1) (b := 6) C (hk_sub hk (Nat.le_of_ble_eq_true rfl) (Nat.le_of_ble_eq_true rfl))
  replace hN := NT_bump (a := 1) (b := 6) hN
  replace hk := hk_bump (a := 1) (b := 6) (n := 1) (m := 6) hk
  refine j_aload_n C 0 dX11_leave_5 rfl ?_
  obtain ⟨q4, h5, hm⟩ := bd_some hm
  refine j_getR C fg_X11_19_10 hv0 (dr_spec h5).1 dX11_leave_6 ?_
  refine j_getI C fg_X11_213_8 ((dr_spec h5).2) dX11_leave_9 ?_
  refine j_if_eq C (tgt := 26) dX11_leave_12 (by decide) (fun h6 => ?_) (fun h6 => ?_)
  · replace hm := if_t hm h6
    refine j_sub [] rfl ?_
    exact tj_X11_leave_26 C _ _ hN ((hk_sub hk (Nat.le_of_ble_eq_true rfl) (Nat.le_of_ble_eq_true rfl))) hm
  · replace hm := if_f hm h6
    refine j_aload_n C 0 dX11_leave_15 rfl ?_
    obtain ⟨q7, h8, hm⟩ := bd_some hm
    refine j_getR C fg_X11_19_10 hv0 (dr_spec h8).1 dX11_leave_16 ?_
    refine j_iload_n C 1 dX11_leave_19 rfl ?_
    obtain ⟨r9, h10, hm⟩ := bd_some hm
    refine call_I (run_LV C lk_X11_164 ⟨rfl, rfl, Nat.le_of_ble_eq_true rfl, Nat.le_of_ble_eq_true rfl⟩ (As := [.int v1]) ((dr_spec h8).2) rfl rfl (Nat.le_of_ble_eq_true rfl) dX11_leave_20 (mc_X9_floats _ _ _ _ _ _ ((dr_spec h8).2) h10)) ?_
    refine j_if_ne C (tgt := 36) dX11_leave_23 (by decide) (fun h11 => ?_) (fun h11 => ?_)
    · replace hm := if_f hm h11
      refine j_aload_n C 0 dX11_leave_36 rfl ?_
      obtain ⟨q12, h13, hm⟩ := bd_some hm
      refine j_getR C fg_X11_63_10 hv0 (dr_spec h13).1 dX11_leave_37 ?_
      refine j_aload_n C 0 dX11_leave_40 rfl ?_
      obtain ⟨q14, h15, hm⟩ := bd_some hm
      refine j_getR C fg_X11_19_10 hv0 (dr_spec h15).1 dX11_leave_41 ?_
      obtain ⟨r16, h17, hm⟩ := bd_some hm
      refine call_V (run_LV C lk_X11_206 ⟨rfl, rfl, Nat.le_of_ble_eq_true rfl, Nat.le_of_ble_eq_true rfl⟩ (As := [.ref q14]) ((dr_spec h13).2) rfl rfl (Nat.le_of_ble_eq_true rfl) dX11_leave_44 (mc_X5_remember _ _ _ _ _ _ ((dr_spec h13).2) ((dr_spec h15).2) h17)) ?_
      refine j_aload_n C 0 dX11_leave_47 rfl ?_
      obtain ⟨q18, h19, hm⟩ := bd_some hm
      refine j_getR C fg_X11_19_10 hv0 (dr_spec h19).1 dX11_leave_48 ?_
      refine j_iload_n C 1 dX11_leave_51 rfl ?_
      refine j_aload_n C 0 dX11_leave_52 rfl ?_
      obtain ⟨q20, h21, hm⟩ := bd_some hm
      refine j_getR C fg_X11_32_10 hv0 (dr_spec h21).1 dX11_leave_53 ?_
      obtain ⟨r22, h23, hm⟩ := bd_some hm
      refine call_I (run_LV C lk_X11_248 ⟨rfl, rfl, Nat.le_of_ble_eq_true rfl, Nat.le_of_ble_eq_true rfl⟩ (As := [.int v1, .ref q20]) ((dr_spec h19).2) rfl rfl (Nat.le_of_ble_eq_true rfl) dX11_leave_56 (mc_X9_letOut _ _ _ _ _ _ _ ((dr_spec h19).2) ((dr_spec h21).2) h23)) ?_
      obtain rfl := Option.some.inj hm
      exact jx_ireti C dX11_leave_59
    · replace hm := if_t hm h11
      refine j_sub [] rfl ?_
      exact tj_X11_leave_26 C _ _ hN ((hk_sub hk (Nat.le_of_ble_eq_true rfl) (Nat.le_of_ble_eq_true rfl))) hm
set_option maxRecDepth 20000 in
set_option maxHeartbeats 4000000 in
theorem mcx_X11_leave (l : Launch) (hst : l.stackTraces = false) (N : Nat) (Λ : Lay) (μ : Mem) (v0 : Nat) (v1 : Int32) (hv0 : inL Λ v0 10) {r : RX_} (hm : m_X11_leave N Λ μ v0 v1 = some r) : MXI l yX11_leave cX11_leave 2 (some .int) rm_X11_leave Λ [.ref v0, .int v1] μ r := mxi_of hst rfl (Nat.le_of_ble_eq_true rfl) (fun x C _ hN h0 => tm_X11_leave C _ _ _ _ hN (hk_0 h0) hv0 hm)
abbrev rm_X11_comes : Room := { frames := 6, cells := 1, slots := 6, locals := 123 }
set_option maxRecDepth 20000 in
set_option maxHeartbeats 4000000 in
theorem tj_X11_comes_32 {x : Ctx} {Λ : Lay} (C : Cx x cX11_comes 4 (some .int) RX11 Λ rm_X11_comes) (N : Nat) (μ : Mem) (hN : NT x) (hk : xk x + 1 ≤ (rm_X11_comes).cells ∧ xl x + 6 ≤ (rm_X11_comes).slots) {r : RX_} (hm : jn_X11_comes_32 N Λ μ = some r) : J x 4 Λ (QXI x Λ rm_X11_comes r) 32 [] [] μ := by
  obtain rfl := Option.some.inj hm
  exact jx_throwS C hN tr_107_251_111 rfl (hk_sub hk (Nat.le_of_ble_eq_true rfl) (Nat.le_of_ble_eq_true rfl)) ⟨Nat.le_of_ble_eq_true rfl, Nat.le_of_ble_eq_true rfl⟩ rfl dX11_comes_32 dX11_comes_35 dX11_comes_36 dX11_comes_38 dX11_comes_41
set_option maxRecDepth 20000 in
set_option maxHeartbeats 4000000 in
theorem tm_X11_comes {x : Ctx} {Λ : Lay} (C : Cx x cX11_comes 4 (some .int) RX11 Λ rm_X11_comes) (N : Nat) (μ : Mem) (v0 : Nat) (v1 : Int32) (v2 : Int32) (v3 : Int32) (hN : NT x) (hk : xk x + 1 ≤ (rm_X11_comes).cells ∧ xl x + 6 ≤ (rm_X11_comes).slots) (hv0 : inL Λ v0 10) {r : RX_} (hm : m_X11_comes N Λ μ v0 v1 v2 v3 = some r) : J x 4 Λ (QXI x Λ rm_X11_comes r) 0 [(0, .ref v0), (1, .int v1), (2, .int v2), (3, .int v3)] [] μ := by
  refine j_iload_n C 1 dX11_comes_0 rfl ?_
  refine j_iconst C (v := 1) dX11_comes_1 rfl ?_
  refine j_icmp_lt C (tgt := 32) dX11_comes_2 (by decide) (fun h1 => ?_) (fun h1 => ?_)
  · replace hm := if_t hm h1
    refine j_sub [] rfl ?_
    exact tj_X11_comes_32 C _ _ hN ((hk_sub hk (Nat.le_of_ble_eq_true rfl) (Nat.le_of_ble_eq_true rfl))) hm
  · replace hm := if_f hm h1
    refine j_iload_n C 1 dX11_comes_5 rfl ?_
    refine j_bipush C (v := 12) dX11_comes_6 rfl ?_
    refine j_icmp_gt C (tgt := 32) dX11_comes_8 (by decide) (fun h2 => ?_) (fun h2 => ?_)
    · replace hm := if_t hm h2
      refine j_sub [] rfl ?_
      exact tj_X11_comes_32 C _ _ hN ((hk_sub hk (Nat.le_of_ble_eq_true rfl) (Nat.le_of_ble_eq_true rfl))) hm
    · replace hm := if_f hm h2
      refine j_iload_n C 2 dX11_comes_11 rfl ?_
      refine j_iconst C (v := 1) dX11_comes_12 rfl ?_
      refine j_icmp_lt C (tgt := 32) dX11_comes_13 (by decide) (fun h3 => ?_) (fun h3 => ?_)
      · replace hm := if_t hm h3
        refine j_sub [] rfl ?_
        exact tj_X11_comes_32 C _ _ hN ((hk_sub hk (Nat.le_of_ble_eq_true rfl) (Nat.le_of_ble_eq_true rfl))) hm
      · replace hm := if_f hm h3
        refine j_iload_n C 2 dX11_comes_16 rfl ?_
        refine j_bipush C (v := 20) dX11_comes_17 rfl ?_
        refine j_icmp_gt C (tgt := 32) dX11_comes_19 (by decide) (fun h4 => ?_) (fun h4 => ?_)
        · replace hm := if_t hm h4
          refine j_sub [] rfl ?_
          exact tj_X11_comes_32 C _ _ hN ((hk_sub hk (Nat.le_of_ble_eq_true rfl) (Nat.le_of_ble_eq_true rfl))) hm
        · replace hm := if_f hm h4
          refine j_iload_n C 3 dX11_comes_22 rfl ?_
          refine j_if_lt C (tgt := 32) dX11_comes_23 (by decide) (fun h5 => ?_) (fun h5 => ?_)
          · replace hm := if_t hm h5
            refine j_sub [] rfl ?_
            exact tj_X11_comes_32 C _ _ hN ((hk_sub hk (Nat.le_of_ble_eq_true rfl) (Nat.le_of_ble_eq_true rfl))) hm
          · replace hm := if_f hm h5
            refine j_iload_n C 3 dX11_comes_26 rfl ?_
            refine j_bipush C (v := 99) dX11_comes_27 rfl ?_
            refine j_icmp_le C (tgt := 42) dX11_comes_29 (by decide) (fun h6 => ?_) (fun h6 => ?_)
            · replace hm := if_t hm h6
              refine j_aload_n C 0 dX11_comes_42 rfl ?_
              obtain ⟨q7, h8, hm⟩ := bd_some hm
              refine j_getR C fg_X11_19_10 hv0 (dr_spec h8).1 dX11_comes_43 ?_
              refine j_getI C fg_X11_253_8 ((dr_spec h8).2) dX11_comes_46 ?_
              refine j_bipush C (v := 8) dX11_comes_49 rfl ?_
              refine j_icmp_lt C (tgt := 65) dX11_comes_51 (by decide) (fun h9 => ?_) (fun h9 => ?_)
              · replace hm := if_t hm h9
                refine j_aload_n C 0 dX11_comes_65 rfl ?_
                obtain ⟨q10, h11, hm⟩ := bd_some hm
                refine j_getR C fg_X11_63_10 hv0 (dr_spec h11).1 dX11_comes_66 ?_
                refine j_aload_n C 0 dX11_comes_69 rfl ?_
                obtain ⟨q12, h13, hm⟩ := bd_some hm
                refine j_getR C fg_X11_19_10 hv0 (dr_spec h13).1 dX11_comes_70 ?_
                obtain ⟨r14, h15, hm⟩ := bd_some hm
                refine call_V (run_LV C lk_X11_206 ⟨rfl, rfl, Nat.le_of_ble_eq_true rfl, Nat.le_of_ble_eq_true rfl⟩ (As := [.ref q12]) ((dr_spec h11).2) rfl rfl (Nat.le_of_ble_eq_true rfl) dX11_comes_73 (mc_X5_remember _ _ _ _ _ _ ((dr_spec h11).2) ((dr_spec h13).2) h15)) ?_
                refine j_aload_n C 0 dX11_comes_76 rfl ?_
                obtain ⟨q16, h17, hm⟩ := bd_some hm
                refine j_getR C fg_X11_19_10 hv0 (dr_spec h17).1 dX11_comes_77 ?_
                refine j_iload_n C 1 dX11_comes_80 rfl ?_
                refine j_iload_n C 2 dX11_comes_81 rfl ?_
                refine j_iload_n C 3 dX11_comes_82 rfl ?_
                refine j_iconst C (v := -1) dX11_comes_83 rfl ?_
                obtain ⟨r18, h19, hm⟩ := bd_some hm
                refine call_I (run_LV C lk_X11_258 ⟨rfl, rfl, Nat.le_of_ble_eq_true rfl, Nat.le_of_ble_eq_true rfl⟩ (As := [.int v1, .int v2, .int v3, .int (-1)]) ((dr_spec h17).2) rfl rfl (Nat.le_of_ble_eq_true rfl) dX11_comes_84 (mc_X9_addShip _ _ _ _ _ _ _ _ _ ((dr_spec h17).2) h19)) ?_
                obtain rfl := Option.some.inj hm
                exact jx_ireti C dX11_comes_87
              · replace hm := if_f hm h9
                obtain rfl := Option.some.inj hm
                exact jx_throwSW C hN tr_221_256_225 rfl (hk_sub hk (Nat.le_of_ble_eq_true rfl) (Nat.le_of_ble_eq_true rfl)) ⟨Nat.le_of_ble_eq_true rfl, Nat.le_of_ble_eq_true rfl⟩ rfl dX11_comes_54 dX11_comes_57 dX11_comes_58 dX11_comes_61 dX11_comes_64
            · replace hm := if_f hm h6
              refine j_sub [] rfl ?_
              exact tj_X11_comes_32 C _ _ hN ((hk_sub hk (Nat.le_of_ble_eq_true rfl) (Nat.le_of_ble_eq_true rfl))) hm
set_option maxRecDepth 20000 in
set_option maxHeartbeats 4000000 in
theorem mcx_X11_comes (l : Launch) (hst : l.stackTraces = false) (N : Nat) (Λ : Lay) (μ : Mem) (v0 : Nat) (v1 : Int32) (v2 : Int32) (v3 : Int32) (hv0 : inL Λ v0 10) {r : RX_} (hm : m_X11_comes N Λ μ v0 v1 v2 v3 = some r) : MXI l yX11_comes cX11_comes 4 (some .int) rm_X11_comes Λ [.ref v0, .int v1, .int v2, .int v3] μ r := mxi_of hst rfl (Nat.le_of_ble_eq_true rfl) (fun x C _ hN h0 => tm_X11_comes C _ _ _ _ _ _ hN (hk_0 h0) hv0 hm)
abbrev rm_X11_block : Room := { frames := 7, cells := 1, slots := 6, locals := 141 }
set_option maxRecDepth 20000 in
set_option maxHeartbeats 4000000 in
theorem tj_X11_block_69 {x : Ctx} {Λ : Lay} (C : Cx x cX11_block 5 (some .boolean) RX11 Λ rm_X11_block) (N : Nat) (μ : Mem) (s0 : Int32) (hN : NT x) (hk : xk x + 0 ≤ (rm_X11_block).cells ∧ xl x + 0 ≤ (rm_X11_block).slots) {r : RX_} (hm : jn_X11_block_69 N Λ μ s0 = some r) : J x 5 Λ (QXI x Λ rm_X11_block r) 69 [] [.int s0] μ := by
  obtain ⟨h1, hm⟩ := gd_some hm
  obtain rfl := Option.some.inj hm
  exact jx_iretz C h1 dX11_block_69
set_option maxRecDepth 20000 in
set_option maxHeartbeats 4000000 in
theorem tj_X11_block_50 {x : Ctx} {Λ : Lay} (C : Cx x cX11_block 5 (some .boolean) RX11 Λ rm_X11_block) (N : Nat) (μ : Mem) (v0 : Nat) (v3 : Int32) (s0 : Nat) (s1 : Int32) (hN : NT x) (hk : xk x + 0 ≤ (rm_X11_block).cells ∧ xl x + 0 ≤ (rm_X11_block).slots) (hv0 : inL Λ v0 10) (hs0 : inL Λ s0 8) {r : RX_} (hm : jn_X11_block_50 N Λ μ v0 v3 s0 s1 = some r) : J x 5 Λ (QXI x Λ rm_X11_block r) 50 [(0, .ref v0), (3, .int v3)] [.int s1, .ref s0] μ := by
  obtain ⟨μ1, e2, hm⟩ := lt_some hm
  refine j_putI C fp_X11_190_8 hs0 e2 dX11_block_50 ?_
  refine j_aload_n C 0 dX11_block_53 rfl ?_
  obtain ⟨q3, h4, hm⟩ := bd_some hm
  refine j_getR C fg_X11_19_10 hv0 (dr_spec h4).1 dX11_block_54 ?_
  refine j_getI C fg_X11_190_8 ((dr_spec h4).2) dX11_block_57 ?_
  refine j_iload_n C 1 dX11_block_60 rfl ?_
  refine j_icmp_eq C (tgt := 68) dX11_block_61 (by decide) (fun h5 => ?_) (fun h5 => ?_)
  · replace hm := if_t hm h5
    refine j_iconst C (v := 0) dX11_block_68 rfl ?_
    refine j_sub [] rfl ?_
    exact tj_X11_block_69 C _ _ _ hN ((hk_sub hk (Nat.le_of_ble_eq_true rfl) (Nat.le_of_ble_eq_true rfl))) hm
  · replace hm := if_f hm h5
    refine j_iconst C (v := 1) dX11_block_64 rfl ?_
    refine j_goto C (tgt := 69) dX11_block_65 (by decide) ?_
    refine j_sub [] rfl ?_
    exact tj_X11_block_69 C _ _ _ hN ((hk_sub hk (Nat.le_of_ble_eq_true rfl) (Nat.le_of_ble_eq_true rfl))) hm
set_option maxRecDepth 20000 in
set_option maxHeartbeats 4000000 in
theorem tm_X11_block {x : Ctx} {Λ : Lay} (C : Cx x cX11_block 5 (some .boolean) RX11 Λ rm_X11_block) (N : Nat) (μ : Mem) (v0 : Nat) (v1 : Int32) (v2 : Int32) (hN : NT x) (hk : xk x + 1 ≤ (rm_X11_block).cells ∧ xl x + 6 ≤ (rm_X11_block).slots) (hv0 : inL Λ v0 10) {r : RX_} (hm : m_X11_block N Λ μ v0 v1 v2 = some r) : J x 5 Λ (QXI x Λ rm_X11_block r) 0 [(0, .ref v0), (1, .int v1), (2, .int v2)] [] μ := by
  refine j_aload_n C 0 dX11_block_0 rfl ?_
  refine j_iload_n C 1 dX11_block_1 rfl ?_
  obtain ⟨r1, h2, hm⟩ := bd_some hm
  refine call_XV C hN (runx_LV C lk_X11_187 ⟨Nat.le_of_ble_eq_true rfl, Nat.le_of_ble_eq_true rfl⟩ (hk_sub hk (Nat.le_of_ble_eq_true rfl) (Nat.le_of_ble_eq_true rfl)) (As := [.int v1]) hv0 rfl rfl (Nat.le_of_ble_eq_true rfl) dX11_block_2 (mcx_X11_needPlace _ hN.2 _ _ _ _ _ hv0 h2)) (hk_sub hk (Nat.le_of_ble_eq_true rfl) (Nat.le_of_ble_eq_true rfl)) (fun e3 => ?_) (fun e3 => ?_)
  rotate_left
  · replace hm := if_f hm e3; obtain rfl := Option.some.inj hm; exact ⟨_, rfl⟩
  replace hm := if_t hm e3
  replace C := Cx_bump (a := 1) (b := 6) C (hk_sub hk (Nat.le_of_ble_eq_true rfl) (Nat.le_of_ble_eq_true rfl))
  replace hN := NT_bump (a := 1) (b := 6) hN
  replace hk := hk_bump (a := 1) (b := 6) (n := 0) (m := 0) hk
  refine j_aload_n C 0 dX11_block_5 rfl ?_
  obtain ⟨q4, h5, hm⟩ := bd_some hm
  refine j_getR C fg_X11_63_10 hv0 (dr_spec h5).1 dX11_block_6 ?_
  refine j_aload_n C 0 dX11_block_9 rfl ?_
  obtain ⟨q6, h7, hm⟩ := bd_some hm
  refine j_getR C fg_X11_19_10 hv0 (dr_spec h7).1 dX11_block_10 ?_
  obtain ⟨r8, h9, hm⟩ := bd_some hm
  refine call_V (run_LV C lk_X11_206 ⟨rfl, rfl, Nat.le_of_ble_eq_true rfl, Nat.le_of_ble_eq_true rfl⟩ (As := [.ref q6]) ((dr_spec h5).2) rfl rfl (Nat.le_of_ble_eq_true rfl) dX11_block_13 (mc_X5_remember _ _ _ _ _ _ ((dr_spec h5).2) ((dr_spec h7).2) h9)) ?_
  refine j_aload_n C 0 dX11_block_16 rfl ?_
  obtain ⟨q10, h11, hm⟩ := bd_some hm
  refine j_getR C fg_X11_19_10 hv0 (dr_spec h11).1 dX11_block_17 ?_
  refine j_getI C fg_X11_190_8 ((dr_spec h11).2) dX11_block_20 ?_
  obtain ⟨y12, e13, hm⟩ := lt_some hm
  refine j_topi e13 ?_
  refine j_istore_n C (lv' := [(3, .int y12), (0, .ref v0), (1, .int v1), (2, .int v2)]) dX11_block_23 (by decide) rfl ?_
  refine j_iconst C (v := 1) dX11_block_24 rfl ?_
  refine j_iload_n C 2 dX11_block_25 rfl ?_
  refine j_ishl C dX11_block_26 ?_
  obtain ⟨y14, e15, hm⟩ := lt_some hm
  refine j_topi e15 ?_
  refine j_istore C (lv' := [(4, .int y14), (3, .int y12), (0, .ref v0), (1, .int v1), (2, .int v2)]) dX11_block_27 (by decide) rfl ?_
  refine j_aload_n C 2 dX11_block_29 rfl ?_
  obtain ⟨q16, h17, hm⟩ := bd_some hm
  refine j_getR C fg_X11_19_10 hv0 (dr_spec h17).1 dX11_block_30 ?_
  refine j_iload_n C 4 dX11_block_33 rfl ?_
  refine j_if_eq C (tgt := 44) dX11_block_34 (by decide) (fun h18 => ?_) (fun h18 => ?_)
  · replace hm := if_t hm h18
    refine j_iload_n C 1 dX11_block_44 rfl ?_
    refine j_iload C 0 dX11_block_45 rfl ?_
    refine j_iconst C (v := -1) dX11_block_47 rfl ?_
    refine j_ixor C dX11_block_48 ?_
    refine j_iand C dX11_block_49 ?_
    refine j_sub [2, 1] rfl ?_
    exact tj_X11_block_50 C _ _ _ _ _ _ hN ((hk_sub hk (Nat.le_of_ble_eq_true rfl) (Nat.le_of_ble_eq_true rfl))) hv0 ((dr_spec h17).2) hm
  · replace hm := if_f hm h18
    refine j_iload_n C 1 dX11_block_37 rfl ?_
    refine j_iload C 0 dX11_block_38 rfl ?_
    refine j_ior C dX11_block_40 ?_
    refine j_goto C (tgt := 50) dX11_block_41 (by decide) ?_
    refine j_sub [2, 1] rfl ?_
    exact tj_X11_block_50 C _ _ _ _ _ _ hN ((hk_sub hk (Nat.le_of_ble_eq_true rfl) (Nat.le_of_ble_eq_true rfl))) hv0 ((dr_spec h17).2) hm
set_option maxRecDepth 20000 in
set_option maxHeartbeats 4000000 in
theorem mcx_X11_block (l : Launch) (hst : l.stackTraces = false) (N : Nat) (Λ : Lay) (μ : Mem) (v0 : Nat) (v1 : Int32) (v2 : Int32) (hv0 : inL Λ v0 10) {r : RX_} (hm : m_X11_block N Λ μ v0 v1 v2 = some r) : MXI l yX11_block cX11_block 5 (some .boolean) rm_X11_block Λ [.ref v0, .int v1, .int v2] μ r := mxi_of hst rfl (Nat.le_of_ble_eq_true rfl) (fun x C _ hN h0 => tm_X11_block C _ _ _ _ _ hN (hk_0 h0) hv0 hm)
abbrev rm_X11_needNumber : Room := { frames := 6, cells := 1, slots := 6, locals := 120 }
set_option maxRecDepth 20000 in
set_option maxHeartbeats 4000000 in
theorem tj_X11_needNumber_9 {x : Ctx} {Λ : Lay} (C : Cx x cX11_needNumber 3 none RX11 Λ rm_X11_needNumber) (N : Nat) (μ : Mem) (hN : NT x) (hk : xk x + 1 ≤ (rm_X11_needNumber).cells ∧ xl x + 6 ≤ (rm_X11_needNumber).slots) {r : RX_} (hm : jn_X11_needNumber_9 N Λ μ = some r) : J x 3 Λ (QXV x Λ rm_X11_needNumber r) 9 [] [] μ := by
  obtain rfl := Option.some.inj hm
  exact jx_throwSW C hN tr_107_426_111 rfl (hk_sub hk (Nat.le_of_ble_eq_true rfl) (Nat.le_of_ble_eq_true rfl)) ⟨Nat.le_of_ble_eq_true rfl, Nat.le_of_ble_eq_true rfl⟩ rfl dX11_needNumber_9 dX11_needNumber_12 dX11_needNumber_13 dX11_needNumber_16 dX11_needNumber_19
set_option maxRecDepth 20000 in
set_option maxHeartbeats 4000000 in
theorem tm_X11_needNumber {x : Ctx} {Λ : Lay} (C : Cx x cX11_needNumber 3 none RX11 Λ rm_X11_needNumber) (N : Nat) (μ : Mem) (v0 : Nat) (v1 : Int32) (v2 : Int32) (hN : NT x) (hk : xk x + 1 ≤ (rm_X11_needNumber).cells ∧ xl x + 6 ≤ (rm_X11_needNumber).slots) (hv0 : inL Λ v0 10) {r : RX_} (hm : m_X11_needNumber N Λ μ v0 v1 v2 = some r) : J x 3 Λ (QXV x Λ rm_X11_needNumber r) 0 [(0, .ref v0), (1, .int v1), (2, .int v2)] [] μ := by
  refine j_iload_n C 1 dX11_needNumber_0 rfl ?_
  refine j_if_lt C (tgt := 9) dX11_needNumber_1 (by decide) (fun h1 => ?_) (fun h1 => ?_)
  · replace hm := if_t hm h1
    refine j_sub [] rfl ?_
    exact tj_X11_needNumber_9 C _ _ hN ((hk_sub hk (Nat.le_of_ble_eq_true rfl) (Nat.le_of_ble_eq_true rfl))) hm
  · replace hm := if_f hm h1
    refine j_iload_n C 1 dX11_needNumber_4 rfl ?_
    refine j_iload_n C 2 dX11_needNumber_5 rfl ?_
    refine j_icmp_le C (tgt := 20) dX11_needNumber_6 (by decide) (fun h2 => ?_) (fun h2 => ?_)
    · replace hm := if_t hm h2
      obtain rfl := Option.some.inj hm
      exact jx_vret C dX11_needNumber_20
    · replace hm := if_f hm h2
      refine j_sub [] rfl ?_
      exact tj_X11_needNumber_9 C _ _ hN ((hk_sub hk (Nat.le_of_ble_eq_true rfl) (Nat.le_of_ble_eq_true rfl))) hm
set_option maxRecDepth 20000 in
set_option maxHeartbeats 4000000 in
theorem mcx_X11_needNumber (l : Launch) (hst : l.stackTraces = false) (N : Nat) (Λ : Lay) (μ : Mem) (v0 : Nat) (v1 : Int32) (v2 : Int32) (hv0 : inL Λ v0 10) {r : RX_} (hm : m_X11_needNumber N Λ μ v0 v1 v2 = some r) : MXV l yX11_needNumber cX11_needNumber 3 rm_X11_needNumber Λ [.ref v0, .int v1, .int v2] μ r := mxv_of hst rfl (Nat.le_of_ble_eq_true rfl) (fun x C _ hN h0 => tm_X11_needNumber C _ _ _ _ _ hN (hk_0 h0) hv0 hm)
abbrev rm_X11_pumps : Room := { frames := 7, cells := 1, slots := 6, locals := 142 }
set_option maxRecDepth 20000 in
set_option maxHeartbeats 4000000 in
theorem tm_X11_pumps {x : Ctx} {Λ : Lay} (C : Cx x cX11_pumps 3 (some .int) RX11 Λ rm_X11_pumps) (N : Nat) (μ : Mem) (v0 : Nat) (v1 : Int32) (hN : NT x) (hk : xk x + 1 ≤ (rm_X11_pumps).cells ∧ xl x + 6 ≤ (rm_X11_pumps).slots) (hv0 : inL Λ v0 10) {r : RX_} (hm : m_X11_pumps N Λ μ v0 v1 = some r) : J x 3 Λ (QXI x Λ rm_X11_pumps r) 0 [(0, .ref v0), (1, .int v1)] [] μ := by
  refine j_aload_n C 0 dX11_pumps_0 rfl ?_
  refine j_iload_n C 1 dX11_pumps_1 rfl ?_
  refine j_bipush C (v := 9) dX11_pumps_2 rfl ?_
  obtain ⟨r1, h2, hm⟩ := bd_some hm
  refine call_XV C hN (runx_LV C lk_X11_262 ⟨Nat.le_of_ble_eq_true rfl, Nat.le_of_ble_eq_true rfl⟩ (hk_sub hk (Nat.le_of_ble_eq_true rfl) (Nat.le_of_ble_eq_true rfl)) (As := [.int v1, .int 9]) hv0 rfl rfl (Nat.le_of_ble_eq_true rfl) dX11_pumps_4 (mcx_X11_needNumber _ hN.2 _ _ _ _ _ _ hv0 h2)) (hk_sub hk (Nat.le_of_ble_eq_true rfl) (Nat.le_of_ble_eq_true rfl)) (fun e3 => ?_) (fun e3 => ?_)
  rotate_left
  · replace hm := if_f hm e3; obtain rfl := Option.some.inj hm; exact ⟨_, rfl⟩
  replace hm := if_t hm e3
  replace C := Cx_bump (a := 1) (b := 6) C (hk_sub hk (Nat.le_of_ble_eq_true rfl) (Nat.le_of_ble_eq_true rfl))
  replace hN := NT_bump (a := 1) (b := 6) hN
  replace hk := hk_bump (a := 1) (b := 6) (n := 0) (m := 0) hk
  refine j_aload_n C 0 dX11_pumps_7 rfl ?_
  obtain ⟨q4, h5, hm⟩ := bd_some hm
  refine j_getR C fg_X11_63_10 hv0 (dr_spec h5).1 dX11_pumps_8 ?_
  refine j_aload_n C 0 dX11_pumps_11 rfl ?_
  obtain ⟨q6, h7, hm⟩ := bd_some hm
  refine j_getR C fg_X11_19_10 hv0 (dr_spec h7).1 dX11_pumps_12 ?_
  obtain ⟨r8, h9, hm⟩ := bd_some hm
  refine call_V (run_LV C lk_X11_206 ⟨rfl, rfl, Nat.le_of_ble_eq_true rfl, Nat.le_of_ble_eq_true rfl⟩ (As := [.ref q6]) ((dr_spec h5).2) rfl rfl (Nat.le_of_ble_eq_true rfl) dX11_pumps_15 (mc_X5_remember _ _ _ _ _ _ ((dr_spec h5).2) ((dr_spec h7).2) h9)) ?_
  refine j_aload_n C 0 dX11_pumps_18 rfl ?_
  obtain ⟨q10, h11, hm⟩ := bd_some hm
  refine j_getR C fg_X11_19_10 hv0 (dr_spec h11).1 dX11_pumps_19 ?_
  refine j_getI C fg_X11_265_8 ((dr_spec h11).2) dX11_pumps_22 ?_
  obtain ⟨y12, e13, hm⟩ := lt_some hm
  refine j_topi e13 ?_
  refine j_istore_n C (lv' := [(2, .int y12), (0, .ref v0), (1, .int v1)]) dX11_pumps_25 (by decide) rfl ?_
  refine j_aload_n C 1 dX11_pumps_26 rfl ?_
  obtain ⟨q14, h15, hm⟩ := bd_some hm
  refine j_getR C fg_X11_19_10 hv0 (dr_spec h15).1 dX11_pumps_27 ?_
  refine j_iload_n C 2 dX11_pumps_30 rfl ?_
  obtain ⟨μ16, e17, hm⟩ := lt_some hm
  refine j_putI C fp_X11_265_8 ((dr_spec h15).2) e17 dX11_pumps_31 ?_
  refine j_iload_n C 0 dX11_pumps_34 rfl ?_
  obtain rfl := Option.some.inj hm
  exact jx_ireti C dX11_pumps_35
set_option maxRecDepth 20000 in
set_option maxHeartbeats 4000000 in
theorem mcx_X11_pumps (l : Launch) (hst : l.stackTraces = false) (N : Nat) (Λ : Lay) (μ : Mem) (v0 : Nat) (v1 : Int32) (hv0 : inL Λ v0 10) {r : RX_} (hm : m_X11_pumps N Λ μ v0 v1 = some r) : MXI l yX11_pumps cX11_pumps 3 (some .int) rm_X11_pumps Λ [.ref v0, .int v1] μ r := mxi_of hst rfl (Nat.le_of_ble_eq_true rfl) (fun x C _ hN h0 => tm_X11_pumps C _ _ _ _ hN (hk_0 h0) hv0 hm)
abbrev rm_X11_hands : Room := { frames := 7, cells := 1, slots := 6, locals := 142 }
set_option maxRecDepth 20000 in
set_option maxHeartbeats 4000000 in
theorem tm_X11_hands {x : Ctx} {Λ : Lay} (C : Cx x cX11_hands 3 (some .int) RX11 Λ rm_X11_hands) (N : Nat) (μ : Mem) (v0 : Nat) (v1 : Int32) (hN : NT x) (hk : xk x + 1 ≤ (rm_X11_hands).cells ∧ xl x + 6 ≤ (rm_X11_hands).slots) (hv0 : inL Λ v0 10) {r : RX_} (hm : m_X11_hands N Λ μ v0 v1 = some r) : J x 3 Λ (QXI x Λ rm_X11_hands r) 0 [(0, .ref v0), (1, .int v1)] [] μ := by
  refine j_aload_n C 0 dX11_hands_0 rfl ?_
  refine j_iload_n C 1 dX11_hands_1 rfl ?_
  refine j_bipush C (v := 9) dX11_hands_2 rfl ?_
  obtain ⟨r1, h2, hm⟩ := bd_some hm
  refine call_XV C hN (runx_LV C lk_X11_262 ⟨Nat.le_of_ble_eq_true rfl, Nat.le_of_ble_eq_true rfl⟩ (hk_sub hk (Nat.le_of_ble_eq_true rfl) (Nat.le_of_ble_eq_true rfl)) (As := [.int v1, .int 9]) hv0 rfl rfl (Nat.le_of_ble_eq_true rfl) dX11_hands_4 (mcx_X11_needNumber _ hN.2 _ _ _ _ _ _ hv0 h2)) (hk_sub hk (Nat.le_of_ble_eq_true rfl) (Nat.le_of_ble_eq_true rfl)) (fun e3 => ?_) (fun e3 => ?_)
  rotate_left
  · replace hm := if_f hm e3; obtain rfl := Option.some.inj hm; exact ⟨_, rfl⟩
  replace hm := if_t hm e3
  replace C := Cx_bump (a := 1) (b := 6) C (hk_sub hk (Nat.le_of_ble_eq_true rfl) (Nat.le_of_ble_eq_true rfl))
  replace hN := NT_bump (a := 1) (b := 6) hN
  replace hk := hk_bump (a := 1) (b := 6) (n := 0) (m := 0) hk
  refine j_aload_n C 0 dX11_hands_7 rfl ?_
  obtain ⟨q4, h5, hm⟩ := bd_some hm
  refine j_getR C fg_X11_63_10 hv0 (dr_spec h5).1 dX11_hands_8 ?_
  refine j_aload_n C 0 dX11_hands_11 rfl ?_
  obtain ⟨q6, h7, hm⟩ := bd_some hm
  refine j_getR C fg_X11_19_10 hv0 (dr_spec h7).1 dX11_hands_12 ?_
  obtain ⟨r8, h9, hm⟩ := bd_some hm
  refine call_V (run_LV C lk_X11_206 ⟨rfl, rfl, Nat.le_of_ble_eq_true rfl, Nat.le_of_ble_eq_true rfl⟩ (As := [.ref q6]) ((dr_spec h5).2) rfl rfl (Nat.le_of_ble_eq_true rfl) dX11_hands_15 (mc_X5_remember _ _ _ _ _ _ ((dr_spec h5).2) ((dr_spec h7).2) h9)) ?_
  refine j_aload_n C 0 dX11_hands_18 rfl ?_
  obtain ⟨q10, h11, hm⟩ := bd_some hm
  refine j_getR C fg_X11_19_10 hv0 (dr_spec h11).1 dX11_hands_19 ?_
  refine j_getI C fg_X11_268_8 ((dr_spec h11).2) dX11_hands_22 ?_
  obtain ⟨y12, e13, hm⟩ := lt_some hm
  refine j_topi e13 ?_
  refine j_istore_n C (lv' := [(2, .int y12), (0, .ref v0), (1, .int v1)]) dX11_hands_25 (by decide) rfl ?_
  refine j_aload_n C 1 dX11_hands_26 rfl ?_
  obtain ⟨q14, h15, hm⟩ := bd_some hm
  refine j_getR C fg_X11_19_10 hv0 (dr_spec h15).1 dX11_hands_27 ?_
  refine j_iload_n C 2 dX11_hands_30 rfl ?_
  obtain ⟨μ16, e17, hm⟩ := lt_some hm
  refine j_putI C fp_X11_268_8 ((dr_spec h15).2) e17 dX11_hands_31 ?_
  refine j_iload_n C 0 dX11_hands_34 rfl ?_
  obtain rfl := Option.some.inj hm
  exact jx_ireti C dX11_hands_35
set_option maxRecDepth 20000 in
set_option maxHeartbeats 4000000 in
theorem mcx_X11_hands (l : Launch) (hst : l.stackTraces = false) (N : Nat) (Λ : Lay) (μ : Mem) (v0 : Nat) (v1 : Int32) (hv0 : inL Λ v0 10) {r : RX_} (hm : m_X11_hands N Λ μ v0 v1 = some r) : MXI l yX11_hands cX11_hands 3 (some .int) rm_X11_hands Λ [.ref v0, .int v1] μ r := mxi_of hst rfl (Nat.le_of_ble_eq_true rfl) (fun x C _ hN h0 => tm_X11_hands C _ _ _ _ hN (hk_0 h0) hv0 hm)
abbrev rm_X11_flow : Room := { frames := 7, cells := 2, slots := 12, locals := 142 }
set_option maxRecDepth 20000 in
set_option maxHeartbeats 4000000 in
theorem tm_X11_flow {x : Ctx} {Λ : Lay} (C : Cx x cX11_flow 4 (some .int) RX11 Λ rm_X11_flow) (N : Nat) (μ : Mem) (v0 : Nat) (v1 : Int32) (v2 : Int32) (hN : NT x) (hk : xk x + 2 ≤ (rm_X11_flow).cells ∧ xl x + 12 ≤ (rm_X11_flow).slots) (hv0 : inL Λ v0 10) {r : RX_} (hm : m_X11_flow N Λ μ v0 v1 v2 = some r) : J x 4 Λ (QXI x Λ rm_X11_flow r) 0 [(0, .ref v0), (1, .int v1), (2, .int v2)] [] μ := by
  refine j_aload_n C 0 dX11_flow_0 rfl ?_
  refine j_iload_n C 1 dX11_flow_1 rfl ?_
  obtain ⟨r1, h2, hm⟩ := bd_some hm
  refine call_XV C hN (runx_LV C lk_X11_198 ⟨Nat.le_of_ble_eq_true rfl, Nat.le_of_ble_eq_true rfl⟩ (hk_sub hk (Nat.le_of_ble_eq_true rfl) (Nat.le_of_ble_eq_true rfl)) (As := [.int v1]) hv0 rfl rfl (Nat.le_of_ble_eq_true rfl) dX11_flow_2 (mcx_X11_needTide _ hN.2 _ _ _ _ _ hv0 h2)) (hk_sub hk (Nat.le_of_ble_eq_true rfl) (Nat.le_of_ble_eq_true rfl)) (fun e3 => ?_) (fun e3 => ?_)
  rotate_left
  · replace hm := if_f hm e3; obtain rfl := Option.some.inj hm; exact ⟨_, rfl⟩
  replace hm := if_t hm e3
  replace C := Cx_bump (a := 1) (b := 6) C (hk_sub hk (Nat.le_of_ble_eq_true rfl) (Nat.le_of_ble_eq_true rfl))
  replace hN := NT_bump (a := 1) (b := 6) hN
  replace hk := hk_bump (a := 1) (b := 6) (n := 1) (m := 6) hk
  refine j_aload_n C 0 dX11_flow_5 rfl ?_
  refine j_iload_n C 2 dX11_flow_6 rfl ?_
  refine j_bipush C (v := 30) dX11_flow_7 rfl ?_
  obtain ⟨r4, h5, hm⟩ := bd_some hm
  refine call_XV C hN (runx_LV C lk_X11_262 ⟨Nat.le_of_ble_eq_true rfl, Nat.le_of_ble_eq_true rfl⟩ (hk_sub hk (Nat.le_of_ble_eq_true rfl) (Nat.le_of_ble_eq_true rfl)) (As := [.int v2, .int 30]) hv0 rfl rfl (Nat.le_of_ble_eq_true rfl) dX11_flow_9 (mcx_X11_needNumber _ hN.2 _ _ _ _ _ _ hv0 h5)) (hk_sub hk (Nat.le_of_ble_eq_true rfl) (Nat.le_of_ble_eq_true rfl)) (fun e6 => ?_) (fun e6 => ?_)
  rotate_left
  · replace hm := if_f hm e6; obtain rfl := Option.some.inj hm; exact ⟨_, rfl⟩
  replace hm := if_t hm e6
  replace C := Cx_bump (a := 1) (b := 6) C (hk_sub hk (Nat.le_of_ble_eq_true rfl) (Nat.le_of_ble_eq_true rfl))
  replace hN := NT_bump (a := 1) (b := 6) hN
  replace hk := hk_bump (a := 1) (b := 6) (n := 0) (m := 0) hk
  refine j_aload_n C 0 dX11_flow_12 rfl ?_
  obtain ⟨q7, h8, hm⟩ := bd_some hm
  refine j_getR C fg_X11_63_10 hv0 (dr_spec h8).1 dX11_flow_13 ?_
  refine j_aload_n C 0 dX11_flow_16 rfl ?_
  obtain ⟨q9, h10, hm⟩ := bd_some hm
  refine j_getR C fg_X11_19_10 hv0 (dr_spec h10).1 dX11_flow_17 ?_
  obtain ⟨r11, h12, hm⟩ := bd_some hm
  refine call_V (run_LV C lk_X11_206 ⟨rfl, rfl, Nat.le_of_ble_eq_true rfl, Nat.le_of_ble_eq_true rfl⟩ (As := [.ref q9]) ((dr_spec h8).2) rfl rfl (Nat.le_of_ble_eq_true rfl) dX11_flow_20 (mc_X5_remember _ _ _ _ _ _ ((dr_spec h8).2) ((dr_spec h10).2) h12)) ?_
  refine j_aload_n C 0 dX11_flow_23 rfl ?_
  obtain ⟨q13, h14, hm⟩ := bd_some hm
  refine j_getR C fg_X11_19_10 hv0 (dr_spec h14).1 dX11_flow_24 ?_
  obtain ⟨q15, h16, hm⟩ := bd_some hm
  refine j_getR C fg_X11_201_8 ((dr_spec h14).2) (dr_spec h16).1 dX11_flow_27 ?_
  refine j_iload_n C 1 dX11_flow_30 rfl ?_
  obtain ⟨h17, hm⟩ := gd_some hm
  refine j_iald C ((dr_spec h16).2) h17 dX11_flow_31 ?_
  obtain ⟨y18, e19, hm⟩ := lt_some hm
  refine j_topi e19 ?_
  refine j_istore_n C (lv' := [(3, .int y18), (0, .ref v0), (1, .int v1), (2, .int v2)]) dX11_flow_32 (by decide) rfl ?_
  refine j_aload_n C 1 dX11_flow_33 rfl ?_
  obtain ⟨q20, h21, hm⟩ := bd_some hm
  refine j_getR C fg_X11_19_10 hv0 (dr_spec h21).1 dX11_flow_34 ?_
  obtain ⟨q22, h23, hm⟩ := bd_some hm
  refine j_getR C fg_X11_201_8 ((dr_spec h21).2) (dr_spec h23).1 dX11_flow_37 ?_
  refine j_iload_n C 2 dX11_flow_40 rfl ?_
  refine j_iload_n C 3 dX11_flow_41 rfl ?_
  obtain ⟨h24, hm⟩ := gd_some hm
  obtain ⟨μ25, e26, hm⟩ := lt_some hm
  refine j_iast C ((dr_spec h23).2) h24 e26 dX11_flow_42 ?_
  refine j_iload_n C 0 dX11_flow_43 rfl ?_
  obtain rfl := Option.some.inj hm
  exact jx_ireti C dX11_flow_44
set_option maxRecDepth 20000 in
set_option maxHeartbeats 4000000 in
theorem mcx_X11_flow (l : Launch) (hst : l.stackTraces = false) (N : Nat) (Λ : Lay) (μ : Mem) (v0 : Nat) (v1 : Int32) (v2 : Int32) (hv0 : inL Λ v0 10) {r : RX_} (hm : m_X11_flow N Λ μ v0 v1 v2 = some r) : MXI l yX11_flow cX11_flow 4 (some .int) rm_X11_flow Λ [.ref v0, .int v1, .int v2] μ r := mxi_of hst rfl (Nat.le_of_ble_eq_true rfl) (fun x C _ hN h0 => tm_X11_flow C _ _ _ _ _ hN (hk_0 h0) hv0 hm)
abbrev rm_X11_pulls : Room := { frames := 4, cells := 0, slots := 0, locals := 98 }
set_option maxRecDepth 20000 in
set_option maxHeartbeats 4000000 in
theorem tm_X11_pulls {x : Ctx} {Λ : Lay} (C : Cx x cX11_pulls 1 (some .int) RX11 Λ rm_X11_pulls) (N : Nat) (μ : Mem) (v0 : Nat) (hv0 : inL Λ v0 10) {r : Int32 × Mem} (hm : m_X11_pulls N Λ μ v0 = some r) : J x 1 Λ (QI x Λ r.1 r.2) 0 [(0, .ref v0)] [] μ := by
  refine j_aload_n C 0 dX11_pulls_0 rfl ?_
  obtain ⟨q1, h2, hm⟩ := bd_some hm
  refine j_getR C fg_X11_19_10 hv0 (dr_spec h2).1 dX11_pulls_1 ?_
  refine j_aload_n C 0 dX11_pulls_4 rfl ?_
  obtain ⟨q3, h4, hm⟩ := bd_some hm
  refine j_getR C fg_X11_32_10 hv0 (dr_spec h4).1 dX11_pulls_5 ?_
  obtain ⟨r5, h6, hm⟩ := bd_some hm
  refine call_I (run_LV C lk_X11_271 ⟨rfl, rfl, Nat.le_of_ble_eq_true rfl, Nat.le_of_ble_eq_true rfl⟩ (As := [.ref q3]) ((dr_spec h2).2) rfl rfl (Nat.le_of_ble_eq_true rfl) dX11_pulls_8 (mc_X9_pulling _ _ _ _ _ _ ((dr_spec h2).2) ((dr_spec h4).2) h6)) ?_
  obtain rfl := Option.some.inj hm
  exact j_ireti C dX11_pulls_11
set_option maxRecDepth 20000 in
set_option maxHeartbeats 4000000 in
theorem mc_X11_pulls (l : Launch) (N : Nat) (Λ : Lay) (μ : Mem) (v0 : Nat) (hv0 : inL Λ v0 10) {r : Int32 × Mem} (hm : m_X11_pulls N Λ μ v0 = some r) : MI l yX11_pulls cX11_pulls 1 (some .int) rm_X11_pulls Λ [.ref v0] μ r.1 r.2 := mi_of rfl (Nat.le_of_ble_eq_true rfl) (fun x C _ => tm_X11_pulls C _ _ _ hv0 hm)
abbrev rm_X11_leaks : Room := { frames := 4, cells := 0, slots := 0, locals := 98 }
set_option maxRecDepth 20000 in
set_option maxHeartbeats 4000000 in
theorem tm_X11_leaks {x : Ctx} {Λ : Lay} (C : Cx x cX11_leaks 1 (some .int) RX11 Λ rm_X11_leaks) (N : Nat) (μ : Mem) (v0 : Nat) (hv0 : inL Λ v0 10) {r : Int32 × Mem} (hm : m_X11_leaks N Λ μ v0 = some r) : J x 1 Λ (QI x Λ r.1 r.2) 0 [(0, .ref v0)] [] μ := by
  refine j_aload_n C 0 dX11_leaks_0 rfl ?_
  obtain ⟨q1, h2, hm⟩ := bd_some hm
  refine j_getR C fg_X11_19_10 hv0 (dr_spec h2).1 dX11_leaks_1 ?_
  refine j_aload_n C 0 dX11_leaks_4 rfl ?_
  obtain ⟨q3, h4, hm⟩ := bd_some hm
  refine j_getR C fg_X11_32_10 hv0 (dr_spec h4).1 dX11_leaks_5 ?_
  obtain ⟨r5, h6, hm⟩ := bd_some hm
  refine call_I (run_LV C lk_X11_275 ⟨rfl, rfl, Nat.le_of_ble_eq_true rfl, Nat.le_of_ble_eq_true rfl⟩ (As := [.ref q3]) ((dr_spec h2).2) rfl rfl (Nat.le_of_ble_eq_true rfl) dX11_leaks_8 (mc_X9_leaking _ _ _ _ _ _ ((dr_spec h2).2) ((dr_spec h4).2) h6)) ?_
  obtain rfl := Option.some.inj hm
  exact j_ireti C dX11_leaks_11
set_option maxRecDepth 20000 in
set_option maxHeartbeats 4000000 in
theorem mc_X11_leaks (l : Launch) (N : Nat) (Λ : Lay) (μ : Mem) (v0 : Nat) (hv0 : inL Λ v0 10) {r : Int32 × Mem} (hm : m_X11_leaks N Λ μ v0 = some r) : MI l yX11_leaks cX11_leaks 1 (some .int) rm_X11_leaks Λ [.ref v0] μ r.1 r.2 := mi_of rfl (Nat.le_of_ble_eq_true rfl) (fun x C _ => tm_X11_leaks C _ _ _ hv0 hm)
abbrev rm_X11_even : Room := { frames := 2, cells := 0, slots := 0, locals := 80 }
set_option maxRecDepth 20000 in
set_option maxHeartbeats 4000000 in
theorem tm_X11_even {x : Ctx} {Λ : Lay} (C : Cx x cX11_even 1 (some .boolean) RX11 Λ rm_X11_even) (N : Nat) (μ : Mem) (v0 : Nat) (hv0 : inL Λ v0 10) {r : Int32} (hm : m_X11_even N Λ μ v0 = some r) : J x 1 Λ (QI x Λ r μ) 0 [(0, .ref v0)] [] μ := by
  refine j_aload_n C 0 dX11_even_0 rfl ?_
  obtain ⟨q1, h2, hm⟩ := bd_some hm
  refine j_getR C fg_X11_19_10 hv0 (dr_spec h2).1 dX11_even_1 ?_
  obtain ⟨r3, h4, hm⟩ := bd_some hm
  refine call_I (run_LV C lk_X11_217 ⟨rfl, rfl, Nat.le_of_ble_eq_true rfl, Nat.le_of_ble_eq_true rfl⟩ (As := []) ((dr_spec h2).2) rfl rfl (Nat.le_of_ble_eq_true rfl) dX11_even_4 (mc_X9_isEven _ _ _ _ _ ((dr_spec h2).2) h4)) ?_
  obtain ⟨h5, hm⟩ := gd_some hm
  obtain rfl := Option.some.inj hm
  exact j_iretz C h5 dX11_even_7
set_option maxRecDepth 20000 in
set_option maxHeartbeats 4000000 in
theorem mc_X11_even (l : Launch) (N : Nat) (Λ : Lay) (μ : Mem) (v0 : Nat) (hv0 : inL Λ v0 10) {r : Int32} (hm : m_X11_even N Λ μ v0 = some r) : MI l yX11_even cX11_even 1 (some .boolean) rm_X11_even Λ [.ref v0] μ r μ := mi_of rfl (Nat.le_of_ble_eq_true rfl) (fun x C _ => tm_X11_even C _ _ _ hv0 hm)
abbrev rm_X11_room : Room := { frames := 2, cells := 0, slots := 0, locals := 60 }
set_option maxRecDepth 20000 in
set_option maxHeartbeats 4000000 in
theorem tj_X11_room_38 {x : Ctx} {Λ : Lay} (C : Cx x cX11_room 5 (some .int) RX11 Λ rm_X11_room) (N : Nat) (μ : Mem) (k15 : Int32 × Int32 × Int32 → Option (Int32)) (v1 : Int32) (v3 : Int32) (v4 : Int32) (s0 : Int32) (hk15 : ∀ (s : Int32 × Int32 × Int32) (r : Int32), k15 s = some r → J x 5 Λ (QI x Λ r μ) 15 [(1, .int v1), (2, .int s.1), (3, .int s.2.1), (4, .int s.2.2)] [] (μ)) {r : Int32} (hm : jn_X11_room_38 N Λ μ k15 v1 v3 v4 s0 = some r) : J x 5 Λ (QI x Λ r μ) 38 [(1, .int v1), (3, .int v3), (4, .int v4)] [.int s0] μ := by
  refine j_istore_n C (lv' := [(2, .int s0), (1, .int v1), (3, .int v3), (4, .int v4)]) dX11_room_38 (by decide) rfl ?_
  refine j_iload_n C 2 dX11_room_39 rfl ?_
  refine j_iload_n C 0 dX11_room_40 rfl ?_
  refine j_mmax C wk_504 ⟨Nat.le_of_ble_eq_true rfl, Nat.le_of_ble_eq_true rfl⟩ dX11_room_41 ?_
  obtain ⟨y1, e2, hm⟩ := lt_some hm
  refine j_topi e2 ?_
  refine j_istore_n C (lv' := [(3, .int y1), (2, .int s0), (1, .int v1), (4, .int v4)]) dX11_room_44 (by decide) rfl ?_
  obtain ⟨y3, e4, hm⟩ := lt_some hm
  refine j_iinc C 3 (v := y3) (lv' := [(4, .int y3), (3, .int y1), (2, .int s0), (1, .int v1)]) dX11_room_45 rfl (by rw [e4]; rfl) (by decide) rfl ?_
  refine j_goto C (tgt := 15) dX11_room_48 (by decide) ?_
  refine j_sub [3, 2, 1, 0] rfl ?_
  exact hk15 (s0, y1, y3) _ hm
set_option maxRecDepth 20000 in
set_option maxHeartbeats 4000000 in
theorem tb_X11_room_15 {x : Ctx} {Λ : Lay} (C : Cx x cX11_room 5 (some .int) RX11 Λ rm_X11_room) (N : Nat) (μ : Mem) (k15 : Int32 × Int32 × Int32 → Option (Int32)) (v1 : Int32) (v2 : Int32) (v3 : Int32) (v4 : Int32) (hk15 : ∀ (s : Int32 × Int32 × Int32) (r : Int32), k15 s = some r → J x 5 Λ (QI x Λ r μ) 15 [(1, .int v1), (2, .int s.1), (3, .int s.2.1), (4, .int s.2.2)] [] (μ)) {r : Int32} (hm : bd_X11_room_15 N Λ μ k15 v1 v2 v3 v4 = some r) : J x 5 Λ (QI x Λ r μ) 15 [(1, .int v1), (2, .int v2), (3, .int v3), (4, .int v4)] [] μ := by
  refine j_iload C 3 dX11_room_15 rfl ?_
  refine j_bipush C (v := 24) dX11_room_17 rfl ?_
  refine j_icmp_ge C (tgt := 51) dX11_room_19 (by decide) (fun h1 => ?_) (fun h1 => ?_)
  · replace hm := if_t hm h1
    refine j_iload_n C 2 dX11_room_51 rfl ?_
    obtain rfl := Option.some.inj hm
    exact j_ireti C dX11_room_52
  · replace hm := if_f hm h1
    refine j_iload_n C 0 dX11_room_22 rfl ?_
    refine j_iload C 3 dX11_room_23 rfl ?_
    refine j_ishr C dX11_room_25 ?_
    refine j_iconst C (v := 1) dX11_room_26 rfl ?_
    refine j_iand C dX11_room_27 ?_
    refine j_if_ne C (tgt := 37) dX11_room_28 (by decide) (fun h2 => ?_) (fun h2 => ?_)
    · replace hm := if_f hm h2
      refine j_iconst C (v := 0) dX11_room_37 rfl ?_
      refine j_sub [0, 2, 3] rfl ?_
      exact tj_X11_room_38 C _ _ _ _ _ _ _ hk15 hm
    · replace hm := if_t hm h2
      refine j_iload_n C 1 dX11_room_31 rfl ?_
      refine j_iconst C (v := 1) dX11_room_32 rfl ?_
      refine j_iadd C dX11_room_33 ?_
      refine j_goto C (tgt := 38) dX11_room_34 (by decide) ?_
      refine j_sub [0, 2, 3] rfl ?_
      exact tj_X11_room_38 C _ _ _ _ _ _ _ hk15 hm
set_option maxRecDepth 20000 in
set_option maxHeartbeats 4000000 in
theorem tl_X11_room_15 {x : Ctx} {Λ : Lay} (C : Cx x cX11_room 5 (some .int) RX11 Λ rm_X11_room) (N : Nat) (μ : Mem) (v1 : Int32) (s : Int32 × Int32 × Int32) {r : Int32} (hm : lp_X11_room_15 N Λ μ v1 s = some r) : J x 5 Λ (QI x Λ r μ) 15 [(1, .int v1), (2, .int s.1), (3, .int s.2.1), (4, .int s.2.2)] [] (μ) :=
  cw_ind (P := fun s r => J x 5 Λ (QI x Λ r μ) 15 [(1, .int v1), (2, .int s.1), (3, .int s.2.1), (4, .int s.2.2)] [] (μ)) (fun k hkk s r e => tb_X11_room_15 C _ _ _ _ _ _ _ hkk e) N s r hm
set_option maxRecDepth 20000 in
set_option maxHeartbeats 4000000 in
theorem tm_X11_room {x : Ctx} {Λ : Lay} (C : Cx x cX11_room 5 (some .int) RX11 Λ rm_X11_room) (N : Nat) (μ : Mem) (v0 : Nat) (hv0 : inL Λ v0 10) {r : Int32} (hm : m_X11_room N Λ μ v0 = some r) : J x 5 Λ (QI x Λ r μ) 0 [(0, .ref v0)] [] μ := by
  refine j_aload_n C 0 dX11_room_0 rfl ?_
  obtain ⟨q1, h2, hm⟩ := bd_some hm
  refine j_getR C fg_X11_19_10 hv0 (dr_spec h2).1 dX11_room_1 ?_
  obtain ⟨r3, h4, hm⟩ := bd_some hm
  refine call_I (run_LV C lk_X11_229 ⟨rfl, rfl, Nat.le_of_ble_eq_true rfl, Nat.le_of_ble_eq_true rfl⟩ (As := []) ((dr_spec h2).2) rfl rfl (Nat.le_of_ble_eq_true rfl) dX11_room_4 (mc_X9_takenPlaces _ _ _ _ _ ((dr_spec h2).2) h4)) ?_
  refine j_istore_n C (lv' := [(1, .int r3), (0, .ref v0)]) dX11_room_7 (by decide) rfl ?_
  refine j_iconst C (v := 0) dX11_room_8 rfl ?_
  refine j_istore_n C (lv' := [(2, .int 0), (1, .int r3), (0, .ref v0)]) dX11_room_9 (by decide) rfl ?_
  refine j_iconst C (v := 0) dX11_room_10 rfl ?_
  refine j_istore_n C (lv' := [(3, .int 0), (2, .int 0), (1, .int r3), (0, .ref v0)]) dX11_room_11 (by decide) rfl ?_
  refine j_iconst C (v := 0) dX11_room_12 rfl ?_
  refine j_istore C (lv' := [(4, .int 0), (3, .int 0), (2, .int 0), (1, .int r3), (0, .ref v0)]) dX11_room_13 (by decide) rfl ?_
  refine j_sub [3, 2, 1, 0] rfl ?_
  exact tl_X11_room_15 C _ _ _  (0, 0, 0) hm
set_option maxRecDepth 20000 in
set_option maxHeartbeats 4000000 in
theorem mc_X11_room (l : Launch) (N : Nat) (Λ : Lay) (μ : Mem) (v0 : Nat) (hv0 : inL Λ v0 10) {r : Int32} (hm : m_X11_room N Λ μ v0 = some r) : MI l yX11_room cX11_room 5 (some .int) rm_X11_room Λ [.ref v0] μ r μ := mi_of rfl (Nat.le_of_ble_eq_true rfl) (fun x C _ => tm_X11_room C _ _ _ hv0 hm)
abbrev rm_X11_load : Room := { frames := 6, cells := 0, slots := 0, locals := 146 }
set_option maxRecDepth 20000 in
set_option maxHeartbeats 4000000 in
theorem tm_X11_load {x : Ctx} {Λ : Lay} (C : Cx x cX11_load 1 (some .int) RX11 Λ rm_X11_load) (N : Nat) (μ : Mem) (v0 : Nat) (hv0 : inL Λ v0 10) {r : Int32 × Mem} (hm : m_X11_load N Λ μ v0 = some r) : J x 1 Λ (QI x Λ r.1 r.2) 0 [(0, .ref v0)] [] μ := by
  refine j_aload_n C 0 dX11_load_0 rfl ?_
  obtain ⟨q1, h2, hm⟩ := bd_some hm
  refine j_getR C fg_X11_84_10 hv0 (dr_spec h2).1 dX11_load_1 ?_
  refine j_aload_n C 0 dX11_load_4 rfl ?_
  obtain ⟨q3, h4, hm⟩ := bd_some hm
  refine j_getR C fg_X11_19_10 hv0 (dr_spec h4).1 dX11_load_5 ?_
  refine j_aload_n C 0 dX11_load_8 rfl ?_
  obtain ⟨q5, h6, hm⟩ := bd_some hm
  refine j_getR C fg_X11_32_10 hv0 (dr_spec h6).1 dX11_load_9 ?_
  obtain ⟨r7, h8, hm⟩ := bd_some hm
  refine call_V (run_LV C lk_X11_284 ⟨rfl, rfl, Nat.le_of_ble_eq_true rfl, Nat.le_of_ble_eq_true rfl⟩ (As := [.ref q3, .ref q5]) ((dr_spec h2).2) rfl rfl (Nat.le_of_ble_eq_true rfl) dX11_load_12 (mc_X6_fillDock _ _ _ _ _ _ _ ((dr_spec h2).2) ((dr_spec h4).2) ((dr_spec h6).2) h8)) ?_
  refine j_aload_n C 0 dX11_load_15 rfl ?_
  obtain ⟨q9, h10, hm⟩ := bd_some hm
  refine j_getR C fg_X11_84_10 hv0 (dr_spec h10).1 dX11_load_16 ?_
  refine j_getI C fg_X11_288_6 ((dr_spec h10).2) dX11_load_19 ?_
  obtain rfl := Option.some.inj hm
  exact j_ireti C dX11_load_22
set_option maxRecDepth 20000 in
set_option maxHeartbeats 4000000 in
theorem mc_X11_load (l : Launch) (N : Nat) (Λ : Lay) (μ : Mem) (v0 : Nat) (hv0 : inL Λ v0 10) {r : Int32 × Mem} (hm : m_X11_load N Λ μ v0 = some r) : MI l yX11_load cX11_load 1 (some .int) rm_X11_load Λ [.ref v0] μ r.1 r.2 := mi_of rfl (Nat.le_of_ble_eq_true rfl) (fun x C _ => tm_X11_load C _ _ _ hv0 hm)
abbrev rm_X11_which : Room := { frames := 6, cells := 0, slots := 0, locals := 146 }
set_option maxRecDepth 20000 in
set_option maxHeartbeats 4000000 in
theorem tm_X11_which {x : Ctx} {Λ : Lay} (C : Cx x cX11_which 1 (some .int) RX11 Λ rm_X11_which) (N : Nat) (μ : Mem) (v0 : Nat) (hv0 : inL Λ v0 10) {r : Int32 × Mem} (hm : m_X11_which N Λ μ v0 = some r) : J x 1 Λ (QI x Λ r.1 r.2) 0 [(0, .ref v0)] [] μ := by
  refine j_aload_n C 0 dX11_which_0 rfl ?_
  obtain ⟨q1, h2, hm⟩ := bd_some hm
  refine j_getR C fg_X11_84_10 hv0 (dr_spec h2).1 dX11_which_1 ?_
  refine j_aload_n C 0 dX11_which_4 rfl ?_
  obtain ⟨q3, h4, hm⟩ := bd_some hm
  refine j_getR C fg_X11_19_10 hv0 (dr_spec h4).1 dX11_which_5 ?_
  refine j_aload_n C 0 dX11_which_8 rfl ?_
  obtain ⟨q5, h6, hm⟩ := bd_some hm
  refine j_getR C fg_X11_32_10 hv0 (dr_spec h6).1 dX11_which_9 ?_
  obtain ⟨r7, h8, hm⟩ := bd_some hm
  refine call_V (run_LV C lk_X11_284 ⟨rfl, rfl, Nat.le_of_ble_eq_true rfl, Nat.le_of_ble_eq_true rfl⟩ (As := [.ref q3, .ref q5]) ((dr_spec h2).2) rfl rfl (Nat.le_of_ble_eq_true rfl) dX11_which_12 (mc_X6_fillDock _ _ _ _ _ _ _ ((dr_spec h2).2) ((dr_spec h4).2) ((dr_spec h6).2) h8)) ?_
  refine j_aload_n C 0 dX11_which_15 rfl ?_
  obtain ⟨q9, h10, hm⟩ := bd_some hm
  refine j_getR C fg_X11_84_10 hv0 (dr_spec h10).1 dX11_which_16 ?_
  refine j_getI C fg_X11_291_6 ((dr_spec h10).2) dX11_which_19 ?_
  obtain rfl := Option.some.inj hm
  exact j_ireti C dX11_which_22
set_option maxRecDepth 20000 in
set_option maxHeartbeats 4000000 in
theorem mc_X11_which (l : Launch) (N : Nat) (Λ : Lay) (μ : Mem) (v0 : Nat) (hv0 : inL Λ v0 10) {r : Int32 × Mem} (hm : m_X11_which N Λ μ v0 = some r) : MI l yX11_which cX11_which 1 (some .int) rm_X11_which Λ [.ref v0] μ r.1 r.2 := mi_of rfl (Nat.le_of_ble_eq_true rfl) (fun x C _ => tm_X11_which C _ _ _ hv0 hm)
abbrev rm_X11_firstHour : Room := { frames := 5, cells := 0, slots := 0, locals := 131 }
set_option maxRecDepth 20000 in
set_option maxHeartbeats 4000000 in
theorem tb_X11_firstHour_13 {x : Ctx} {Λ : Lay} (C : Cx x cX11_firstHour 3 (some .int) RX11 Λ rm_X11_firstHour) (N : Nat) (μ : Mem) (k13 : Int32 × Mem → Option (Int32 × Mem)) (v0 : Nat) (v1 : Int32) (v2 : Int32) (hk13 : ∀ (s : Int32 × Mem) (r : Int32 × Mem), k13 s = some r → J x 3 Λ (QI x Λ r.1 r.2) 13 [(0, .ref v0), (1, .int v1), (2, .int s.1)] [] (s.2)) (hv0 : inL Λ v0 10) {r : Int32 × Mem} (hm : bd_X11_firstHour_13 N Λ μ k13 v0 v1 v2 = some r) : J x 3 Λ (QI x Λ r.1 r.2) 13 [(0, .ref v0), (1, .int v1), (2, .int v2)] [] μ := by
  refine j_iload_n C 2 dX11_firstHour_13 rfl ?_
  refine j_bipush C (v := 60) dX11_firstHour_14 rfl ?_
  refine j_icmp_gt C (tgt := 51) dX11_firstHour_16 (by decide) (fun h1 => ?_) (fun h1 => ?_)
  · replace hm := if_t hm h1
    refine j_iconst C (v := -1) dX11_firstHour_51 rfl ?_
    obtain rfl := Option.some.inj hm
    exact j_ireti C dX11_firstHour_52
  · replace hm := if_f hm h1
    refine j_aload_n C 0 dX11_firstHour_19 rfl ?_
    obtain ⟨q2, h3, hm⟩ := bd_some hm
    refine j_getR C fg_X11_23_10 hv0 (dr_spec h3).1 dX11_firstHour_20 ?_
    refine j_iload_n C 1 dX11_firstHour_23 rfl ?_
    obtain ⟨r4, h5, hm⟩ := bd_some hm
    refine call_I (run_LV C lk_X11_437 ⟨rfl, rfl, Nat.le_of_ble_eq_true rfl, Nat.le_of_ble_eq_true rfl⟩ (As := [.int v1]) ((dr_spec h3).2) rfl rfl (Nat.le_of_ble_eq_true rfl) dX11_firstHour_24 (mc_X9_reaches _ _ _ _ _ _ ((dr_spec h3).2) h5)) ?_
    refine j_if_eq C (tgt := 32) dX11_firstHour_27 (by decide) (fun h6 => ?_) (fun h6 => ?_)
    · replace hm := if_t hm h6
      refine j_aload_n C 0 dX11_firstHour_32 rfl ?_
      obtain ⟨q7, h8, hm⟩ := bd_some hm
      refine j_getR C fg_X11_23_10 hv0 (dr_spec h8).1 dX11_firstHour_33 ?_
      refine j_aload_n C 0 dX11_firstHour_36 rfl ?_
      obtain ⟨q9, h10, hm⟩ := bd_some hm
      refine j_getR C fg_X11_32_10 hv0 (dr_spec h10).1 dX11_firstHour_37 ?_
      refine j_iconst C (v := 0) dX11_firstHour_40 rfl ?_
      obtain ⟨r11, h12, hm⟩ := bd_some hm
      refine call_I (run_LV C lk_X11_440 ⟨rfl, rfl, Nat.le_of_ble_eq_true rfl, Nat.le_of_ble_eq_true rfl⟩ (As := [.ref q9, .int 0]) ((dr_spec h8).2) rfl rfl (Nat.le_of_ble_eq_true rfl) dX11_firstHour_41 (mc_X9_step _ _ _ _ _ _ _ ((dr_spec h8).2) ((dr_spec h10).2) h12)) ?_
      refine j_pop C dX11_firstHour_44 rfl ?_
      obtain ⟨y13, e14, hm⟩ := lt_some hm
      refine j_iinc C 2 (v := y13) (lv' := [(2, .int y13), (0, .ref v0), (1, .int v1)]) dX11_firstHour_45 rfl (by rw [e14]; rfl) (by decide) rfl ?_
      refine j_goto C (tgt := 13) dX11_firstHour_48 (by decide) ?_
      refine j_sub [1, 2, 0] rfl ?_
      exact hk13 (y13, r11.2) _ hm
    · replace hm := if_f hm h6
      refine j_iload_n C 2 dX11_firstHour_30 rfl ?_
      obtain rfl := Option.some.inj hm
      exact j_ireti C dX11_firstHour_31
set_option maxRecDepth 20000 in
set_option maxHeartbeats 4000000 in
theorem tl_X11_firstHour_13 {x : Ctx} {Λ : Lay} (C : Cx x cX11_firstHour 3 (some .int) RX11 Λ rm_X11_firstHour) (N : Nat) (v0 : Nat) (v1 : Int32) (hv0 : inL Λ v0 10) (s : Int32 × Mem) {r : Int32 × Mem} (hm : lp_X11_firstHour_13 N Λ v0 v1 s = some r) : J x 3 Λ (QI x Λ r.1 r.2) 13 [(0, .ref v0), (1, .int v1), (2, .int s.1)] [] (s.2) :=
  cw_ind (P := fun s r => J x 3 Λ (QI x Λ r.1 r.2) 13 [(0, .ref v0), (1, .int v1), (2, .int s.1)] [] (s.2)) (fun k hkk s r e => tb_X11_firstHour_13 C _ _ _ _ _ _ hkk hv0 e) N s r hm
set_option maxRecDepth 20000 in
set_option maxHeartbeats 4000000 in
theorem tm_X11_firstHour {x : Ctx} {Λ : Lay} (C : Cx x cX11_firstHour 3 (some .int) RX11 Λ rm_X11_firstHour) (N : Nat) (μ : Mem) (v0 : Nat) (v1 : Int32) (hv0 : inL Λ v0 10) {r : Int32 × Mem} (hm : m_X11_firstHour N Λ μ v0 v1 = some r) : J x 3 Λ (QI x Λ r.1 r.2) 0 [(0, .ref v0), (1, .int v1)] [] μ := by
  refine j_aload_n C 0 dX11_firstHour_0 rfl ?_
  obtain ⟨q1, h2, hm⟩ := bd_some hm
  refine j_getR C fg_X11_23_10 hv0 (dr_spec h2).1 dX11_firstHour_1 ?_
  refine j_aload_n C 0 dX11_firstHour_4 rfl ?_
  obtain ⟨q3, h4, hm⟩ := bd_some hm
  refine j_getR C fg_X11_19_10 hv0 (dr_spec h4).1 dX11_firstHour_5 ?_
  obtain ⟨r5, h6, hm⟩ := bd_some hm
  refine call_V (run_LV C lk_X11_99 ⟨rfl, rfl, Nat.le_of_ble_eq_true rfl, Nat.le_of_ble_eq_true rfl⟩ (As := [.ref q3]) ((dr_spec h2).2) rfl rfl (Nat.le_of_ble_eq_true rfl) dX11_firstHour_8 (mc_X9_copy _ _ _ _ _ _ ((dr_spec h2).2) ((dr_spec h4).2) h6)) ?_
  refine j_iconst C (v := 0) dX11_firstHour_11 rfl ?_
  refine j_istore_n C (lv' := [(2, .int 0), (0, .ref v0), (1, .int v1)]) dX11_firstHour_12 (by decide) rfl ?_
  refine j_sub [1, 2, 0] rfl ?_
  exact tl_X11_firstHour_13 C _ _ _ hv0 (0, r5) hm
set_option maxRecDepth 20000 in
set_option maxHeartbeats 4000000 in
theorem mc_X11_firstHour (l : Launch) (N : Nat) (Λ : Lay) (μ : Mem) (v0 : Nat) (v1 : Int32) (hv0 : inL Λ v0 10) {r : Int32 × Mem} (hm : m_X11_firstHour N Λ μ v0 v1 = some r) : MI l yX11_firstHour cX11_firstHour 3 (some .int) rm_X11_firstHour Λ [.ref v0, .int v1] μ r.1 r.2 := mi_of rfl (Nat.le_of_ble_eq_true rfl) (fun x C _ => tm_X11_firstHour C _ _ _ _ hv0 hm)
abbrev rm_X11_dry : Room := { frames := 6, cells := 0, slots := 0, locals := 153 }
set_option maxRecDepth 20000 in
set_option maxHeartbeats 4000000 in
theorem tm_X11_dry {x : Ctx} {Λ : Lay} (C : Cx x cX11_dry 1 (some .int) RX11 Λ rm_X11_dry) (N : Nat) (μ : Mem) (v0 : Nat) (hv0 : inL Λ v0 10) {r : Int32 × Mem} (hm : m_X11_dry N Λ μ v0 = some r) : J x 1 Λ (QI x Λ r.1 r.2) 0 [(0, .ref v0)] [] μ := by
  refine j_aload_n C 0 dX11_dry_0 rfl ?_
  refine j_iconst C (v := 0) dX11_dry_1 rfl ?_
  obtain ⟨r1, h2, hm⟩ := bd_some hm
  refine call_I (run_LV C lk_X11_294 ⟨rfl, rfl, Nat.le_of_ble_eq_true rfl, Nat.le_of_ble_eq_true rfl⟩ (As := [.int 0]) hv0 rfl rfl (Nat.le_of_ble_eq_true rfl) dX11_dry_2 (mc_X11_firstHour _ _ _ _ _ _ hv0 h2)) ?_
  obtain rfl := Option.some.inj hm
  exact j_ireti C dX11_dry_5
set_option maxRecDepth 20000 in
set_option maxHeartbeats 4000000 in
theorem mc_X11_dry (l : Launch) (N : Nat) (Λ : Lay) (μ : Mem) (v0 : Nat) (hv0 : inL Λ v0 10) {r : Int32 × Mem} (hm : m_X11_dry N Λ μ v0 = some r) : MI l yX11_dry cX11_dry 1 (some .int) rm_X11_dry Λ [.ref v0] μ r.1 r.2 := mi_of rfl (Nat.le_of_ble_eq_true rfl) (fun x C _ => tm_X11_dry C _ _ _ hv0 hm)
abbrev rm_X11_ready : Room := { frames := 6, cells := 0, slots := 0, locals := 153 }
set_option maxRecDepth 20000 in
set_option maxHeartbeats 4000000 in
theorem tm_X11_ready {x : Ctx} {Λ : Lay} (C : Cx x cX11_ready 1 (some .int) RX11 Λ rm_X11_ready) (N : Nat) (μ : Mem) (v0 : Nat) (hv0 : inL Λ v0 10) {r : Int32 × Mem} (hm : m_X11_ready N Λ μ v0 = some r) : J x 1 Λ (QI x Λ r.1 r.2) 0 [(0, .ref v0)] [] μ := by
  refine j_aload_n C 0 dX11_ready_0 rfl ?_
  refine j_iconst C (v := 1) dX11_ready_1 rfl ?_
  obtain ⟨r1, h2, hm⟩ := bd_some hm
  refine call_I (run_LV C lk_X11_294 ⟨rfl, rfl, Nat.le_of_ble_eq_true rfl, Nat.le_of_ble_eq_true rfl⟩ (As := [.int 1]) hv0 rfl rfl (Nat.le_of_ble_eq_true rfl) dX11_ready_2 (mc_X11_firstHour _ _ _ _ _ _ hv0 h2)) ?_
  obtain rfl := Option.some.inj hm
  exact j_ireti C dX11_ready_5
set_option maxRecDepth 20000 in
set_option maxHeartbeats 4000000 in
theorem mc_X11_ready (l : Launch) (N : Nat) (Λ : Lay) (μ : Mem) (v0 : Nat) (hv0 : inL Λ v0 10) {r : Int32 × Mem} (hm : m_X11_ready N Λ μ v0 = some r) : MI l yX11_ready cX11_ready 1 (some .int) rm_X11_ready Λ [.ref v0] μ r.1 r.2 := mi_of rfl (Nat.le_of_ble_eq_true rfl) (fun x C _ => tm_X11_ready C _ _ _ hv0 hm)
abbrev rm_X11_ease : Room := { frames := 6, cells := 0, slots := 0, locals := 153 }
set_option maxRecDepth 20000 in
set_option maxHeartbeats 4000000 in
theorem tm_X11_ease {x : Ctx} {Λ : Lay} (C : Cx x cX11_ease 1 (some .int) RX11 Λ rm_X11_ease) (N : Nat) (μ : Mem) (v0 : Nat) (hv0 : inL Λ v0 10) {r : Int32 × Mem} (hm : m_X11_ease N Λ μ v0 = some r) : J x 1 Λ (QI x Λ r.1 r.2) 0 [(0, .ref v0)] [] μ := by
  refine j_aload_n C 0 dX11_ease_0 rfl ?_
  refine j_iconst C (v := 2) dX11_ease_1 rfl ?_
  obtain ⟨r1, h2, hm⟩ := bd_some hm
  refine call_I (run_LV C lk_X11_294 ⟨rfl, rfl, Nat.le_of_ble_eq_true rfl, Nat.le_of_ble_eq_true rfl⟩ (As := [.int 2]) hv0 rfl rfl (Nat.le_of_ble_eq_true rfl) dX11_ease_2 (mc_X11_firstHour _ _ _ _ _ _ hv0 h2)) ?_
  obtain rfl := Option.some.inj hm
  exact j_ireti C dX11_ease_5
set_option maxRecDepth 20000 in
set_option maxHeartbeats 4000000 in
theorem mc_X11_ease (l : Launch) (N : Nat) (Λ : Lay) (μ : Mem) (v0 : Nat) (hv0 : inL Λ v0 10) {r : Int32 × Mem} (hm : m_X11_ease N Λ μ v0 = some r) : MI l yX11_ease cX11_ease 1 (some .int) rm_X11_ease Λ [.ref v0] μ r.1 r.2 := mi_of rfl (Nat.le_of_ble_eq_true rfl) (fun x C _ => tm_X11_ease C _ _ _ hv0 hm)
abbrev rm_X11_cost : Room := { frames := 6, cells := 0, slots := 0, locals := 146 }
set_option maxRecDepth 20000 in
set_option maxHeartbeats 4000000 in
theorem tm_X11_cost {x : Ctx} {Λ : Lay} (C : Cx x cX11_cost 1 (some .int) RX11 Λ rm_X11_cost) (N : Nat) (μ : Mem) (v0 : Nat) (hv0 : inL Λ v0 10) {r : Int32 × Mem} (hm : m_X11_cost N Λ μ v0 = some r) : J x 1 Λ (QI x Λ r.1 r.2) 0 [(0, .ref v0)] [] μ := by
  refine j_aload_n C 0 dX11_cost_0 rfl ?_
  obtain ⟨q1, h2, hm⟩ := bd_some hm
  refine j_getR C fg_X11_84_10 hv0 (dr_spec h2).1 dX11_cost_1 ?_
  refine j_aload_n C 0 dX11_cost_4 rfl ?_
  obtain ⟨q3, h4, hm⟩ := bd_some hm
  refine j_getR C fg_X11_19_10 hv0 (dr_spec h4).1 dX11_cost_5 ?_
  refine j_aload_n C 0 dX11_cost_8 rfl ?_
  obtain ⟨q5, h6, hm⟩ := bd_some hm
  refine j_getR C fg_X11_32_10 hv0 (dr_spec h6).1 dX11_cost_9 ?_
  obtain ⟨r7, h8, hm⟩ := bd_some hm
  refine call_V (run_LV C lk_X11_297 ⟨rfl, rfl, Nat.le_of_ble_eq_true rfl, Nat.le_of_ble_eq_true rfl⟩ (As := [.ref q3, .ref q5]) ((dr_spec h2).2) rfl rfl (Nat.le_of_ble_eq_true rfl) dX11_cost_12 (mc_X6_orderWork _ _ _ _ _ _ _ ((dr_spec h2).2) ((dr_spec h4).2) ((dr_spec h6).2) h8)) ?_
  refine j_aload_n C 0 dX11_cost_15 rfl ?_
  obtain ⟨q9, h10, hm⟩ := bd_some hm
  refine j_getR C fg_X11_84_10 hv0 (dr_spec h10).1 dX11_cost_16 ?_
  refine j_getI C fg_X11_288_6 ((dr_spec h10).2) dX11_cost_19 ?_
  obtain rfl := Option.some.inj hm
  exact j_ireti C dX11_cost_22
set_option maxRecDepth 20000 in
set_option maxHeartbeats 4000000 in
theorem mc_X11_cost (l : Launch) (N : Nat) (Λ : Lay) (μ : Mem) (v0 : Nat) (hv0 : inL Λ v0 10) {r : Int32 × Mem} (hm : m_X11_cost N Λ μ v0 = some r) : MI l yX11_cost cX11_cost 1 (some .int) rm_X11_cost Λ [.ref v0] μ r.1 r.2 := mi_of rfl (Nat.le_of_ble_eq_true rfl) (fun x C _ => tm_X11_cost C _ _ _ hv0 hm)
abbrev rm_X11_first : Room := { frames := 6, cells := 0, slots := 0, locals := 146 }
set_option maxRecDepth 20000 in
set_option maxHeartbeats 4000000 in
theorem tm_X11_first {x : Ctx} {Λ : Lay} (C : Cx x cX11_first 1 (some .int) RX11 Λ rm_X11_first) (N : Nat) (μ : Mem) (v0 : Nat) (hv0 : inL Λ v0 10) {r : Int32 × Mem} (hm : m_X11_first N Λ μ v0 = some r) : J x 1 Λ (QI x Λ r.1 r.2) 0 [(0, .ref v0)] [] μ := by
  refine j_aload_n C 0 dX11_first_0 rfl ?_
  obtain ⟨q1, h2, hm⟩ := bd_some hm
  refine j_getR C fg_X11_84_10 hv0 (dr_spec h2).1 dX11_first_1 ?_
  refine j_aload_n C 0 dX11_first_4 rfl ?_
  obtain ⟨q3, h4, hm⟩ := bd_some hm
  refine j_getR C fg_X11_19_10 hv0 (dr_spec h4).1 dX11_first_5 ?_
  refine j_aload_n C 0 dX11_first_8 rfl ?_
  obtain ⟨q5, h6, hm⟩ := bd_some hm
  refine j_getR C fg_X11_32_10 hv0 (dr_spec h6).1 dX11_first_9 ?_
  obtain ⟨r7, h8, hm⟩ := bd_some hm
  refine call_V (run_LV C lk_X11_297 ⟨rfl, rfl, Nat.le_of_ble_eq_true rfl, Nat.le_of_ble_eq_true rfl⟩ (As := [.ref q3, .ref q5]) ((dr_spec h2).2) rfl rfl (Nat.le_of_ble_eq_true rfl) dX11_first_12 (mc_X6_orderWork _ _ _ _ _ _ _ ((dr_spec h2).2) ((dr_spec h4).2) ((dr_spec h6).2) h8)) ?_
  refine j_aload_n C 0 dX11_first_15 rfl ?_
  obtain ⟨q9, h10, hm⟩ := bd_some hm
  refine j_getR C fg_X11_84_10 hv0 (dr_spec h10).1 dX11_first_16 ?_
  refine j_getI C fg_X11_291_6 ((dr_spec h10).2) dX11_first_19 ?_
  obtain rfl := Option.some.inj hm
  exact j_ireti C dX11_first_22
set_option maxRecDepth 20000 in
set_option maxHeartbeats 4000000 in
theorem mc_X11_first (l : Launch) (N : Nat) (Λ : Lay) (μ : Mem) (v0 : Nat) (hv0 : inL Λ v0 10) {r : Int32 × Mem} (hm : m_X11_first N Λ μ v0 = some r) : MI l yX11_first cX11_first 1 (some .int) rm_X11_first Λ [.ref v0] μ r.1 r.2 := mi_of rfl (Nat.le_of_ble_eq_true rfl) (fun x C _ => tm_X11_first C _ _ _ hv0 hm)
abbrev rm_X11_needCurves : Room := { frames := 6, cells := 1, slots := 6, locals := 120 }
set_option maxRecDepth 20000 in
set_option maxHeartbeats 4000000 in
theorem tm_X11_needCurves {x : Ctx} {Λ : Lay} (C : Cx x cX11_needCurves 2 none RX11 Λ rm_X11_needCurves) (N : Nat) (μ : Mem) (v0 : Nat) (hN : NT x) (hk : xk x + 1 ≤ (rm_X11_needCurves).cells ∧ xl x + 6 ≤ (rm_X11_needCurves).slots) (hv0 : inL Λ v0 10) {r : RX_} (hm : m_X11_needCurves N Λ μ v0 = some r) : J x 2 Λ (QXV x Λ rm_X11_needCurves r) 0 [(0, .ref v0)] [] μ := by
  refine j_aload_n C 0 dX11_needCurves_0 rfl ?_
  obtain ⟨q1, h2, hm⟩ := bd_some hm
  refine j_getR C fg_X11_70_10 hv0 (dr_spec h2).1 dX11_needCurves_1 ?_
  refine j_aload_n C 0 dX11_needCurves_4 rfl ?_
  obtain ⟨q3, h4, hm⟩ := bd_some hm
  refine j_getR C fg_X11_10_10 hv0 (dr_spec h4).1 dX11_needCurves_5 ?_
  obtain ⟨r5, h6, hm⟩ := bd_some hm
  refine call_I (run_LV C lk_X11_428 ⟨rfl, rfl, Nat.le_of_ble_eq_true rfl, Nat.le_of_ble_eq_true rfl⟩ (As := [.ref q3]) ((dr_spec h2).2) rfl rfl (Nat.le_of_ble_eq_true rfl) dX11_needCurves_8 (mc_X0_read _ _ _ _ _ _ ((dr_spec h2).2) ((dr_spec h4).2) h6)) ?_
  refine j_istore_n C (lv' := [(1, .int r5.1), (0, .ref v0)]) dX11_needCurves_11 (by decide) rfl ?_
  refine j_aload_n C 1 dX11_needCurves_12 rfl ?_
  obtain ⟨q7, h8, hm⟩ := bd_some hm
  refine j_getR C fg_X11_10_10 hv0 (dr_spec h8).1 dX11_needCurves_13 ?_
  refine j_iconst C (v := 0) dX11_needCurves_16 rfl ?_
  obtain ⟨μ9, e10, hm⟩ := lt_some hm
  refine j_putI C fp_X11_92_9 ((dr_spec h8).2) e10 dX11_needCurves_17 ?_
  refine j_iload_n C 0 dX11_needCurves_20 rfl ?_
  refine j_if_ne C (tgt := 35) dX11_needCurves_21 (by decide) (fun h11 => ?_) (fun h11 => ?_)
  · replace hm := if_f hm h11
    obtain rfl := Option.some.inj hm
    exact jx_vret C dX11_needCurves_35
  · replace hm := if_t hm h11
    obtain rfl := Option.some.inj hm
    exact jx_throwSW C hN tr_107_432_111 rfl (hk_sub hk (Nat.le_of_ble_eq_true rfl) (Nat.le_of_ble_eq_true rfl)) ⟨Nat.le_of_ble_eq_true rfl, Nat.le_of_ble_eq_true rfl⟩ rfl dX11_needCurves_24 dX11_needCurves_27 dX11_needCurves_28 dX11_needCurves_31 dX11_needCurves_34
set_option maxRecDepth 20000 in
set_option maxHeartbeats 4000000 in
theorem mcx_X11_needCurves (l : Launch) (hst : l.stackTraces = false) (N : Nat) (Λ : Lay) (μ : Mem) (v0 : Nat) (hv0 : inL Λ v0 10) {r : RX_} (hm : m_X11_needCurves N Λ μ v0 = some r) : MXV l yX11_needCurves cX11_needCurves 2 rm_X11_needCurves Λ [.ref v0] μ r := mxv_of hst rfl (Nat.le_of_ble_eq_true rfl) (fun x C _ hN h0 => tm_X11_needCurves C _ _ _ hN (hk_0 h0) hv0 hm)
abbrev rm_X11_goes : Room := { frames := 7, cells := 1, slots := 6, locals := 141 }
set_option maxRecDepth 20000 in
set_option maxHeartbeats 4000000 in
theorem tj_X11_goes_33 {x : Ctx} {Λ : Lay} (C : Cx x cX11_goes 2 (some .int) RX11 Λ rm_X11_goes) (N : Nat) (μ : Mem) (s0 : Int32) (hN : NT x) (hk : xk x + 0 ≤ (rm_X11_goes).cells ∧ xl x + 0 ≤ (rm_X11_goes).slots) {r : RX_} (hm : jn_X11_goes_33 N Λ μ s0 = some r) : J x 2 Λ (QXI x Λ rm_X11_goes r) 33 [] [.int s0] μ := by
  obtain rfl := Option.some.inj hm
  exact jx_ireti C dX11_goes_33
set_option maxRecDepth 20000 in
set_option maxHeartbeats 4000000 in
theorem tm_X11_goes {x : Ctx} {Λ : Lay} (C : Cx x cX11_goes 2 (some .int) RX11 Λ rm_X11_goes) (N : Nat) (μ : Mem) (v0 : Nat) (v1 : Int32) (hN : NT x) (hk : xk x + 1 ≤ (rm_X11_goes).cells ∧ xl x + 6 ≤ (rm_X11_goes).slots) (hv0 : inL Λ v0 10) {r : RX_} (hm : m_X11_goes N Λ μ v0 v1 = some r) : J x 2 Λ (QXI x Λ rm_X11_goes r) 0 [(0, .ref v0), (1, .int v1)] [] μ := by
  refine j_aload_n C 0 dX11_goes_0 rfl ?_
  obtain ⟨r1, h2, hm⟩ := bd_some hm
  refine call_XV C hN (runx_LV C lk_X11_300 ⟨Nat.le_of_ble_eq_true rfl, Nat.le_of_ble_eq_true rfl⟩ (hk_sub hk (Nat.le_of_ble_eq_true rfl) (Nat.le_of_ble_eq_true rfl)) (As := []) hv0 rfl rfl (Nat.le_of_ble_eq_true rfl) dX11_goes_1 (mcx_X11_needCurves _ hN.2 _ _ _ _ hv0 h2)) (hk_sub hk (Nat.le_of_ble_eq_true rfl) (Nat.le_of_ble_eq_true rfl)) (fun e3 => ?_) (fun e3 => ?_)
  rotate_left
  · replace hm := if_f hm e3; obtain rfl := Option.some.inj hm; exact ⟨_, rfl⟩
  replace hm := if_t hm e3
  replace C := Cx_bump (a := 1) (b := 6) C (hk_sub hk (Nat.le_of_ble_eq_true rfl) (Nat.le_of_ble_eq_true rfl))
  replace hN := NT_bump (a := 1) (b := 6) hN
  replace hk := hk_bump (a := 1) (b := 6) (n := 0) (m := 0) hk
  refine j_aload_n C 0 dX11_goes_4 rfl ?_
  obtain ⟨q4, h5, hm⟩ := bd_some hm
  refine j_getR C fg_X11_70_10 hv0 (dr_spec h5).1 dX11_goes_5 ?_
  refine j_iconst C (v := 0) dX11_goes_8 rfl ?_
  obtain ⟨r6, h7, hm⟩ := bd_some hm
  refine call_V (run_LV C lk_X11_303 ⟨rfl, rfl, Nat.le_of_ble_eq_true rfl, Nat.le_of_ble_eq_true rfl⟩ (As := [.int 0]) ((dr_spec h5).2) rfl rfl (Nat.le_of_ble_eq_true rfl) dX11_goes_9 (mc_X0_search _ _ _ _ _ _ ((dr_spec h5).2) h7)) ?_
  refine j_iload_n C 1 dX11_goes_12 rfl ?_
  refine j_if_eq C (tgt := 26) dX11_goes_13 (by decide) (fun h8 => ?_) (fun h8 => ?_)
  · replace hm := if_t hm h8
    refine j_aload_n C 0 dX11_goes_26 rfl ?_
    obtain ⟨q9, h10, hm⟩ := bd_some hm
    refine j_getR C fg_X11_70_10 hv0 (dr_spec h10).1 dX11_goes_27 ?_
    refine j_getI C fg_X11_310_0 ((dr_spec h10).2) dX11_goes_30 ?_
    refine j_sub [] rfl ?_
    exact tj_X11_goes_33 C _ _ _ hN ((hk_sub hk (Nat.le_of_ble_eq_true rfl) (Nat.le_of_ble_eq_true rfl))) hm
  · replace hm := if_f hm h8
    refine j_aload_n C 0 dX11_goes_16 rfl ?_
    obtain ⟨q11, h12, hm⟩ := bd_some hm
    refine j_getR C fg_X11_70_10 hv0 (dr_spec h12).1 dX11_goes_17 ?_
    refine j_getI C fg_X11_307_0 ((dr_spec h12).2) dX11_goes_20 ?_
    refine j_goto C (tgt := 33) dX11_goes_23 (by decide) ?_
    refine j_sub [] rfl ?_
    exact tj_X11_goes_33 C _ _ _ hN ((hk_sub hk (Nat.le_of_ble_eq_true rfl) (Nat.le_of_ble_eq_true rfl))) hm
set_option maxRecDepth 20000 in
set_option maxHeartbeats 4000000 in
theorem mcx_X11_goes (l : Launch) (hst : l.stackTraces = false) (N : Nat) (Λ : Lay) (μ : Mem) (v0 : Nat) (v1 : Int32) (hv0 : inL Λ v0 10) {r : RX_} (hm : m_X11_goes N Λ μ v0 v1 = some r) : MXI l yX11_goes cX11_goes 2 (some .int) rm_X11_goes Λ [.ref v0, .int v1] μ r := mxi_of hst rfl (Nat.le_of_ble_eq_true rfl) (fun x C _ hN h0 => tm_X11_goes C _ _ _ _ hN (hk_0 h0) hv0 hm)
abbrev rm_X11_ask : Room := { frames := 7, cells := 1, slots := 6, locals := 141 }
set_option maxRecDepth 20000 in
set_option maxHeartbeats 4000000 in
theorem tm_X11_ask {x : Ctx} {Λ : Lay} (C : Cx x cX11_ask 1 (some .int) RX11 Λ rm_X11_ask) (N : Nat) (μ : Mem) (v0 : Nat) (hN : NT x) (hk : xk x + 1 ≤ (rm_X11_ask).cells ∧ xl x + 6 ≤ (rm_X11_ask).slots) (hv0 : inL Λ v0 10) {r : RX_} (hm : m_X11_ask N Λ μ v0 = some r) : J x 1 Λ (QXI x Λ rm_X11_ask r) 0 [(0, .ref v0)] [] μ := by
  refine j_aload_n C 0 dX11_ask_0 rfl ?_
  obtain ⟨r1, h2, hm⟩ := bd_some hm
  refine call_XV C hN (runx_LV C lk_X11_300 ⟨Nat.le_of_ble_eq_true rfl, Nat.le_of_ble_eq_true rfl⟩ (hk_sub hk (Nat.le_of_ble_eq_true rfl) (Nat.le_of_ble_eq_true rfl)) (As := []) hv0 rfl rfl (Nat.le_of_ble_eq_true rfl) dX11_ask_1 (mcx_X11_needCurves _ hN.2 _ _ _ _ hv0 h2)) (hk_sub hk (Nat.le_of_ble_eq_true rfl) (Nat.le_of_ble_eq_true rfl)) (fun e3 => ?_) (fun e3 => ?_)
  rotate_left
  · replace hm := if_f hm e3; obtain rfl := Option.some.inj hm; exact ⟨_, rfl⟩
  replace hm := if_t hm e3
  replace C := Cx_bump (a := 1) (b := 6) C (hk_sub hk (Nat.le_of_ble_eq_true rfl) (Nat.le_of_ble_eq_true rfl))
  replace hN := NT_bump (a := 1) (b := 6) hN
  replace hk := hk_bump (a := 1) (b := 6) (n := 0) (m := 0) hk
  refine j_aload_n C 0 dX11_ask_4 rfl ?_
  obtain ⟨q4, h5, hm⟩ := bd_some hm
  refine j_getR C fg_X11_70_10 hv0 (dr_spec h5).1 dX11_ask_5 ?_
  refine j_iconst C (v := 1) dX11_ask_8 rfl ?_
  obtain ⟨r6, h7, hm⟩ := bd_some hm
  refine call_V (run_LV C lk_X11_303 ⟨rfl, rfl, Nat.le_of_ble_eq_true rfl, Nat.le_of_ble_eq_true rfl⟩ (As := [.int 1]) ((dr_spec h5).2) rfl rfl (Nat.le_of_ble_eq_true rfl) dX11_ask_9 (mc_X0_search _ _ _ _ _ _ ((dr_spec h5).2) h7)) ?_
  refine j_aload_n C 0 dX11_ask_12 rfl ?_
  obtain ⟨q8, h9, hm⟩ := bd_some hm
  refine j_getR C fg_X11_70_10 hv0 (dr_spec h9).1 dX11_ask_13 ?_
  obtain ⟨r10, h11, hm⟩ := bd_some hm
  refine call_I (run_LV C lk_X11_313 ⟨rfl, rfl, Nat.le_of_ble_eq_true rfl, Nat.le_of_ble_eq_true rfl⟩ (As := []) ((dr_spec h9).2) rfl rfl (Nat.le_of_ble_eq_true rfl) dX11_ask_16 (mc_X0_bestHour _ _ _ _ _ ((dr_spec h9).2) h11)) ?_
  obtain rfl := Option.some.inj hm
  exact jx_ireti C dX11_ask_19
set_option maxRecDepth 20000 in
set_option maxHeartbeats 4000000 in
theorem mcx_X11_ask (l : Launch) (hst : l.stackTraces = false) (N : Nat) (Λ : Lay) (μ : Mem) (v0 : Nat) (hv0 : inL Λ v0 10) {r : RX_} (hm : m_X11_ask N Λ μ v0 = some r) : MXI l yX11_ask cX11_ask 1 (some .int) rm_X11_ask Λ [.ref v0] μ r := mxi_of hst rfl (Nat.le_of_ble_eq_true rfl) (fun x C _ hN h0 => tm_X11_ask C _ _ _ hN (hk_0 h0) hv0 hm)
abbrev rm_X11_needSoundings : Room := { frames := 6, cells := 1, slots := 6, locals := 120 }
set_option maxRecDepth 20000 in
set_option maxHeartbeats 4000000 in
theorem tm_X11_needSoundings {x : Ctx} {Λ : Lay} (C : Cx x cX11_needSoundings 2 none RX11 Λ rm_X11_needSoundings) (N : Nat) (μ : Mem) (v0 : Nat) (hN : NT x) (hk : xk x + 1 ≤ (rm_X11_needSoundings).cells ∧ xl x + 6 ≤ (rm_X11_needSoundings).slots) (hv0 : inL Λ v0 10) {r : RX_} (hm : m_X11_needSoundings N Λ μ v0 = some r) : J x 2 Λ (QXV x Λ rm_X11_needSoundings r) 0 [(0, .ref v0)] [] μ := by
  refine j_aload_n C 0 dX11_needSoundings_0 rfl ?_
  obtain ⟨q1, h2, hm⟩ := bd_some hm
  refine j_getR C fg_X11_77_10 hv0 (dr_spec h2).1 dX11_needSoundings_1 ?_
  refine j_aload_n C 0 dX11_needSoundings_4 rfl ?_
  obtain ⟨q3, h4, hm⟩ := bd_some hm
  refine j_getR C fg_X11_10_10 hv0 (dr_spec h4).1 dX11_needSoundings_5 ?_
  obtain ⟨r5, h6, hm⟩ := bd_some hm
  refine call_I (run_LV C lk_X11_434 ⟨rfl, rfl, Nat.le_of_ble_eq_true rfl, Nat.le_of_ble_eq_true rfl⟩ (As := [.ref q3]) ((dr_spec h2).2) rfl rfl (Nat.le_of_ble_eq_true rfl) dX11_needSoundings_8 (mc_X8_read _ _ _ _ _ _ ((dr_spec h2).2) ((dr_spec h4).2) h6)) ?_
  refine j_istore_n C (lv' := [(1, .int r5.1), (0, .ref v0)]) dX11_needSoundings_11 (by decide) rfl ?_
  refine j_aload_n C 1 dX11_needSoundings_12 rfl ?_
  obtain ⟨q7, h8, hm⟩ := bd_some hm
  refine j_getR C fg_X11_10_10 hv0 (dr_spec h8).1 dX11_needSoundings_13 ?_
  refine j_iconst C (v := 0) dX11_needSoundings_16 rfl ?_
  obtain ⟨μ9, e10, hm⟩ := lt_some hm
  refine j_putI C fp_X11_92_9 ((dr_spec h8).2) e10 dX11_needSoundings_17 ?_
  refine j_iload_n C 0 dX11_needSoundings_20 rfl ?_
  refine j_if_ne C (tgt := 35) dX11_needSoundings_21 (by decide) (fun h11 => ?_) (fun h11 => ?_)
  · replace hm := if_f hm h11
    obtain rfl := Option.some.inj hm
    exact jx_vret C dX11_needSoundings_35
  · replace hm := if_t hm h11
    obtain rfl := Option.some.inj hm
    exact jx_throwSW C hN tr_107_435_111 rfl (hk_sub hk (Nat.le_of_ble_eq_true rfl) (Nat.le_of_ble_eq_true rfl)) ⟨Nat.le_of_ble_eq_true rfl, Nat.le_of_ble_eq_true rfl⟩ rfl dX11_needSoundings_24 dX11_needSoundings_27 dX11_needSoundings_28 dX11_needSoundings_31 dX11_needSoundings_34
set_option maxRecDepth 20000 in
set_option maxHeartbeats 4000000 in
theorem mcx_X11_needSoundings (l : Launch) (hst : l.stackTraces = false) (N : Nat) (Λ : Lay) (μ : Mem) (v0 : Nat) (hv0 : inL Λ v0 10) {r : RX_} (hm : m_X11_needSoundings N Λ μ v0 = some r) : MXV l yX11_needSoundings cX11_needSoundings 2 rm_X11_needSoundings Λ [.ref v0] μ r := mxv_of hst rfl (Nat.le_of_ble_eq_true rfl) (fun x C _ hN h0 => tm_X11_needSoundings C _ _ _ hN (hk_0 h0) hv0 hm)
abbrev rm_X11_lies : Room := { frames := 7, cells := 1, slots := 6, locals := 141 }
set_option maxRecDepth 20000 in
set_option maxHeartbeats 4000000 in
theorem tm_X11_lies {x : Ctx} {Λ : Lay} (C : Cx x cX11_lies 1 (some .int) RX11 Λ rm_X11_lies) (N : Nat) (μ : Mem) (v0 : Nat) (hN : NT x) (hk : xk x + 1 ≤ (rm_X11_lies).cells ∧ xl x + 6 ≤ (rm_X11_lies).slots) (hv0 : inL Λ v0 10) {r : RX_} (hm : m_X11_lies N Λ μ v0 = some r) : J x 1 Λ (QXI x Λ rm_X11_lies r) 0 [(0, .ref v0)] [] μ := by
  refine j_aload_n C 0 dX11_lies_0 rfl ?_
  obtain ⟨r1, h2, hm⟩ := bd_some hm
  refine call_XV C hN (runx_LV C lk_X11_316 ⟨Nat.le_of_ble_eq_true rfl, Nat.le_of_ble_eq_true rfl⟩ (hk_sub hk (Nat.le_of_ble_eq_true rfl) (Nat.le_of_ble_eq_true rfl)) (As := []) hv0 rfl rfl (Nat.le_of_ble_eq_true rfl) dX11_lies_1 (mcx_X11_needSoundings _ hN.2 _ _ _ _ hv0 h2)) (hk_sub hk (Nat.le_of_ble_eq_true rfl) (Nat.le_of_ble_eq_true rfl)) (fun e3 => ?_) (fun e3 => ?_)
  rotate_left
  · replace hm := if_f hm e3; obtain rfl := Option.some.inj hm; exact ⟨_, rfl⟩
  replace hm := if_t hm e3
  replace C := Cx_bump (a := 1) (b := 6) C (hk_sub hk (Nat.le_of_ble_eq_true rfl) (Nat.le_of_ble_eq_true rfl))
  replace hN := NT_bump (a := 1) (b := 6) hN
  replace hk := hk_bump (a := 1) (b := 6) (n := 0) (m := 0) hk
  refine j_aload_n C 0 dX11_lies_4 rfl ?_
  obtain ⟨q4, h5, hm⟩ := bd_some hm
  refine j_getR C fg_X11_77_10 hv0 (dr_spec h5).1 dX11_lies_5 ?_
  obtain ⟨r6, h7, hm⟩ := bd_some hm
  refine call_V (run_LV C lk_X11_319 ⟨rfl, rfl, Nat.le_of_ble_eq_true rfl, Nat.le_of_ble_eq_true rfl⟩ (As := []) ((dr_spec h5).2) rfl rfl (Nat.le_of_ble_eq_true rfl) dX11_lies_8 (mc_X8_search _ _ _ _ _ ((dr_spec h5).2) h7)) ?_
  refine j_aload_n C 0 dX11_lies_11 rfl ?_
  obtain ⟨q8, h9, hm⟩ := bd_some hm
  refine j_getR C fg_X11_77_10 hv0 (dr_spec h9).1 dX11_lies_12 ?_
  refine j_getI C fg_X11_321_7 ((dr_spec h9).2) dX11_lies_15 ?_
  obtain rfl := Option.some.inj hm
  exact jx_ireti C dX11_lies_18
set_option maxRecDepth 20000 in
set_option maxHeartbeats 4000000 in
theorem mcx_X11_lies (l : Launch) (hst : l.stackTraces = false) (N : Nat) (Λ : Lay) (μ : Mem) (v0 : Nat) (hv0 : inL Λ v0 10) {r : RX_} (hm : m_X11_lies N Λ μ v0 = some r) : MXI l yX11_lies cX11_lies 1 (some .int) rm_X11_lies Λ [.ref v0] μ r := mxi_of hst rfl (Nat.le_of_ble_eq_true rfl) (fun x C _ hN h0 => tm_X11_lies C _ _ _ hN (hk_0 h0) hv0 hm)
abbrev rm_X11_likely : Room := { frames := 7, cells := 1, slots := 6, locals := 141 }
set_option maxRecDepth 20000 in
set_option maxHeartbeats 4000000 in
theorem tm_X11_likely {x : Ctx} {Λ : Lay} (C : Cx x cX11_likely 1 (some .int) RX11 Λ rm_X11_likely) (N : Nat) (μ : Mem) (v0 : Nat) (hN : NT x) (hk : xk x + 1 ≤ (rm_X11_likely).cells ∧ xl x + 6 ≤ (rm_X11_likely).slots) (hv0 : inL Λ v0 10) {r : RX_} (hm : m_X11_likely N Λ μ v0 = some r) : J x 1 Λ (QXI x Λ rm_X11_likely r) 0 [(0, .ref v0)] [] μ := by
  refine j_aload_n C 0 dX11_likely_0 rfl ?_
  obtain ⟨r1, h2, hm⟩ := bd_some hm
  refine call_XV C hN (runx_LV C lk_X11_316 ⟨Nat.le_of_ble_eq_true rfl, Nat.le_of_ble_eq_true rfl⟩ (hk_sub hk (Nat.le_of_ble_eq_true rfl) (Nat.le_of_ble_eq_true rfl)) (As := []) hv0 rfl rfl (Nat.le_of_ble_eq_true rfl) dX11_likely_1 (mcx_X11_needSoundings _ hN.2 _ _ _ _ hv0 h2)) (hk_sub hk (Nat.le_of_ble_eq_true rfl) (Nat.le_of_ble_eq_true rfl)) (fun e3 => ?_) (fun e3 => ?_)
  rotate_left
  · replace hm := if_f hm e3; obtain rfl := Option.some.inj hm; exact ⟨_, rfl⟩
  replace hm := if_t hm e3
  replace C := Cx_bump (a := 1) (b := 6) C (hk_sub hk (Nat.le_of_ble_eq_true rfl) (Nat.le_of_ble_eq_true rfl))
  replace hN := NT_bump (a := 1) (b := 6) hN
  replace hk := hk_bump (a := 1) (b := 6) (n := 0) (m := 0) hk
  refine j_aload_n C 0 dX11_likely_4 rfl ?_
  obtain ⟨q4, h5, hm⟩ := bd_some hm
  refine j_getR C fg_X11_77_10 hv0 (dr_spec h5).1 dX11_likely_5 ?_
  obtain ⟨r6, h7, hm⟩ := bd_some hm
  refine call_V (run_LV C lk_X11_319 ⟨rfl, rfl, Nat.le_of_ble_eq_true rfl, Nat.le_of_ble_eq_true rfl⟩ (As := []) ((dr_spec h5).2) rfl rfl (Nat.le_of_ble_eq_true rfl) dX11_likely_8 (mc_X8_search _ _ _ _ _ ((dr_spec h5).2) h7)) ?_
  refine j_aload_n C 0 dX11_likely_11 rfl ?_
  obtain ⟨q8, h9, hm⟩ := bd_some hm
  refine j_getR C fg_X11_77_10 hv0 (dr_spec h9).1 dX11_likely_12 ?_
  refine j_getI C fg_X11_322_7 ((dr_spec h9).2) dX11_likely_15 ?_
  obtain rfl := Option.some.inj hm
  exact jx_ireti C dX11_likely_18
set_option maxRecDepth 20000 in
set_option maxHeartbeats 4000000 in
theorem mcx_X11_likely (l : Launch) (hst : l.stackTraces = false) (N : Nat) (Λ : Lay) (μ : Mem) (v0 : Nat) (hv0 : inL Λ v0 10) {r : RX_} (hm : m_X11_likely N Λ μ v0 = some r) : MXI l yX11_likely cX11_likely 1 (some .int) rm_X11_likely Λ [.ref v0] μ r := mxi_of hst rfl (Nat.le_of_ble_eq_true rfl) (fun x C _ hN h0 => tm_X11_likely C _ _ _ hN (hk_0 h0) hv0 hm)
abbrev rm_X11_sound : Room := { frames := 7, cells := 1, slots := 6, locals := 141 }
set_option maxRecDepth 20000 in
set_option maxHeartbeats 4000000 in
theorem tm_X11_sound {x : Ctx} {Λ : Lay} (C : Cx x cX11_sound 1 (some .int) RX11 Λ rm_X11_sound) (N : Nat) (μ : Mem) (v0 : Nat) (hN : NT x) (hk : xk x + 1 ≤ (rm_X11_sound).cells ∧ xl x + 6 ≤ (rm_X11_sound).slots) (hv0 : inL Λ v0 10) {r : RX_} (hm : m_X11_sound N Λ μ v0 = some r) : J x 1 Λ (QXI x Λ rm_X11_sound r) 0 [(0, .ref v0)] [] μ := by
  refine j_aload_n C 0 dX11_sound_0 rfl ?_
  obtain ⟨r1, h2, hm⟩ := bd_some hm
  refine call_XV C hN (runx_LV C lk_X11_316 ⟨Nat.le_of_ble_eq_true rfl, Nat.le_of_ble_eq_true rfl⟩ (hk_sub hk (Nat.le_of_ble_eq_true rfl) (Nat.le_of_ble_eq_true rfl)) (As := []) hv0 rfl rfl (Nat.le_of_ble_eq_true rfl) dX11_sound_1 (mcx_X11_needSoundings _ hN.2 _ _ _ _ hv0 h2)) (hk_sub hk (Nat.le_of_ble_eq_true rfl) (Nat.le_of_ble_eq_true rfl)) (fun e3 => ?_) (fun e3 => ?_)
  rotate_left
  · replace hm := if_f hm e3; obtain rfl := Option.some.inj hm; exact ⟨_, rfl⟩
  replace hm := if_t hm e3
  replace C := Cx_bump (a := 1) (b := 6) C (hk_sub hk (Nat.le_of_ble_eq_true rfl) (Nat.le_of_ble_eq_true rfl))
  replace hN := NT_bump (a := 1) (b := 6) hN
  replace hk := hk_bump (a := 1) (b := 6) (n := 0) (m := 0) hk
  refine j_aload_n C 0 dX11_sound_4 rfl ?_
  obtain ⟨q4, h5, hm⟩ := bd_some hm
  refine j_getR C fg_X11_77_10 hv0 (dr_spec h5).1 dX11_sound_5 ?_
  obtain ⟨r6, h7, hm⟩ := bd_some hm
  refine call_V (run_LV C lk_X11_319 ⟨rfl, rfl, Nat.le_of_ble_eq_true rfl, Nat.le_of_ble_eq_true rfl⟩ (As := []) ((dr_spec h5).2) rfl rfl (Nat.le_of_ble_eq_true rfl) dX11_sound_8 (mc_X8_search _ _ _ _ _ ((dr_spec h5).2) h7)) ?_
  refine j_aload_n C 0 dX11_sound_11 rfl ?_
  obtain ⟨q8, h9, hm⟩ := bd_some hm
  refine j_getR C fg_X11_77_10 hv0 (dr_spec h9).1 dX11_sound_12 ?_
  obtain ⟨r10, h11, hm⟩ := bd_some hm
  refine call_I (run_LV C lk_X11_323 ⟨rfl, rfl, Nat.le_of_ble_eq_true rfl, Nat.le_of_ble_eq_true rfl⟩ (As := []) ((dr_spec h9).2) rfl rfl (Nat.le_of_ble_eq_true rfl) dX11_sound_15 (mc_X8_bestPlace _ _ _ _ _ ((dr_spec h9).2) h11)) ?_
  obtain rfl := Option.some.inj hm
  exact jx_ireti C dX11_sound_18
set_option maxRecDepth 20000 in
set_option maxHeartbeats 4000000 in
theorem mcx_X11_sound (l : Launch) (hst : l.stackTraces = false) (N : Nat) (Λ : Lay) (μ : Mem) (v0 : Nat) (hv0 : inL Λ v0 10) {r : RX_} (hm : m_X11_sound N Λ μ v0 = some r) : MXI l yX11_sound cX11_sound 1 (some .int) rm_X11_sound Λ [.ref v0] μ r := mxi_of hst rfl (Nat.le_of_ble_eq_true rfl) (fun x C _ hN h0 => tm_X11_sound C _ _ _ hN (hk_0 h0) hv0 hm)
abbrev rm_X11_knocks : Room := { frames := 1, cells := 0, slots := 0, locals := 23 }
set_option maxRecDepth 20000 in
set_option maxHeartbeats 4000000 in
theorem tj_X11_knocks_18 {x : Ctx} {Λ : Lay} (C : Cx x cX11_knocks 1 (some .boolean) RX11 Λ rm_X11_knocks) (N : Nat) (μ : Mem) (s0 : Int32) {r : Int32} (hm : jn_X11_knocks_18 N Λ μ s0 = some r) : J x 1 Λ (QI x Λ r μ) 18 [] [.int s0] μ := by
  obtain ⟨h1, hm⟩ := gd_some hm
  obtain rfl := Option.some.inj hm
  exact j_iretz C h1 dX11_knocks_18
set_option maxRecDepth 20000 in
set_option maxHeartbeats 4000000 in
theorem tm_X11_knocks {x : Ctx} {Λ : Lay} (C : Cx x cX11_knocks 1 (some .boolean) RX11 Λ rm_X11_knocks) (N : Nat) (μ : Mem) (v0 : Nat) (hv0 : inL Λ v0 10) {r : Int32} (hm : m_X11_knocks N Λ μ v0 = some r) : J x 1 Λ (QI x Λ r μ) 0 [(0, .ref v0)] [] μ := by
  refine j_aload_n C 0 dX11_knocks_0 rfl ?_
  obtain ⟨q1, h2, hm⟩ := bd_some hm
  refine j_getR C fg_X11_19_10 hv0 (dr_spec h2).1 dX11_knocks_1 ?_
  refine j_getI C fg_X11_190_8 ((dr_spec h2).2) dX11_knocks_4 ?_
  obtain ⟨r3, h4, hm⟩ := bd_some hm
  refine call_I (run_LS C ls_X11_326 ⟨rfl, rfl, Nat.le_of_ble_eq_true rfl, Nat.le_of_ble_eq_true rfl⟩ (As := [.int (μ.1 q1 9)]) rfl rfl (Nat.le_of_ble_eq_true rfl) dX11_knocks_7 (mc_X6_knockValue _ _ _ _ _  h4)) ?_
  refine j_if_eq C (tgt := 17) dX11_knocks_10 (by decide) (fun h5 => ?_) (fun h5 => ?_)
  · replace hm := if_t hm h5
    refine j_iconst C (v := 0) dX11_knocks_17 rfl ?_
    refine j_sub [] rfl ?_
    exact tj_X11_knocks_18 C _ _ _  hm
  · replace hm := if_f hm h5
    refine j_iconst C (v := 1) dX11_knocks_13 rfl ?_
    refine j_goto C (tgt := 18) dX11_knocks_14 (by decide) ?_
    refine j_sub [] rfl ?_
    exact tj_X11_knocks_18 C _ _ _  hm
set_option maxRecDepth 20000 in
set_option maxHeartbeats 4000000 in
theorem mc_X11_knocks (l : Launch) (N : Nat) (Λ : Lay) (μ : Mem) (v0 : Nat) (hv0 : inL Λ v0 10) {r : Int32} (hm : m_X11_knocks N Λ μ v0 = some r) : MI l yX11_knocks cX11_knocks 1 (some .boolean) rm_X11_knocks Λ [.ref v0] μ r μ := mi_of rfl (Nat.le_of_ble_eq_true rfl) (fun x C _ => tm_X11_knocks C _ _ _ hv0 hm)
abbrev rm_X11_knock : Room := { frames := 2, cells := 0, slots := 0, locals := 45 }
set_option maxRecDepth 20000 in
set_option maxHeartbeats 4000000 in
theorem tm_X11_knock {x : Ctx} {Λ : Lay} (C : Cx x cX11_knock 1 (some .int) RX11 Λ rm_X11_knock) (N : Nat) (μ : Mem) (v0 : Nat) (hv0 : inL Λ v0 10) {r : Int32} (hm : m_X11_knock N Λ μ v0 = some r) : J x 1 Λ (QI x Λ r μ) 0 [(0, .ref v0)] [] μ := by
  refine j_aload_n C 0 dX11_knock_0 rfl ?_
  obtain ⟨q1, h2, hm⟩ := bd_some hm
  refine j_getR C fg_X11_19_10 hv0 (dr_spec h2).1 dX11_knock_1 ?_
  refine j_getI C fg_X11_190_8 ((dr_spec h2).2) dX11_knock_4 ?_
  obtain ⟨r3, h4, hm⟩ := bd_some hm
  refine call_I (run_LS C ls_X11_329 ⟨rfl, rfl, Nat.le_of_ble_eq_true rfl, Nat.le_of_ble_eq_true rfl⟩ (As := [.int (μ.1 q1 9)]) rfl rfl (Nat.le_of_ble_eq_true rfl) dX11_knock_7 (mc_X6_winningKnock _ _ _ _ _  h4)) ?_
  obtain rfl := Option.some.inj hm
  exact j_ireti C dX11_knock_10
set_option maxRecDepth 20000 in
set_option maxHeartbeats 4000000 in
theorem mc_X11_knock (l : Launch) (N : Nat) (Λ : Lay) (μ : Mem) (v0 : Nat) (hv0 : inL Λ v0 10) {r : Int32} (hm : m_X11_knock N Λ μ v0 = some r) : MI l yX11_knock cX11_knock 1 (some .int) rm_X11_knock Λ [.ref v0] μ r μ := mi_of rfl (Nat.le_of_ble_eq_true rfl) (fun x C _ => tm_X11_knock C _ _ _ hv0 hm)
abbrev rm_X11_beds : Room := { frames := 7, cells := 1, slots := 6, locals := 141 }
set_option maxRecDepth 20000 in
set_option maxHeartbeats 4000000 in
theorem tj_X11_beds_45 {x : Ctx} {Λ : Lay} (C : Cx x cX11_beds 2 (some .int) RX11 Λ rm_X11_beds) (N : Nat) (μ : Mem) (s0 : Int32) (hN : NT x) (hk : xk x + 0 ≤ (rm_X11_beds).cells ∧ xl x + 0 ≤ (rm_X11_beds).slots) {r : RX_} (hm : jn_X11_beds_45 N Λ μ s0 = some r) : J x 2 Λ (QXI x Λ rm_X11_beds r) 45 [] [.int s0] μ := by
  obtain rfl := Option.some.inj hm
  exact jx_ireti C dX11_beds_45
set_option maxRecDepth 20000 in
set_option maxHeartbeats 4000000 in
theorem tj_X11_beds_10 {x : Ctx} {Λ : Lay} (C : Cx x cX11_beds 2 (some .int) RX11 Λ rm_X11_beds) (N : Nat) (μ : Mem) (v0 : Nat) (v1 : Int32) (hN : NT x) (hk : xk x + 0 ≤ (rm_X11_beds).cells ∧ xl x + 0 ≤ (rm_X11_beds).slots) (hv0 : inL Λ v0 10) {r : RX_} (hm : jn_X11_beds_10 N Λ μ v0 v1 = some r) : J x 2 Λ (QXI x Λ rm_X11_beds r) 10 [(0, .ref v0), (1, .int v1)] [] μ := by
  refine j_aload_n C 0 dX11_beds_10 rfl ?_
  obtain ⟨q1, h2, hm⟩ := bd_some hm
  refine j_getR C fg_X11_84_10 hv0 (dr_spec h2).1 dX11_beds_11 ?_
  refine j_aload_n C 0 dX11_beds_14 rfl ?_
  obtain ⟨q3, h4, hm⟩ := bd_some hm
  refine j_getR C fg_X11_19_10 hv0 (dr_spec h4).1 dX11_beds_15 ?_
  obtain ⟨r5, h6, hm⟩ := bd_some hm
  refine call_V (run_LV C lk_X11_332 ⟨rfl, rfl, Nat.le_of_ble_eq_true rfl, Nat.le_of_ble_eq_true rfl⟩ (As := [.ref q3]) ((dr_spec h2).2) rfl rfl (Nat.le_of_ble_eq_true rfl) dX11_beds_18 (mc_X6_putToBeds _ _ _ _ _ _ ((dr_spec h2).2) ((dr_spec h4).2) h6)) ?_
  refine j_iload_n C 1 dX11_beds_21 rfl ?_
  refine j_iconst C (v := -1) dX11_beds_22 rfl ?_
  refine j_icmp_ne C (tgt := 36) dX11_beds_23 (by decide) (fun h7 => ?_) (fun h7 => ?_)
  · replace hm := if_f hm h7
    refine j_aload_n C 0 dX11_beds_36 rfl ?_
    obtain ⟨q8, h9, hm⟩ := bd_some hm
    refine j_getR C fg_X11_84_10 hv0 (dr_spec h9).1 dX11_beds_37 ?_
    obtain ⟨q10, h11, hm⟩ := bd_some hm
    refine j_getR C fg_X11_335_6 ((dr_spec h9).2) (dr_spec h11).1 dX11_beds_40 ?_
    refine j_iload_n C 1 dX11_beds_43 rfl ?_
    obtain ⟨h12, hm⟩ := gd_some hm
    refine j_iald C ((dr_spec h11).2) h12 dX11_beds_44 ?_
    refine j_sub [] rfl ?_
    exact tj_X11_beds_45 C _ _ _ hN ((hk_sub hk (Nat.le_of_ble_eq_true rfl) (Nat.le_of_ble_eq_true rfl))) hm
  · replace hm := if_t hm h7
    refine j_aload_n C 0 dX11_beds_26 rfl ?_
    obtain ⟨q13, h14, hm⟩ := bd_some hm
    refine j_getR C fg_X11_84_10 hv0 (dr_spec h14).1 dX11_beds_27 ?_
    refine j_getI C fg_X11_288_6 ((dr_spec h14).2) dX11_beds_30 ?_
    refine j_goto C (tgt := 45) dX11_beds_33 (by decide) ?_
    refine j_sub [] rfl ?_
    exact tj_X11_beds_45 C _ _ _ hN ((hk_sub hk (Nat.le_of_ble_eq_true rfl) (Nat.le_of_ble_eq_true rfl))) hm
set_option maxRecDepth 20000 in
set_option maxHeartbeats 4000000 in
theorem tm_X11_beds {x : Ctx} {Λ : Lay} (C : Cx x cX11_beds 2 (some .int) RX11 Λ rm_X11_beds) (N : Nat) (μ : Mem) (v0 : Nat) (v1 : Int32) (hN : NT x) (hk : xk x + 1 ≤ (rm_X11_beds).cells ∧ xl x + 6 ≤ (rm_X11_beds).slots) (hv0 : inL Λ v0 10) {r : RX_} (hm : m_X11_beds N Λ μ v0 v1 = some r) : J x 2 Λ (QXI x Λ rm_X11_beds r) 0 [(0, .ref v0), (1, .int v1)] [] μ := by
  refine j_iload_n C 1 dX11_beds_0 rfl ?_
  refine j_iconst C (v := -1) dX11_beds_1 rfl ?_
  refine j_icmp_eq C (tgt := 10) dX11_beds_2 (by decide) (fun h1 => ?_) (fun h1 => ?_)
  · replace hm := if_t hm h1
    exact tj_X11_beds_10 C _ _ _ _ hN ((hk_sub hk (Nat.le_of_ble_eq_true rfl) (Nat.le_of_ble_eq_true rfl))) hv0 hm
  · replace hm := if_f hm h1
    refine j_aload_n C 0 dX11_beds_5 rfl ?_
    refine j_iload_n C 1 dX11_beds_6 rfl ?_
    obtain ⟨r2, h3, hm⟩ := bd_some hm
    refine call_XV C hN (runx_LV C lk_X11_137 ⟨Nat.le_of_ble_eq_true rfl, Nat.le_of_ble_eq_true rfl⟩ (hk_sub hk (Nat.le_of_ble_eq_true rfl) (Nat.le_of_ble_eq_true rfl)) (As := [.int v1]) hv0 rfl rfl (Nat.le_of_ble_eq_true rfl) dX11_beds_7 (mcx_X11_needShip _ hN.2 _ _ _ _ _ hv0 h3)) (hk_sub hk (Nat.le_of_ble_eq_true rfl) (Nat.le_of_ble_eq_true rfl)) (fun e4 => ?_) (fun e4 => ?_)
    rotate_left
    · replace hm := if_f hm e4; obtain rfl := Option.some.inj hm; exact ⟨_, rfl⟩
    replace hm := if_t hm e4
    replace C := Cx_bump (a := 1) (b := 6) C (hk_sub hk (Nat.le_of_ble_eq_true rfl) (Nat.le_of_ble_eq_true rfl))
    replace hN := NT_bump (a := 1) (b := 6) hN
    replace hk := hk_bump (a := 1) (b := 6) (n := 0) (m := 0) hk
    exact tj_X11_beds_10 C _ _ _ _ hN ((hk_sub hk (Nat.le_of_ble_eq_true rfl) (Nat.le_of_ble_eq_true rfl))) hv0 hm
set_option maxRecDepth 20000 in
set_option maxHeartbeats 4000000 in
theorem mcx_X11_beds (l : Launch) (hst : l.stackTraces = false) (N : Nat) (Λ : Lay) (μ : Mem) (v0 : Nat) (v1 : Int32) (hv0 : inL Λ v0 10) {r : RX_} (hm : m_X11_beds N Λ μ v0 v1 = some r) : MXI l yX11_beds cX11_beds 2 (some .int) rm_X11_beds Λ [.ref v0, .int v1] μ r := mxi_of hst rfl (Nat.le_of_ble_eq_true rfl) (fun x C _ hN h0 => tm_X11_beds C _ _ _ _ hN (hk_0 h0) hv0 hm)
abbrev rm_X11_pairs : Room := { frames := 7, cells := 1, slots := 6, locals := 141 }
set_option maxRecDepth 20000 in
set_option maxHeartbeats 4000000 in
theorem tj_X11_pairs_45 {x : Ctx} {Λ : Lay} (C : Cx x cX11_pairs 2 (some .int) RX11 Λ rm_X11_pairs) (N : Nat) (μ : Mem) (s0 : Int32) (hN : NT x) (hk : xk x + 0 ≤ (rm_X11_pairs).cells ∧ xl x + 0 ≤ (rm_X11_pairs).slots) {r : RX_} (hm : jn_X11_pairs_45 N Λ μ s0 = some r) : J x 2 Λ (QXI x Λ rm_X11_pairs r) 45 [] [.int s0] μ := by
  obtain rfl := Option.some.inj hm
  exact jx_ireti C dX11_pairs_45
set_option maxRecDepth 20000 in
set_option maxHeartbeats 4000000 in
theorem tj_X11_pairs_10 {x : Ctx} {Λ : Lay} (C : Cx x cX11_pairs 2 (some .int) RX11 Λ rm_X11_pairs) (N : Nat) (μ : Mem) (v0 : Nat) (v1 : Int32) (hN : NT x) (hk : xk x + 0 ≤ (rm_X11_pairs).cells ∧ xl x + 0 ≤ (rm_X11_pairs).slots) (hv0 : inL Λ v0 10) {r : RX_} (hm : jn_X11_pairs_10 N Λ μ v0 v1 = some r) : J x 2 Λ (QXI x Λ rm_X11_pairs r) 10 [(0, .ref v0), (1, .int v1)] [] μ := by
  refine j_aload_n C 0 dX11_pairs_10 rfl ?_
  obtain ⟨q1, h2, hm⟩ := bd_some hm
  refine j_getR C fg_X11_84_10 hv0 (dr_spec h2).1 dX11_pairs_11 ?_
  refine j_aload_n C 0 dX11_pairs_14 rfl ?_
  obtain ⟨q3, h4, hm⟩ := bd_some hm
  refine j_getR C fg_X11_19_10 hv0 (dr_spec h4).1 dX11_pairs_15 ?_
  obtain ⟨r5, h6, hm⟩ := bd_some hm
  refine call_V (run_LV C lk_X11_338 ⟨rfl, rfl, Nat.le_of_ble_eq_true rfl, Nat.le_of_ble_eq_true rfl⟩ (As := [.ref q3]) ((dr_spec h2).2) rfl rfl (Nat.le_of_ble_eq_true rfl) dX11_pairs_18 (mc_X6_pairShips _ _ _ _ _ _ ((dr_spec h2).2) ((dr_spec h4).2) h6)) ?_
  refine j_iload_n C 1 dX11_pairs_21 rfl ?_
  refine j_iconst C (v := -1) dX11_pairs_22 rfl ?_
  refine j_icmp_ne C (tgt := 36) dX11_pairs_23 (by decide) (fun h7 => ?_) (fun h7 => ?_)
  · replace hm := if_f hm h7
    refine j_aload_n C 0 dX11_pairs_36 rfl ?_
    obtain ⟨q8, h9, hm⟩ := bd_some hm
    refine j_getR C fg_X11_84_10 hv0 (dr_spec h9).1 dX11_pairs_37 ?_
    obtain ⟨q10, h11, hm⟩ := bd_some hm
    refine j_getR C fg_X11_335_6 ((dr_spec h9).2) (dr_spec h11).1 dX11_pairs_40 ?_
    refine j_iload_n C 1 dX11_pairs_43 rfl ?_
    obtain ⟨h12, hm⟩ := gd_some hm
    refine j_iald C ((dr_spec h11).2) h12 dX11_pairs_44 ?_
    refine j_sub [] rfl ?_
    exact tj_X11_pairs_45 C _ _ _ hN ((hk_sub hk (Nat.le_of_ble_eq_true rfl) (Nat.le_of_ble_eq_true rfl))) hm
  · replace hm := if_t hm h7
    refine j_aload_n C 0 dX11_pairs_26 rfl ?_
    obtain ⟨q13, h14, hm⟩ := bd_some hm
    refine j_getR C fg_X11_84_10 hv0 (dr_spec h14).1 dX11_pairs_27 ?_
    refine j_getI C fg_X11_288_6 ((dr_spec h14).2) dX11_pairs_30 ?_
    refine j_goto C (tgt := 45) dX11_pairs_33 (by decide) ?_
    refine j_sub [] rfl ?_
    exact tj_X11_pairs_45 C _ _ _ hN ((hk_sub hk (Nat.le_of_ble_eq_true rfl) (Nat.le_of_ble_eq_true rfl))) hm
set_option maxRecDepth 20000 in
set_option maxHeartbeats 4000000 in
theorem tm_X11_pairs {x : Ctx} {Λ : Lay} (C : Cx x cX11_pairs 2 (some .int) RX11 Λ rm_X11_pairs) (N : Nat) (μ : Mem) (v0 : Nat) (v1 : Int32) (hN : NT x) (hk : xk x + 1 ≤ (rm_X11_pairs).cells ∧ xl x + 6 ≤ (rm_X11_pairs).slots) (hv0 : inL Λ v0 10) {r : RX_} (hm : m_X11_pairs N Λ μ v0 v1 = some r) : J x 2 Λ (QXI x Λ rm_X11_pairs r) 0 [(0, .ref v0), (1, .int v1)] [] μ := by
  refine j_iload_n C 1 dX11_pairs_0 rfl ?_
  refine j_iconst C (v := -1) dX11_pairs_1 rfl ?_
  refine j_icmp_eq C (tgt := 10) dX11_pairs_2 (by decide) (fun h1 => ?_) (fun h1 => ?_)
  · replace hm := if_t hm h1
    exact tj_X11_pairs_10 C _ _ _ _ hN ((hk_sub hk (Nat.le_of_ble_eq_true rfl) (Nat.le_of_ble_eq_true rfl))) hv0 hm
  · replace hm := if_f hm h1
    refine j_aload_n C 0 dX11_pairs_5 rfl ?_
    refine j_iload_n C 1 dX11_pairs_6 rfl ?_
    obtain ⟨r2, h3, hm⟩ := bd_some hm
    refine call_XV C hN (runx_LV C lk_X11_137 ⟨Nat.le_of_ble_eq_true rfl, Nat.le_of_ble_eq_true rfl⟩ (hk_sub hk (Nat.le_of_ble_eq_true rfl) (Nat.le_of_ble_eq_true rfl)) (As := [.int v1]) hv0 rfl rfl (Nat.le_of_ble_eq_true rfl) dX11_pairs_7 (mcx_X11_needShip _ hN.2 _ _ _ _ _ hv0 h3)) (hk_sub hk (Nat.le_of_ble_eq_true rfl) (Nat.le_of_ble_eq_true rfl)) (fun e4 => ?_) (fun e4 => ?_)
    rotate_left
    · replace hm := if_f hm e4; obtain rfl := Option.some.inj hm; exact ⟨_, rfl⟩
    replace hm := if_t hm e4
    replace C := Cx_bump (a := 1) (b := 6) C (hk_sub hk (Nat.le_of_ble_eq_true rfl) (Nat.le_of_ble_eq_true rfl))
    replace hN := NT_bump (a := 1) (b := 6) hN
    replace hk := hk_bump (a := 1) (b := 6) (n := 0) (m := 0) hk
    exact tj_X11_pairs_10 C _ _ _ _ hN ((hk_sub hk (Nat.le_of_ble_eq_true rfl) (Nat.le_of_ble_eq_true rfl))) hv0 hm
set_option maxRecDepth 20000 in
set_option maxHeartbeats 4000000 in
theorem mcx_X11_pairs (l : Launch) (hst : l.stackTraces = false) (N : Nat) (Λ : Lay) (μ : Mem) (v0 : Nat) (v1 : Int32) (hv0 : inL Λ v0 10) {r : RX_} (hm : m_X11_pairs N Λ μ v0 v1 = some r) : MXI l yX11_pairs cX11_pairs 2 (some .int) rm_X11_pairs Λ [.ref v0, .int v1] μ r := mxi_of hst rfl (Nat.le_of_ble_eq_true rfl) (fun x C _ hN h0 => tm_X11_pairs C _ _ _ _ hN (hk_0 h0) hv0 hm)
abbrev rm_X11_rests : Room := { frames := 7, cells := 1, slots := 6, locals := 141 }
set_option maxRecDepth 20000 in
set_option maxHeartbeats 4000000 in
theorem tm_X11_rests {x : Ctx} {Λ : Lay} (C : Cx x cX11_rests 2 (some .int) RX11 Λ rm_X11_rests) (N : Nat) (μ : Mem) (v0 : Nat) (v1 : Int32) (hN : NT x) (hk : xk x + 1 ≤ (rm_X11_rests).cells ∧ xl x + 6 ≤ (rm_X11_rests).slots) (hv0 : inL Λ v0 10) {r : RX_} (hm : m_X11_rests N Λ μ v0 v1 = some r) : J x 2 Λ (QXI x Λ rm_X11_rests r) 0 [(0, .ref v0), (1, .int v1)] [] μ := by
  refine j_aload_n C 0 dX11_rests_0 rfl ?_
  refine j_iload_n C 1 dX11_rests_1 rfl ?_
  obtain ⟨r1, h2, hm⟩ := bd_some hm
  refine call_XV C hN (runx_LV C lk_X11_137 ⟨Nat.le_of_ble_eq_true rfl, Nat.le_of_ble_eq_true rfl⟩ (hk_sub hk (Nat.le_of_ble_eq_true rfl) (Nat.le_of_ble_eq_true rfl)) (As := [.int v1]) hv0 rfl rfl (Nat.le_of_ble_eq_true rfl) dX11_rests_2 (mcx_X11_needShip _ hN.2 _ _ _ _ _ hv0 h2)) (hk_sub hk (Nat.le_of_ble_eq_true rfl) (Nat.le_of_ble_eq_true rfl)) (fun e3 => ?_) (fun e3 => ?_)
  rotate_left
  · replace hm := if_f hm e3; obtain rfl := Option.some.inj hm; exact ⟨_, rfl⟩
  replace hm := if_t hm e3
  replace C := Cx_bump (a := 1) (b := 6) C (hk_sub hk (Nat.le_of_ble_eq_true rfl) (Nat.le_of_ble_eq_true rfl))
  replace hN := NT_bump (a := 1) (b := 6) hN
  replace hk := hk_bump (a := 1) (b := 6) (n := 0) (m := 0) hk
  refine j_aload_n C 0 dX11_rests_5 rfl ?_
  obtain ⟨q4, h5, hm⟩ := bd_some hm
  refine j_getR C fg_X11_19_10 hv0 (dr_spec h5).1 dX11_rests_6 ?_
  obtain ⟨q6, h7, hm⟩ := bd_some hm
  refine j_getR C fg_X11_140_8 ((dr_spec h5).2) (dr_spec h7).1 dX11_rests_9 ?_
  refine j_iload_n C 1 dX11_rests_12 rfl ?_
  obtain ⟨h8, hm⟩ := gd_some hm
  refine j_iald C ((dr_spec h7).2) h8 dX11_rests_13 ?_
  refine j_aload_n C 0 dX11_rests_14 rfl ?_
  obtain ⟨q9, h10, hm⟩ := bd_some hm
  refine j_getR C fg_X11_19_10 hv0 (dr_spec h10).1 dX11_rests_15 ?_
  obtain ⟨q11, h12, hm⟩ := bd_some hm
  refine j_getR C fg_X11_144_8 ((dr_spec h10).2) (dr_spec h12).1 dX11_rests_18 ?_
  refine j_iload_n C 1 dX11_rests_21 rfl ?_
  obtain ⟨h13, hm⟩ := gd_some hm
  refine j_iald C ((dr_spec h12).2) h13 dX11_rests_22 ?_
  refine j_aload_n C 0 dX11_rests_23 rfl ?_
  obtain ⟨q14, h15, hm⟩ := bd_some hm
  refine j_getR C fg_X11_19_10 hv0 (dr_spec h15).1 dX11_rests_24 ?_
  refine j_getI C fg_X11_268_8 ((dr_spec h15).2) dX11_rests_27 ?_
  obtain ⟨r16, h17, hm⟩ := bd_some hm
  refine call_I (run_LS C ls_X11_341 ⟨rfl, rfl, Nat.le_of_ble_eq_true rfl, Nat.le_of_ble_eq_true rfl⟩ (As := [.int (r1.2.2.1 q6 v1.toNatClampNeg), .int (r1.2.2.1 q11 v1.toNatClampNeg), .int (r1.2.2.1 q14 3)]) rfl rfl (Nat.le_of_ble_eq_true rfl) dX11_rests_30 (mc_X6_restingChoices _ _ _ _ _ _ _  h17)) ?_
  obtain rfl := Option.some.inj hm
  exact jx_ireti C dX11_rests_33
set_option maxRecDepth 20000 in
set_option maxHeartbeats 4000000 in
theorem mcx_X11_rests (l : Launch) (hst : l.stackTraces = false) (N : Nat) (Λ : Lay) (μ : Mem) (v0 : Nat) (v1 : Int32) (hv0 : inL Λ v0 10) {r : RX_} (hm : m_X11_rests N Λ μ v0 v1 = some r) : MXI l yX11_rests cX11_rests 2 (some .int) rm_X11_rests Λ [.ref v0, .int v1] μ r := mxi_of hst rfl (Nat.le_of_ble_eq_true rfl) (fun x C _ hN h0 => tm_X11_rests C _ _ _ _ hN (hk_0 h0) hv0 hm)
abbrev rm_X11_odds : Room := { frames := 7, cells := 2, slots := 12, locals := 142 }
set_option maxRecDepth 20000 in
set_option maxHeartbeats 4000000 in
theorem tm_X11_odds {x : Ctx} {Λ : Lay} (C : Cx x cX11_odds 3 (some .int) RX11 Λ rm_X11_odds) (N : Nat) (μ : Mem) (v0 : Nat) (v1 : Int32) (v2 : Int32) (hN : NT x) (hk : xk x + 2 ≤ (rm_X11_odds).cells ∧ xl x + 12 ≤ (rm_X11_odds).slots) (hv0 : inL Λ v0 10) {r : RX_} (hm : m_X11_odds N Λ μ v0 v1 v2 = some r) : J x 3 Λ (QXI x Λ rm_X11_odds r) 0 [(0, .ref v0), (1, .int v1), (2, .int v2)] [] μ := by
  refine j_aload_n C 0 dX11_odds_0 rfl ?_
  refine j_iload_n C 1 dX11_odds_1 rfl ?_
  refine j_iconst C (v := 5) dX11_odds_2 rfl ?_
  obtain ⟨r1, h2, hm⟩ := bd_some hm
  refine call_XV C hN (runx_LV C lk_X11_262 ⟨Nat.le_of_ble_eq_true rfl, Nat.le_of_ble_eq_true rfl⟩ (hk_sub hk (Nat.le_of_ble_eq_true rfl) (Nat.le_of_ble_eq_true rfl)) (As := [.int v1, .int 5]) hv0 rfl rfl (Nat.le_of_ble_eq_true rfl) dX11_odds_3 (mcx_X11_needNumber _ hN.2 _ _ _ _ _ _ hv0 h2)) (hk_sub hk (Nat.le_of_ble_eq_true rfl) (Nat.le_of_ble_eq_true rfl)) (fun e3 => ?_) (fun e3 => ?_)
  rotate_left
  · replace hm := if_f hm e3; obtain rfl := Option.some.inj hm; exact ⟨_, rfl⟩
  replace hm := if_t hm e3
  replace C := Cx_bump (a := 1) (b := 6) C (hk_sub hk (Nat.le_of_ble_eq_true rfl) (Nat.le_of_ble_eq_true rfl))
  replace hN := NT_bump (a := 1) (b := 6) hN
  replace hk := hk_bump (a := 1) (b := 6) (n := 1) (m := 6) hk
  refine j_aload_n C 0 dX11_odds_6 rfl ?_
  refine j_iload_n C 2 dX11_odds_7 rfl ?_
  refine j_iconst C (v := 5) dX11_odds_8 rfl ?_
  obtain ⟨r4, h5, hm⟩ := bd_some hm
  refine call_XV C hN (runx_LV C lk_X11_262 ⟨Nat.le_of_ble_eq_true rfl, Nat.le_of_ble_eq_true rfl⟩ (hk_sub hk (Nat.le_of_ble_eq_true rfl) (Nat.le_of_ble_eq_true rfl)) (As := [.int v2, .int 5]) hv0 rfl rfl (Nat.le_of_ble_eq_true rfl) dX11_odds_9 (mcx_X11_needNumber _ hN.2 _ _ _ _ _ _ hv0 h5)) (hk_sub hk (Nat.le_of_ble_eq_true rfl) (Nat.le_of_ble_eq_true rfl)) (fun e6 => ?_) (fun e6 => ?_)
  rotate_left
  · replace hm := if_f hm e6; obtain rfl := Option.some.inj hm; exact ⟨_, rfl⟩
  replace hm := if_t hm e6
  replace C := Cx_bump (a := 1) (b := 6) C (hk_sub hk (Nat.le_of_ble_eq_true rfl) (Nat.le_of_ble_eq_true rfl))
  replace hN := NT_bump (a := 1) (b := 6) hN
  replace hk := hk_bump (a := 1) (b := 6) (n := 0) (m := 0) hk
  refine j_iload_n C 1 dX11_odds_12 rfl ?_
  refine j_iload_n C 2 dX11_odds_13 rfl ?_
  refine j_aload_n C 0 dX11_odds_14 rfl ?_
  obtain ⟨q7, h8, hm⟩ := bd_some hm
  refine j_getR C fg_X11_19_10 hv0 (dr_spec h8).1 dX11_odds_15 ?_
  refine j_getI C fg_X11_345_8 ((dr_spec h8).2) dX11_odds_18 ?_
  obtain ⟨r9, h10, hm⟩ := bd_some hm
  refine call_I (run_LS C ls_X11_348 ⟨rfl, rfl, Nat.le_of_ble_eq_true rfl, Nat.le_of_ble_eq_true rfl⟩ (As := [.int v1, .int v2, .int (r4.2.2.1 q7 4)]) rfl rfl (Nat.le_of_ble_eq_true rfl) dX11_odds_21 (mc_X6_oddsOf _ _ _ _ _ _ _  h10)) ?_
  obtain rfl := Option.some.inj hm
  exact jx_ireti C dX11_odds_24
set_option maxRecDepth 20000 in
set_option maxHeartbeats 4000000 in
theorem mcx_X11_odds (l : Launch) (hst : l.stackTraces = false) (N : Nat) (Λ : Lay) (μ : Mem) (v0 : Nat) (v1 : Int32) (v2 : Int32) (hv0 : inL Λ v0 10) {r : RX_} (hm : m_X11_odds N Λ μ v0 v1 v2 = some r) : MXI l yX11_odds cX11_odds 3 (some .int) rm_X11_odds Λ [.ref v0, .int v1, .int v2] μ r := mxi_of hst rfl (Nat.le_of_ble_eq_true rfl) (fun x C _ hN h0 => tm_X11_odds C _ _ _ _ _ hN (hk_0 h0) hv0 hm)
abbrev rm_X11_most : Room := { frames := 6, cells := 1, slots := 6, locals := 120 }
set_option maxRecDepth 20000 in
set_option maxHeartbeats 4000000 in
theorem tm_X11_most {x : Ctx} {Λ : Lay} (C : Cx x cX11_most 2 (some .int) RX11 Λ rm_X11_most) (N : Nat) (μ : Mem) (v0 : Nat) (v1 : Int32) (hN : NT x) (hk : xk x + 1 ≤ (rm_X11_most).cells ∧ xl x + 6 ≤ (rm_X11_most).slots) (hv0 : inL Λ v0 10) {r : RX_} (hm : m_X11_most N Λ μ v0 v1 = some r) : J x 2 Λ (QXI x Λ rm_X11_most r) 0 [(0, .ref v0), (1, .int v1)] [] μ := by
  refine j_iload_n C 1 dX11_most_0 rfl ?_
  by_cases h1 : v1 = 0
  · replace hm := if_t hm h1
    refine j_tabI C (tgt := 28) 0 dX11_most_1 (by rw [h1]; first | done | rfl) (by decide) (by decide) rfl (by decide) ?_
    refine j_aload_n C 0 dX11_most_28 rfl ?_
    obtain ⟨q2, h3, hm⟩ := bd_some hm
    refine j_getR C fg_X11_19_10 hv0 (dr_spec h3).1 dX11_most_29 ?_
    refine j_aload_n C 0 dX11_most_32 rfl ?_
    obtain ⟨q4, h5, hm⟩ := bd_some hm
    refine j_getR C fg_X11_19_10 hv0 (dr_spec h5).1 dX11_most_33 ?_
    obtain ⟨q6, h7, hm⟩ := bd_some hm
    refine j_getR C fg_X11_140_8 ((dr_spec h5).2) (dr_spec h7).1 dX11_most_36 ?_
    obtain ⟨r8, h9, hm⟩ := bd_some hm
    refine call_I (run_LV C lk_X11_351 ⟨rfl, rfl, Nat.le_of_ble_eq_true rfl, Nat.le_of_ble_eq_true rfl⟩ (As := [.ref q6]) ((dr_spec h3).2) rfl rfl (Nat.le_of_ble_eq_true rfl) dX11_most_39 (mc_X9_greatest _ _ _ _ _ _ ((dr_spec h3).2) ((dr_spec h7).2) h9)) ?_
    obtain rfl := Option.some.inj hm
    exact jx_ireti C dX11_most_42
  replace hm := if_f hm h1
  by_cases h10 : v1 = 1
  · replace hm := if_t hm h10
    refine j_tabI C (tgt := 43) 1 dX11_most_1 (by rw [h10]; first | done | rfl) (by decide) (by decide) rfl (by decide) ?_
    refine j_aload_n C 0 dX11_most_43 rfl ?_
    obtain ⟨q11, h12, hm⟩ := bd_some hm
    refine j_getR C fg_X11_19_10 hv0 (dr_spec h12).1 dX11_most_44 ?_
    refine j_aload_n C 0 dX11_most_47 rfl ?_
    obtain ⟨q13, h14, hm⟩ := bd_some hm
    refine j_getR C fg_X11_19_10 hv0 (dr_spec h14).1 dX11_most_48 ?_
    obtain ⟨q15, h16, hm⟩ := bd_some hm
    refine j_getR C fg_X11_144_8 ((dr_spec h14).2) (dr_spec h16).1 dX11_most_51 ?_
    obtain ⟨r17, h18, hm⟩ := bd_some hm
    refine call_I (run_LV C lk_X11_351 ⟨rfl, rfl, Nat.le_of_ble_eq_true rfl, Nat.le_of_ble_eq_true rfl⟩ (As := [.ref q15]) ((dr_spec h12).2) rfl rfl (Nat.le_of_ble_eq_true rfl) dX11_most_54 (mc_X9_greatest _ _ _ _ _ _ ((dr_spec h12).2) ((dr_spec h16).2) h18)) ?_
    obtain rfl := Option.some.inj hm
    exact jx_ireti C dX11_most_57
  replace hm := if_f hm h10
  by_cases h19 : v1 = 2
  · replace hm := if_t hm h19
    refine j_tabI C (tgt := 58) 2 dX11_most_1 (by rw [h19]; first | done | rfl) (by decide) (by decide) rfl (by decide) ?_
    refine j_aload_n C 0 dX11_most_58 rfl ?_
    obtain ⟨q20, h21, hm⟩ := bd_some hm
    refine j_getR C fg_X11_19_10 hv0 (dr_spec h21).1 dX11_most_59 ?_
    refine j_aload_n C 0 dX11_most_62 rfl ?_
    obtain ⟨q22, h23, hm⟩ := bd_some hm
    refine j_getR C fg_X11_19_10 hv0 (dr_spec h23).1 dX11_most_63 ?_
    obtain ⟨q24, h25, hm⟩ := bd_some hm
    refine j_getR C fg_X11_147_8 ((dr_spec h23).2) (dr_spec h25).1 dX11_most_66 ?_
    obtain ⟨r26, h27, hm⟩ := bd_some hm
    refine call_I (run_LV C lk_X11_351 ⟨rfl, rfl, Nat.le_of_ble_eq_true rfl, Nat.le_of_ble_eq_true rfl⟩ (As := [.ref q24]) ((dr_spec h21).2) rfl rfl (Nat.le_of_ble_eq_true rfl) dX11_most_69 (mc_X9_greatest _ _ _ _ _ _ ((dr_spec h21).2) ((dr_spec h25).2) h27)) ?_
    obtain rfl := Option.some.inj hm
    exact jx_ireti C dX11_most_72
  replace hm := if_f hm h19
  refine j_tabO C (tgt := 73) dX11_most_1 (sw_out v1 [0, 1, 2] (by decide +kernel) ?_) (by decide) ?_
  · simp only [List.mem_cons, List.not_mem_nil, or_false, not_or]; exact ⟨h1, h10, h19⟩
  obtain rfl := Option.some.inj hm
  exact jx_throwNW C hN tr_182_355_186 rfl (hk_sub hk (Nat.le_of_ble_eq_true rfl) (Nat.le_of_ble_eq_true rfl)) ⟨Nat.le_of_ble_eq_true rfl, Nat.le_of_ble_eq_true rfl⟩ rfl dX11_most_73 dX11_most_76 dX11_most_77 dX11_most_80 dX11_most_83
set_option maxRecDepth 20000 in
set_option maxHeartbeats 4000000 in
theorem mcx_X11_most (l : Launch) (hst : l.stackTraces = false) (N : Nat) (Λ : Lay) (μ : Mem) (v0 : Nat) (v1 : Int32) (hv0 : inL Λ v0 10) {r : RX_} (hm : m_X11_most N Λ μ v0 v1 = some r) : MXI l yX11_most cX11_most 2 (some .int) rm_X11_most Λ [.ref v0, .int v1] μ r := mxi_of hst rfl (Nat.le_of_ble_eq_true rfl) (fun x C _ hN h0 => tm_X11_most C _ _ _ _ hN (hk_0 h0) hv0 hm)
abbrev rm_X11_waiting : Room := { frames := 1, cells := 0, slots := 0, locals := 23 }
set_option maxRecDepth 20000 in
set_option maxHeartbeats 4000000 in
theorem tm_X11_waiting {x : Ctx} {Λ : Lay} (C : Cx x cX11_waiting 1 (some .int) RX11 Λ rm_X11_waiting) (N : Nat) (μ : Mem) (v0 : Nat) (hv0 : inL Λ v0 10) {r : Int32} (hm : m_X11_waiting N Λ μ v0 = some r) : J x 1 Λ (QI x Λ r μ) 0 [(0, .ref v0)] [] μ := by
  refine j_aload_n C 0 dX11_waiting_0 rfl ?_
  obtain ⟨q1, h2, hm⟩ := bd_some hm
  refine j_getR C fg_X11_19_10 hv0 (dr_spec h2).1 dX11_waiting_1 ?_
  refine j_iconst C (v := 0) dX11_waiting_4 rfl ?_
  obtain ⟨r3, h4, hm⟩ := bd_some hm
  refine call_I (run_LV C lk_X11_357 ⟨rfl, rfl, Nat.le_of_ble_eq_true rfl, Nat.le_of_ble_eq_true rfl⟩ (As := [.int 0]) ((dr_spec h2).2) rfl rfl (Nat.le_of_ble_eq_true rfl) dX11_waiting_5 (mc_X9_standing _ _ _ _ _ _ ((dr_spec h2).2) h4)) ?_
  obtain rfl := Option.some.inj hm
  exact j_ireti C dX11_waiting_8
set_option maxRecDepth 20000 in
set_option maxHeartbeats 4000000 in
theorem mc_X11_waiting (l : Launch) (N : Nat) (Λ : Lay) (μ : Mem) (v0 : Nat) (hv0 : inL Λ v0 10) {r : Int32} (hm : m_X11_waiting N Λ μ v0 = some r) : MI l yX11_waiting cX11_waiting 1 (some .int) rm_X11_waiting Λ [.ref v0] μ r μ := mi_of rfl (Nat.le_of_ble_eq_true rfl) (fun x C _ => tm_X11_waiting C _ _ _ hv0 hm)
abbrev rm_X11_docked : Room := { frames := 1, cells := 0, slots := 0, locals := 23 }
set_option maxRecDepth 20000 in
set_option maxHeartbeats 4000000 in
theorem tm_X11_docked {x : Ctx} {Λ : Lay} (C : Cx x cX11_docked 1 (some .int) RX11 Λ rm_X11_docked) (N : Nat) (μ : Mem) (v0 : Nat) (hv0 : inL Λ v0 10) {r : Int32} (hm : m_X11_docked N Λ μ v0 = some r) : J x 1 Λ (QI x Λ r μ) 0 [(0, .ref v0)] [] μ := by
  refine j_aload_n C 0 dX11_docked_0 rfl ?_
  obtain ⟨q1, h2, hm⟩ := bd_some hm
  refine j_getR C fg_X11_19_10 hv0 (dr_spec h2).1 dX11_docked_1 ?_
  refine j_iconst C (v := 1) dX11_docked_4 rfl ?_
  obtain ⟨r3, h4, hm⟩ := bd_some hm
  refine call_I (run_LV C lk_X11_357 ⟨rfl, rfl, Nat.le_of_ble_eq_true rfl, Nat.le_of_ble_eq_true rfl⟩ (As := [.int 1]) ((dr_spec h2).2) rfl rfl (Nat.le_of_ble_eq_true rfl) dX11_docked_5 (mc_X9_standing _ _ _ _ _ _ ((dr_spec h2).2) h4)) ?_
  obtain rfl := Option.some.inj hm
  exact j_ireti C dX11_docked_8
set_option maxRecDepth 20000 in
set_option maxHeartbeats 4000000 in
theorem mc_X11_docked (l : Launch) (N : Nat) (Λ : Lay) (μ : Mem) (v0 : Nat) (hv0 : inL Λ v0 10) {r : Int32} (hm : m_X11_docked N Λ μ v0 = some r) : MI l yX11_docked cX11_docked 1 (some .int) rm_X11_docked Λ [.ref v0] μ r μ := mi_of rfl (Nat.le_of_ble_eq_true rfl) (fun x C _ => tm_X11_docked C _ _ _ hv0 hm)
abbrev rm_X11_gone : Room := { frames := 1, cells := 0, slots := 0, locals := 23 }
set_option maxRecDepth 20000 in
set_option maxHeartbeats 4000000 in
theorem tm_X11_gone {x : Ctx} {Λ : Lay} (C : Cx x cX11_gone 1 (some .int) RX11 Λ rm_X11_gone) (N : Nat) (μ : Mem) (v0 : Nat) (hv0 : inL Λ v0 10) {r : Int32} (hm : m_X11_gone N Λ μ v0 = some r) : J x 1 Λ (QI x Λ r μ) 0 [(0, .ref v0)] [] μ := by
  refine j_aload_n C 0 dX11_gone_0 rfl ?_
  obtain ⟨q1, h2, hm⟩ := bd_some hm
  refine j_getR C fg_X11_19_10 hv0 (dr_spec h2).1 dX11_gone_1 ?_
  refine j_iconst C (v := 2) dX11_gone_4 rfl ?_
  obtain ⟨r3, h4, hm⟩ := bd_some hm
  refine call_I (run_LV C lk_X11_357 ⟨rfl, rfl, Nat.le_of_ble_eq_true rfl, Nat.le_of_ble_eq_true rfl⟩ (As := [.int 2]) ((dr_spec h2).2) rfl rfl (Nat.le_of_ble_eq_true rfl) dX11_gone_5 (mc_X9_standing _ _ _ _ _ _ ((dr_spec h2).2) h4)) ?_
  obtain rfl := Option.some.inj hm
  exact j_ireti C dX11_gone_8
set_option maxRecDepth 20000 in
set_option maxHeartbeats 4000000 in
theorem mc_X11_gone (l : Launch) (N : Nat) (Λ : Lay) (μ : Mem) (v0 : Nat) (hv0 : inL Λ v0 10) {r : Int32} (hm : m_X11_gone N Λ μ v0 = some r) : MI l yX11_gone cX11_gone 1 (some .int) rm_X11_gone Λ [.ref v0] μ r μ := mi_of rfl (Nat.le_of_ble_eq_true rfl) (fun x C _ => tm_X11_gone C _ _ _ hv0 hm)
abbrev rm_X11_hurt : Room := { frames := 0, cells := 0, slots := 0, locals := 0 }
set_option maxRecDepth 20000 in
set_option maxHeartbeats 4000000 in
theorem tm_X11_hurt {x : Ctx} {Λ : Lay} (C : Cx x cX11_hurt 1 (some .int) RX11 Λ rm_X11_hurt) (N : Nat) (μ : Mem) (v0 : Nat) (hv0 : inL Λ v0 10) {r : Int32} (hm : m_X11_hurt N Λ μ v0 = some r) : J x 1 Λ (QI x Λ r μ) 0 [(0, .ref v0)] [] μ := by
  refine j_aload_n C 0 dX11_hurt_0 rfl ?_
  obtain ⟨q1, h2, hm⟩ := bd_some hm
  refine j_getR C fg_X11_19_10 hv0 (dr_spec h2).1 dX11_hurt_1 ?_
  refine j_getI C fg_X11_360_8 ((dr_spec h2).2) dX11_hurt_4 ?_
  obtain rfl := Option.some.inj hm
  exact j_ireti C dX11_hurt_7
set_option maxRecDepth 20000 in
set_option maxHeartbeats 4000000 in
theorem mc_X11_hurt (l : Launch) (N : Nat) (Λ : Lay) (μ : Mem) (v0 : Nat) (hv0 : inL Λ v0 10) {r : Int32} (hm : m_X11_hurt N Λ μ v0 = some r) : MI l yX11_hurt cX11_hurt 1 (some .int) rm_X11_hurt Λ [.ref v0] μ r μ := mi_of rfl (Nat.le_of_ble_eq_true rfl) (fun x C _ => tm_X11_hurt C _ _ _ hv0 hm)
abbrev rm_X11_twins : Room := { frames := 0, cells := 0, slots := 0, locals := 0 }
set_option maxRecDepth 20000 in
set_option maxHeartbeats 4000000 in
theorem tj_X11_twins_75 {x : Ctx} {Λ : Lay} (C : Cx x cX11_twins 4 (some .int) RX11 Λ rm_X11_twins) (N : Nat) (μ : Mem) (k4 : Int32 × Int32 → Option (Int32)) (k19 : Int32 × Int32 → Option (Int32)) (v0 : Nat) (v1 : Int32) (v2 : Int32) (v3 : Int32) (hk4 : ∀ (s : Int32 × Int32) (r : Int32), k4 s = some r → J x 4 Λ (QI x Λ r μ) 4 [(0, .ref v0), (1, .int s.1), (2, .int s.2)] [] (μ)) (hk19 : ∀ (s : Int32 × Int32) (r : Int32), k19 s = some r → J x 4 Λ (QI x Λ r μ) 19 [(0, .ref v0), (1, .int s.1), (2, .int v2), (3, .int s.2)] [] (μ)) (hv0 : inL Λ v0 10) {r : Int32} (hm : jn_X11_twins_75 N Λ μ k4 k19 v0 v1 v2 v3 = some r) : J x 4 Λ (QI x Λ r μ) 75 [(0, .ref v0), (1, .int v1), (2, .int v2), (3, .int v3)] [] μ := by
  obtain ⟨y1, e2, hm⟩ := lt_some hm
  refine j_iinc C 3 (v := y1) (lv' := [(3, .int y1), (0, .ref v0), (1, .int v1), (2, .int v2)]) dX11_twins_75 rfl (by rw [e2]; rfl) (by decide) rfl ?_
  refine j_goto C (tgt := 19) dX11_twins_78 (by decide) ?_
  refine j_sub [1, 2, 3, 0] rfl ?_
  exact hk19 (v1, y1) _ hm
set_option maxRecDepth 20000 in
set_option maxHeartbeats 4000000 in
theorem tb_X11_twins_19 {x : Ctx} {Λ : Lay} (C : Cx x cX11_twins 4 (some .int) RX11 Λ rm_X11_twins) (N : Nat) (μ : Mem) (k4 : Int32 × Int32 → Option (Int32)) (k19 : Int32 × Int32 → Option (Int32)) (v0 : Nat) (v1 : Int32) (v2 : Int32) (v3 : Int32) (hk4 : ∀ (s : Int32 × Int32) (r : Int32), k4 s = some r → J x 4 Λ (QI x Λ r μ) 4 [(0, .ref v0), (1, .int s.1), (2, .int s.2)] [] (μ)) (hk19 : ∀ (s : Int32 × Int32) (r : Int32), k19 s = some r → J x 4 Λ (QI x Λ r μ) 19 [(0, .ref v0), (1, .int s.1), (2, .int v2), (3, .int s.2)] [] (μ)) (hv0 : inL Λ v0 10) {r : Int32} (hm : bd_X11_twins_19 N Λ μ k4 k19 v0 v1 v2 v3 = some r) : J x 4 Λ (QI x Λ r μ) 19 [(0, .ref v0), (1, .int v1), (2, .int v2), (3, .int v3)] [] μ := by
  refine j_iload_n C 3 dX11_twins_19 rfl ?_
  refine j_aload_n C 0 dX11_twins_20 rfl ?_
  obtain ⟨q1, h2, hm⟩ := bd_some hm
  refine j_getR C fg_X11_19_10 hv0 (dr_spec h2).1 dX11_twins_21 ?_
  refine j_getI C fg_X11_253_8 ((dr_spec h2).2) dX11_twins_24 ?_
  refine j_icmp_ge C (tgt := 81) dX11_twins_27 (by decide) (fun h3 => ?_) (fun h3 => ?_)
  · replace hm := if_t hm h3
    obtain ⟨y4, e5, hm⟩ := lt_some hm
    refine j_iinc C 2 (v := y4) (lv' := [(2, .int y4), (0, .ref v0), (1, .int v1), (3, .int v3)]) dX11_twins_81 rfl (by rw [e5]; rfl) (by decide) rfl ?_
    refine j_goto C (tgt := 4) dX11_twins_84 (by decide) ?_
    refine j_sub [1, 2, 0] rfl ?_
    exact hk4 (v1, y4) _ hm
  · replace hm := if_f hm h3
    refine j_aload_n C 0 dX11_twins_30 rfl ?_
    obtain ⟨q6, h7, hm⟩ := bd_some hm
    refine j_getR C fg_X11_19_10 hv0 (dr_spec h7).1 dX11_twins_31 ?_
    obtain ⟨q8, h9, hm⟩ := bd_some hm
    refine j_getR C fg_X11_140_8 ((dr_spec h7).2) (dr_spec h9).1 dX11_twins_34 ?_
    refine j_iload_n C 2 dX11_twins_37 rfl ?_
    obtain ⟨h10, hm⟩ := gd_some hm
    refine j_iald C ((dr_spec h9).2) h10 dX11_twins_38 ?_
    refine j_aload_n C 0 dX11_twins_39 rfl ?_
    obtain ⟨q11, h12, hm⟩ := bd_some hm
    refine j_getR C fg_X11_19_10 hv0 (dr_spec h12).1 dX11_twins_40 ?_
    obtain ⟨q13, h14, hm⟩ := bd_some hm
    refine j_getR C fg_X11_140_8 ((dr_spec h12).2) (dr_spec h14).1 dX11_twins_43 ?_
    refine j_iload_n C 3 dX11_twins_46 rfl ?_
    obtain ⟨h15, hm⟩ := gd_some hm
    refine j_iald C ((dr_spec h14).2) h15 dX11_twins_47 ?_
    refine j_icmp_ne C (tgt := 75) dX11_twins_48 (by decide) (fun h16 => ?_) (fun h16 => ?_)
    · replace hm := if_f hm h16
      exact tj_X11_twins_75 C _ _ _ _ _ _ _ _ hk4 hk19 hv0 hm
    · replace hm := if_t hm h16
      refine j_aload_n C 0 dX11_twins_51 rfl ?_
      obtain ⟨q17, h18, hm⟩ := bd_some hm
      refine j_getR C fg_X11_19_10 hv0 (dr_spec h18).1 dX11_twins_52 ?_
      obtain ⟨q19, h20, hm⟩ := bd_some hm
      refine j_getR C fg_X11_144_8 ((dr_spec h18).2) (dr_spec h20).1 dX11_twins_55 ?_
      refine j_iload_n C 2 dX11_twins_58 rfl ?_
      obtain ⟨h21, hm⟩ := gd_some hm
      refine j_iald C ((dr_spec h20).2) h21 dX11_twins_59 ?_
      refine j_aload_n C 0 dX11_twins_60 rfl ?_
      obtain ⟨q22, h23, hm⟩ := bd_some hm
      refine j_getR C fg_X11_19_10 hv0 (dr_spec h23).1 dX11_twins_61 ?_
      obtain ⟨q24, h25, hm⟩ := bd_some hm
      refine j_getR C fg_X11_144_8 ((dr_spec h23).2) (dr_spec h25).1 dX11_twins_64 ?_
      refine j_iload_n C 3 dX11_twins_67 rfl ?_
      obtain ⟨h26, hm⟩ := gd_some hm
      refine j_iald C ((dr_spec h25).2) h26 dX11_twins_68 ?_
      refine j_icmp_ne C (tgt := 75) dX11_twins_69 (by decide) (fun h27 => ?_) (fun h27 => ?_)
      · replace hm := if_f hm h27
        exact tj_X11_twins_75 C _ _ _ _ _ _ _ _ hk4 hk19 hv0 hm
      · replace hm := if_t hm h27
        obtain ⟨y28, e29, hm⟩ := lt_some hm
        refine j_iinc C 1 (v := y28) (lv' := [(1, .int y28), (0, .ref v0), (2, .int v2), (3, .int v3)]) dX11_twins_72 rfl (by rw [e29]; rfl) (by decide) rfl ?_
        refine j_sub [1, 0, 2, 3] rfl ?_
        exact tj_X11_twins_75 C _ _ _ _ _ _ _ _ hk4 hk19 hv0 hm
set_option maxRecDepth 20000 in
set_option maxHeartbeats 4000000 in
theorem tl_X11_twins_19 {x : Ctx} {Λ : Lay} (C : Cx x cX11_twins 4 (some .int) RX11 Λ rm_X11_twins) (N : Nat) (μ : Mem) (k4 : Int32 × Int32 → Option (Int32)) (v0 : Nat) (v2 : Int32) (hk4 : ∀ (s : Int32 × Int32) (r : Int32), k4 s = some r → J x 4 Λ (QI x Λ r μ) 4 [(0, .ref v0), (1, .int s.1), (2, .int s.2)] [] (μ)) (hv0 : inL Λ v0 10) (s : Int32 × Int32) {r : Int32} (hm : lp_X11_twins_19 N Λ μ k4 v0 v2 s = some r) : J x 4 Λ (QI x Λ r μ) 19 [(0, .ref v0), (1, .int s.1), (2, .int v2), (3, .int s.2)] [] (μ) :=
  cw_ind (P := fun s r => J x 4 Λ (QI x Λ r μ) 19 [(0, .ref v0), (1, .int s.1), (2, .int v2), (3, .int s.2)] [] (μ)) (fun k hkk s r e => tb_X11_twins_19 C _ _ _ _ _ _ _ _ hk4 hkk hv0 e) N s r hm
set_option maxRecDepth 20000 in
set_option maxHeartbeats 4000000 in
theorem tb_X11_twins_4 {x : Ctx} {Λ : Lay} (C : Cx x cX11_twins 4 (some .int) RX11 Λ rm_X11_twins) (N : Nat) (μ : Mem) (k4 : Int32 × Int32 → Option (Int32)) (v0 : Nat) (v1 : Int32) (v2 : Int32) (hk4 : ∀ (s : Int32 × Int32) (r : Int32), k4 s = some r → J x 4 Λ (QI x Λ r μ) 4 [(0, .ref v0), (1, .int s.1), (2, .int s.2)] [] (μ)) (hv0 : inL Λ v0 10) {r : Int32} (hm : bd_X11_twins_4 N Λ μ k4 v0 v1 v2 = some r) : J x 4 Λ (QI x Λ r μ) 4 [(0, .ref v0), (1, .int v1), (2, .int v2)] [] μ := by
  refine j_iload_n C 2 dX11_twins_4 rfl ?_
  refine j_aload_n C 0 dX11_twins_5 rfl ?_
  obtain ⟨q1, h2, hm⟩ := bd_some hm
  refine j_getR C fg_X11_19_10 hv0 (dr_spec h2).1 dX11_twins_6 ?_
  refine j_getI C fg_X11_253_8 ((dr_spec h2).2) dX11_twins_9 ?_
  refine j_icmp_ge C (tgt := 87) dX11_twins_12 (by decide) (fun h3 => ?_) (fun h3 => ?_)
  · replace hm := if_t hm h3
    refine j_iload_n C 1 dX11_twins_87 rfl ?_
    obtain rfl := Option.some.inj hm
    exact j_ireti C dX11_twins_88
  · replace hm := if_f hm h3
    refine j_iload_n C 2 dX11_twins_15 rfl ?_
    refine j_iconst C (v := 1) dX11_twins_16 rfl ?_
    refine j_iadd C dX11_twins_17 ?_
    obtain ⟨y4, e5, hm⟩ := lt_some hm
    refine j_topi e5 ?_
    refine j_istore_n C (lv' := [(3, .int y4), (0, .ref v0), (1, .int v1), (2, .int v2)]) dX11_twins_18 (by decide) rfl ?_
    refine j_sub [1, 2, 3, 0] rfl ?_
    exact tl_X11_twins_19 C _ _ _ _ _ hk4 hv0 (v1, y4) hm
set_option maxRecDepth 20000 in
set_option maxHeartbeats 4000000 in
theorem tl_X11_twins_4 {x : Ctx} {Λ : Lay} (C : Cx x cX11_twins 4 (some .int) RX11 Λ rm_X11_twins) (N : Nat) (μ : Mem) (v0 : Nat) (hv0 : inL Λ v0 10) (s : Int32 × Int32) {r : Int32} (hm : lp_X11_twins_4 N Λ μ v0 s = some r) : J x 4 Λ (QI x Λ r μ) 4 [(0, .ref v0), (1, .int s.1), (2, .int s.2)] [] (μ) :=
  cw_ind (P := fun s r => J x 4 Λ (QI x Λ r μ) 4 [(0, .ref v0), (1, .int s.1), (2, .int s.2)] [] (μ)) (fun k hkk s r e => tb_X11_twins_4 C _ _ _ _ _ _ hkk hv0 e) N s r hm
set_option maxRecDepth 20000 in
set_option maxHeartbeats 4000000 in
theorem tm_X11_twins {x : Ctx} {Λ : Lay} (C : Cx x cX11_twins 4 (some .int) RX11 Λ rm_X11_twins) (N : Nat) (μ : Mem) (v0 : Nat) (hv0 : inL Λ v0 10) {r : Int32} (hm : m_X11_twins N Λ μ v0 = some r) : J x 4 Λ (QI x Λ r μ) 0 [(0, .ref v0)] [] μ := by
  refine j_iconst C (v := 0) dX11_twins_0 rfl ?_
  refine j_istore_n C (lv' := [(1, .int 0), (0, .ref v0)]) dX11_twins_1 (by decide) rfl ?_
  refine j_iconst C (v := 0) dX11_twins_2 rfl ?_
  refine j_istore_n C (lv' := [(2, .int 0), (1, .int 0), (0, .ref v0)]) dX11_twins_3 (by decide) rfl ?_
  refine j_sub [2, 1, 0] rfl ?_
  exact tl_X11_twins_4 C _ _ _ hv0 (0, 0) hm
set_option maxRecDepth 20000 in
set_option maxHeartbeats 4000000 in
theorem mc_X11_twins (l : Launch) (N : Nat) (Λ : Lay) (μ : Mem) (v0 : Nat) (hv0 : inL Λ v0 10) {r : Int32} (hm : m_X11_twins N Λ μ v0 = some r) : MI l yX11_twins cX11_twins 4 (some .int) rm_X11_twins Λ [.ref v0] μ r μ := mi_of rfl (Nat.le_of_ble_eq_true rfl) (fun x C _ => tm_X11_twins C _ _ _ hv0 hm)
abbrev rm_X11_water : Room := { frames := 0, cells := 0, slots := 0, locals := 0 }
set_option maxRecDepth 20000 in
set_option maxHeartbeats 4000000 in
theorem tj_X11_water_50 {x : Ctx} {Λ : Lay} (C : Cx x cX11_water 5 (some .int) RX11 Λ rm_X11_water) (N : Nat) (μ : Mem) (k4 : Int32 × Int32 → Option (Int32)) (v0 : Nat) (v1 : Int32) (v2 : Int32) (v3 : Int32) (hk4 : ∀ (s : Int32 × Int32) (r : Int32), k4 s = some r → J x 5 Λ (QI x Λ r μ) 4 [(0, .ref v0), (1, .int v1), (2, .int s.1), (3, .int s.2)] [] (μ)) (hv0 : inL Λ v0 10) {r : Int32} (hm : jn_X11_water_50 N Λ μ k4 v0 v1 v2 v3 = some r) : J x 5 Λ (QI x Λ r μ) 50 [(0, .ref v0), (1, .int v1), (2, .int v2), (3, .int v3)] [] μ := by
  obtain ⟨y1, e2, hm⟩ := lt_some hm
  refine j_iinc C 3 (v := y1) (lv' := [(3, .int y1), (0, .ref v0), (1, .int v1), (2, .int v2)]) dX11_water_50 rfl (by rw [e2]; rfl) (by decide) rfl ?_
  refine j_goto C (tgt := 4) dX11_water_53 (by decide) ?_
  refine j_sub [1, 2, 3, 0] rfl ?_
  exact hk4 (v2, y1) _ hm
set_option maxRecDepth 20000 in
set_option maxHeartbeats 4000000 in
theorem tj_X11_water_48 {x : Ctx} {Λ : Lay} (C : Cx x cX11_water 5 (some .int) RX11 Λ rm_X11_water) (N : Nat) (μ : Mem) (k4 : Int32 × Int32 → Option (Int32)) (v0 : Nat) (v1 : Int32) (v3 : Int32) (hk4 : ∀ (s : Int32 × Int32) (r : Int32), k4 s = some r → J x 5 Λ (QI x Λ r μ) 4 [(0, .ref v0), (1, .int v1), (2, .int s.1), (3, .int s.2)] [] (μ)) (hv0 : inL Λ v0 10) {r : Int32} (hm : jn_X11_water_48 N Λ μ k4 v0 v1 v3 = some r) : J x 5 Λ (QI x Λ r μ) 48 [(0, .ref v0), (1, .int v1), (3, .int v3)] [] μ := by
  refine j_iload_n C 2 dX11_water_48 rfl ?_
  refine j_istore_n C (lv' := [(2, .int v3), (0, .ref v0), (1, .int v1), (3, .int v3)]) dX11_water_49 (by decide) rfl ?_
  refine j_sub [1, 2, 0, 3] rfl ?_
  exact tj_X11_water_50 C _ _ _ _ _ _ _ hk4 hv0 hm
set_option maxRecDepth 20000 in
set_option maxHeartbeats 4000000 in
theorem tb_X11_water_4 {x : Ctx} {Λ : Lay} (C : Cx x cX11_water 5 (some .int) RX11 Λ rm_X11_water) (N : Nat) (μ : Mem) (k4 : Int32 × Int32 → Option (Int32)) (v0 : Nat) (v1 : Int32) (v2 : Int32) (v3 : Int32) (hk4 : ∀ (s : Int32 × Int32) (r : Int32), k4 s = some r → J x 5 Λ (QI x Λ r μ) 4 [(0, .ref v0), (1, .int v1), (2, .int s.1), (3, .int s.2)] [] (μ)) (hv0 : inL Λ v0 10) {r : Int32} (hm : bd_X11_water_4 N Λ μ k4 v0 v1 v2 v3 = some r) : J x 5 Λ (QI x Λ r μ) 4 [(0, .ref v0), (1, .int v1), (2, .int v2), (3, .int v3)] [] μ := by
  refine j_iload_n C 3 dX11_water_4 rfl ?_
  refine j_bipush C (v := 12) dX11_water_5 rfl ?_
  refine j_icmp_ge C (tgt := 56) dX11_water_7 (by decide) (fun h1 => ?_) (fun h1 => ?_)
  · replace hm := if_t hm h1
    refine j_iload_n C 2 dX11_water_56 rfl ?_
    obtain rfl := Option.some.inj hm
    exact j_ireti C dX11_water_57
  · replace hm := if_f hm h1
    refine j_aload_n C 0 dX11_water_10 rfl ?_
    obtain ⟨q2, h3, hm⟩ := bd_some hm
    refine j_getR C fg_X11_19_10 hv0 (dr_spec h3).1 dX11_water_11 ?_
    obtain ⟨q4, h5, hm⟩ := bd_some hm
    refine j_getR C fg_X11_201_8 ((dr_spec h3).2) (dr_spec h5).1 dX11_water_14 ?_
    refine j_iload_n C 3 dX11_water_17 rfl ?_
    obtain ⟨h6, hm⟩ := gd_some hm
    refine j_iald C ((dr_spec h5).2) h6 dX11_water_18 ?_
    refine j_aload_n C 0 dX11_water_19 rfl ?_
    obtain ⟨q7, h8, hm⟩ := bd_some hm
    refine j_getR C fg_X11_19_10 hv0 (dr_spec h8).1 dX11_water_20 ?_
    obtain ⟨q9, h10, hm⟩ := bd_some hm
    refine j_getR C fg_X11_201_8 ((dr_spec h8).2) (dr_spec h10).1 dX11_water_23 ?_
    refine j_iload_n C 2 dX11_water_26 rfl ?_
    obtain ⟨h11, hm⟩ := gd_some hm
    refine j_iald C ((dr_spec h10).2) h11 dX11_water_27 ?_
    refine j_isub C dX11_water_28 ?_
    obtain ⟨y12, e13, hm⟩ := lt_some hm
    refine j_topi e13 ?_
    refine j_istore C (lv' := [(4, .int y12), (0, .ref v0), (1, .int v1), (2, .int v2), (3, .int v3)]) dX11_water_29 (by decide) rfl ?_
    refine j_iload_n C 2 dX11_water_31 rfl ?_
    refine j_if_eq C (tgt := 43) dX11_water_32 (by decide) (fun h14 => ?_) (fun h14 => ?_)
    · replace hm := if_t hm h14
      refine j_iload C 0 dX11_water_43 rfl ?_
      refine j_if_ge C (tgt := 50) dX11_water_45 (by decide) (fun h15 => ?_) (fun h15 => ?_)
      · replace hm := if_t hm h15
        refine j_sub [1, 2, 3, 4] rfl ?_
        exact tj_X11_water_50 C _ _ _ _ _ _ _ hk4 hv0 hm
      · replace hm := if_f hm h15
        refine j_sub [1, 2, 4] rfl ?_
        exact tj_X11_water_48 C _ _ _ _ _ _ hk4 hv0 hm
    · replace hm := if_f hm h14
      refine j_iload C 0 dX11_water_35 rfl ?_
      refine j_if_le C (tgt := 50) dX11_water_37 (by decide) (fun h16 => ?_) (fun h16 => ?_)
      · replace hm := if_t hm h16
        refine j_sub [1, 2, 3, 4] rfl ?_
        exact tj_X11_water_50 C _ _ _ _ _ _ _ hk4 hv0 hm
      · replace hm := if_f hm h16
        refine j_goto C (tgt := 48) dX11_water_40 (by decide) ?_
        refine j_sub [1, 2, 4] rfl ?_
        exact tj_X11_water_48 C _ _ _ _ _ _ hk4 hv0 hm
set_option maxRecDepth 20000 in
set_option maxHeartbeats 4000000 in
theorem tl_X11_water_4 {x : Ctx} {Λ : Lay} (C : Cx x cX11_water 5 (some .int) RX11 Λ rm_X11_water) (N : Nat) (μ : Mem) (v0 : Nat) (v1 : Int32) (hv0 : inL Λ v0 10) (s : Int32 × Int32) {r : Int32} (hm : lp_X11_water_4 N Λ μ v0 v1 s = some r) : J x 5 Λ (QI x Λ r μ) 4 [(0, .ref v0), (1, .int v1), (2, .int s.1), (3, .int s.2)] [] (μ) :=
  cw_ind (P := fun s r => J x 5 Λ (QI x Λ r μ) 4 [(0, .ref v0), (1, .int v1), (2, .int s.1), (3, .int s.2)] [] (μ)) (fun k hkk s r e => tb_X11_water_4 C _ _ _ _ _ _ _ hkk hv0 e) N s r hm
set_option maxRecDepth 20000 in
set_option maxHeartbeats 4000000 in
theorem tm_X11_water {x : Ctx} {Λ : Lay} (C : Cx x cX11_water 5 (some .int) RX11 Λ rm_X11_water) (N : Nat) (μ : Mem) (v0 : Nat) (v1 : Int32) (hv0 : inL Λ v0 10) {r : Int32} (hm : m_X11_water N Λ μ v0 v1 = some r) : J x 5 Λ (QI x Λ r μ) 0 [(0, .ref v0), (1, .int v1)] [] μ := by
  refine j_iconst C (v := 0) dX11_water_0 rfl ?_
  refine j_istore_n C (lv' := [(2, .int 0), (0, .ref v0), (1, .int v1)]) dX11_water_1 (by decide) rfl ?_
  refine j_iconst C (v := 1) dX11_water_2 rfl ?_
  refine j_istore_n C (lv' := [(3, .int 1), (2, .int 0), (0, .ref v0), (1, .int v1)]) dX11_water_3 (by decide) rfl ?_
  refine j_sub [2, 3, 1, 0] rfl ?_
  exact tl_X11_water_4 C _ _ _ _ hv0 (0, 1) hm
set_option maxRecDepth 20000 in
set_option maxHeartbeats 4000000 in
theorem mc_X11_water (l : Launch) (N : Nat) (Λ : Lay) (μ : Mem) (v0 : Nat) (v1 : Int32) (hv0 : inL Λ v0 10) {r : Int32} (hm : m_X11_water N Λ μ v0 v1 = some r) : MI l yX11_water cX11_water 5 (some .int) rm_X11_water Λ [.ref v0, .int v1] μ r μ := mi_of rfl (Nat.le_of_ble_eq_true rfl) (fun x C _ => tm_X11_water C _ _ _ _ hv0 hm)
abbrev rm_X11_tryHours : Room := { frames := 6, cells := 0, slots := 0, locals := 156 }
set_option maxRecDepth 20000 in
set_option maxHeartbeats 4000000 in
theorem tj_X11_tryHours_46 {x : Ctx} {Λ : Lay} (C : Cx x cX11_tryHours 4 (some .int) RX11 Λ rm_X11_tryHours) (N : Nat) (μ : Mem) (s0 : Int32) {r : Int32 × Mem} (hm : jn_X11_tryHours_46 N Λ μ s0 = some r) : J x 4 Λ (QI x Λ r.1 r.2) 46 [] [.int s0] μ := by
  obtain rfl := Option.some.inj hm
  exact j_ireti C dX11_tryHours_46
set_option maxRecDepth 20000 in
set_option maxHeartbeats 4000000 in
theorem tm_X11_tryHours {x : Ctx} {Λ : Lay} (C : Cx x cX11_tryHours 4 (some .int) RX11 Λ rm_X11_tryHours) (N : Nat) (μ : Mem) (v0 : Nat) (v1 : Int32) (v2 : Int32) (v3 : Int32) (hv0 : inL Λ v0 10) {r : Int32 × Mem} (hm : m_X11_tryHours N Λ μ v0 v1 v2 v3 = some r) : J x 4 Λ (QI x Λ r.1 r.2) 0 [(0, .ref v0), (1, .int v1), (2, .int v2), (3, .int v3)] [] μ := by
  refine j_aload_n C 0 dX11_tryHours_0 rfl ?_
  obtain ⟨q1, h2, hm⟩ := bd_some hm
  refine j_getR C fg_X11_23_10 hv0 (dr_spec h2).1 dX11_tryHours_1 ?_
  refine j_aload_n C 0 dX11_tryHours_4 rfl ?_
  obtain ⟨q3, h4, hm⟩ := bd_some hm
  refine j_getR C fg_X11_19_10 hv0 (dr_spec h4).1 dX11_tryHours_5 ?_
  obtain ⟨r5, h6, hm⟩ := bd_some hm
  refine call_V (run_LV C lk_X11_99 ⟨rfl, rfl, Nat.le_of_ble_eq_true rfl, Nat.le_of_ble_eq_true rfl⟩ (As := [.ref q3]) ((dr_spec h2).2) rfl rfl (Nat.le_of_ble_eq_true rfl) dX11_tryHours_8 (mc_X9_copy _ _ _ _ _ _ ((dr_spec h2).2) ((dr_spec h4).2) h6)) ?_
  refine j_aload_n C 0 dX11_tryHours_11 rfl ?_
  obtain ⟨q7, h8, hm⟩ := bd_some hm
  refine j_getR C fg_X11_23_10 hv0 (dr_spec h8).1 dX11_tryHours_12 ?_
  refine j_iload_n C 1 dX11_tryHours_15 rfl ?_
  refine j_aload_n C 0 dX11_tryHours_16 rfl ?_
  obtain ⟨q9, h10, hm⟩ := bd_some hm
  refine j_getR C fg_X11_32_10 hv0 (dr_spec h10).1 dX11_tryHours_17 ?_
  refine j_iload_n C 3 dX11_tryHours_20 rfl ?_
  obtain ⟨r11, h12, hm⟩ := bd_some hm
  refine call_I (run_LV C lk_X11_209 ⟨rfl, rfl, Nat.le_of_ble_eq_true rfl, Nat.le_of_ble_eq_true rfl⟩ (As := [.int v1, .ref q9, .int v3]) ((dr_spec h8).2) rfl rfl (Nat.le_of_ble_eq_true rfl) dX11_tryHours_21 (mc_X9_pass _ _ _ _ _ _ _ _ ((dr_spec h8).2) ((dr_spec h10).2) h12)) ?_
  refine j_pop C dX11_tryHours_24 rfl ?_
  refine j_iload_n C 2 dX11_tryHours_25 rfl ?_
  refine j_if_eq C (tgt := 39) dX11_tryHours_26 (by decide) (fun h13 => ?_) (fun h13 => ?_)
  · replace hm := if_t hm h13
    refine j_aload_n C 0 dX11_tryHours_39 rfl ?_
    obtain ⟨q14, h15, hm⟩ := bd_some hm
    refine j_getR C fg_X11_23_10 hv0 (dr_spec h15).1 dX11_tryHours_40 ?_
    refine j_getI C fg_X11_226_8 ((dr_spec h15).2) dX11_tryHours_43 ?_
    refine j_sub [] rfl ?_
    exact tj_X11_tryHours_46 C _ _ _  hm
  · replace hm := if_f hm h13
    refine j_aload_n C 0 dX11_tryHours_29 rfl ?_
    obtain ⟨q16, h17, hm⟩ := bd_some hm
    refine j_getR C fg_X11_23_10 hv0 (dr_spec h17).1 dX11_tryHours_30 ?_
    obtain ⟨r18, h19, hm⟩ := bd_some hm
    refine call_I (run_LV C lk_X11_408 ⟨rfl, rfl, Nat.le_of_ble_eq_true rfl, Nat.le_of_ble_eq_true rfl⟩ (As := []) ((dr_spec h17).2) rfl rfl (Nat.le_of_ble_eq_true rfl) dX11_tryHours_33 (mc_X9_allWork _ _ _ _ _ ((dr_spec h17).2) h19)) ?_
    refine j_goto C (tgt := 46) dX11_tryHours_36 (by decide) ?_
    refine j_sub [] rfl ?_
    exact tj_X11_tryHours_46 C _ _ _  hm
set_option maxRecDepth 20000 in
set_option maxHeartbeats 4000000 in
theorem mc_X11_tryHours (l : Launch) (N : Nat) (Λ : Lay) (μ : Mem) (v0 : Nat) (v1 : Int32) (v2 : Int32) (v3 : Int32) (hv0 : inL Λ v0 10) {r : Int32 × Mem} (hm : m_X11_tryHours N Λ μ v0 v1 v2 v3 = some r) : MI l yX11_tryHours cX11_tryHours 4 (some .int) rm_X11_tryHours Λ [.ref v0, .int v1, .int v2, .int v3] μ r.1 r.2 := mi_of rfl (Nat.le_of_ble_eq_true rfl) (fun x C _ => tm_X11_tryHours C _ _ _ _ _ _ hv0 hm)
abbrev rm_X11_ahead : Room := { frames := 7, cells := 1, slots := 6, locals := 179 }
set_option maxRecDepth 20000 in
set_option maxHeartbeats 4000000 in
theorem tm_X11_ahead {x : Ctx} {Λ : Lay} (C : Cx x cX11_ahead 3 (some .int) RX11 Λ rm_X11_ahead) (N : Nat) (μ : Mem) (v0 : Nat) (v1 : Int32) (v2 : Int32) (hN : NT x) (hk : xk x + 1 ≤ (rm_X11_ahead).cells ∧ xl x + 6 ≤ (rm_X11_ahead).slots) (hv0 : inL Λ v0 10) {r : RX_} (hm : m_X11_ahead N Λ μ v0 v1 v2 = some r) : J x 3 Λ (QXI x Λ rm_X11_ahead r) 0 [(0, .ref v0), (1, .int v1), (2, .int v2)] [] μ := by
  refine j_aload_n C 0 dX11_ahead_0 rfl ?_
  refine j_iload_n C 1 dX11_ahead_1 rfl ?_
  refine j_bipush C (v := 60) dX11_ahead_2 rfl ?_
  obtain ⟨r1, h2, hm⟩ := bd_some hm
  refine call_XV C hN (runx_LV C lk_X11_262 ⟨Nat.le_of_ble_eq_true rfl, Nat.le_of_ble_eq_true rfl⟩ (hk_sub hk (Nat.le_of_ble_eq_true rfl) (Nat.le_of_ble_eq_true rfl)) (As := [.int v1, .int 60]) hv0 rfl rfl (Nat.le_of_ble_eq_true rfl) dX11_ahead_4 (mcx_X11_needNumber _ hN.2 _ _ _ _ _ _ hv0 h2)) (hk_sub hk (Nat.le_of_ble_eq_true rfl) (Nat.le_of_ble_eq_true rfl)) (fun e3 => ?_) (fun e3 => ?_)
  rotate_left
  · replace hm := if_f hm e3; obtain rfl := Option.some.inj hm; exact ⟨_, rfl⟩
  replace hm := if_t hm e3
  replace C := Cx_bump (a := 1) (b := 6) C (hk_sub hk (Nat.le_of_ble_eq_true rfl) (Nat.le_of_ble_eq_true rfl))
  replace hN := NT_bump (a := 1) (b := 6) hN
  replace hk := hk_bump (a := 1) (b := 6) (n := 0) (m := 0) hk
  refine j_aload_n C 0 dX11_ahead_7 rfl ?_
  refine j_iload_n C 1 dX11_ahead_8 rfl ?_
  refine j_iload_n C 2 dX11_ahead_9 rfl ?_
  refine j_iconst C (v := 0) dX11_ahead_10 rfl ?_
  obtain ⟨r4, h5, hm⟩ := bd_some hm
  refine call_I (run_LV C lk_X11_363 ⟨rfl, rfl, Nat.le_of_ble_eq_true rfl, Nat.le_of_ble_eq_true rfl⟩ (As := [.int v1, .int v2, .int 0]) hv0 rfl rfl (Nat.le_of_ble_eq_true rfl) dX11_ahead_11 (mc_X11_tryHours _ _ _ _ _ _ _ _ hv0 h5)) ?_
  obtain rfl := Option.some.inj hm
  exact jx_ireti C dX11_ahead_14
set_option maxRecDepth 20000 in
set_option maxHeartbeats 4000000 in
theorem mcx_X11_ahead (l : Launch) (hst : l.stackTraces = false) (N : Nat) (Λ : Lay) (μ : Mem) (v0 : Nat) (v1 : Int32) (v2 : Int32) (hv0 : inL Λ v0 10) {r : RX_} (hm : m_X11_ahead N Λ μ v0 v1 v2 = some r) : MXI l yX11_ahead cX11_ahead 3 (some .int) rm_X11_ahead Λ [.ref v0, .int v1, .int v2] μ r := mxi_of hst rfl (Nat.le_of_ble_eq_true rfl) (fun x C _ hN h0 => tm_X11_ahead C _ _ _ _ _ hN (hk_0 h0) hv0 hm)
abbrev rm_X11_trial : Room := { frames := 7, cells := 1, slots := 6, locals := 179 }
set_option maxRecDepth 20000 in
set_option maxHeartbeats 4000000 in
theorem tm_X11_trial {x : Ctx} {Λ : Lay} (C : Cx x cX11_trial 3 (some .int) RX11 Λ rm_X11_trial) (N : Nat) (μ : Mem) (v0 : Nat) (v1 : Int32) (v2 : Int32) (hN : NT x) (hk : xk x + 1 ≤ (rm_X11_trial).cells ∧ xl x + 6 ≤ (rm_X11_trial).slots) (hv0 : inL Λ v0 10) {r : RX_} (hm : m_X11_trial N Λ μ v0 v1 v2 = some r) : J x 3 Λ (QXI x Λ rm_X11_trial r) 0 [(0, .ref v0), (1, .int v1), (2, .int v2)] [] μ := by
  refine j_aload_n C 0 dX11_trial_0 rfl ?_
  refine j_iload_n C 1 dX11_trial_1 rfl ?_
  refine j_bipush C (v := 60) dX11_trial_2 rfl ?_
  obtain ⟨r1, h2, hm⟩ := bd_some hm
  refine call_XV C hN (runx_LV C lk_X11_262 ⟨Nat.le_of_ble_eq_true rfl, Nat.le_of_ble_eq_true rfl⟩ (hk_sub hk (Nat.le_of_ble_eq_true rfl) (Nat.le_of_ble_eq_true rfl)) (As := [.int v1, .int 60]) hv0 rfl rfl (Nat.le_of_ble_eq_true rfl) dX11_trial_4 (mcx_X11_needNumber _ hN.2 _ _ _ _ _ _ hv0 h2)) (hk_sub hk (Nat.le_of_ble_eq_true rfl) (Nat.le_of_ble_eq_true rfl)) (fun e3 => ?_) (fun e3 => ?_)
  rotate_left
  · replace hm := if_f hm e3; obtain rfl := Option.some.inj hm; exact ⟨_, rfl⟩
  replace hm := if_t hm e3
  replace C := Cx_bump (a := 1) (b := 6) C (hk_sub hk (Nat.le_of_ble_eq_true rfl) (Nat.le_of_ble_eq_true rfl))
  replace hN := NT_bump (a := 1) (b := 6) hN
  replace hk := hk_bump (a := 1) (b := 6) (n := 0) (m := 0) hk
  refine j_aload_n C 0 dX11_trial_7 rfl ?_
  refine j_iload_n C 1 dX11_trial_8 rfl ?_
  refine j_iload_n C 2 dX11_trial_9 rfl ?_
  refine j_iconst C (v := 1) dX11_trial_10 rfl ?_
  obtain ⟨r4, h5, hm⟩ := bd_some hm
  refine call_I (run_LV C lk_X11_363 ⟨rfl, rfl, Nat.le_of_ble_eq_true rfl, Nat.le_of_ble_eq_true rfl⟩ (As := [.int v1, .int v2, .int 1]) hv0 rfl rfl (Nat.le_of_ble_eq_true rfl) dX11_trial_11 (mc_X11_tryHours _ _ _ _ _ _ _ _ hv0 h5)) ?_
  obtain rfl := Option.some.inj hm
  exact jx_ireti C dX11_trial_14
set_option maxRecDepth 20000 in
set_option maxHeartbeats 4000000 in
theorem mcx_X11_trial (l : Launch) (hst : l.stackTraces = false) (N : Nat) (Λ : Lay) (μ : Mem) (v0 : Nat) (v1 : Int32) (v2 : Int32) (hv0 : inL Λ v0 10) {r : RX_} (hm : m_X11_trial N Λ μ v0 v1 v2 = some r) : MXI l yX11_trial cX11_trial 3 (some .int) rm_X11_trial Λ [.ref v0, .int v1, .int v2] μ r := mxi_of hst rfl (Nat.le_of_ble_eq_true rfl) (fun x C _ hN h0 => tm_X11_trial C _ _ _ _ _ hN (hk_0 h0) hv0 hm)
abbrev rm_X11_span : Room := { frames := 7, cells := 1, slots := 6, locals := 156 }
set_option maxRecDepth 20000 in
set_option maxHeartbeats 4000000 in
theorem tj_X11_span_91 {x : Ctx} {Λ : Lay} (C : Cx x cX11_span 5 (some .int) RX11 Λ rm_X11_span) (N : Nat) (μ : Mem) (k21 : Int32 × Int32 × Mem → Option (RX_)) (v0 : Nat) (v1 : Int32) (v2 : Int32) (v4 : Int32) (s0 : Int32) (hN : NT x) (hk : xk x + 0 ≤ (rm_X11_span).cells ∧ xl x + 0 ≤ (rm_X11_span).slots) (hk21 : ∀ (s : Int32 × Int32 × Mem) (r : RX_), k21 s = some r → J x 5 Λ (QXI x Λ rm_X11_span r) 21 [(0, .ref v0), (1, .int v1), (2, .int v2), (3, .int s.1), (4, .int s.2.1)] [] (s.2.2)) (hv0 : inL Λ v0 10) {r : RX_} (hm : jn_X11_span_91 N Λ μ k21 v0 v1 v2 v4 s0 = some r) : J x 5 Λ (QXI x Λ rm_X11_span r) 91 [(0, .ref v0), (1, .int v1), (2, .int v2), (4, .int v4)] [.int s0] μ := by
  refine j_istore_n C (lv' := [(3, .int s0), (0, .ref v0), (1, .int v1), (2, .int v2), (4, .int v4)]) dX11_span_91 (by decide) rfl ?_
  obtain ⟨y1, e2, hm⟩ := lt_some hm
  refine j_iinc C 4 (v := y1) (lv' := [(4, .int y1), (3, .int s0), (0, .ref v0), (1, .int v1), (2, .int v2)]) dX11_span_92 rfl (by rw [e2]; rfl) (by decide) rfl ?_
  refine j_goto C (tgt := 21) dX11_span_95 (by decide) ?_
  refine j_sub [2, 3, 4, 1, 0] rfl ?_
  exact hk21 (s0, y1, μ) _ hm
set_option maxRecDepth 20000 in
set_option maxHeartbeats 4000000 in
theorem tb_X11_span_21 {x : Ctx} {Λ : Lay} (C : Cx x cX11_span 5 (some .int) RX11 Λ rm_X11_span) (N : Nat) (μ : Mem) (k21 : Int32 × Int32 × Mem → Option (RX_)) (v0 : Nat) (v1 : Int32) (v2 : Int32) (v3 : Int32) (v4 : Int32) (hN : NT x) (hk : xk x + 0 ≤ (rm_X11_span).cells ∧ xl x + 0 ≤ (rm_X11_span).slots) (hk21 : ∀ (s : Int32 × Int32 × Mem) (r : RX_), k21 s = some r → J x 5 Λ (QXI x Λ rm_X11_span r) 21 [(0, .ref v0), (1, .int v1), (2, .int v2), (3, .int s.1), (4, .int s.2.1)] [] (s.2.2)) (hv0 : inL Λ v0 10) {r : RX_} (hm : bd_X11_span_21 N Λ μ k21 v0 v1 v2 v3 v4 = some r) : J x 5 Λ (QXI x Λ rm_X11_span r) 21 [(0, .ref v0), (1, .int v1), (2, .int v2), (3, .int v3), (4, .int v4)] [] μ := by
  refine j_iload C 4 dX11_span_21 rfl ?_
  refine j_bipush C (v := 6) dX11_span_23 rfl ?_
  refine j_icmp_gt C (tgt := 98) dX11_span_25 (by decide) (fun h1 => ?_) (fun h1 => ?_)
  · replace hm := if_t hm h1
    refine j_iload_n C 3 dX11_span_98 rfl ?_
    obtain rfl := Option.some.inj hm
    exact jx_ireti C dX11_span_99
  · replace hm := if_f hm h1
    refine j_aload_n C 0 dX11_span_28 rfl ?_
    obtain ⟨q2, h3, hm⟩ := bd_some hm
    refine j_getR C fg_X11_23_10 hv0 (dr_spec h3).1 dX11_span_29 ?_
    refine j_aload_n C 0 dX11_span_32 rfl ?_
    obtain ⟨q4, h5, hm⟩ := bd_some hm
    refine j_getR C fg_X11_19_10 hv0 (dr_spec h5).1 dX11_span_33 ?_
    obtain ⟨r6, h7, hm⟩ := bd_some hm
    refine call_V (run_LV C lk_X11_99 ⟨rfl, rfl, Nat.le_of_ble_eq_true rfl, Nat.le_of_ble_eq_true rfl⟩ (As := [.ref q4]) ((dr_spec h3).2) rfl rfl (Nat.le_of_ble_eq_true rfl) dX11_span_36 (mc_X9_copy _ _ _ _ _ _ ((dr_spec h3).2) ((dr_spec h5).2) h7)) ?_
    refine j_aload_n C 0 dX11_span_39 rfl ?_
    obtain ⟨q8, h9, hm⟩ := bd_some hm
    refine j_getR C fg_X11_23_10 hv0 (dr_spec h9).1 dX11_span_40 ?_
    refine j_iload C 4 dX11_span_43 rfl ?_
    obtain ⟨μ10, e11, hm⟩ := lt_some hm
    refine j_putI C fp_X11_367_8 ((dr_spec h9).2) e11 dX11_span_45 ?_
    refine j_aload_n C 0 dX11_span_48 rfl ?_
    obtain ⟨q12, h13, hm⟩ := bd_some hm
    refine j_getR C fg_X11_23_10 hv0 (dr_spec h13).1 dX11_span_49 ?_
    refine j_iload_n C 1 dX11_span_52 rfl ?_
    refine j_aload_n C 0 dX11_span_53 rfl ?_
    obtain ⟨q14, h15, hm⟩ := bd_some hm
    refine j_getR C fg_X11_32_10 hv0 (dr_spec h15).1 dX11_span_54 ?_
    refine j_iconst C (v := 1) dX11_span_57 rfl ?_
    obtain ⟨r16, h17, hm⟩ := bd_some hm
    refine call_I (run_LV C lk_X11_209 ⟨rfl, rfl, Nat.le_of_ble_eq_true rfl, Nat.le_of_ble_eq_true rfl⟩ (As := [.int v1, .ref q14, .int 1]) ((dr_spec h13).2) rfl rfl (Nat.le_of_ble_eq_true rfl) dX11_span_58 (mc_X9_pass _ _ _ _ _ _ _ _ ((dr_spec h13).2) ((dr_spec h15).2) h17)) ?_
    refine j_pop C dX11_span_61 rfl ?_
    refine j_iload_n C 2 dX11_span_62 rfl ?_
    refine j_if_eq C (tgt := 80) dX11_span_63 (by decide) (fun h18 => ?_) (fun h18 => ?_)
    · replace hm := if_t hm h18
      refine j_iload_n C 3 dX11_span_80 rfl ?_
      refine j_aload_n C 0 dX11_span_81 rfl ?_
      obtain ⟨q19, h20, hm⟩ := bd_some hm
      refine j_getR C fg_X11_23_10 hv0 (dr_spec h20).1 dX11_span_82 ?_
      refine j_getI C fg_X11_226_8 ((dr_spec h20).2) dX11_span_85 ?_
      refine j_mmin C wk_1507 ⟨Nat.le_of_ble_eq_true rfl, Nat.le_of_ble_eq_true rfl⟩ dX11_span_88 ?_
      refine j_sub [0, 1, 2, 4] rfl ?_
      exact tj_X11_span_91 C _ _ _ _ _ _ _ _ hN ((hk_sub hk (Nat.le_of_ble_eq_true rfl) (Nat.le_of_ble_eq_true rfl))) hk21 hv0 hm
    · replace hm := if_f hm h18
      refine j_iload_n C 3 dX11_span_66 rfl ?_
      refine j_aload_n C 0 dX11_span_67 rfl ?_
      obtain ⟨q21, h22, hm⟩ := bd_some hm
      refine j_getR C fg_X11_23_10 hv0 (dr_spec h22).1 dX11_span_68 ?_
      refine j_getI C fg_X11_226_8 ((dr_spec h22).2) dX11_span_71 ?_
      refine j_mmax C wk_504 ⟨Nat.le_of_ble_eq_true rfl, Nat.le_of_ble_eq_true rfl⟩ dX11_span_74 ?_
      refine j_goto C (tgt := 91) dX11_span_77 (by decide) ?_
      refine j_sub [0, 1, 2, 4] rfl ?_
      exact tj_X11_span_91 C _ _ _ _ _ _ _ _ hN ((hk_sub hk (Nat.le_of_ble_eq_true rfl) (Nat.le_of_ble_eq_true rfl))) hk21 hv0 hm
set_option maxRecDepth 20000 in
set_option maxHeartbeats 4000000 in
theorem tl_X11_span_21 {x : Ctx} {Λ : Lay} (C : Cx x cX11_span 5 (some .int) RX11 Λ rm_X11_span) (N : Nat) (v0 : Nat) (v1 : Int32) (v2 : Int32) (hN : NT x) (hk : xk x + 0 ≤ (rm_X11_span).cells ∧ xl x + 0 ≤ (rm_X11_span).slots) (hv0 : inL Λ v0 10) (s : Int32 × Int32 × Mem) {r : RX_} (hm : lp_X11_span_21 N Λ v0 v1 v2 s = some r) : J x 5 Λ (QXI x Λ rm_X11_span r) 21 [(0, .ref v0), (1, .int v1), (2, .int v2), (3, .int s.1), (4, .int s.2.1)] [] (s.2.2) :=
  cw_ind (P := fun s r => J x 5 Λ (QXI x Λ rm_X11_span r) 21 [(0, .ref v0), (1, .int v1), (2, .int v2), (3, .int s.1), (4, .int s.2.1)] [] (s.2.2)) (fun k hkk s r e => tb_X11_span_21 C _ _ _ _ _ _ _ _ hN hk hkk hv0 e) N s r hm
set_option maxRecDepth 20000 in
set_option maxHeartbeats 4000000 in
theorem tj_X11_span_17 {x : Ctx} {Λ : Lay} (C : Cx x cX11_span 5 (some .int) RX11 Λ rm_X11_span) (N : Nat) (μ : Mem) (v0 : Nat) (v1 : Int32) (v2 : Int32) (s0 : Int32) (hN : NT x) (hk : xk x + 0 ≤ (rm_X11_span).cells ∧ xl x + 0 ≤ (rm_X11_span).slots) (hv0 : inL Λ v0 10) {r : RX_} (hm : jn_X11_span_17 N Λ μ v0 v1 v2 s0 = some r) : J x 5 Λ (QXI x Λ rm_X11_span r) 17 [(0, .ref v0), (1, .int v1), (2, .int v2)] [.int s0] μ := by
  refine j_istore_n C (lv' := [(3, .int s0), (0, .ref v0), (1, .int v1), (2, .int v2)]) dX11_span_17 (by decide) rfl ?_
  refine j_iconst C (v := 1) dX11_span_18 rfl ?_
  refine j_istore C (lv' := [(4, .int 1), (3, .int s0), (0, .ref v0), (1, .int v1), (2, .int v2)]) dX11_span_19 (by decide) rfl ?_
  refine j_sub [2, 3, 4, 1, 0] rfl ?_
  exact tl_X11_span_21 C _ _ _ _ hN (hk_sub hk (Nat.le_of_ble_eq_true rfl) (Nat.le_of_ble_eq_true rfl)) hv0 (s0, 1, μ) hm
set_option maxRecDepth 20000 in
set_option maxHeartbeats 4000000 in
theorem tm_X11_span {x : Ctx} {Λ : Lay} (C : Cx x cX11_span 5 (some .int) RX11 Λ rm_X11_span) (N : Nat) (μ : Mem) (v0 : Nat) (v1 : Int32) (v2 : Int32) (hN : NT x) (hk : xk x + 1 ≤ (rm_X11_span).cells ∧ xl x + 6 ≤ (rm_X11_span).slots) (hv0 : inL Λ v0 10) {r : RX_} (hm : m_X11_span N Λ μ v0 v1 v2 = some r) : J x 5 Λ (QXI x Λ rm_X11_span r) 0 [(0, .ref v0), (1, .int v1), (2, .int v2)] [] μ := by
  refine j_aload_n C 0 dX11_span_0 rfl ?_
  refine j_iload_n C 1 dX11_span_1 rfl ?_
  refine j_bipush C (v := 60) dX11_span_2 rfl ?_
  obtain ⟨r1, h2, hm⟩ := bd_some hm
  refine call_XV C hN (runx_LV C lk_X11_262 ⟨Nat.le_of_ble_eq_true rfl, Nat.le_of_ble_eq_true rfl⟩ (hk_sub hk (Nat.le_of_ble_eq_true rfl) (Nat.le_of_ble_eq_true rfl)) (As := [.int v1, .int 60]) hv0 rfl rfl (Nat.le_of_ble_eq_true rfl) dX11_span_4 (mcx_X11_needNumber _ hN.2 _ _ _ _ _ _ hv0 h2)) (hk_sub hk (Nat.le_of_ble_eq_true rfl) (Nat.le_of_ble_eq_true rfl)) (fun e3 => ?_) (fun e3 => ?_)
  rotate_left
  · replace hm := if_f hm e3; obtain rfl := Option.some.inj hm; exact ⟨_, rfl⟩
  replace hm := if_t hm e3
  replace C := Cx_bump (a := 1) (b := 6) C (hk_sub hk (Nat.le_of_ble_eq_true rfl) (Nat.le_of_ble_eq_true rfl))
  replace hN := NT_bump (a := 1) (b := 6) hN
  replace hk := hk_bump (a := 1) (b := 6) (n := 0) (m := 0) hk
  refine j_iload_n C 2 dX11_span_7 rfl ?_
  refine j_if_eq C (tgt := 15) dX11_span_8 (by decide) (fun h4 => ?_) (fun h4 => ?_)
  · replace hm := if_t hm h4
    refine j_bipush C (v := 40) dX11_span_15 rfl ?_
    exact tj_X11_span_17 C _ _ _ _ _ _ hN ((hk_sub hk (Nat.le_of_ble_eq_true rfl) (Nat.le_of_ble_eq_true rfl))) hv0 hm
  · replace hm := if_f hm h4
    refine j_iconst C (v := 0) dX11_span_11 rfl ?_
    refine j_goto C (tgt := 17) dX11_span_12 (by decide) ?_
    exact tj_X11_span_17 C _ _ _ _ _ _ hN ((hk_sub hk (Nat.le_of_ble_eq_true rfl) (Nat.le_of_ble_eq_true rfl))) hv0 hm
set_option maxRecDepth 20000 in
set_option maxHeartbeats 4000000 in
theorem mcx_X11_span (l : Launch) (hst : l.stackTraces = false) (N : Nat) (Λ : Lay) (μ : Mem) (v0 : Nat) (v1 : Int32) (v2 : Int32) (hv0 : inL Λ v0 10) {r : RX_} (hm : m_X11_span N Λ μ v0 v1 v2 = some r) : MXI l yX11_span cX11_span 5 (some .int) rm_X11_span Λ [.ref v0, .int v1, .int v2] μ r := mxi_of hst rfl (Nat.le_of_ble_eq_true rfl) (fun x C _ hN h0 => tm_X11_span C _ _ _ _ _ hN (hk_0 h0) hv0 hm)
abbrev rm_X11_led : Room := { frames := 7, cells := 1, slots := 6, locals := 141 }
set_option maxRecDepth 20000 in
set_option maxHeartbeats 4000000 in
theorem tj_X11_led_34 {x : Ctx} {Λ : Lay} (C : Cx x cX11_led 3 (some .int) RX11 Λ rm_X11_led) (N : Nat) (μ : Mem) (s0 : Int32) (hN : NT x) (hk : xk x + 0 ≤ (rm_X11_led).cells ∧ xl x + 0 ≤ (rm_X11_led).slots) {r : RX_} (hm : jn_X11_led_34 N Λ μ s0 = some r) : J x 3 Λ (QXI x Λ rm_X11_led r) 34 [] [.int s0] μ := by
  obtain rfl := Option.some.inj hm
  exact jx_ireti C dX11_led_34
set_option maxRecDepth 20000 in
set_option maxHeartbeats 4000000 in
theorem tm_X11_led {x : Ctx} {Λ : Lay} (C : Cx x cX11_led 3 (some .int) RX11 Λ rm_X11_led) (N : Nat) (μ : Mem) (v0 : Nat) (v1 : Int32) (v2 : Int32) (hN : NT x) (hk : xk x + 1 ≤ (rm_X11_led).cells ∧ xl x + 6 ≤ (rm_X11_led).slots) (hv0 : inL Λ v0 10) {r : RX_} (hm : m_X11_led N Λ μ v0 v1 v2 = some r) : J x 3 Λ (QXI x Λ rm_X11_led r) 0 [(0, .ref v0), (1, .int v1), (2, .int v2)] [] μ := by
  refine j_aload_n C 0 dX11_led_0 rfl ?_
  refine j_iload_n C 1 dX11_led_1 rfl ?_
  obtain ⟨r1, h2, hm⟩ := bd_some hm
  refine call_XV C hN (runx_LV C lk_X11_137 ⟨Nat.le_of_ble_eq_true rfl, Nat.le_of_ble_eq_true rfl⟩ (hk_sub hk (Nat.le_of_ble_eq_true rfl) (Nat.le_of_ble_eq_true rfl)) (As := [.int v1]) hv0 rfl rfl (Nat.le_of_ble_eq_true rfl) dX11_led_2 (mcx_X11_needShip _ hN.2 _ _ _ _ _ hv0 h2)) (hk_sub hk (Nat.le_of_ble_eq_true rfl) (Nat.le_of_ble_eq_true rfl)) (fun e3 => ?_) (fun e3 => ?_)
  rotate_left
  · replace hm := if_f hm e3; obtain rfl := Option.some.inj hm; exact ⟨_, rfl⟩
  replace hm := if_t hm e3
  replace C := Cx_bump (a := 1) (b := 6) C (hk_sub hk (Nat.le_of_ble_eq_true rfl) (Nat.le_of_ble_eq_true rfl))
  replace hN := NT_bump (a := 1) (b := 6) hN
  replace hk := hk_bump (a := 1) (b := 6) (n := 0) (m := 0) hk
  refine j_iload_n C 2 dX11_led_5 rfl ?_
  refine j_if_eq C (tgt := 23) dX11_led_6 (by decide) (fun h4 => ?_) (fun h4 => ?_)
  · replace hm := if_t hm h4
    refine j_aload_n C 0 dX11_led_23 rfl ?_
    obtain ⟨q5, h6, hm⟩ := bd_some hm
    refine j_getR C fg_X11_19_10 hv0 (dr_spec h6).1 dX11_led_24 ?_
    obtain ⟨q7, h8, hm⟩ := bd_some hm
    refine j_getR C fg_X11_373_8 ((dr_spec h6).2) (dr_spec h8).1 dX11_led_27 ?_
    refine j_iload_n C 1 dX11_led_30 rfl ?_
    obtain ⟨r9, h10, hm⟩ := bd_some hm
    refine call_I (run_LV C lk_X11_382 ⟨rfl, rfl, Nat.le_of_ble_eq_true rfl, Nat.le_of_ble_eq_true rfl⟩ (As := [.int v1]) ((dr_spec h8).2) rfl rfl (Nat.le_of_ble_eq_true rfl) dX11_led_31 (mc_X4_rowsOf _ _ _ _ _ _ ((dr_spec h8).2) h10)) ?_
    refine j_sub [] rfl ?_
    exact tj_X11_led_34 C _ _ _ hN ((hk_sub hk (Nat.le_of_ble_eq_true rfl) (Nat.le_of_ble_eq_true rfl))) hm
  · replace hm := if_f hm h4
    refine j_aload_n C 0 dX11_led_9 rfl ?_
    obtain ⟨q11, h12, hm⟩ := bd_some hm
    refine j_getR C fg_X11_19_10 hv0 (dr_spec h12).1 dX11_led_10 ?_
    obtain ⟨q13, h14, hm⟩ := bd_some hm
    refine j_getR C fg_X11_373_8 ((dr_spec h12).2) (dr_spec h14).1 dX11_led_13 ?_
    refine j_iload_n C 1 dX11_led_16 rfl ?_
    obtain ⟨r15, h16, hm⟩ := bd_some hm
    refine call_I (run_LV C lk_X11_377 ⟨rfl, rfl, Nat.le_of_ble_eq_true rfl, Nat.le_of_ble_eq_true rfl⟩ (As := [.int v1]) ((dr_spec h14).2) rfl rfl (Nat.le_of_ble_eq_true rfl) dX11_led_17 (mc_X4_latestHourOf _ _ _ _ _ _ ((dr_spec h14).2) h16)) ?_
    refine j_goto C (tgt := 34) dX11_led_20 (by decide) ?_
    refine j_sub [] rfl ?_
    exact tj_X11_led_34 C _ _ _ hN ((hk_sub hk (Nat.le_of_ble_eq_true rfl) (Nat.le_of_ble_eq_true rfl))) hm
set_option maxRecDepth 20000 in
set_option maxHeartbeats 4000000 in
theorem mcx_X11_led (l : Launch) (hst : l.stackTraces = false) (N : Nat) (Λ : Lay) (μ : Mem) (v0 : Nat) (v1 : Int32) (v2 : Int32) (hv0 : inL Λ v0 10) {r : RX_} (hm : m_X11_led N Λ μ v0 v1 v2 = some r) : MXI l yX11_led cX11_led 3 (some .int) rm_X11_led Λ [.ref v0, .int v1, .int v2] μ r := mxi_of hst rfl (Nat.le_of_ble_eq_true rfl) (fun x C _ hN h0 => tm_X11_led C _ _ _ _ _ hN (hk_0 h0) hv0 hm)
abbrev rm_X11_log : Room := { frames := 6, cells := 1, slots := 6, locals := 120 }
set_option maxRecDepth 20000 in
set_option maxHeartbeats 4000000 in
theorem tj_X11_log_9 {x : Ctx} {Λ : Lay} (C : Cx x cX11_log 3 (some .int) RX11 Λ rm_X11_log) (N : Nat) (μ : Mem) (hN : NT x) (hk : xk x + 1 ≤ (rm_X11_log).cells ∧ xl x + 6 ≤ (rm_X11_log).slots) {r : RX_} (hm : jn_X11_log_9 N Λ μ = some r) : J x 3 Λ (QXI x Λ rm_X11_log r) 9 [] [] μ := by
  obtain rfl := Option.some.inj hm
  exact jx_throwNW C hN tr_182_385_186 rfl (hk_sub hk (Nat.le_of_ble_eq_true rfl) (Nat.le_of_ble_eq_true rfl)) ⟨Nat.le_of_ble_eq_true rfl, Nat.le_of_ble_eq_true rfl⟩ rfl dX11_log_9 dX11_log_12 dX11_log_13 dX11_log_16 dX11_log_19
set_option maxRecDepth 20000 in
set_option maxHeartbeats 4000000 in
theorem tm_X11_log {x : Ctx} {Λ : Lay} (C : Cx x cX11_log 3 (some .int) RX11 Λ rm_X11_log) (N : Nat) (μ : Mem) (v0 : Nat) (v1 : Int32) (v2 : Int32) (hN : NT x) (hk : xk x + 1 ≤ (rm_X11_log).cells ∧ xl x + 6 ≤ (rm_X11_log).slots) (hv0 : inL Λ v0 10) {r : RX_} (hm : m_X11_log N Λ μ v0 v1 v2 = some r) : J x 3 Λ (QXI x Λ rm_X11_log r) 0 [(0, .ref v0), (1, .int v1), (2, .int v2)] [] μ := by
  refine j_iload_n C 2 dX11_log_0 rfl ?_
  refine j_if_lt C (tgt := 9) dX11_log_1 (by decide) (fun h1 => ?_) (fun h1 => ?_)
  · replace hm := if_t hm h1
    refine j_sub [] rfl ?_
    exact tj_X11_log_9 C _ _ hN ((hk_sub hk (Nat.le_of_ble_eq_true rfl) (Nat.le_of_ble_eq_true rfl))) hm
  · replace hm := if_f hm h1
    refine j_iload_n C 2 dX11_log_4 rfl ?_
    refine j_iconst C (v := 5) dX11_log_5 rfl ?_
    refine j_icmp_lt C (tgt := 20) dX11_log_6 (by decide) (fun h2 => ?_) (fun h2 => ?_)
    · replace hm := if_t hm h2
      refine j_aload_n C 0 dX11_log_20 rfl ?_
      obtain ⟨q3, h4, hm⟩ := bd_some hm
      refine j_getR C fg_X11_19_10 hv0 (dr_spec h4).1 dX11_log_21 ?_
      obtain ⟨q5, h6, hm⟩ := bd_some hm
      refine j_getR C fg_X11_373_8 ((dr_spec h4).2) (dr_spec h6).1 dX11_log_24 ?_
      refine j_iload_n C 1 dX11_log_27 rfl ?_
      refine j_iload_n C 2 dX11_log_28 rfl ?_
      obtain ⟨r7, h8, hm⟩ := bd_some hm
      refine call_I (run_LV C lk_X11_387 ⟨rfl, rfl, Nat.le_of_ble_eq_true rfl, Nat.le_of_ble_eq_true rfl⟩ (As := [.int v1, .int v2]) ((dr_spec h6).2) rfl rfl (Nat.le_of_ble_eq_true rfl) dX11_log_29 (mc_X4_cell _ _ _ _ _ _ _ ((dr_spec h6).2) h8)) ?_
      obtain rfl := Option.some.inj hm
      exact jx_ireti C dX11_log_32
    · replace hm := if_f hm h2
      refine j_sub [] rfl ?_
      exact tj_X11_log_9 C _ _ hN ((hk_sub hk (Nat.le_of_ble_eq_true rfl) (Nat.le_of_ble_eq_true rfl))) hm
set_option maxRecDepth 20000 in
set_option maxHeartbeats 4000000 in
theorem mcx_X11_log (l : Launch) (hst : l.stackTraces = false) (N : Nat) (Λ : Lay) (μ : Mem) (v0 : Nat) (v1 : Int32) (v2 : Int32) (hv0 : inL Λ v0 10) {r : RX_} (hm : m_X11_log N Λ μ v0 v1 v2 = some r) : MXI l yX11_log cX11_log 3 (some .int) rm_X11_log Λ [.ref v0, .int v1, .int v2] μ r := mxi_of hst rfl (Nat.le_of_ble_eq_true rfl) (fun x C _ hN h0 => tm_X11_log C _ _ _ _ _ hN (hk_0 h0) hv0 hm)
abbrev rm_X11_seed : Room := { frames := 0, cells := 0, slots := 0, locals := 0 }
set_option maxRecDepth 20000 in
set_option maxHeartbeats 4000000 in
theorem tm_X11_seed {x : Ctx} {Λ : Lay} (C : Cx x cX11_seed 3 (some .int) RX11 Λ rm_X11_seed) (N : Nat) (μ : Mem) (v0 : Nat) (v1 : Int32) (hv0 : inL Λ v0 10) {r : Int32 × Mem} (hm : m_X11_seed N Λ μ v0 v1 = some r) : J x 3 Λ (QI x Λ r.1 r.2) 0 [(0, .ref v0), (1, .int v1)] [] μ := by
  refine j_aload_n C 0 dX11_seed_0 rfl ?_
  obtain ⟨q1, h2, hm⟩ := bd_some hm
  refine j_getR C fg_X11_19_10 hv0 (dr_spec h2).1 dX11_seed_1 ?_
  refine j_getI C fg_X11_367_8 ((dr_spec h2).2) dX11_seed_4 ?_
  obtain ⟨y3, e4, hm⟩ := lt_some hm
  refine j_topi e4 ?_
  refine j_istore_n C (lv' := [(2, .int y3), (0, .ref v0), (1, .int v1)]) dX11_seed_7 (by decide) rfl ?_
  refine j_aload_n C 1 dX11_seed_8 rfl ?_
  obtain ⟨q5, h6, hm⟩ := bd_some hm
  refine j_getR C fg_X11_19_10 hv0 (dr_spec h6).1 dX11_seed_9 ?_
  refine j_iload_n C 2 dX11_seed_12 rfl ?_
  obtain ⟨μ7, e8, hm⟩ := lt_some hm
  refine j_putI C fp_X11_367_8 ((dr_spec h6).2) e8 dX11_seed_13 ?_
  refine j_iload_n C 0 dX11_seed_16 rfl ?_
  obtain rfl := Option.some.inj hm
  exact j_ireti C dX11_seed_17
set_option maxRecDepth 20000 in
set_option maxHeartbeats 4000000 in
theorem mc_X11_seed (l : Launch) (N : Nat) (Λ : Lay) (μ : Mem) (v0 : Nat) (v1 : Int32) (hv0 : inL Λ v0 10) {r : Int32 × Mem} (hm : m_X11_seed N Λ μ v0 v1 = some r) : MI l yX11_seed cX11_seed 3 (some .int) rm_X11_seed Λ [.ref v0, .int v1] μ r.1 r.2 := mi_of rfl (Nat.le_of_ble_eq_true rfl) (fun x C _ => tm_X11_seed C _ _ _ _ hv0 hm)
abbrev rm_X11_undo : Room := { frames := 4, cells := 0, slots := 0, locals := 123 }
set_option maxRecDepth 20000 in
set_option maxHeartbeats 4000000 in
theorem tm_X11_undo {x : Ctx} {Λ : Lay} (C : Cx x cX11_undo 1 (some .boolean) RX11 Λ rm_X11_undo) (N : Nat) (μ : Mem) (v0 : Nat) (hv0 : inL Λ v0 10) {r : Int32 × Mem} (hm : m_X11_undo N Λ μ v0 = some r) : J x 1 Λ (QI x Λ r.1 r.2) 0 [(0, .ref v0)] [] μ := by
  refine j_aload_n C 0 dX11_undo_0 rfl ?_
  obtain ⟨q1, h2, hm⟩ := bd_some hm
  refine j_getR C fg_X11_63_10 hv0 (dr_spec h2).1 dX11_undo_1 ?_
  refine j_aload_n C 0 dX11_undo_4 rfl ?_
  obtain ⟨q3, h4, hm⟩ := bd_some hm
  refine j_getR C fg_X11_19_10 hv0 (dr_spec h4).1 dX11_undo_5 ?_
  obtain ⟨r5, h6, hm⟩ := bd_some hm
  refine call_I (run_LV C lk_X11_390 ⟨rfl, rfl, Nat.le_of_ble_eq_true rfl, Nat.le_of_ble_eq_true rfl⟩ (As := [.ref q3]) ((dr_spec h2).2) rfl rfl (Nat.le_of_ble_eq_true rfl) dX11_undo_8 (mc_X5_recall _ _ _ _ _ _ ((dr_spec h2).2) ((dr_spec h4).2) h6)) ?_
  obtain ⟨h7, hm⟩ := gd_some hm
  obtain rfl := Option.some.inj hm
  exact j_iretz C h7 dX11_undo_11
set_option maxRecDepth 20000 in
set_option maxHeartbeats 4000000 in
theorem mc_X11_undo (l : Launch) (N : Nat) (Λ : Lay) (μ : Mem) (v0 : Nat) (hv0 : inL Λ v0 10) {r : Int32 × Mem} (hm : m_X11_undo N Λ μ v0 = some r) : MI l yX11_undo cX11_undo 1 (some .boolean) rm_X11_undo Λ [.ref v0] μ r.1 r.2 := mi_of rfl (Nat.le_of_ble_eq_true rfl) (fun x C _ => tm_X11_undo C _ _ _ hv0 hm)
abbrev rm_X11_image : Room := { frames := 3, cells := 0, slots := 0, locals := 102 }
set_option maxRecDepth 20000 in
set_option maxHeartbeats 4000000 in
theorem tm_X11_image {x : Ctx} {Λ : Lay} (C : Cx x cX11_image 1 none RX11 Λ rm_X11_image) (N : Nat) (μ : Mem) (v0 : Nat) (hv0 : inL Λ v0 10) {r : Mem} (hm : m_X11_image N Λ μ v0 = some r) : J x 1 Λ (QV x Λ r) 0 [(0, .ref v0)] [] μ := by
  refine j_aload_n C 0 dX11_image_0 rfl ?_
  obtain ⟨q1, h2, hm⟩ := bd_some hm
  refine j_getR C fg_X11_26_10 hv0 (dr_spec h2).1 dX11_image_1 ?_
  refine j_aload_n C 0 dX11_image_4 rfl ?_
  obtain ⟨q3, h4, hm⟩ := bd_some hm
  refine j_getR C fg_X11_19_10 hv0 (dr_spec h4).1 dX11_image_5 ?_
  obtain ⟨r5, h6, hm⟩ := bd_some hm
  refine call_V (run_LV C lk_X11_99 ⟨rfl, rfl, Nat.le_of_ble_eq_true rfl, Nat.le_of_ble_eq_true rfl⟩ (As := [.ref q3]) ((dr_spec h2).2) rfl rfl (Nat.le_of_ble_eq_true rfl) dX11_image_8 (mc_X9_copy _ _ _ _ _ _ ((dr_spec h2).2) ((dr_spec h4).2) h6)) ?_
  refine j_aload_n C 0 dX11_image_11 rfl ?_
  obtain ⟨q7, h8, hm⟩ := bd_some hm
  refine j_getR C fg_X11_39_10 hv0 (dr_spec h8).1 dX11_image_12 ?_
  refine j_aload_n C 0 dX11_image_15 rfl ?_
  obtain ⟨q9, h10, hm⟩ := bd_some hm
  refine j_getR C fg_X11_32_10 hv0 (dr_spec h10).1 dX11_image_16 ?_
  obtain ⟨r11, h12, hm⟩ := bd_some hm
  refine call_V (run_LV C lk_X11_131 ⟨rfl, rfl, Nat.le_of_ble_eq_true rfl, Nat.le_of_ble_eq_true rfl⟩ (As := [.ref q9]) ((dr_spec h8).2) rfl rfl (Nat.le_of_ble_eq_true rfl) dX11_image_19 (mc_X2_copy _ _ _ _ _ _ ((dr_spec h8).2) ((dr_spec h10).2) h12)) ?_
  refine j_aload_n C 0 dX11_image_22 rfl ?_
  refine j_iconst C (v := 1) dX11_image_23 rfl ?_
  obtain ⟨μ13, e14, hm⟩ := lt_some hm
  refine j_putZ C fp_X11_394_10 rfl hv0 e14 dX11_image_24 ?_
  obtain rfl := Option.some.inj hm
  exact j_vret C dX11_image_27
set_option maxRecDepth 20000 in
set_option maxHeartbeats 4000000 in
theorem mc_X11_image (l : Launch) (N : Nat) (Λ : Lay) (μ : Mem) (v0 : Nat) (hv0 : inL Λ v0 10) {r : Mem} (hm : m_X11_image N Λ μ v0 = some r) : MV l yX11_image cX11_image 1 rm_X11_image Λ [.ref v0] μ r := mv_of rfl (Nat.le_of_ble_eq_true rfl) (fun x C _ => tm_X11_image C _ _ _ hv0 hm)
abbrev rm_X11_back : Room := { frames := 3, cells := 0, slots := 0, locals := 102 }
set_option maxRecDepth 20000 in
set_option maxHeartbeats 4000000 in
theorem tm_X11_back {x : Ctx} {Λ : Lay} (C : Cx x cX11_back 1 (some .boolean) RX11 Λ rm_X11_back) (N : Nat) (μ : Mem) (v0 : Nat) (hv0 : inL Λ v0 10) {r : Int32 × Mem} (hm : m_X11_back N Λ μ v0 = some r) : J x 1 Λ (QI x Λ r.1 r.2) 0 [(0, .ref v0)] [] μ := by
  refine j_aload_n C 0 dX11_back_0 rfl ?_
  refine j_getI C fg_X11_394_10 hv0 dX11_back_1 ?_
  refine j_if_ne C (tgt := 9) dX11_back_4 (by decide) (fun h1 => ?_) (fun h1 => ?_)
  · replace hm := if_f hm h1
    refine j_aload_n C 0 dX11_back_9 rfl ?_
    obtain ⟨q2, h3, hm⟩ := bd_some hm
    refine j_getR C fg_X11_19_10 hv0 (dr_spec h3).1 dX11_back_10 ?_
    refine j_aload_n C 0 dX11_back_13 rfl ?_
    obtain ⟨q4, h5, hm⟩ := bd_some hm
    refine j_getR C fg_X11_26_10 hv0 (dr_spec h5).1 dX11_back_14 ?_
    obtain ⟨r6, h7, hm⟩ := bd_some hm
    refine call_V (run_LV C lk_X11_99 ⟨rfl, rfl, Nat.le_of_ble_eq_true rfl, Nat.le_of_ble_eq_true rfl⟩ (As := [.ref q4]) ((dr_spec h3).2) rfl rfl (Nat.le_of_ble_eq_true rfl) dX11_back_17 (mc_X9_copy _ _ _ _ _ _ ((dr_spec h3).2) ((dr_spec h5).2) h7)) ?_
    refine j_aload_n C 0 dX11_back_20 rfl ?_
    obtain ⟨q8, h9, hm⟩ := bd_some hm
    refine j_getR C fg_X11_32_10 hv0 (dr_spec h9).1 dX11_back_21 ?_
    refine j_aload_n C 0 dX11_back_24 rfl ?_
    obtain ⟨q10, h11, hm⟩ := bd_some hm
    refine j_getR C fg_X11_39_10 hv0 (dr_spec h11).1 dX11_back_25 ?_
    obtain ⟨r12, h13, hm⟩ := bd_some hm
    refine call_V (run_LV C lk_X11_131 ⟨rfl, rfl, Nat.le_of_ble_eq_true rfl, Nat.le_of_ble_eq_true rfl⟩ (As := [.ref q10]) ((dr_spec h9).2) rfl rfl (Nat.le_of_ble_eq_true rfl) dX11_back_28 (mc_X2_copy _ _ _ _ _ _ ((dr_spec h9).2) ((dr_spec h11).2) h13)) ?_
    refine j_aload_n C 0 dX11_back_31 rfl ?_
    obtain ⟨q14, h15, hm⟩ := bd_some hm
    refine j_getR C fg_X11_63_10 hv0 (dr_spec h15).1 dX11_back_32 ?_
    obtain ⟨r16, h17, hm⟩ := bd_some hm
    refine call_V (run_LV C lk_X11_122 ⟨rfl, rfl, Nat.le_of_ble_eq_true rfl, Nat.le_of_ble_eq_true rfl⟩ (As := []) ((dr_spec h15).2) rfl rfl (Nat.le_of_ble_eq_true rfl) dX11_back_35 (mc_X5_forget _ _ _ _ _ ((dr_spec h15).2) h17)) ?_
    refine j_iconst C (v := 1) dX11_back_38 rfl ?_
    obtain rfl := Option.some.inj hm
    exact j_iretz C rfl dX11_back_39
  · replace hm := if_t hm h1
    refine j_iconst C (v := 0) dX11_back_7 rfl ?_
    obtain rfl := Option.some.inj hm
    exact j_iretz C rfl dX11_back_8
set_option maxRecDepth 20000 in
set_option maxHeartbeats 4000000 in
theorem mc_X11_back (l : Launch) (N : Nat) (Λ : Lay) (μ : Mem) (v0 : Nat) (hv0 : inL Λ v0 10) {r : Int32 × Mem} (hm : m_X11_back N Λ μ v0 = some r) : MI l yX11_back cX11_back 1 (some .boolean) rm_X11_back Λ [.ref v0] μ r.1 r.2 := mi_of rfl (Nat.le_of_ble_eq_true rfl) (fun x C _ => tm_X11_back C _ _ _ hv0 hm)
abbrev rm_X11_count : Room := { frames := 3, cells := 0, slots := 0, locals := 63 }
set_option maxRecDepth 20000 in
set_option maxHeartbeats 4000000 in
theorem tj_X11_count_123 {x : Ctx} {Λ : Lay} (C : Cx x cX11_count 2 (some .int) RX11 Λ rm_X11_count) (N : Nat) (μ : Mem) (s0 : Int32) {r : Int32} (hm : jn_X11_count_123 N Λ μ s0 = some r) : J x 2 Λ (QI x Λ r μ) 123 [] [.int s0] μ := by
  obtain rfl := Option.some.inj hm
  exact j_ireti C dX11_count_123
set_option maxRecDepth 20000 in
set_option maxHeartbeats 4000000 in
theorem tm_X11_count {x : Ctx} {Λ : Lay} (C : Cx x cX11_count 2 (some .int) RX11 Λ rm_X11_count) (N : Nat) (μ : Mem) (v0 : Nat) (v1 : Int32) (hv0 : inL Λ v0 10) {r : Int32} (hm : m_X11_count N Λ μ v0 v1 = some r) : J x 2 Λ (QI x Λ r μ) 0 [(0, .ref v0), (1, .int v1)] [] μ := by
  refine j_iload_n C 1 dX11_count_0 rfl ?_
  by_cases h1 : v1 = 0
  · replace hm := if_t hm h1
    refine j_tabI C (tgt := 76) 0 dX11_count_1 (by rw [h1]; first | done | rfl) (by decide) (by decide) rfl (by decide) ?_
    refine j_aload_n C 0 dX11_count_76 rfl ?_
    obtain ⟨q2, h3, hm⟩ := bd_some hm
    refine j_getR C fg_X11_19_10 hv0 (dr_spec h3).1 dX11_count_77 ?_
    refine j_getI C fg_X11_253_8 ((dr_spec h3).2) dX11_count_80 ?_
    obtain rfl := Option.some.inj hm
    exact j_ireti C dX11_count_83
  replace hm := if_f hm h1
  by_cases h4 : v1 = 1
  · replace hm := if_t hm h4
    refine j_tabI C (tgt := 84) 1 dX11_count_1 (by rw [h4]; first | done | rfl) (by decide) (by decide) rfl (by decide) ?_
    refine j_aload_n C 0 dX11_count_84 rfl ?_
    obtain ⟨q5, h6, hm⟩ := bd_some hm
    refine j_getR C fg_X11_19_10 hv0 (dr_spec h6).1 dX11_count_85 ?_
    refine j_getI C fg_X11_114_8 ((dr_spec h6).2) dX11_count_88 ?_
    obtain rfl := Option.some.inj hm
    exact j_ireti C dX11_count_91
  replace hm := if_f hm h4
  by_cases h7 : v1 = 2
  · replace hm := if_t hm h7
    refine j_tabI C (tgt := 92) 2 dX11_count_1 (by rw [h7]; first | done | rfl) (by decide) (by decide) rfl (by decide) ?_
    refine j_aload_n C 0 dX11_count_92 rfl ?_
    obtain ⟨q8, h9, hm⟩ := bd_some hm
    refine j_getR C fg_X11_32_10 hv0 (dr_spec h9).1 dX11_count_93 ?_
    refine j_getI C fg_X11_134_2 ((dr_spec h9).2) dX11_count_96 ?_
    obtain rfl := Option.some.inj hm
    exact j_ireti C dX11_count_99
  replace hm := if_f hm h7
  by_cases h10 : v1 = 3
  · replace hm := if_t hm h10
    refine j_tabI C (tgt := 100) 3 dX11_count_1 (by rw [h10]; first | done | rfl) (by decide) (by decide) rfl (by decide) ?_
    refine j_aload_n C 0 dX11_count_100 rfl ?_
    obtain ⟨q11, h12, hm⟩ := bd_some hm
    refine j_getR C fg_X11_19_10 hv0 (dr_spec h12).1 dX11_count_101 ?_
    refine j_getI C fg_X11_226_8 ((dr_spec h12).2) dX11_count_104 ?_
    obtain rfl := Option.some.inj hm
    exact j_ireti C dX11_count_107
  replace hm := if_f hm h10
  by_cases h13 : v1 = 4
  · replace hm := if_t hm h13
    refine j_tabI C (tgt := 108) 4 dX11_count_1 (by rw [h13]; first | done | rfl) (by decide) (by decide) rfl (by decide) ?_
    refine j_aload_n C 0 dX11_count_108 rfl ?_
    obtain ⟨q14, h15, hm⟩ := bd_some hm
    refine j_getR C fg_X11_19_10 hv0 (dr_spec h15).1 dX11_count_109 ?_
    refine j_getI C fg_X11_213_8 ((dr_spec h15).2) dX11_count_112 ?_
    refine j_if_eq C (tgt := 122) dX11_count_115 (by decide) (fun h16 => ?_) (fun h16 => ?_)
    · replace hm := if_t hm h16
      refine j_iconst C (v := 0) dX11_count_122 rfl ?_
      refine j_sub [] rfl ?_
      exact tj_X11_count_123 C _ _ _  hm
    · replace hm := if_f hm h16
      refine j_iconst C (v := 1) dX11_count_118 rfl ?_
      refine j_goto C (tgt := 123) dX11_count_119 (by decide) ?_
      refine j_sub [] rfl ?_
      exact tj_X11_count_123 C _ _ _  hm
  replace hm := if_f hm h13
  by_cases h17 : v1 = 5
  · replace hm := if_t hm h17
    refine j_tabI C (tgt := 124) 5 dX11_count_1 (by rw [h17]; first | done | rfl) (by decide) (by decide) rfl (by decide) ?_
    refine j_aload_n C 0 dX11_count_124 rfl ?_
    obtain ⟨q18, h19, hm⟩ := bd_some hm
    refine j_getR C fg_X11_19_10 hv0 (dr_spec h19).1 dX11_count_125 ?_
    refine j_getI C fg_X11_265_8 ((dr_spec h19).2) dX11_count_128 ?_
    obtain rfl := Option.some.inj hm
    exact j_ireti C dX11_count_131
  replace hm := if_f hm h17
  by_cases h20 : v1 = 6
  · replace hm := if_t hm h20
    refine j_tabI C (tgt := 132) 6 dX11_count_1 (by rw [h20]; first | done | rfl) (by decide) (by decide) rfl (by decide) ?_
    refine j_aload_n C 0 dX11_count_132 rfl ?_
    obtain ⟨q21, h22, hm⟩ := bd_some hm
    refine j_getR C fg_X11_19_10 hv0 (dr_spec h22).1 dX11_count_133 ?_
    refine j_getI C fg_X11_268_8 ((dr_spec h22).2) dX11_count_136 ?_
    obtain rfl := Option.some.inj hm
    exact j_ireti C dX11_count_139
  replace hm := if_f hm h20
  by_cases h23 : v1 = 7
  · replace hm := if_t hm h23
    refine j_tabI C (tgt := 140) 7 dX11_count_1 (by rw [h23]; first | done | rfl) (by decide) (by decide) rfl (by decide) ?_
    refine j_aload_n C 0 dX11_count_140 rfl ?_
    obtain ⟨q24, h25, hm⟩ := bd_some hm
    refine j_getR C fg_X11_19_10 hv0 (dr_spec h25).1 dX11_count_141 ?_
    refine j_getI C fg_X11_345_8 ((dr_spec h25).2) dX11_count_144 ?_
    obtain rfl := Option.some.inj hm
    exact j_ireti C dX11_count_147
  replace hm := if_f hm h23
  by_cases h26 : v1 = 8
  · replace hm := if_t hm h26
    refine j_tabI C (tgt := 148) 8 dX11_count_1 (by rw [h26]; first | done | rfl) (by decide) (by decide) rfl (by decide) ?_
    refine j_aload_n C 0 dX11_count_148 rfl ?_
    obtain ⟨q27, h28, hm⟩ := bd_some hm
    refine j_getR C fg_X11_19_10 hv0 (dr_spec h28).1 dX11_count_149 ?_
    refine j_getI C fg_X11_397_8 ((dr_spec h28).2) dX11_count_152 ?_
    obtain rfl := Option.some.inj hm
    exact j_ireti C dX11_count_155
  replace hm := if_f hm h26
  by_cases h29 : v1 = 9
  · replace hm := if_t hm h29
    refine j_tabI C (tgt := 156) 9 dX11_count_1 (by rw [h29]; first | done | rfl) (by decide) (by decide) rfl (by decide) ?_
    refine j_aload_n C 0 dX11_count_156 rfl ?_
    obtain ⟨q30, h31, hm⟩ := bd_some hm
    refine j_getR C fg_X11_19_10 hv0 (dr_spec h31).1 dX11_count_157 ?_
    refine j_getI C fg_X11_400_8 ((dr_spec h31).2) dX11_count_160 ?_
    obtain rfl := Option.some.inj hm
    exact j_ireti C dX11_count_163
  replace hm := if_f hm h29
  by_cases h32 : v1 = 10
  · replace hm := if_t hm h32
    refine j_tabI C (tgt := 164) 10 dX11_count_1 (by rw [h32]; first | done | rfl) (by decide) (by decide) rfl (by decide) ?_
    refine j_aload_n C 0 dX11_count_164 rfl ?_
    obtain ⟨q33, h34, hm⟩ := bd_some hm
    refine j_getR C fg_X11_19_10 hv0 (dr_spec h34).1 dX11_count_165 ?_
    refine j_getI C fg_X11_190_8 ((dr_spec h34).2) dX11_count_168 ?_
    obtain ⟨r35, h36, hm⟩ := bd_some hm
    refine call_I (run_LS C ls_X11_403 ⟨rfl, rfl, Nat.le_of_ble_eq_true rfl, Nat.le_of_ble_eq_true rfl⟩ (As := [.int (μ.1 q33 9)]) rfl rfl (Nat.le_of_ble_eq_true rfl) dX11_count_171 (mc_XI_bitCount _ _ _ _ _  h36)) ?_
    obtain rfl := Option.some.inj hm
    exact j_ireti C dX11_count_174
  replace hm := if_f hm h32
  by_cases h37 : v1 = 11
  · replace hm := if_t hm h37
    refine j_tabI C (tgt := 175) 11 dX11_count_1 (by rw [h37]; first | done | rfl) (by decide) (by decide) rfl (by decide) ?_
    refine j_aload_n C 0 dX11_count_175 rfl ?_
    obtain ⟨q38, h39, hm⟩ := bd_some hm
    refine j_getR C fg_X11_19_10 hv0 (dr_spec h39).1 dX11_count_176 ?_
    obtain ⟨r40, h41, hm⟩ := bd_some hm
    refine call_I (run_LV C lk_X11_243 ⟨rfl, rfl, Nat.le_of_ble_eq_true rfl, Nat.le_of_ble_eq_true rfl⟩ (As := []) ((dr_spec h39).2) rfl rfl (Nat.le_of_ble_eq_true rfl) dX11_count_179 (mc_X9_freePlaces _ _ _ _ _ ((dr_spec h39).2) h41)) ?_
    obtain rfl := Option.some.inj hm
    exact j_ireti C dX11_count_182
  replace hm := if_f hm h37
  by_cases h42 : v1 = 12
  · replace hm := if_t hm h42
    refine j_tabI C (tgt := 183) 12 dX11_count_1 (by rw [h42]; first | done | rfl) (by decide) (by decide) rfl (by decide) ?_
    refine j_aload_n C 0 dX11_count_183 rfl ?_
    obtain ⟨q43, h44, hm⟩ := bd_some hm
    refine j_getR C fg_X11_19_10 hv0 (dr_spec h44).1 dX11_count_184 ?_
    obtain ⟨r45, h46, hm⟩ := bd_some hm
    refine call_I (run_LV C lk_X11_408 ⟨rfl, rfl, Nat.le_of_ble_eq_true rfl, Nat.le_of_ble_eq_true rfl⟩ (As := []) ((dr_spec h44).2) rfl rfl (Nat.le_of_ble_eq_true rfl) dX11_count_187 (mc_X9_allWork _ _ _ _ _ ((dr_spec h44).2) h46)) ?_
    obtain rfl := Option.some.inj hm
    exact j_ireti C dX11_count_190
  replace hm := if_f hm h42
  by_cases h47 : v1 = 13
  · replace hm := if_t hm h47
    refine j_tabI C (tgt := 191) 13 dX11_count_1 (by rw [h47]; first | done | rfl) (by decide) (by decide) rfl (by decide) ?_
    refine j_aload_n C 0 dX11_count_191 rfl ?_
    obtain ⟨q48, h49, hm⟩ := bd_some hm
    refine j_getR C fg_X11_19_10 hv0 (dr_spec h49).1 dX11_count_192 ?_
    obtain ⟨q50, h51, hm⟩ := bd_some hm
    refine j_getR C fg_X11_373_8 ((dr_spec h49).2) (dr_spec h51).1 dX11_count_195 ?_
    refine j_getI C fg_X11_411_4 ((dr_spec h51).2) dX11_count_198 ?_
    obtain rfl := Option.some.inj hm
    exact j_ireti C dX11_count_201
  replace hm := if_f hm h47
  by_cases h52 : v1 = 14
  · replace hm := if_t hm h52
    refine j_tabI C (tgt := 202) 14 dX11_count_1 (by rw [h52]; first | done | rfl) (by decide) (by decide) rfl (by decide) ?_
    refine j_aload_n C 0 dX11_count_202 rfl ?_
    obtain ⟨q53, h54, hm⟩ := bd_some hm
    refine j_getR C fg_X11_63_10 hv0 (dr_spec h54).1 dX11_count_203 ?_
    refine j_getI C fg_X11_414_5 ((dr_spec h54).2) dX11_count_206 ?_
    obtain rfl := Option.some.inj hm
    exact j_ireti C dX11_count_209
  replace hm := if_f hm h52
  refine j_tabO C (tgt := 210) dX11_count_1 (sw_out v1 [0, 1, 2, 3, 4, 5, 6, 7, 8, 9, 10, 11, 12, 13, 14] (by decide +kernel) ?_) (by decide) ?_
  · simp only [List.mem_cons, List.not_mem_nil, or_false, not_or]; exact ⟨h1, h4, h7, h10, h13, h17, h20, h23, h26, h29, h32, h37, h42, h47, h52⟩
  refine j_iconst C (v := -1) dX11_count_210 rfl ?_
  obtain rfl := Option.some.inj hm
  exact j_ireti C dX11_count_211
set_option maxRecDepth 20000 in
set_option maxHeartbeats 4000000 in
theorem mc_X11_count (l : Launch) (N : Nat) (Λ : Lay) (μ : Mem) (v0 : Nat) (v1 : Int32) (hv0 : inL Λ v0 10) {r : Int32} (hm : m_X11_count N Λ μ v0 v1 = some r) : MI l yX11_count cX11_count 2 (some .int) rm_X11_count Λ [.ref v0, .int v1] μ r μ := mi_of rfl (Nat.le_of_ble_eq_true rfl) (fun x C _ => tm_X11_count C _ _ _ _ hv0 hm)

abbrev rm_X12_isNumberNext : Room := { frames := 2, cells := 0, slots := 0, locals := 42 }
set_option maxRecDepth 20000 in
set_option maxHeartbeats 4000000 in
theorem tm_X12_isNumberNext {x : Ctx} {Λ : Lay} (C : Cx x cX12_isNumberNext 1 (some .boolean) RX12 Λ rm_X12_isNumberNext) (N : Nat) (μ : Mem) (v0 : Nat) (hv0 : inL Λ v0 11) {r : Int32 × Mem} (hm : m_X12_isNumberNext N Λ μ v0 = some r) : J x 1 Λ (QI x Λ r.1 r.2) 0 [(0, .ref v0)] [] μ := by
  refine j_aload_n C 0 dX12_isNumberNext_0 rfl ?_
  obtain ⟨r1, h2, hm⟩ := bd_some hm
  refine call_V (run_LV C lk_X12_124 ⟨rfl, rfl, Nat.le_of_ble_eq_true rfl, Nat.le_of_ble_eq_true rfl⟩ (As := []) hv0 rfl rfl (Nat.le_of_ble_eq_true rfl) dX12_isNumberNext_1 (mc_X12_blanks _ _ _ _ _ hv0 h2)) ?_
  refine j_aload_n C 0 dX12_isNumberNext_4 rfl ?_
  refine j_bipush C (v := 48) dX12_isNumberNext_5 rfl ?_
  refine j_bipush C (v := 57) dX12_isNumberNext_7 rfl ?_
  obtain ⟨r3, h4, hm⟩ := bd_some hm
  refine call_I (run_LV C lk_X12_117 ⟨rfl, rfl, Nat.le_of_ble_eq_true rfl, Nat.le_of_ble_eq_true rfl⟩ (As := [.int 48, .int 57]) hv0 rfl rfl (Nat.le_of_ble_eq_true rfl) dX12_isNumberNext_9 (mc_X12_isAt _ _ _ _ _ _ _ hv0 h4)) ?_
  obtain ⟨h5, hm⟩ := gd_some hm
  obtain rfl := Option.some.inj hm
  exact j_iretz C h5 dX12_isNumberNext_12
set_option maxRecDepth 20000 in
set_option maxHeartbeats 4000000 in
theorem mc_X12_isNumberNext (l : Launch) (N : Nat) (Λ : Lay) (μ : Mem) (v0 : Nat) (hv0 : inL Λ v0 11) {r : Int32 × Mem} (hm : m_X12_isNumberNext N Λ μ v0 = some r) : MI l yX12_isNumberNext cX12_isNumberNext 1 (some .boolean) rm_X12_isNumberNext Λ [.ref v0] μ r.1 r.2 := mi_of rfl (Nat.le_of_ble_eq_true rfl) (fun x C _ => tm_X12_isNumberNext C _ _ _ hv0 hm)
abbrev rm_X12_fault : Room := { frames := 0, cells := 0, slots := 0, locals := 0 }
set_option maxRecDepth 20000 in
set_option maxHeartbeats 4000000 in
theorem tm_X12_fault {x : Ctx} {Λ : Lay} (C : Cx x cX12_fault 1 (some .int) RX12 Λ rm_X12_fault) (N : Nat) (μ : Mem) (v0 : Nat) (hv0 : inL Λ v0 11) {r : Int32 × Mem} (hm : m_X12_fault N Λ μ v0 = some r) : J x 1 Λ (QI x Λ r.1 r.2) 0 [(0, .ref v0)] [] μ := by
  refine j_aload_n C 0 dX12_fault_0 rfl ?_
  refine j_iconst C (v := 0) dX12_fault_1 rfl ?_
  obtain ⟨μ1, e2, hm⟩ := lt_some hm
  refine j_putI C fp_X12_3_11 hv0 e2 dX12_fault_2 ?_
  refine j_aload_n C 0 dX12_fault_5 rfl ?_
  refine j_getI C fg_X12_33_11 hv0 dX12_fault_6 ?_
  obtain rfl := Option.some.inj hm
  exact j_ireti C dX12_fault_9
set_option maxRecDepth 20000 in
set_option maxHeartbeats 4000000 in
theorem mc_X12_fault (l : Launch) (N : Nat) (Λ : Lay) (μ : Mem) (v0 : Nat) (hv0 : inL Λ v0 11) {r : Int32 × Mem} (hm : m_X12_fault N Λ μ v0 = some r) : MI l yX12_fault cX12_fault 1 (some .int) rm_X12_fault Λ [.ref v0] μ r.1 r.2 := mi_of rfl (Nat.le_of_ble_eq_true rfl) (fun x C _ => tm_X12_fault C _ _ _ hv0 hm)
abbrev rm_X12_uses : Room := { frames := 0, cells := 0, slots := 0, locals := 0 }
set_option maxRecDepth 20000 in
set_option maxHeartbeats 4000000 in
theorem tm_X12_uses {x : Ctx} {Λ : Lay} (C : Cx x cX12_uses 1 none RX12 Λ rm_X12_uses) (N : Nat) (μ : Mem) (v0 : Nat) (hv0 : inL Λ v0 11) {r : Mem} (hm : m_X12_uses N Λ μ v0 = some r) : J x 1 Λ (QV x Λ r) 0 [(0, .ref v0)] [] μ := by
  refine j_aload_n C 0 dX12_uses_0 rfl ?_
  refine j_iconst C (v := 0) dX12_uses_1 rfl ?_
  obtain ⟨μ1, e2, hm⟩ := lt_some hm
  refine j_putI C fp_X12_3_11 hv0 e2 dX12_uses_2 ?_
  refine j_aload_n C 0 dX12_uses_5 rfl ?_
  refine j_aload_n C 0 dX12_uses_6 rfl ?_
  refine j_getI C fg_X12_108_11 hv0 dX12_uses_7 ?_
  obtain ⟨μ3, e4, hm⟩ := lt_some hm
  refine j_putI C fp_X12_114_11 hv0 e4 dX12_uses_10 ?_
  refine j_aload_n C 0 dX12_uses_13 rfl ?_
  refine j_iconst C (v := 0) dX12_uses_14 rfl ?_
  obtain ⟨μ5, e6, hm⟩ := lt_some hm
  refine j_putI C fp_X12_108_11 hv0 e6 dX12_uses_15 ?_
  refine j_aload_n C 0 dX12_uses_18 rfl ?_
  refine j_iconst C (v := 0) dX12_uses_19 rfl ?_
  obtain ⟨μ7, e8, hm⟩ := lt_some hm
  refine j_putI C fp_X12_111_11 hv0 e8 dX12_uses_20 ?_
  obtain rfl := Option.some.inj hm
  exact j_vret C dX12_uses_23
set_option maxRecDepth 20000 in
set_option maxHeartbeats 4000000 in
theorem mc_X12_uses (l : Launch) (N : Nat) (Λ : Lay) (μ : Mem) (v0 : Nat) (hv0 : inL Λ v0 11) {r : Mem} (hm : m_X12_uses N Λ μ v0 = some r) : MV l yX12_uses cX12_uses 1 rm_X12_uses Λ [.ref v0] μ r := mv_of rfl (Nat.le_of_ble_eq_true rfl) (fun x C _ => tm_X12_uses C _ _ _ hv0 hm)
abbrev rm_X12_readNumber : Room := { frames := 3, cells := 0, slots := 0, locals := 65 }
set_option maxRecDepth 20000 in
set_option maxHeartbeats 4000000 in
theorem tj_X12_readNumber_40 {x : Ctx} {Λ : Lay} (C : Cx x cX12_readNumber 5 (some .boolean) RX12 Λ rm_X12_readNumber) (N : Nat) (μ : Mem) (s0 : Int32) {r : Int32 × Mem} (hm : jn_X12_readNumber_40 N Λ μ s0 = some r) : J x 5 Λ (QI x Λ r.1 r.2) 40 [] [.int s0] μ := by
  obtain ⟨h1, hm⟩ := gd_some hm
  obtain rfl := Option.some.inj hm
  exact j_iretz C h1 dX12_readNumber_40
set_option maxRecDepth 20000 in
set_option maxHeartbeats 4000000 in
theorem tj_X12_readNumber_29 {x : Ctx} {Λ : Lay} (C : Cx x cX12_readNumber 5 (some .boolean) RX12 Λ rm_X12_readNumber) (N : Nat) (μ : Mem) (v4 : Int32) (s0 : Nat) (s1 : Int32) (s2 : Int32) (hs0 : inL Λ s0 13) {r : Int32 × Mem} (hm : jn_X12_readNumber_29 N Λ μ v4 s0 s1 s2 = some r) : J x 5 Λ (QI x Λ r.1 r.2) 29 [(4, .int v4)] [.int s2, .int s1, .ref s0] μ := by
  obtain ⟨h1, hm⟩ := gd_some hm
  obtain ⟨μ2, e3, hm⟩ := lt_some hm
  refine j_iast C hs0 h1 e3 dX12_readNumber_29 ?_
  refine j_iload C 0 dX12_readNumber_30 rfl ?_
  refine j_if_lt C (tgt := 39) dX12_readNumber_32 (by decide) (fun h4 => ?_) (fun h4 => ?_)
  · replace hm := if_t hm h4
    refine j_iconst C (v := 0) dX12_readNumber_39 rfl ?_
    refine j_sub [] rfl ?_
    exact tj_X12_readNumber_40 C _ _ _  hm
  · replace hm := if_f hm h4
    refine j_iconst C (v := 1) dX12_readNumber_35 rfl ?_
    refine j_goto C (tgt := 40) dX12_readNumber_36 (by decide) ?_
    refine j_sub [] rfl ?_
    exact tj_X12_readNumber_40 C _ _ _  hm
set_option maxRecDepth 20000 in
set_option maxHeartbeats 4000000 in
theorem tm_X12_readNumber {x : Ctx} {Λ : Lay} (C : Cx x cX12_readNumber 5 (some .boolean) RX12 Λ rm_X12_readNumber) (N : Nat) (μ : Mem) (v0 : Nat) (v1 : Int32) (v2 : Int32) (v3 : Int32) (hv0 : inL Λ v0 11) {r : Int32 × Mem} (hm : m_X12_readNumber N Λ μ v0 v1 v2 v3 = some r) : J x 5 Λ (QI x Λ r.1 r.2) 0 [(0, .ref v0), (1, .int v1), (2, .int v2), (3, .int v3)] [] μ := by
  refine j_aload_n C 0 dX12_readNumber_0 rfl ?_
  refine j_iload_n C 2 dX12_readNumber_1 rfl ?_
  refine j_iload_n C 3 dX12_readNumber_2 rfl ?_
  obtain ⟨r1, h2, hm⟩ := bd_some hm
  refine call_I (run_LV C lk_X12_143 ⟨rfl, rfl, Nat.le_of_ble_eq_true rfl, Nat.le_of_ble_eq_true rfl⟩ (As := [.int v2, .int v3]) hv0 rfl rfl (Nat.le_of_ble_eq_true rfl) dX12_readNumber_3 (mc_X12_number _ _ _ _ _ _ _ hv0 h2)) ?_
  refine j_istore C (lv' := [(4, .int r1.1), (0, .ref v0), (1, .int v1), (2, .int v2), (3, .int v3)]) dX12_readNumber_6 (by decide) rfl ?_
  refine j_aload_n C 1 dX12_readNumber_8 rfl ?_
  obtain ⟨q3, h4, hm⟩ := bd_some hm
  refine j_getR C fg_X12_13_11 hv0 (dr_spec h4).1 dX12_readNumber_9 ?_
  refine j_iload_n C 2 dX12_readNumber_12 rfl ?_
  refine j_iload C 0 dX12_readNumber_13 rfl ?_
  refine j_if_ge C (tgt := 27) dX12_readNumber_15 (by decide) (fun h5 => ?_) (fun h5 => ?_)
  · replace hm := if_t hm h5
    refine j_iload C 0 dX12_readNumber_27 rfl ?_
    refine j_sub [0] rfl ?_
    exact tj_X12_readNumber_29 C _ _ _ _ _ _ ((dr_spec h4).2) hm
  · replace hm := if_f hm h5
    refine j_aload_n C 1 dX12_readNumber_18 rfl ?_
    obtain ⟨q6, h7, hm⟩ := bd_some hm
    refine j_getR C fg_X12_13_11 hv0 (dr_spec h7).1 dX12_readNumber_19 ?_
    refine j_iload_n C 2 dX12_readNumber_22 rfl ?_
    obtain ⟨h8, hm⟩ := gd_some hm
    refine j_iald C ((dr_spec h7).2) h8 dX12_readNumber_23 ?_
    refine j_goto C (tgt := 29) dX12_readNumber_24 (by decide) ?_
    refine j_sub [0] rfl ?_
    exact tj_X12_readNumber_29 C _ _ _ _ _ _ ((dr_spec h4).2) hm
set_option maxRecDepth 20000 in
set_option maxHeartbeats 4000000 in
theorem mc_X12_readNumber (l : Launch) (N : Nat) (Λ : Lay) (μ : Mem) (v0 : Nat) (v1 : Int32) (v2 : Int32) (v3 : Int32) (hv0 : inL Λ v0 11) {r : Int32 × Mem} (hm : m_X12_readNumber N Λ μ v0 v1 v2 v3 = some r) : MI l yX12_readNumber cX12_readNumber 5 (some .boolean) rm_X12_readNumber Λ [.ref v0, .int v1, .int v2, .int v3] μ r.1 r.2 := mi_of rfl (Nat.le_of_ble_eq_true rfl) (fun x C _ => tm_X12_readNumber C _ _ _ _ _ _ hv0 hm)
abbrev rm_X12_isShip : Room := { frames := 1, cells := 0, slots := 0, locals := 21 }
set_option maxRecDepth 20000 in
set_option maxHeartbeats 4000000 in
theorem tm_X12_isShip {x : Ctx} {Λ : Lay} (C : Cx x cX12_isShip 5 none RX12 Λ rm_X12_isShip) (N : Nat) (μ : Mem) (v0 : Nat) (v1 : Int32) (v2 : Int32) (v3 : Int32) (hv0 : inL Λ v0 11) {r : Mem} (hm : m_X12_isShip N Λ μ v0 v1 v2 v3 = some r) : J x 5 Λ (QV x Λ r) 0 [(0, .ref v0), (1, .int v1), (2, .int v2), (3, .int v3)] [] μ := by
  refine j_aload_n C 0 dX12_isShip_0 rfl ?_
  obtain ⟨r1, h2, hm⟩ := bd_some hm
  refine call_I (run_LV C lk_X12_95 ⟨rfl, rfl, Nat.le_of_ble_eq_true rfl, Nat.le_of_ble_eq_true rfl⟩ (As := []) hv0 rfl rfl (Nat.le_of_ble_eq_true rfl) dX12_isShip_1 (mc_X12_ships _ _ _ _ _ hv0 h2)) ?_
  refine j_istore C (lv' := [(4, .int r1), (0, .ref v0), (1, .int v1), (2, .int v2), (3, .int v3)]) dX12_isShip_4 (by decide) rfl ?_
  refine j_aload_n C 1 dX12_isShip_6 rfl ?_
  obtain ⟨q3, h4, hm⟩ := bd_some hm
  refine j_getR C fg_X12_13_11 hv0 (dr_spec h4).1 dX12_isShip_7 ?_
  refine j_iload C 0 dX12_isShip_10 rfl ?_
  refine j_iconst C (v := 0) dX12_isShip_12 rfl ?_
  obtain ⟨r5, h6, hm⟩ := bd_some hm
  refine call_I (run_LS C ls_X12_81 ⟨rfl, rfl, Nat.le_of_ble_eq_true rfl, Nat.le_of_ble_eq_true rfl⟩ (As := [.int r1, .int 0]) rfl rfl (Nat.le_of_ble_eq_true rfl) dX12_isShip_13 (mc_X12_shipAt _ _ _ _ _ _  h6)) ?_
  refine j_iload_n C 2 dX12_isShip_16 rfl ?_
  obtain ⟨h7, hm⟩ := gd_some hm
  obtain ⟨μ8, e9, hm⟩ := lt_some hm
  refine j_iast C ((dr_spec h4).2) h7 e9 dX12_isShip_17 ?_
  refine j_aload_n C 1 dX12_isShip_18 rfl ?_
  obtain ⟨q10, h11, hm⟩ := bd_some hm
  refine j_getR C fg_X12_13_11 hv0 (dr_spec h11).1 dX12_isShip_19 ?_
  refine j_iload C 0 dX12_isShip_22 rfl ?_
  refine j_iconst C (v := 1) dX12_isShip_24 rfl ?_
  obtain ⟨r12, h13, hm⟩ := bd_some hm
  refine call_I (run_LS C ls_X12_81 ⟨rfl, rfl, Nat.le_of_ble_eq_true rfl, Nat.le_of_ble_eq_true rfl⟩ (As := [.int r1, .int 1]) rfl rfl (Nat.le_of_ble_eq_true rfl) dX12_isShip_25 (mc_X12_shipAt _ _ _ _ _ _  h13)) ?_
  refine j_iload_n C 3 dX12_isShip_28 rfl ?_
  obtain ⟨h14, hm⟩ := gd_some hm
  obtain ⟨μ15, e16, hm⟩ := lt_some hm
  refine j_iast C ((dr_spec h11).2) h14 e16 dX12_isShip_29 ?_
  refine j_aload_n C 1 dX12_isShip_30 rfl ?_
  obtain ⟨q17, h18, hm⟩ := bd_some hm
  refine j_getR C fg_X12_13_11 hv0 (dr_spec h18).1 dX12_isShip_31 ?_
  refine j_iload C 0 dX12_isShip_34 rfl ?_
  refine j_iconst C (v := 2) dX12_isShip_36 rfl ?_
  obtain ⟨r19, h20, hm⟩ := bd_some hm
  refine call_I (run_LS C ls_X12_81 ⟨rfl, rfl, Nat.le_of_ble_eq_true rfl, Nat.le_of_ble_eq_true rfl⟩ (As := [.int r1, .int 2]) rfl rfl (Nat.le_of_ble_eq_true rfl) dX12_isShip_37 (mc_X12_shipAt _ _ _ _ _ _  h20)) ?_
  refine j_iload_n C 4 dX12_isShip_40 rfl ?_
  obtain ⟨h21, hm⟩ := gd_some hm
  obtain ⟨μ22, e23, hm⟩ := lt_some hm
  refine j_iast C ((dr_spec h18).2) h21 e23 dX12_isShip_41 ?_
  refine j_aload_n C 1 dX12_isShip_42 rfl ?_
  obtain ⟨q24, h25, hm⟩ := bd_some hm
  refine j_getR C fg_X12_13_11 hv0 (dr_spec h25).1 dX12_isShip_43 ?_
  refine j_iload C 0 dX12_isShip_46 rfl ?_
  refine j_iconst C (v := 3) dX12_isShip_48 rfl ?_
  obtain ⟨r26, h27, hm⟩ := bd_some hm
  refine call_I (run_LS C ls_X12_81 ⟨rfl, rfl, Nat.le_of_ble_eq_true rfl, Nat.le_of_ble_eq_true rfl⟩ (As := [.int r1, .int 3]) rfl rfl (Nat.le_of_ble_eq_true rfl) dX12_isShip_49 (mc_X12_shipAt _ _ _ _ _ _  h27)) ?_
  refine j_iconst C (v := 0) dX12_isShip_52 rfl ?_
  obtain ⟨h28, hm⟩ := gd_some hm
  obtain ⟨μ29, e30, hm⟩ := lt_some hm
  refine j_iast C ((dr_spec h25).2) h28 e30 dX12_isShip_53 ?_
  refine j_aload_n C 1 dX12_isShip_54 rfl ?_
  obtain ⟨q31, h32, hm⟩ := bd_some hm
  refine j_getR C fg_X12_13_11 hv0 (dr_spec h32).1 dX12_isShip_55 ?_
  refine j_iload C 0 dX12_isShip_58 rfl ?_
  refine j_iconst C (v := 4) dX12_isShip_60 rfl ?_
  obtain ⟨r33, h34, hm⟩ := bd_some hm
  refine call_I (run_LS C ls_X12_81 ⟨rfl, rfl, Nat.le_of_ble_eq_true rfl, Nat.le_of_ble_eq_true rfl⟩ (As := [.int r1, .int 4]) rfl rfl (Nat.le_of_ble_eq_true rfl) dX12_isShip_61 (mc_X12_shipAt _ _ _ _ _ _  h34)) ?_
  refine j_iconst C (v := -1) dX12_isShip_64 rfl ?_
  obtain ⟨h35, hm⟩ := gd_some hm
  obtain ⟨μ36, e37, hm⟩ := lt_some hm
  refine j_iast C ((dr_spec h32).2) h35 e37 dX12_isShip_65 ?_
  refine j_aload_n C 1 dX12_isShip_66 rfl ?_
  obtain ⟨q38, h39, hm⟩ := bd_some hm
  refine j_getR C fg_X12_13_11 hv0 (dr_spec h39).1 dX12_isShip_67 ?_
  refine j_iload C 0 dX12_isShip_70 rfl ?_
  refine j_iconst C (v := 5) dX12_isShip_72 rfl ?_
  obtain ⟨r40, h41, hm⟩ := bd_some hm
  refine call_I (run_LS C ls_X12_81 ⟨rfl, rfl, Nat.le_of_ble_eq_true rfl, Nat.le_of_ble_eq_true rfl⟩ (As := [.int r1, .int 5]) rfl rfl (Nat.le_of_ble_eq_true rfl) dX12_isShip_73 (mc_X12_shipAt _ _ _ _ _ _  h41)) ?_
  refine j_iconst C (v := 0) dX12_isShip_76 rfl ?_
  obtain ⟨h42, hm⟩ := gd_some hm
  obtain ⟨μ43, e44, hm⟩ := lt_some hm
  refine j_iast C ((dr_spec h39).2) h42 e44 dX12_isShip_77 ?_
  refine j_aload_n C 1 dX12_isShip_78 rfl ?_
  obtain ⟨q45, h46, hm⟩ := bd_some hm
  refine j_getR C fg_X12_13_11 hv0 (dr_spec h46).1 dX12_isShip_79 ?_
  refine j_iconst C (v := 0) dX12_isShip_82 rfl ?_
  refine j_dup2 C dX12_isShip_83 rfl rfl ?_
  obtain ⟨h47, hm⟩ := gd_some hm
  refine j_iald C ((dr_spec h46).2) h47 dX12_isShip_84 ?_
  refine j_iconst C (v := 1) dX12_isShip_85 rfl ?_
  refine j_iadd C dX12_isShip_86 ?_
  obtain ⟨h48, hm⟩ := gd_some hm
  obtain ⟨μ49, e50, hm⟩ := lt_some hm
  refine j_iast C ((dr_spec h46).2) h48 e50 dX12_isShip_87 ?_
  obtain rfl := Option.some.inj hm
  exact j_vret C dX12_isShip_88
set_option maxRecDepth 20000 in
set_option maxHeartbeats 4000000 in
theorem mc_X12_isShip (l : Launch) (N : Nat) (Λ : Lay) (μ : Mem) (v0 : Nat) (v1 : Int32) (v2 : Int32) (v3 : Int32) (hv0 : inL Λ v0 11) {r : Mem} (hm : m_X12_isShip N Λ μ v0 v1 v2 v3 = some r) : MV l yX12_isShip cX12_isShip 5 rm_X12_isShip Λ [.ref v0, .int v1, .int v2, .int v3] μ r := mv_of rfl (Nat.le_of_ble_eq_true rfl) (fun x C _ => tm_X12_isShip C _ _ _ _ _ _ hv0 hm)
abbrev rm_X12_readShip : Room := { frames := 7, cells := 0, slots := 0, locals := 158 }
set_option maxRecDepth 20000 in
set_option maxHeartbeats 4000000 in
theorem tj_X12_readShip_113 {x : Ctx} {Λ : Lay} (C : Cx x cX12_readShip 6 (some .boolean) RX12 Λ rm_X12_readShip) (N : Nat) (μ : Mem) {r : Int32 × Mem} (hm : jn_X12_readShip_113 N Λ μ = some r) : J x 6 Λ (QI x Λ r.1 r.2) 113 [] [] μ := by
  refine j_iconst C (v := 0) dX12_readShip_113 rfl ?_
  obtain rfl := Option.some.inj hm
  exact j_iretz C rfl dX12_readShip_114
set_option maxRecDepth 20000 in
set_option maxHeartbeats 4000000 in
theorem tj_X12_readShip_40 {x : Ctx} {Λ : Lay} (C : Cx x cX12_readShip 6 (some .boolean) RX12 Λ rm_X12_readShip) (N : Nat) (μ : Mem) (v0 : Nat) (v1 : Int32) (v2 : Int32) (s0 : Int32) (hv0 : inL Λ v0 11) {r : Int32 × Mem} (hm : jn_X12_readShip_40 N Λ μ v0 v1 v2 s0 = some r) : J x 6 Λ (QI x Λ r.1 r.2) 40 [(0, .ref v0), (1, .int v1), (2, .int v2)] [.int s0] μ := by
  refine j_istore_n C (lv' := [(3, .int s0), (0, .ref v0), (1, .int v1), (2, .int v2)]) dX12_readShip_40 (by decide) rfl ?_
  refine j_iload_n C 0 dX12_readShip_41 rfl ?_
  refine j_if_ge C (tgt := 47) dX12_readShip_42 (by decide) (fun h1 => ?_) (fun h1 => ?_)
  · replace hm := if_t hm h1
    refine j_aload_n C 1 dX12_readShip_47 rfl ?_
    refine j_ldcS C (i := 22) (tx := "work") (List.mem_of_getElem? (i := 33) rfl) dX12_readShip_48 ?_
    refine j_bipush C (v := 99) dX12_readShip_50 rfl ?_
    refine j_iconst C (v := 0) dX12_readShip_52 rfl ?_
    obtain ⟨r2, h3, hm⟩ := bd_some hm
    refine call_I (run_LV C lk_X12_159 ⟨rfl, rfl, Nat.le_of_ble_eq_true rfl, Nat.le_of_ble_eq_true rfl⟩ (As := [.ref (sK Λ 22), .int 99, .int 0]) hv0 rfl rfl (Nat.le_of_ble_eq_true rfl) dX12_readShip_53 (mc_X12_told _ _ _ _ _ _ _ _ hv0 ((by decide)) h3)) ?_
    refine j_istore C (lv' := [(4, .int r2.1), (3, .int s0), (0, .ref v0), (1, .int v1), (2, .int v2)]) dX12_readShip_56 (by decide) rfl ?_
    refine j_iload C 0 dX12_readShip_58 rfl ?_
    refine j_ldc C (v := 100000000) wk_1722 dX12_readShip_60 ?_
    refine j_icmp_ne C (tgt := 67) dX12_readShip_62 (by decide) (fun h4 => ?_) (fun h4 => ?_)
    · replace hm := if_f hm h4
      refine j_aload_n C 2 dX12_readShip_67 rfl ?_
      refine j_iload_n C 4 dX12_readShip_68 rfl ?_
      refine j_iload_n C 1 dX12_readShip_69 rfl ?_
      refine j_iload C 0 dX12_readShip_70 rfl ?_
      obtain ⟨r5, h6, hm⟩ := bd_some hm
      refine call_V (run_LV C lk_X12_162 ⟨rfl, rfl, Nat.le_of_ble_eq_true rfl, Nat.le_of_ble_eq_true rfl⟩ (As := [.int v2, .int s0, .int r2.1]) hv0 rfl rfl (Nat.le_of_ble_eq_true rfl) dX12_readShip_72 (mc_X12_isShip _ _ _ _ _ _ _ _ hv0 h6)) ?_
      refine j_aload_n C 2 dX12_readShip_75 rfl ?_
      refine j_ldcS C (i := 1) (tx := "at") (List.mem_of_getElem? (i := 34) rfl) dX12_readShip_76 ?_
      obtain ⟨r7, h8, hm⟩ := bd_some hm
      refine call_I (run_LV C lk_X12_146 ⟨rfl, rfl, Nat.le_of_ble_eq_true rfl, Nat.le_of_ble_eq_true rfl⟩ (As := [.ref (sK Λ 1)]) hv0 rfl rfl (Nat.le_of_ble_eq_true rfl) dX12_readShip_78 (mc_X12_passes _ _ _ _ _ _ hv0 ((by decide)) h8)) ?_
      refine j_if_ne C (tgt := 86) dX12_readShip_81 (by decide) (fun h9 => ?_) (fun h9 => ?_)
      · replace hm := if_f hm h9
        refine j_aload_n C 2 dX12_readShip_86 rfl ?_
        refine j_iconst C (v := 0) dX12_readShip_87 rfl ?_
        refine j_bipush C (v := 23) dX12_readShip_88 rfl ?_
        obtain ⟨r10, h11, hm⟩ := bd_some hm
        refine call_I (run_LV C lk_X12_143 ⟨rfl, rfl, Nat.le_of_ble_eq_true rfl, Nat.le_of_ble_eq_true rfl⟩ (As := [.int 0, .int 23]) hv0 rfl rfl (Nat.le_of_ble_eq_true rfl) dX12_readShip_90 (mc_X12_number _ _ _ _ _ _ _ hv0 h11)) ?_
        refine j_istore C (lv' := [(5, .int r10.1), (4, .int r2.1), (3, .int s0), (0, .ref v0), (1, .int v1), (2, .int v2)]) dX12_readShip_93 (by decide) rfl ?_
        refine j_iload C 0 dX12_readShip_95 rfl ?_
        refine j_if_lt C (tgt := 113) dX12_readShip_97 (by decide) (fun h12 => ?_) (fun h12 => ?_)
        · replace hm := if_t hm h12
          refine j_sub [] rfl ?_
          exact tj_X12_readShip_113 C _ _  hm
        · replace hm := if_f hm h12
          refine j_aload_n C 3 dX12_readShip_100 rfl ?_
          obtain ⟨r13, h14, hm⟩ := bd_some hm
          refine call_I (run_LV C lk_X12_168 ⟨rfl, rfl, Nat.le_of_ble_eq_true rfl, Nat.le_of_ble_eq_true rfl⟩ (As := []) hv0 rfl rfl (Nat.le_of_ble_eq_true rfl) dX12_readShip_101 (mc_X12_taken _ _ _ _ _ hv0 h14)) ?_
          refine j_iload C 0 dX12_readShip_104 rfl ?_
          refine j_iload_n C 5 dX12_readShip_106 rfl ?_
          obtain ⟨r15, h16, hm⟩ := bd_some hm
          refine call_I (run_LS C ls_X12_171 ⟨rfl, rfl, Nat.le_of_ble_eq_true rfl, Nat.le_of_ble_eq_true rfl⟩ (As := [.int r13, .int r10.1, .int v2]) rfl rfl (Nat.le_of_ble_eq_true rfl) dX12_readShip_107 (mc_X12_fitsIn _ _ _ _ _ _ _  h16)) ?_
          refine j_if_ne C (tgt := 115) dX12_readShip_110 (by decide) (fun h17 => ?_) (fun h17 => ?_)
          · replace hm := if_f hm h17
            refine j_aload_n C 3 dX12_readShip_115 rfl ?_
            obtain ⟨q18, h19, hm⟩ := bd_some hm
            refine j_getR C fg_X12_13_11 hv0 (dr_spec h19).1 dX12_readShip_116 ?_
            refine j_iload_n C 4 dX12_readShip_119 rfl ?_
            refine j_iconst C (v := 3) dX12_readShip_120 rfl ?_
            obtain ⟨r20, h21, hm⟩ := bd_some hm
            refine call_I (run_LS C ls_X12_81 ⟨rfl, rfl, Nat.le_of_ble_eq_true rfl, Nat.le_of_ble_eq_true rfl⟩ (As := [.int v1, .int 3]) rfl rfl (Nat.le_of_ble_eq_true rfl) dX12_readShip_121 (mc_X12_shipAt _ _ _ _ _ _  h21)) ?_
            refine j_iconst C (v := 1) dX12_readShip_124 rfl ?_
            obtain ⟨h22, hm⟩ := gd_some hm
            obtain ⟨μ23, e24, hm⟩ := lt_some hm
            refine j_iast C ((dr_spec h19).2) h22 e24 dX12_readShip_125 ?_
            refine j_aload_n C 3 dX12_readShip_126 rfl ?_
            obtain ⟨q25, h26, hm⟩ := bd_some hm
            refine j_getR C fg_X12_13_11 hv0 (dr_spec h26).1 dX12_readShip_127 ?_
            refine j_iload_n C 4 dX12_readShip_130 rfl ?_
            refine j_iconst C (v := 4) dX12_readShip_131 rfl ?_
            obtain ⟨r27, h28, hm⟩ := bd_some hm
            refine call_I (run_LS C ls_X12_81 ⟨rfl, rfl, Nat.le_of_ble_eq_true rfl, Nat.le_of_ble_eq_true rfl⟩ (As := [.int v1, .int 4]) rfl rfl (Nat.le_of_ble_eq_true rfl) dX12_readShip_132 (mc_X12_shipAt _ _ _ _ _ _  h28)) ?_
            refine j_iload C 0 dX12_readShip_135 rfl ?_
            obtain ⟨h29, hm⟩ := gd_some hm
            obtain ⟨μ30, e31, hm⟩ := lt_some hm
            refine j_iast C ((dr_spec h26).2) h29 e31 dX12_readShip_137 ?_
            refine j_iconst C (v := 1) dX12_readShip_138 rfl ?_
            obtain rfl := Option.some.inj hm
            exact j_iretz C rfl dX12_readShip_139
          · replace hm := if_t hm h17
            refine j_sub [] rfl ?_
            exact tj_X12_readShip_113 C _ _  hm
      · replace hm := if_t hm h9
        refine j_iconst C (v := 1) dX12_readShip_84 rfl ?_
        obtain rfl := Option.some.inj hm
        exact j_iretz C rfl dX12_readShip_85
    · replace hm := if_t hm h4
      refine j_iconst C (v := 0) dX12_readShip_65 rfl ?_
      obtain rfl := Option.some.inj hm
      exact j_iretz C rfl dX12_readShip_66
  · replace hm := if_f hm h1
    refine j_iconst C (v := 0) dX12_readShip_45 rfl ?_
    obtain rfl := Option.some.inj hm
    exact j_iretz C rfl dX12_readShip_46
set_option maxRecDepth 20000 in
set_option maxHeartbeats 4000000 in
theorem tm_X12_readShip {x : Ctx} {Λ : Lay} (C : Cx x cX12_readShip 6 (some .boolean) RX12 Λ rm_X12_readShip) (N : Nat) (μ : Mem) (v0 : Nat) (hv0 : inL Λ v0 11) {r : Int32 × Mem} (hm : m_X12_readShip N Λ μ v0 = some r) : J x 6 Λ (QI x Λ r.1 r.2) 0 [(0, .ref v0)] [] μ := by
  refine j_aload_n C 0 dX12_readShip_0 rfl ?_
  obtain ⟨r1, h2, hm⟩ := bd_some hm
  refine call_I (run_LV C lk_X12_95 ⟨rfl, rfl, Nat.le_of_ble_eq_true rfl, Nat.le_of_ble_eq_true rfl⟩ (As := []) hv0 rfl rfl (Nat.le_of_ble_eq_true rfl) dX12_readShip_1 (mc_X12_ships _ _ _ _ _ hv0 h2)) ?_
  refine j_istore_n C (lv' := [(1, .int r1), (0, .ref v0)]) dX12_readShip_4 (by decide) rfl ?_
  refine j_iload_n C 0 dX12_readShip_5 rfl ?_
  refine j_bipush C (v := 8) dX12_readShip_6 rfl ?_
  refine j_icmp_ne C (tgt := 13) dX12_readShip_8 (by decide) (fun h3 => ?_) (fun h3 => ?_)
  · replace hm := if_f hm h3
    refine j_aload_n C 1 dX12_readShip_13 rfl ?_
    refine j_ldcS C (i := 11) (tx := "length") (List.mem_of_getElem? (i := 31) rfl) dX12_readShip_14 ?_
    refine j_iconst C (v := 1) dX12_readShip_16 rfl ?_
    refine j_bipush C (v := 12) dX12_readShip_17 rfl ?_
    obtain ⟨r4, h5, hm⟩ := bd_some hm
    refine call_I (run_LV C lk_X12_151 ⟨rfl, rfl, Nat.le_of_ble_eq_true rfl, Nat.le_of_ble_eq_true rfl⟩ (As := [.ref (sK Λ 11), .int 1, .int 12]) hv0 rfl rfl (Nat.le_of_ble_eq_true rfl) dX12_readShip_19 (mc_X12_behind _ _ _ _ _ _ _ _ hv0 ((by decide)) h5)) ?_
    refine j_istore_n C (lv' := [(2, .int r4.1), (1, .int r1), (0, .ref v0)]) dX12_readShip_22 (by decide) rfl ?_
    refine j_iload_n C 0 dX12_readShip_23 rfl ?_
    refine j_if_ge C (tgt := 31) dX12_readShip_24 (by decide) (fun h6 => ?_) (fun h6 => ?_)
    · replace hm := if_t hm h6
      refine j_aload_n C 2 dX12_readShip_31 rfl ?_
      refine j_ldcS C (i := 3) (tx := "draught") (List.mem_of_getElem? (i := 32) rfl) dX12_readShip_32 ?_
      refine j_iconst C (v := 1) dX12_readShip_34 rfl ?_
      refine j_bipush C (v := 20) dX12_readShip_35 rfl ?_
      obtain ⟨r7, h8, hm⟩ := bd_some hm
      refine call_I (run_LV C lk_X12_151 ⟨rfl, rfl, Nat.le_of_ble_eq_true rfl, Nat.le_of_ble_eq_true rfl⟩ (As := [.ref (sK Λ 3), .int 1, .int 20]) hv0 rfl rfl (Nat.le_of_ble_eq_true rfl) dX12_readShip_37 (mc_X12_behind _ _ _ _ _ _ _ _ hv0 ((by decide)) h8)) ?_
      refine j_sub [2, 1, 0] rfl ?_
      exact tj_X12_readShip_40 C _ _ _ _ _ _ hv0 hm
    · replace hm := if_f hm h6
      refine j_iconst C (v := -1) dX12_readShip_27 rfl ?_
      refine j_goto C (tgt := 40) dX12_readShip_28 (by decide) ?_
      refine j_sub [2, 1, 0] rfl ?_
      exact tj_X12_readShip_40 C _ _ _ _ _ _ hv0 hm
  · replace hm := if_t hm h3
    refine j_iconst C (v := 0) dX12_readShip_11 rfl ?_
    obtain rfl := Option.some.inj hm
    exact j_iretz C rfl dX12_readShip_12
set_option maxRecDepth 20000 in
set_option maxHeartbeats 4000000 in
theorem mc_X12_readShip (l : Launch) (N : Nat) (Λ : Lay) (μ : Mem) (v0 : Nat) (hv0 : inL Λ v0 11) {r : Int32 × Mem} (hm : m_X12_readShip N Λ μ v0 = some r) : MI l yX12_readShip cX12_readShip 6 (some .boolean) rm_X12_readShip Λ [.ref v0] μ r.1 r.2 := mi_of rfl (Nat.le_of_ble_eq_true rfl) (fun x C _ => tm_X12_readShip C _ _ _ hv0 hm)
abbrev rm_X12_readTide : Room := { frames := 3, cells := 0, slots := 0, locals := 65 }
set_option maxRecDepth 20000 in
set_option maxHeartbeats 4000000 in
theorem tj_X12_readTide_70 {x : Ctx} {Λ : Lay} (C : Cx x cX12_readTide 5 (some .boolean) RX12 Λ rm_X12_readTide) (N : Nat) (μ : Mem) (k6 : Int32 × Int32 × Int32 × Mem → Option (Int32 × Mem)) (v0 : Nat) (v1 : Int32) (v2 : Int32) (s0 : Int32) (hk6 : ∀ (s : Int32 × Int32 × Int32 × Mem) (r : Int32 × Mem), k6 s = some r → J x 5 Λ (QI x Λ r.1 r.2) 6 [(0, .ref v0), (1, .int s.1), (2, .int s.2.1), (3, .int s.2.2.1)] [] (s.2.2.2)) (hv0 : inL Λ v0 11) {r : Int32 × Mem} (hm : jn_X12_readTide_70 N Λ μ k6 v0 v1 v2 s0 = some r) : J x 5 Λ (QI x Λ r.1 r.2) 70 [(0, .ref v0), (1, .int v1), (2, .int v2)] [.int s0] μ := by
  refine j_istore_n C (lv' := [(3, .int s0), (0, .ref v0), (1, .int v1), (2, .int v2)]) dX12_readTide_70 (by decide) rfl ?_
  refine j_goto C (tgt := 6) dX12_readTide_71 (by decide) ?_
  refine j_sub [1, 2, 3, 0] rfl ?_
  exact hk6 (v1, v2, s0, μ) _ hm
set_option maxRecDepth 20000 in
set_option maxHeartbeats 4000000 in
theorem tj_X12_readTide_69 {x : Ctx} {Λ : Lay} (C : Cx x cX12_readTide 5 (some .boolean) RX12 Λ rm_X12_readTide) (N : Nat) (μ : Mem) (k6 : Int32 × Int32 × Int32 × Mem → Option (Int32 × Mem)) (v0 : Nat) (v1 : Int32) (v2 : Int32) (hk6 : ∀ (s : Int32 × Int32 × Int32 × Mem) (r : Int32 × Mem), k6 s = some r → J x 5 Λ (QI x Λ r.1 r.2) 6 [(0, .ref v0), (1, .int s.1), (2, .int s.2.1), (3, .int s.2.2.1)] [] (s.2.2.2)) (hv0 : inL Λ v0 11) {r : Int32 × Mem} (hm : jn_X12_readTide_69 N Λ μ k6 v0 v1 v2 = some r) : J x 5 Λ (QI x Λ r.1 r.2) 69 [(0, .ref v0), (1, .int v1), (2, .int v2)] [] μ := by
  refine j_iconst C (v := 0) dX12_readTide_69 rfl ?_
  exact tj_X12_readTide_70 C _ _ _ _ _ _ _ hk6 hv0 hm
set_option maxRecDepth 20000 in
set_option maxHeartbeats 4000000 in
theorem tj_X12_readTide_51 {x : Ctx} {Λ : Lay} (C : Cx x cX12_readTide 5 (some .boolean) RX12 Λ rm_X12_readTide) (N : Nat) (μ : Mem) (k6 : Int32 × Int32 × Int32 × Mem → Option (Int32 × Mem)) (v0 : Nat) (v1 : Int32) (v2 : Int32) (hk6 : ∀ (s : Int32 × Int32 × Int32 × Mem) (r : Int32 × Mem), k6 s = some r → J x 5 Λ (QI x Λ r.1 r.2) 6 [(0, .ref v0), (1, .int s.1), (2, .int s.2.1), (3, .int s.2.2.1)] [] (s.2.2.2)) (hv0 : inL Λ v0 11) {r : Int32 × Mem} (hm : jn_X12_readTide_51 N Λ μ k6 v0 v1 v2 = some r) : J x 5 Λ (QI x Λ r.1 r.2) 51 [(0, .ref v0), (1, .int v1), (2, .int v2)] [] μ := by
  obtain ⟨y1, e2, hm⟩ := lt_some hm
  refine j_iinc C 1 (v := y1) (lv' := [(1, .int y1), (0, .ref v0), (2, .int v2)]) dX12_readTide_51 rfl (by rw [e2]; rfl) (by decide) rfl ?_
  refine j_iload_n C 2 dX12_readTide_54 rfl ?_
  refine j_if_eq C (tgt := 69) dX12_readTide_55 (by decide) (fun h3 => ?_) (fun h3 => ?_)
  · replace hm := if_t hm h3
    refine j_sub [1, 0, 2] rfl ?_
    exact tj_X12_readTide_69 C _ _ _ _ _ _ hk6 hv0 hm
  · replace hm := if_f hm h3
    refine j_aload_n C 1 dX12_readTide_58 rfl ?_
    obtain ⟨r4, h5, hm⟩ := bd_some hm
    refine call_I (run_LV C lk_X12_174 ⟨rfl, rfl, Nat.le_of_ble_eq_true rfl, Nat.le_of_ble_eq_true rfl⟩ (As := []) hv0 rfl rfl (Nat.le_of_ble_eq_true rfl) dX12_readTide_59 (mc_X12_isNumberNext _ _ _ _ _ hv0 h5)) ?_
    refine j_if_eq C (tgt := 69) dX12_readTide_62 (by decide) (fun h6 => ?_) (fun h6 => ?_)
    · replace hm := if_t hm h6
      refine j_sub [1, 0, 2] rfl ?_
      exact tj_X12_readTide_69 C _ _ _ _ _ _ hk6 hv0 hm
    · replace hm := if_f hm h6
      refine j_iconst C (v := 1) dX12_readTide_65 rfl ?_
      refine j_goto C (tgt := 70) dX12_readTide_66 (by decide) ?_
      refine j_sub [1, 0, 2] rfl ?_
      exact tj_X12_readTide_70 C _ _ _ _ _ _ _ hk6 hv0 hm
set_option maxRecDepth 20000 in
set_option maxHeartbeats 4000000 in
theorem tj_X12_readTide_35 {x : Ctx} {Λ : Lay} (C : Cx x cX12_readTide 5 (some .boolean) RX12 Λ rm_X12_readTide) (N : Nat) (μ : Mem) (k6 : Int32 × Int32 × Int32 × Mem → Option (Int32 × Mem)) (v0 : Nat) (v1 : Int32) (v4 : Int32) (s0 : Int32) (hk6 : ∀ (s : Int32 × Int32 × Int32 × Mem) (r : Int32 × Mem), k6 s = some r → J x 5 Λ (QI x Λ r.1 r.2) 6 [(0, .ref v0), (1, .int s.1), (2, .int s.2.1), (3, .int s.2.2.1)] [] (s.2.2.2)) (hv0 : inL Λ v0 11) {r : Int32 × Mem} (hm : jn_X12_readTide_35 N Λ μ k6 v0 v1 v4 s0 = some r) : J x 5 Λ (QI x Λ r.1 r.2) 35 [(0, .ref v0), (1, .int v1), (4, .int v4)] [.int s0] μ := by
  refine j_istore_n C (lv' := [(2, .int s0), (0, .ref v0), (1, .int v1), (4, .int v4)]) dX12_readTide_35 (by decide) rfl ?_
  refine j_iload_n C 0 dX12_readTide_36 rfl ?_
  refine j_if_eq C (tgt := 51) dX12_readTide_37 (by decide) (fun h1 => ?_) (fun h1 => ?_)
  · replace hm := if_t hm h1
    refine j_sub [1, 2, 0] rfl ?_
    exact tj_X12_readTide_51 C _ _ _ _ _ _ hk6 hv0 hm
  · replace hm := if_f hm h1
    refine j_aload_n C 1 dX12_readTide_40 rfl ?_
    obtain ⟨q2, h3, hm⟩ := bd_some hm
    refine j_getR C fg_X12_13_11 hv0 (dr_spec h3).1 dX12_readTide_41 ?_
    refine j_bipush C (v := 13) dX12_readTide_44 rfl ?_
    refine j_iload_n C 2 dX12_readTide_46 rfl ?_
    refine j_iadd C dX12_readTide_47 ?_
    refine j_iload C 3 dX12_readTide_48 rfl ?_
    obtain ⟨h4, hm⟩ := gd_some hm
    obtain ⟨μ5, e6, hm⟩ := lt_some hm
    refine j_iast C ((dr_spec h3).2) h4 e6 dX12_readTide_50 ?_
    refine j_sub [1, 2, 0] rfl ?_
    exact tj_X12_readTide_51 C _ _ _ _ _ _ hk6 hv0 hm
set_option maxRecDepth 20000 in
set_option maxHeartbeats 4000000 in
theorem tj_X12_readTide_34 {x : Ctx} {Λ : Lay} (C : Cx x cX12_readTide 5 (some .boolean) RX12 Λ rm_X12_readTide) (N : Nat) (μ : Mem) (k6 : Int32 × Int32 × Int32 × Mem → Option (Int32 × Mem)) (v0 : Nat) (v1 : Int32) (v4 : Int32) (hk6 : ∀ (s : Int32 × Int32 × Int32 × Mem) (r : Int32 × Mem), k6 s = some r → J x 5 Λ (QI x Λ r.1 r.2) 6 [(0, .ref v0), (1, .int s.1), (2, .int s.2.1), (3, .int s.2.2.1)] [] (s.2.2.2)) (hv0 : inL Λ v0 11) {r : Int32 × Mem} (hm : jn_X12_readTide_34 N Λ μ k6 v0 v1 v4 = some r) : J x 5 Λ (QI x Λ r.1 r.2) 34 [(0, .ref v0), (1, .int v1), (4, .int v4)] [] μ := by
  refine j_iconst C (v := 0) dX12_readTide_34 rfl ?_
  exact tj_X12_readTide_35 C _ _ _ _ _ _ _ hk6 hv0 hm
set_option maxRecDepth 20000 in
set_option maxHeartbeats 4000000 in
theorem tb_X12_readTide_6 {x : Ctx} {Λ : Lay} (C : Cx x cX12_readTide 5 (some .boolean) RX12 Λ rm_X12_readTide) (N : Nat) (μ : Mem) (k6 : Int32 × Int32 × Int32 × Mem → Option (Int32 × Mem)) (v0 : Nat) (v1 : Int32) (v2 : Int32) (v3 : Int32) (hk6 : ∀ (s : Int32 × Int32 × Int32 × Mem) (r : Int32 × Mem), k6 s = some r → J x 5 Λ (QI x Λ r.1 r.2) 6 [(0, .ref v0), (1, .int s.1), (2, .int s.2.1), (3, .int s.2.2.1)] [] (s.2.2.2)) (hv0 : inL Λ v0 11) {r : Int32 × Mem} (hm : bd_X12_readTide_6 N Λ μ k6 v0 v1 v2 v3 = some r) : J x 5 Λ (QI x Λ r.1 r.2) 6 [(0, .ref v0), (1, .int v1), (2, .int v2), (3, .int v3)] [] μ := by
  refine j_iload_n C 3 dX12_readTide_6 rfl ?_
  refine j_if_eq C (tgt := 74) dX12_readTide_7 (by decide) (fun h1 => ?_) (fun h1 => ?_)
  · replace hm := if_t hm h1
    refine j_iload_n C 2 dX12_readTide_74 rfl ?_
    obtain ⟨h2, hm⟩ := gd_some hm
    obtain rfl := Option.some.inj hm
    exact j_iretz C h2 dX12_readTide_75
  · replace hm := if_f hm h1
    refine j_aload_n C 0 dX12_readTide_10 rfl ?_
    refine j_iconst C (v := 0) dX12_readTide_11 rfl ?_
    refine j_bipush C (v := 30) dX12_readTide_12 rfl ?_
    obtain ⟨r3, h4, hm⟩ := bd_some hm
    refine call_I (run_LV C lk_X12_143 ⟨rfl, rfl, Nat.le_of_ble_eq_true rfl, Nat.le_of_ble_eq_true rfl⟩ (As := [.int 0, .int 30]) hv0 rfl rfl (Nat.le_of_ble_eq_true rfl) dX12_readTide_14 (mc_X12_number _ _ _ _ _ _ _ hv0 h4)) ?_
    refine j_istore C (lv' := [(4, .int r3.1), (0, .ref v0), (1, .int v1), (2, .int v2), (3, .int v3)]) dX12_readTide_17 (by decide) rfl ?_
    refine j_iload C 0 dX12_readTide_19 rfl ?_
    refine j_if_lt C (tgt := 34) dX12_readTide_21 (by decide) (fun h5 => ?_) (fun h5 => ?_)
    · replace hm := if_t hm h5
      refine j_sub [1, 2, 0] rfl ?_
      exact tj_X12_readTide_34 C _ _ _ _ _ _ hk6 hv0 hm
    · replace hm := if_f hm h5
      refine j_iload_n C 2 dX12_readTide_24 rfl ?_
      refine j_bipush C (v := 12) dX12_readTide_25 rfl ?_
      refine j_icmp_ge C (tgt := 34) dX12_readTide_27 (by decide) (fun h6 => ?_) (fun h6 => ?_)
      · replace hm := if_t hm h6
        refine j_sub [1, 2, 0] rfl ?_
        exact tj_X12_readTide_34 C _ _ _ _ _ _ hk6 hv0 hm
      · replace hm := if_f hm h6
        refine j_iconst C (v := 1) dX12_readTide_30 rfl ?_
        refine j_goto C (tgt := 35) dX12_readTide_31 (by decide) ?_
        refine j_sub [1, 2, 0] rfl ?_
        exact tj_X12_readTide_35 C _ _ _ _ _ _ _ hk6 hv0 hm
set_option maxRecDepth 20000 in
set_option maxHeartbeats 4000000 in
theorem tl_X12_readTide_6 {x : Ctx} {Λ : Lay} (C : Cx x cX12_readTide 5 (some .boolean) RX12 Λ rm_X12_readTide) (N : Nat) (v0 : Nat) (hv0 : inL Λ v0 11) (s : Int32 × Int32 × Int32 × Mem) {r : Int32 × Mem} (hm : lp_X12_readTide_6 N Λ v0 s = some r) : J x 5 Λ (QI x Λ r.1 r.2) 6 [(0, .ref v0), (1, .int s.1), (2, .int s.2.1), (3, .int s.2.2.1)] [] (s.2.2.2) :=
  cw_ind (P := fun s r => J x 5 Λ (QI x Λ r.1 r.2) 6 [(0, .ref v0), (1, .int s.1), (2, .int s.2.1), (3, .int s.2.2.1)] [] (s.2.2.2)) (fun k hkk s r e => tb_X12_readTide_6 C _ _ _ _ _ _ _ hkk hv0 e) N s r hm
set_option maxRecDepth 20000 in
set_option maxHeartbeats 4000000 in
theorem tm_X12_readTide {x : Ctx} {Λ : Lay} (C : Cx x cX12_readTide 5 (some .boolean) RX12 Λ rm_X12_readTide) (N : Nat) (μ : Mem) (v0 : Nat) (hv0 : inL Λ v0 11) {r : Int32 × Mem} (hm : m_X12_readTide N Λ μ v0 = some r) : J x 5 Λ (QI x Λ r.1 r.2) 0 [(0, .ref v0)] [] μ := by
  refine j_iconst C (v := 0) dX12_readTide_0 rfl ?_
  refine j_istore_n C (lv' := [(1, .int 0), (0, .ref v0)]) dX12_readTide_1 (by decide) rfl ?_
  refine j_iconst C (v := 1) dX12_readTide_2 rfl ?_
  refine j_istore_n C (lv' := [(2, .int 1), (1, .int 0), (0, .ref v0)]) dX12_readTide_3 (by decide) rfl ?_
  refine j_iconst C (v := 1) dX12_readTide_4 rfl ?_
  refine j_istore_n C (lv' := [(3, .int 1), (2, .int 1), (1, .int 0), (0, .ref v0)]) dX12_readTide_5 (by decide) rfl ?_
  refine j_sub [3, 2, 1, 0] rfl ?_
  exact tl_X12_readTide_6 C _ _ hv0 (0, 1, 1, μ) hm
set_option maxRecDepth 20000 in
set_option maxHeartbeats 4000000 in
theorem mc_X12_readTide (l : Launch) (N : Nat) (Λ : Lay) (μ : Mem) (v0 : Nat) (hv0 : inL Λ v0 11) {r : Int32 × Mem} (hm : m_X12_readTide N Λ μ v0 = some r) : MI l yX12_readTide cX12_readTide 5 (some .boolean) rm_X12_readTide Λ [.ref v0] μ r.1 r.2 := mi_of rfl (Nat.le_of_ble_eq_true rfl) (fun x C _ => tm_X12_readTide C _ _ _ hv0 hm)
abbrev rm_X12_readBlocks : Room := { frames := 3, cells := 0, slots := 0, locals := 65 }
set_option maxRecDepth 20000 in
set_option maxHeartbeats 4000000 in
theorem tj_X12_readBlocks_73 {x : Ctx} {Λ : Lay} (C : Cx x cX12_readBlocks 5 (some .boolean) RX12 Λ rm_X12_readBlocks) (N : Nat) (μ : Mem) (k6 : Int32 × Int32 × Int32 × Mem → Option (Int32 × Mem)) (v0 : Nat) (v1 : Int32) (v2 : Int32) (s0 : Int32) (hk6 : ∀ (s : Int32 × Int32 × Int32 × Mem) (r : Int32 × Mem), k6 s = some r → J x 5 Λ (QI x Λ r.1 r.2) 6 [(0, .ref v0), (1, .int s.1), (2, .int s.2.1), (3, .int s.2.2.1)] [] (s.2.2.2)) (hv0 : inL Λ v0 11) {r : Int32 × Mem} (hm : jn_X12_readBlocks_73 N Λ μ k6 v0 v1 v2 s0 = some r) : J x 5 Λ (QI x Λ r.1 r.2) 73 [(0, .ref v0), (1, .int v1), (2, .int v2)] [.int s0] μ := by
  refine j_istore_n C (lv' := [(3, .int s0), (0, .ref v0), (1, .int v1), (2, .int v2)]) dX12_readBlocks_73 (by decide) rfl ?_
  refine j_goto C (tgt := 6) dX12_readBlocks_74 (by decide) ?_
  refine j_sub [1, 2, 3, 0] rfl ?_
  exact hk6 (v1, v2, s0, μ) _ hm
set_option maxRecDepth 20000 in
set_option maxHeartbeats 4000000 in
theorem tj_X12_readBlocks_72 {x : Ctx} {Λ : Lay} (C : Cx x cX12_readBlocks 5 (some .boolean) RX12 Λ rm_X12_readBlocks) (N : Nat) (μ : Mem) (k6 : Int32 × Int32 × Int32 × Mem → Option (Int32 × Mem)) (v0 : Nat) (v1 : Int32) (v2 : Int32) (hk6 : ∀ (s : Int32 × Int32 × Int32 × Mem) (r : Int32 × Mem), k6 s = some r → J x 5 Λ (QI x Λ r.1 r.2) 6 [(0, .ref v0), (1, .int s.1), (2, .int s.2.1), (3, .int s.2.2.1)] [] (s.2.2.2)) (hv0 : inL Λ v0 11) {r : Int32 × Mem} (hm : jn_X12_readBlocks_72 N Λ μ k6 v0 v1 v2 = some r) : J x 5 Λ (QI x Λ r.1 r.2) 72 [(0, .ref v0), (1, .int v1), (2, .int v2)] [] μ := by
  refine j_iconst C (v := 0) dX12_readBlocks_72 rfl ?_
  exact tj_X12_readBlocks_73 C _ _ _ _ _ _ _ hk6 hv0 hm
set_option maxRecDepth 20000 in
set_option maxHeartbeats 4000000 in
theorem tj_X12_readBlocks_54 {x : Ctx} {Λ : Lay} (C : Cx x cX12_readBlocks 5 (some .boolean) RX12 Λ rm_X12_readBlocks) (N : Nat) (μ : Mem) (k6 : Int32 × Int32 × Int32 × Mem → Option (Int32 × Mem)) (v0 : Nat) (v1 : Int32) (v2 : Int32) (hk6 : ∀ (s : Int32 × Int32 × Int32 × Mem) (r : Int32 × Mem), k6 s = some r → J x 5 Λ (QI x Λ r.1 r.2) 6 [(0, .ref v0), (1, .int s.1), (2, .int s.2.1), (3, .int s.2.2.1)] [] (s.2.2.2)) (hv0 : inL Λ v0 11) {r : Int32 × Mem} (hm : jn_X12_readBlocks_54 N Λ μ k6 v0 v1 v2 = some r) : J x 5 Λ (QI x Λ r.1 r.2) 54 [(0, .ref v0), (1, .int v1), (2, .int v2)] [] μ := by
  obtain ⟨y1, e2, hm⟩ := lt_some hm
  refine j_iinc C 1 (v := y1) (lv' := [(1, .int y1), (0, .ref v0), (2, .int v2)]) dX12_readBlocks_54 rfl (by rw [e2]; rfl) (by decide) rfl ?_
  refine j_iload_n C 2 dX12_readBlocks_57 rfl ?_
  refine j_if_eq C (tgt := 72) dX12_readBlocks_58 (by decide) (fun h3 => ?_) (fun h3 => ?_)
  · replace hm := if_t hm h3
    refine j_sub [1, 0, 2] rfl ?_
    exact tj_X12_readBlocks_72 C _ _ _ _ _ _ hk6 hv0 hm
  · replace hm := if_f hm h3
    refine j_aload_n C 1 dX12_readBlocks_61 rfl ?_
    obtain ⟨r4, h5, hm⟩ := bd_some hm
    refine call_I (run_LV C lk_X12_174 ⟨rfl, rfl, Nat.le_of_ble_eq_true rfl, Nat.le_of_ble_eq_true rfl⟩ (As := []) hv0 rfl rfl (Nat.le_of_ble_eq_true rfl) dX12_readBlocks_62 (mc_X12_isNumberNext _ _ _ _ _ hv0 h5)) ?_
    refine j_if_eq C (tgt := 72) dX12_readBlocks_65 (by decide) (fun h6 => ?_) (fun h6 => ?_)
    · replace hm := if_t hm h6
      refine j_sub [1, 0, 2] rfl ?_
      exact tj_X12_readBlocks_72 C _ _ _ _ _ _ hk6 hv0 hm
    · replace hm := if_f hm h6
      refine j_iconst C (v := 1) dX12_readBlocks_68 rfl ?_
      refine j_goto C (tgt := 73) dX12_readBlocks_69 (by decide) ?_
      refine j_sub [1, 0, 2] rfl ?_
      exact tj_X12_readBlocks_73 C _ _ _ _ _ _ _ hk6 hv0 hm
set_option maxRecDepth 20000 in
set_option maxHeartbeats 4000000 in
theorem tj_X12_readBlocks_35 {x : Ctx} {Λ : Lay} (C : Cx x cX12_readBlocks 5 (some .boolean) RX12 Λ rm_X12_readBlocks) (N : Nat) (μ : Mem) (k6 : Int32 × Int32 × Int32 × Mem → Option (Int32 × Mem)) (v0 : Nat) (v1 : Int32) (v4 : Int32) (s0 : Int32) (hk6 : ∀ (s : Int32 × Int32 × Int32 × Mem) (r : Int32 × Mem), k6 s = some r → J x 5 Λ (QI x Λ r.1 r.2) 6 [(0, .ref v0), (1, .int s.1), (2, .int s.2.1), (3, .int s.2.2.1)] [] (s.2.2.2)) (hv0 : inL Λ v0 11) {r : Int32 × Mem} (hm : jn_X12_readBlocks_35 N Λ μ k6 v0 v1 v4 s0 = some r) : J x 5 Λ (QI x Λ r.1 r.2) 35 [(0, .ref v0), (1, .int v1), (4, .int v4)] [.int s0] μ := by
  refine j_istore_n C (lv' := [(2, .int s0), (0, .ref v0), (1, .int v1), (4, .int v4)]) dX12_readBlocks_35 (by decide) rfl ?_
  refine j_iload_n C 0 dX12_readBlocks_36 rfl ?_
  refine j_if_eq C (tgt := 54) dX12_readBlocks_37 (by decide) (fun h1 => ?_) (fun h1 => ?_)
  · replace hm := if_t hm h1
    refine j_sub [1, 2, 0] rfl ?_
    exact tj_X12_readBlocks_54 C _ _ _ _ _ _ hk6 hv0 hm
  · replace hm := if_f hm h1
    refine j_aload_n C 1 dX12_readBlocks_40 rfl ?_
    obtain ⟨q2, h3, hm⟩ := bd_some hm
    refine j_getR C fg_X12_13_11 hv0 (dr_spec h3).1 dX12_readBlocks_41 ?_
    refine j_bipush C (v := 10) dX12_readBlocks_44 rfl ?_
    refine j_dup2 C dX12_readBlocks_46 rfl rfl ?_
    obtain ⟨h4, hm⟩ := gd_some hm
    refine j_iald C ((dr_spec h3).2) h4 dX12_readBlocks_47 ?_
    refine j_iconst C (v := 1) dX12_readBlocks_48 rfl ?_
    refine j_iload C 3 dX12_readBlocks_49 rfl ?_
    refine j_ishl C dX12_readBlocks_51 ?_
    refine j_ior C dX12_readBlocks_52 ?_
    obtain ⟨h5, hm⟩ := gd_some hm
    obtain ⟨μ6, e7, hm⟩ := lt_some hm
    refine j_iast C ((dr_spec h3).2) h5 e7 dX12_readBlocks_53 ?_
    refine j_sub [1, 2, 0] rfl ?_
    exact tj_X12_readBlocks_54 C _ _ _ _ _ _ hk6 hv0 hm
set_option maxRecDepth 20000 in
set_option maxHeartbeats 4000000 in
theorem tj_X12_readBlocks_34 {x : Ctx} {Λ : Lay} (C : Cx x cX12_readBlocks 5 (some .boolean) RX12 Λ rm_X12_readBlocks) (N : Nat) (μ : Mem) (k6 : Int32 × Int32 × Int32 × Mem → Option (Int32 × Mem)) (v0 : Nat) (v1 : Int32) (v4 : Int32) (hk6 : ∀ (s : Int32 × Int32 × Int32 × Mem) (r : Int32 × Mem), k6 s = some r → J x 5 Λ (QI x Λ r.1 r.2) 6 [(0, .ref v0), (1, .int s.1), (2, .int s.2.1), (3, .int s.2.2.1)] [] (s.2.2.2)) (hv0 : inL Λ v0 11) {r : Int32 × Mem} (hm : jn_X12_readBlocks_34 N Λ μ k6 v0 v1 v4 = some r) : J x 5 Λ (QI x Λ r.1 r.2) 34 [(0, .ref v0), (1, .int v1), (4, .int v4)] [] μ := by
  refine j_iconst C (v := 0) dX12_readBlocks_34 rfl ?_
  exact tj_X12_readBlocks_35 C _ _ _ _ _ _ _ hk6 hv0 hm
set_option maxRecDepth 20000 in
set_option maxHeartbeats 4000000 in
theorem tb_X12_readBlocks_6 {x : Ctx} {Λ : Lay} (C : Cx x cX12_readBlocks 5 (some .boolean) RX12 Λ rm_X12_readBlocks) (N : Nat) (μ : Mem) (k6 : Int32 × Int32 × Int32 × Mem → Option (Int32 × Mem)) (v0 : Nat) (v1 : Int32) (v2 : Int32) (v3 : Int32) (hk6 : ∀ (s : Int32 × Int32 × Int32 × Mem) (r : Int32 × Mem), k6 s = some r → J x 5 Λ (QI x Λ r.1 r.2) 6 [(0, .ref v0), (1, .int s.1), (2, .int s.2.1), (3, .int s.2.2.1)] [] (s.2.2.2)) (hv0 : inL Λ v0 11) {r : Int32 × Mem} (hm : bd_X12_readBlocks_6 N Λ μ k6 v0 v1 v2 v3 = some r) : J x 5 Λ (QI x Λ r.1 r.2) 6 [(0, .ref v0), (1, .int v1), (2, .int v2), (3, .int v3)] [] μ := by
  refine j_iload_n C 3 dX12_readBlocks_6 rfl ?_
  refine j_if_eq C (tgt := 77) dX12_readBlocks_7 (by decide) (fun h1 => ?_) (fun h1 => ?_)
  · replace hm := if_t hm h1
    refine j_iload_n C 2 dX12_readBlocks_77 rfl ?_
    obtain ⟨h2, hm⟩ := gd_some hm
    obtain rfl := Option.some.inj hm
    exact j_iretz C h2 dX12_readBlocks_78
  · replace hm := if_f hm h1
    refine j_aload_n C 0 dX12_readBlocks_10 rfl ?_
    refine j_iconst C (v := 0) dX12_readBlocks_11 rfl ?_
    refine j_bipush C (v := 23) dX12_readBlocks_12 rfl ?_
    obtain ⟨r3, h4, hm⟩ := bd_some hm
    refine call_I (run_LV C lk_X12_143 ⟨rfl, rfl, Nat.le_of_ble_eq_true rfl, Nat.le_of_ble_eq_true rfl⟩ (As := [.int 0, .int 23]) hv0 rfl rfl (Nat.le_of_ble_eq_true rfl) dX12_readBlocks_14 (mc_X12_number _ _ _ _ _ _ _ hv0 h4)) ?_
    refine j_istore C (lv' := [(4, .int r3.1), (0, .ref v0), (1, .int v1), (2, .int v2), (3, .int v3)]) dX12_readBlocks_17 (by decide) rfl ?_
    refine j_iload C 0 dX12_readBlocks_19 rfl ?_
    refine j_if_lt C (tgt := 34) dX12_readBlocks_21 (by decide) (fun h5 => ?_) (fun h5 => ?_)
    · replace hm := if_t hm h5
      refine j_sub [1, 2, 0] rfl ?_
      exact tj_X12_readBlocks_34 C _ _ _ _ _ _ hk6 hv0 hm
    · replace hm := if_f hm h5
      refine j_iload_n C 2 dX12_readBlocks_24 rfl ?_
      refine j_bipush C (v := 12) dX12_readBlocks_25 rfl ?_
      refine j_icmp_ge C (tgt := 34) dX12_readBlocks_27 (by decide) (fun h6 => ?_) (fun h6 => ?_)
      · replace hm := if_t hm h6
        refine j_sub [1, 2, 0] rfl ?_
        exact tj_X12_readBlocks_34 C _ _ _ _ _ _ hk6 hv0 hm
      · replace hm := if_f hm h6
        refine j_iconst C (v := 1) dX12_readBlocks_30 rfl ?_
        refine j_goto C (tgt := 35) dX12_readBlocks_31 (by decide) ?_
        refine j_sub [1, 2, 0] rfl ?_
        exact tj_X12_readBlocks_35 C _ _ _ _ _ _ _ hk6 hv0 hm
set_option maxRecDepth 20000 in
set_option maxHeartbeats 4000000 in
theorem tl_X12_readBlocks_6 {x : Ctx} {Λ : Lay} (C : Cx x cX12_readBlocks 5 (some .boolean) RX12 Λ rm_X12_readBlocks) (N : Nat) (v0 : Nat) (hv0 : inL Λ v0 11) (s : Int32 × Int32 × Int32 × Mem) {r : Int32 × Mem} (hm : lp_X12_readBlocks_6 N Λ v0 s = some r) : J x 5 Λ (QI x Λ r.1 r.2) 6 [(0, .ref v0), (1, .int s.1), (2, .int s.2.1), (3, .int s.2.2.1)] [] (s.2.2.2) :=
  cw_ind (P := fun s r => J x 5 Λ (QI x Λ r.1 r.2) 6 [(0, .ref v0), (1, .int s.1), (2, .int s.2.1), (3, .int s.2.2.1)] [] (s.2.2.2)) (fun k hkk s r e => tb_X12_readBlocks_6 C _ _ _ _ _ _ _ hkk hv0 e) N s r hm
set_option maxRecDepth 20000 in
set_option maxHeartbeats 4000000 in
theorem tm_X12_readBlocks {x : Ctx} {Λ : Lay} (C : Cx x cX12_readBlocks 5 (some .boolean) RX12 Λ rm_X12_readBlocks) (N : Nat) (μ : Mem) (v0 : Nat) (hv0 : inL Λ v0 11) {r : Int32 × Mem} (hm : m_X12_readBlocks N Λ μ v0 = some r) : J x 5 Λ (QI x Λ r.1 r.2) 0 [(0, .ref v0)] [] μ := by
  refine j_iconst C (v := 0) dX12_readBlocks_0 rfl ?_
  refine j_istore_n C (lv' := [(1, .int 0), (0, .ref v0)]) dX12_readBlocks_1 (by decide) rfl ?_
  refine j_iconst C (v := 1) dX12_readBlocks_2 rfl ?_
  refine j_istore_n C (lv' := [(2, .int 1), (1, .int 0), (0, .ref v0)]) dX12_readBlocks_3 (by decide) rfl ?_
  refine j_iconst C (v := 1) dX12_readBlocks_4 rfl ?_
  refine j_istore_n C (lv' := [(3, .int 1), (2, .int 1), (1, .int 0), (0, .ref v0)]) dX12_readBlocks_5 (by decide) rfl ?_
  refine j_sub [3, 2, 1, 0] rfl ?_
  exact tl_X12_readBlocks_6 C _ _ hv0 (0, 1, 1, μ) hm
set_option maxRecDepth 20000 in
set_option maxHeartbeats 4000000 in
theorem mc_X12_readBlocks (l : Launch) (N : Nat) (Λ : Lay) (μ : Mem) (v0 : Nat) (hv0 : inL Λ v0 11) {r : Int32 × Mem} (hm : m_X12_readBlocks N Λ μ v0 = some r) : MI l yX12_readBlocks cX12_readBlocks 5 (some .boolean) rm_X12_readBlocks Λ [.ref v0] μ r.1 r.2 := mi_of rfl (Nat.le_of_ble_eq_true rfl) (fun x C _ => tm_X12_readBlocks C _ _ _ hv0 hm)
abbrev rm_X12_readShut : Room := { frames := 0, cells := 0, slots := 0, locals := 0 }
set_option maxRecDepth 20000 in
set_option maxHeartbeats 4000000 in
theorem tm_X12_readShut {x : Ctx} {Λ : Lay} (C : Cx x cX12_readShut 1 (some .boolean) RX12 Λ rm_X12_readShut) (N : Nat) (μ : Mem) (v0 : Nat) (hv0 : inL Λ v0 11) {r : Int32 × Mem} (hm : m_X12_readShut N Λ μ v0 = some r) : J x 1 Λ (QI x Λ r.1 r.2) 0 [(0, .ref v0)] [] μ := by
  refine j_aload_n C 0 dX12_readShut_0 rfl ?_
  obtain ⟨q1, h2, hm⟩ := bd_some hm
  refine j_getR C fg_X12_13_11 hv0 (dr_spec h2).1 dX12_readShut_1 ?_
  refine j_iconst C (v := 4) dX12_readShut_4 rfl ?_
  refine j_iconst C (v := 0) dX12_readShut_5 rfl ?_
  obtain ⟨h3, hm⟩ := gd_some hm
  obtain ⟨μ4, e5, hm⟩ := lt_some hm
  refine j_iast C ((dr_spec h2).2) h3 e5 dX12_readShut_6 ?_
  refine j_iconst C (v := 1) dX12_readShut_7 rfl ?_
  obtain rfl := Option.some.inj hm
  exact j_iretz C rfl dX12_readShut_8
set_option maxRecDepth 20000 in
set_option maxHeartbeats 4000000 in
theorem mc_X12_readShut (l : Launch) (N : Nat) (Λ : Lay) (μ : Mem) (v0 : Nat) (hv0 : inL Λ v0 11) {r : Int32 × Mem} (hm : m_X12_readShut N Λ μ v0 = some r) : MI l yX12_readShut cX12_readShut 1 (some .boolean) rm_X12_readShut Λ [.ref v0] μ r.1 r.2 := mi_of rfl (Nat.le_of_ble_eq_true rfl) (fun x C _ => tm_X12_readShut C _ _ _ hv0 hm)
abbrev rm_X12_readDockLine : Room := { frames := 8, cells := 0, slots := 0, locals := 183 }
set_option maxRecDepth 20000 in
set_option maxHeartbeats 4000000 in
theorem tj_X12_readDockLine_156 {x : Ctx} {Λ : Lay} (C : Cx x cX12_readDockLine 1 (some .boolean) RX12 Λ rm_X12_readDockLine) (N : Nat) (μ : Mem) (s0 : Int32) {r : Int32 × Mem} (hm : jn_X12_readDockLine_156 N Λ μ s0 = some r) : J x 1 Λ (QI x Λ r.1 r.2) 156 [] [.int s0] μ := by
  obtain ⟨h1, hm⟩ := gd_some hm
  obtain rfl := Option.some.inj hm
  exact j_iretz C h1 dX12_readDockLine_156
set_option maxRecDepth 20000 in
set_option maxHeartbeats 4000000 in
theorem tj_X12_readDockLine_155 {x : Ctx} {Λ : Lay} (C : Cx x cX12_readDockLine 1 (some .boolean) RX12 Λ rm_X12_readDockLine) (N : Nat) (μ : Mem) {r : Int32 × Mem} (hm : jn_X12_readDockLine_155 N Λ μ = some r) : J x 1 Λ (QI x Λ r.1 r.2) 155 [] [] μ := by
  refine j_iconst C (v := 0) dX12_readDockLine_155 rfl ?_
  exact tj_X12_readDockLine_156 C _ _ _  hm
set_option maxRecDepth 20000 in
set_option maxHeartbeats 4000000 in
theorem tm_X12_readDockLine {x : Ctx} {Λ : Lay} (C : Cx x cX12_readDockLine 1 (some .boolean) RX12 Λ rm_X12_readDockLine) (N : Nat) (μ : Mem) (v0 : Nat) (hv0 : inL Λ v0 11) {r : Int32 × Mem} (hm : m_X12_readDockLine N Λ μ v0 = some r) : J x 1 Λ (QI x Λ r.1 r.2) 0 [(0, .ref v0)] [] μ := by
  refine j_aload_n C 0 dX12_readDockLine_0 rfl ?_
  refine j_ldcS C (i := 18) (tx := "ship") (List.mem_of_getElem? (i := 30) rfl) dX12_readDockLine_1 ?_
  obtain ⟨r1, h2, hm⟩ := bd_some hm
  refine call_I (run_LV C lk_X12_139 ⟨rfl, rfl, Nat.le_of_ble_eq_true rfl, Nat.le_of_ble_eq_true rfl⟩ (As := [.ref (sK Λ 18)]) hv0 rfl rfl (Nat.le_of_ble_eq_true rfl) dX12_readDockLine_3 (mc_X12_isWord _ _ _ _ _ _ hv0 ((by decide)) h2)) ?_
  refine j_if_eq C (tgt := 14) dX12_readDockLine_6 (by decide) (fun h3 => ?_) (fun h3 => ?_)
  · replace hm := if_t hm h3
    refine j_aload_n C 0 dX12_readDockLine_14 rfl ?_
    refine j_ldcS C (i := 21) (tx := "tide") (List.mem_of_getElem? (i := 35) rfl) dX12_readDockLine_15 ?_
    obtain ⟨r4, h5, hm⟩ := bd_some hm
    refine call_I (run_LV C lk_X12_139 ⟨rfl, rfl, Nat.le_of_ble_eq_true rfl, Nat.le_of_ble_eq_true rfl⟩ (As := [.ref (sK Λ 21)]) hv0 rfl rfl (Nat.le_of_ble_eq_true rfl) dX12_readDockLine_17 (mc_X12_isWord _ _ _ _ _ _ hv0 ((by decide)) h5)) ?_
    refine j_if_eq C (tgt := 28) dX12_readDockLine_20 (by decide) (fun h6 => ?_) (fun h6 => ?_)
    · replace hm := if_t hm h6
      refine j_aload_n C 0 dX12_readDockLine_28 rfl ?_
      refine j_ldcS C (i := 2) (tx := "blocks") (List.mem_of_getElem? (i := 36) rfl) dX12_readDockLine_29 ?_
      obtain ⟨r7, h8, hm⟩ := bd_some hm
      refine call_I (run_LV C lk_X12_139 ⟨rfl, rfl, Nat.le_of_ble_eq_true rfl, Nat.le_of_ble_eq_true rfl⟩ (As := [.ref (sK Λ 2)]) hv0 rfl rfl (Nat.le_of_ble_eq_true rfl) dX12_readDockLine_31 (mc_X12_isWord _ _ _ _ _ _ hv0 ((by decide)) h8)) ?_
      refine j_if_eq C (tgt := 42) dX12_readDockLine_34 (by decide) (fun h9 => ?_) (fun h9 => ?_)
      · replace hm := if_t hm h9
        refine j_aload_n C 0 dX12_readDockLine_42 rfl ?_
        refine j_ldcS C (i := 12) (tx := "level") (List.mem_of_getElem? (i := 37) rfl) dX12_readDockLine_43 ?_
        obtain ⟨r10, h11, hm⟩ := bd_some hm
        refine call_I (run_LV C lk_X12_139 ⟨rfl, rfl, Nat.le_of_ble_eq_true rfl, Nat.le_of_ble_eq_true rfl⟩ (As := [.ref (sK Λ 12)]) hv0 rfl rfl (Nat.le_of_ble_eq_true rfl) dX12_readDockLine_45 (mc_X12_isWord _ _ _ _ _ _ hv0 ((by decide)) h11)) ?_
        refine j_if_eq C (tgt := 60) dX12_readDockLine_48 (by decide) (fun h12 => ?_) (fun h12 => ?_)
        · replace hm := if_t hm h12
          refine j_aload_n C 0 dX12_readDockLine_60 rfl ?_
          refine j_ldcS C (i := 19) (tx := "shut") (List.mem_of_getElem? (i := 38) rfl) dX12_readDockLine_61 ?_
          obtain ⟨r13, h14, hm⟩ := bd_some hm
          refine call_I (run_LV C lk_X12_139 ⟨rfl, rfl, Nat.le_of_ble_eq_true rfl, Nat.le_of_ble_eq_true rfl⟩ (As := [.ref (sK Λ 19)]) hv0 rfl rfl (Nat.le_of_ble_eq_true rfl) dX12_readDockLine_63 (mc_X12_isWord _ _ _ _ _ _ hv0 ((by decide)) h14)) ?_
          refine j_if_eq C (tgt := 74) dX12_readDockLine_66 (by decide) (fun h15 => ?_) (fun h15 => ?_)
          · replace hm := if_t hm h15
            refine j_aload_n C 0 dX12_readDockLine_74 rfl ?_
            refine j_ldcS C (i := 17) (tx := "pumps") (List.mem_of_getElem? (i := 39) rfl) dX12_readDockLine_75 ?_
            obtain ⟨r16, h17, hm⟩ := bd_some hm
            refine call_I (run_LV C lk_X12_139 ⟨rfl, rfl, Nat.le_of_ble_eq_true rfl, Nat.le_of_ble_eq_true rfl⟩ (As := [.ref (sK Λ 17)]) hv0 rfl rfl (Nat.le_of_ble_eq_true rfl) dX12_readDockLine_77 (mc_X12_isWord _ _ _ _ _ _ hv0 ((by decide)) h17)) ?_
            refine j_if_eq C (tgt := 92) dX12_readDockLine_80 (by decide) (fun h18 => ?_) (fun h18 => ?_)
            · replace hm := if_t hm h18
              refine j_aload_n C 0 dX12_readDockLine_92 rfl ?_
              refine j_ldcS C (i := 6) (tx := "hands") (List.mem_of_getElem? (i := 40) rfl) dX12_readDockLine_93 ?_
              obtain ⟨r19, h20, hm⟩ := bd_some hm
              refine call_I (run_LV C lk_X12_139 ⟨rfl, rfl, Nat.le_of_ble_eq_true rfl, Nat.le_of_ble_eq_true rfl⟩ (As := [.ref (sK Λ 6)]) hv0 rfl rfl (Nat.le_of_ble_eq_true rfl) dX12_readDockLine_95 (mc_X12_isWord _ _ _ _ _ _ hv0 ((by decide)) h20)) ?_
              refine j_if_eq C (tgt := 111) dX12_readDockLine_98 (by decide) (fun h21 => ?_) (fun h21 => ?_)
              · replace hm := if_t hm h21
                refine j_aload_n C 0 dX12_readDockLine_111 rfl ?_
                refine j_ldcS C (i := 20) (tx := "surge") (List.mem_of_getElem? (i := 41) rfl) dX12_readDockLine_112 ?_
                obtain ⟨r22, h23, hm⟩ := bd_some hm
                refine call_I (run_LV C lk_X12_139 ⟨rfl, rfl, Nat.le_of_ble_eq_true rfl, Nat.le_of_ble_eq_true rfl⟩ (As := [.ref (sK Λ 20)]) hv0 rfl rfl (Nat.le_of_ble_eq_true rfl) dX12_readDockLine_114 (mc_X12_isWord _ _ _ _ _ _ hv0 ((by decide)) h23)) ?_
                refine j_if_eq C (tgt := 129) dX12_readDockLine_117 (by decide) (fun h24 => ?_) (fun h24 => ?_)
                · replace hm := if_t hm h24
                  refine j_aload_n C 0 dX12_readDockLine_129 rfl ?_
                  refine j_ldcS C (i := 7) (tx := "hour") (List.mem_of_getElem? (i := 42) rfl) dX12_readDockLine_130 ?_
                  obtain ⟨r25, h26, hm⟩ := bd_some hm
                  refine call_I (run_LV C lk_X12_139 ⟨rfl, rfl, Nat.le_of_ble_eq_true rfl, Nat.le_of_ble_eq_true rfl⟩ (As := [.ref (sK Λ 7)]) hv0 rfl rfl (Nat.le_of_ble_eq_true rfl) dX12_readDockLine_132 (mc_X12_isWord _ _ _ _ _ _ hv0 ((by decide)) h26)) ?_
                  refine j_if_eq C (tgt := 155) dX12_readDockLine_135 (by decide) (fun h27 => ?_) (fun h27 => ?_)
                  · replace hm := if_t hm h27
                    refine j_sub [] rfl ?_
                    exact tj_X12_readDockLine_155 C _ _  hm
                  · replace hm := if_f hm h27
                    refine j_aload_n C 0 dX12_readDockLine_138 rfl ?_
                    refine j_bipush C (v := 9) dX12_readDockLine_139 rfl ?_
                    refine j_iconst C (v := 0) dX12_readDockLine_141 rfl ?_
                    refine j_sipush C (v := 999) dX12_readDockLine_142 rfl ?_
                    obtain ⟨r28, h29, hm⟩ := bd_some hm
                    refine call_I (run_LV C lk_X12_195 ⟨rfl, rfl, Nat.le_of_ble_eq_true rfl, Nat.le_of_ble_eq_true rfl⟩ (As := [.int 9, .int 0, .int 999]) hv0 rfl rfl (Nat.le_of_ble_eq_true rfl) dX12_readDockLine_145 (mc_X12_readNumber _ _ _ _ _ _ _ _ hv0 h29)) ?_
                    refine j_if_eq C (tgt := 155) dX12_readDockLine_148 (by decide) (fun h30 => ?_) (fun h30 => ?_)
                    · replace hm := if_t hm h30
                      refine j_sub [] rfl ?_
                      exact tj_X12_readDockLine_155 C _ _  hm
                    · replace hm := if_f hm h30
                      refine j_iconst C (v := 1) dX12_readDockLine_151 rfl ?_
                      refine j_goto C (tgt := 156) dX12_readDockLine_152 (by decide) ?_
                      refine j_sub [] rfl ?_
                      exact tj_X12_readDockLine_156 C _ _ _  hm
                · replace hm := if_f hm h24
                  refine j_aload_n C 0 dX12_readDockLine_120 rfl ?_
                  refine j_bipush C (v := 7) dX12_readDockLine_121 rfl ?_
                  refine j_iconst C (v := 0) dX12_readDockLine_123 rfl ?_
                  refine j_iconst C (v := 5) dX12_readDockLine_124 rfl ?_
                  obtain ⟨r31, h32, hm⟩ := bd_some hm
                  refine call_I (run_LV C lk_X12_195 ⟨rfl, rfl, Nat.le_of_ble_eq_true rfl, Nat.le_of_ble_eq_true rfl⟩ (As := [.int 7, .int 0, .int 5]) hv0 rfl rfl (Nat.le_of_ble_eq_true rfl) dX12_readDockLine_125 (mc_X12_readNumber _ _ _ _ _ _ _ _ hv0 h32)) ?_
                  obtain ⟨h33, hm⟩ := gd_some hm
                  obtain rfl := Option.some.inj hm
                  exact j_iretz C h33 dX12_readDockLine_128
              · replace hm := if_f hm h21
                refine j_aload_n C 0 dX12_readDockLine_101 rfl ?_
                refine j_bipush C (v := 6) dX12_readDockLine_102 rfl ?_
                refine j_iconst C (v := 0) dX12_readDockLine_104 rfl ?_
                refine j_bipush C (v := 9) dX12_readDockLine_105 rfl ?_
                obtain ⟨r34, h35, hm⟩ := bd_some hm
                refine call_I (run_LV C lk_X12_195 ⟨rfl, rfl, Nat.le_of_ble_eq_true rfl, Nat.le_of_ble_eq_true rfl⟩ (As := [.int 6, .int 0, .int 9]) hv0 rfl rfl (Nat.le_of_ble_eq_true rfl) dX12_readDockLine_107 (mc_X12_readNumber _ _ _ _ _ _ _ _ hv0 h35)) ?_
                obtain ⟨h36, hm⟩ := gd_some hm
                obtain rfl := Option.some.inj hm
                exact j_iretz C h36 dX12_readDockLine_110
            · replace hm := if_f hm h18
              refine j_aload_n C 0 dX12_readDockLine_83 rfl ?_
              refine j_iconst C (v := 5) dX12_readDockLine_84 rfl ?_
              refine j_iconst C (v := 0) dX12_readDockLine_85 rfl ?_
              refine j_bipush C (v := 9) dX12_readDockLine_86 rfl ?_
              obtain ⟨r37, h38, hm⟩ := bd_some hm
              refine call_I (run_LV C lk_X12_195 ⟨rfl, rfl, Nat.le_of_ble_eq_true rfl, Nat.le_of_ble_eq_true rfl⟩ (As := [.int 5, .int 0, .int 9]) hv0 rfl rfl (Nat.le_of_ble_eq_true rfl) dX12_readDockLine_88 (mc_X12_readNumber _ _ _ _ _ _ _ _ hv0 h38)) ?_
              obtain ⟨h39, hm⟩ := gd_some hm
              obtain rfl := Option.some.inj hm
              exact j_iretz C h39 dX12_readDockLine_91
          · replace hm := if_f hm h15
            refine j_aload_n C 0 dX12_readDockLine_69 rfl ?_
            obtain ⟨r40, h41, hm⟩ := bd_some hm
            refine call_I (run_LV C lk_X12_200 ⟨rfl, rfl, Nat.le_of_ble_eq_true rfl, Nat.le_of_ble_eq_true rfl⟩ (As := []) hv0 rfl rfl (Nat.le_of_ble_eq_true rfl) dX12_readDockLine_70 (mc_X12_readShut _ _ _ _ _ hv0 h41)) ?_
            obtain ⟨h42, hm⟩ := gd_some hm
            obtain rfl := Option.some.inj hm
            exact j_iretz C h42 dX12_readDockLine_73
        · replace hm := if_f hm h12
          refine j_aload_n C 0 dX12_readDockLine_51 rfl ?_
          refine j_iconst C (v := 3) dX12_readDockLine_52 rfl ?_
          refine j_iconst C (v := 0) dX12_readDockLine_53 rfl ?_
          refine j_bipush C (v := 40) dX12_readDockLine_54 rfl ?_
          obtain ⟨r43, h44, hm⟩ := bd_some hm
          refine call_I (run_LV C lk_X12_195 ⟨rfl, rfl, Nat.le_of_ble_eq_true rfl, Nat.le_of_ble_eq_true rfl⟩ (As := [.int 3, .int 0, .int 40]) hv0 rfl rfl (Nat.le_of_ble_eq_true rfl) dX12_readDockLine_56 (mc_X12_readNumber _ _ _ _ _ _ _ _ hv0 h44)) ?_
          obtain ⟨h45, hm⟩ := gd_some hm
          obtain rfl := Option.some.inj hm
          exact j_iretz C h45 dX12_readDockLine_59
      · replace hm := if_f hm h9
        refine j_aload_n C 0 dX12_readDockLine_37 rfl ?_
        obtain ⟨r46, h47, hm⟩ := bd_some hm
        refine call_I (run_LV C lk_X12_190 ⟨rfl, rfl, Nat.le_of_ble_eq_true rfl, Nat.le_of_ble_eq_true rfl⟩ (As := []) hv0 rfl rfl (Nat.le_of_ble_eq_true rfl) dX12_readDockLine_38 (mc_X12_readBlocks _ _ _ _ _ hv0 h47)) ?_
        obtain ⟨h48, hm⟩ := gd_some hm
        obtain rfl := Option.some.inj hm
        exact j_iretz C h48 dX12_readDockLine_41
    · replace hm := if_f hm h6
      refine j_aload_n C 0 dX12_readDockLine_23 rfl ?_
      obtain ⟨r49, h50, hm⟩ := bd_some hm
      refine call_I (run_LV C lk_X12_185 ⟨rfl, rfl, Nat.le_of_ble_eq_true rfl, Nat.le_of_ble_eq_true rfl⟩ (As := []) hv0 rfl rfl (Nat.le_of_ble_eq_true rfl) dX12_readDockLine_24 (mc_X12_readTide _ _ _ _ _ hv0 h50)) ?_
      obtain ⟨h51, hm⟩ := gd_some hm
      obtain rfl := Option.some.inj hm
      exact j_iretz C h51 dX12_readDockLine_27
  · replace hm := if_f hm h3
    refine j_aload_n C 0 dX12_readDockLine_9 rfl ?_
    obtain ⟨r52, h53, hm⟩ := bd_some hm
    refine call_I (run_LV C lk_X12_180 ⟨rfl, rfl, Nat.le_of_ble_eq_true rfl, Nat.le_of_ble_eq_true rfl⟩ (As := []) hv0 rfl rfl (Nat.le_of_ble_eq_true rfl) dX12_readDockLine_10 (mc_X12_readShip _ _ _ _ _ hv0 h53)) ?_
    obtain ⟨h54, hm⟩ := gd_some hm
    obtain rfl := Option.some.inj hm
    exact j_iretz C h54 dX12_readDockLine_13
set_option maxRecDepth 20000 in
set_option maxHeartbeats 4000000 in
theorem mc_X12_readDockLine (l : Launch) (N : Nat) (Λ : Lay) (μ : Mem) (v0 : Nat) (hv0 : inL Λ v0 11) {r : Int32 × Mem} (hm : m_X12_readDockLine N Λ μ v0 = some r) : MI l yX12_readDockLine cX12_readDockLine 1 (some .boolean) rm_X12_readDockLine Λ [.ref v0] μ r.1 r.2 := mi_of rfl (Nat.le_of_ble_eq_true rfl) (fun x C _ => tm_X12_readDockLine C _ _ _ hv0 hm)
abbrev rm_X12_emits : Room := { frames := 0, cells := 0, slots := 0, locals := 0 }
set_option maxRecDepth 20000 in
set_option maxHeartbeats 4000000 in
theorem tm_X12_emits {x : Ctx} {Λ : Lay} (C : Cx x cX12_emits 3 none RX12 Λ rm_X12_emits) (N : Nat) (μ : Mem) (v0 : Nat) (v1 : Int32) (v2 : Int32) (hv0 : inL Λ v0 11) {r : Mem} (hm : m_X12_emits N Λ μ v0 v1 v2 = some r) : J x 3 Λ (QV x Λ r) 0 [(0, .ref v0), (1, .int v1), (2, .int v2)] [] μ := by
  refine j_aload_n C 0 dX12_emits_0 rfl ?_
  obtain ⟨q1, h2, hm⟩ := bd_some hm
  refine j_getR C fg_X12_13_11 hv0 (dr_spec h2).1 dX12_emits_1 ?_
  refine j_sipush C (v := 1271) dX12_emits_4 rfl ?_
  refine j_iconst C (v := 2) dX12_emits_7 rfl ?_
  refine j_aload_n C 0 dX12_emits_8 rfl ?_
  refine j_getI C fg_X12_211_11 hv0 dX12_emits_9 ?_
  refine j_imul C dX12_emits_12 ?_
  refine j_iadd C dX12_emits_13 ?_
  refine j_iload_n C 1 dX12_emits_14 rfl ?_
  obtain ⟨h3, hm⟩ := gd_some hm
  obtain ⟨μ4, e5, hm⟩ := lt_some hm
  refine j_iast C ((dr_spec h2).2) h3 e5 dX12_emits_15 ?_
  refine j_aload_n C 0 dX12_emits_16 rfl ?_
  obtain ⟨q6, h7, hm⟩ := bd_some hm
  refine j_getR C fg_X12_13_11 hv0 (dr_spec h7).1 dX12_emits_17 ?_
  refine j_sipush C (v := 1271) dX12_emits_20 rfl ?_
  refine j_iconst C (v := 2) dX12_emits_23 rfl ?_
  refine j_aload_n C 0 dX12_emits_24 rfl ?_
  refine j_getI C fg_X12_211_11 hv0 dX12_emits_25 ?_
  refine j_imul C dX12_emits_28 ?_
  refine j_iadd C dX12_emits_29 ?_
  refine j_iconst C (v := 1) dX12_emits_30 rfl ?_
  refine j_iadd C dX12_emits_31 ?_
  refine j_iload_n C 2 dX12_emits_32 rfl ?_
  obtain ⟨h8, hm⟩ := gd_some hm
  obtain ⟨μ9, e10, hm⟩ := lt_some hm
  refine j_iast C ((dr_spec h7).2) h8 e10 dX12_emits_33 ?_
  refine j_aload_n C 0 dX12_emits_34 rfl ?_
  refine j_dup C dX12_emits_35 rfl ?_
  refine j_getI C fg_X12_211_11 hv0 dX12_emits_36 ?_
  refine j_iconst C (v := 1) dX12_emits_39 rfl ?_
  refine j_iadd C dX12_emits_40 ?_
  obtain ⟨μ11, e12, hm⟩ := lt_some hm
  refine j_putI C fp_X12_211_11 hv0 e12 dX12_emits_41 ?_
  obtain rfl := Option.some.inj hm
  exact j_vret C dX12_emits_44
set_option maxRecDepth 20000 in
set_option maxHeartbeats 4000000 in
theorem mc_X12_emits (l : Launch) (N : Nat) (Λ : Lay) (μ : Mem) (v0 : Nat) (v1 : Int32) (v2 : Int32) (hv0 : inL Λ v0 11) {r : Mem} (hm : m_X12_emits N Λ μ v0 v1 v2 = some r) : MV l yX12_emits cX12_emits 3 rm_X12_emits Λ [.ref v0, .int v1, .int v2] μ r := mv_of rfl (Nat.le_of_ble_eq_true rfl) (fun x C _ => tm_X12_emits C _ _ _ _ _ hv0 hm)
abbrev rm_X12_wordOfPart : Room := { frames := 5, cells := 0, slots := 0, locals := 113 }
set_option maxRecDepth 20000 in
set_option maxHeartbeats 4000000 in
theorem tj_X12_wordOfPart_81 {x : Ctx} {Λ : Lay} (C : Cx x cX12_wordOfPart 1 (some .int) RX12 Λ rm_X12_wordOfPart) (N : Nat) (μ : Mem) (s0 : Int32) {r : Int32} (hm : jn_X12_wordOfPart_81 N Λ μ s0 = some r) : J x 1 Λ (QI x Λ r μ) 81 [] [.int s0] μ := by
  obtain rfl := Option.some.inj hm
  exact j_ireti C dX12_wordOfPart_81
set_option maxRecDepth 20000 in
set_option maxHeartbeats 4000000 in
theorem tm_X12_wordOfPart {x : Ctx} {Λ : Lay} (C : Cx x cX12_wordOfPart 1 (some .int) RX12 Λ rm_X12_wordOfPart) (N : Nat) (μ : Mem) (v0 : Nat) (hv0 : inL Λ v0 11) {r : Int32} (hm : m_X12_wordOfPart N Λ μ v0 = some r) : J x 1 Λ (QI x Λ r μ) 0 [(0, .ref v0)] [] μ := by
  refine j_aload_n C 0 dX12_wordOfPart_0 rfl ?_
  refine j_ldcS C (i := 18) (tx := "ship") (List.mem_of_getElem? (i := 30) rfl) dX12_wordOfPart_1 ?_
  obtain ⟨r1, h2, hm⟩ := bd_some hm
  refine call_I (run_LV C lk_X12_139 ⟨rfl, rfl, Nat.le_of_ble_eq_true rfl, Nat.le_of_ble_eq_true rfl⟩ (As := [.ref (sK Λ 18)]) hv0 rfl rfl (Nat.le_of_ble_eq_true rfl) dX12_wordOfPart_3 (mc_X12_isWord _ _ _ _ _ _ hv0 ((by decide)) h2)) ?_
  refine j_if_eq C (tgt := 11) dX12_wordOfPart_6 (by decide) (fun h3 => ?_) (fun h3 => ?_)
  · replace hm := if_t hm h3
    refine j_aload_n C 0 dX12_wordOfPart_11 rfl ?_
    refine j_ldcS C (i := 11) (tx := "length") (List.mem_of_getElem? (i := 31) rfl) dX12_wordOfPart_12 ?_
    obtain ⟨r4, h5, hm⟩ := bd_some hm
    refine call_I (run_LV C lk_X12_139 ⟨rfl, rfl, Nat.le_of_ble_eq_true rfl, Nat.le_of_ble_eq_true rfl⟩ (As := [.ref (sK Λ 11)]) hv0 rfl rfl (Nat.le_of_ble_eq_true rfl) dX12_wordOfPart_14 (mc_X12_isWord _ _ _ _ _ _ hv0 ((by decide)) h5)) ?_
    refine j_if_eq C (tgt := 22) dX12_wordOfPart_17 (by decide) (fun h6 => ?_) (fun h6 => ?_)
    · replace hm := if_t hm h6
      refine j_aload_n C 0 dX12_wordOfPart_22 rfl ?_
      refine j_ldcS C (i := 3) (tx := "draught") (List.mem_of_getElem? (i := 32) rfl) dX12_wordOfPart_23 ?_
      obtain ⟨r7, h8, hm⟩ := bd_some hm
      refine call_I (run_LV C lk_X12_139 ⟨rfl, rfl, Nat.le_of_ble_eq_true rfl, Nat.le_of_ble_eq_true rfl⟩ (As := [.ref (sK Λ 3)]) hv0 rfl rfl (Nat.le_of_ble_eq_true rfl) dX12_wordOfPart_25 (mc_X12_isWord _ _ _ _ _ _ hv0 ((by decide)) h8)) ?_
      refine j_if_eq C (tgt := 33) dX12_wordOfPart_28 (by decide) (fun h9 => ?_) (fun h9 => ?_)
      · replace hm := if_t hm h9
        refine j_aload_n C 0 dX12_wordOfPart_33 rfl ?_
        refine j_ldcS C (i := 22) (tx := "work") (List.mem_of_getElem? (i := 33) rfl) dX12_wordOfPart_34 ?_
        obtain ⟨r10, h11, hm⟩ := bd_some hm
        refine call_I (run_LV C lk_X12_139 ⟨rfl, rfl, Nat.le_of_ble_eq_true rfl, Nat.le_of_ble_eq_true rfl⟩ (As := [.ref (sK Λ 22)]) hv0 rfl rfl (Nat.le_of_ble_eq_true rfl) dX12_wordOfPart_36 (mc_X12_isWord _ _ _ _ _ _ hv0 ((by decide)) h11)) ?_
        refine j_if_eq C (tgt := 44) dX12_wordOfPart_39 (by decide) (fun h12 => ?_) (fun h12 => ?_)
        · replace hm := if_t hm h12
          refine j_aload_n C 0 dX12_wordOfPart_44 rfl ?_
          refine j_ldcS C (i := 12) (tx := "level") (List.mem_of_getElem? (i := 37) rfl) dX12_wordOfPart_45 ?_
          obtain ⟨r13, h14, hm⟩ := bd_some hm
          refine call_I (run_LV C lk_X12_139 ⟨rfl, rfl, Nat.le_of_ble_eq_true rfl, Nat.le_of_ble_eq_true rfl⟩ (As := [.ref (sK Λ 12)]) hv0 rfl rfl (Nat.le_of_ble_eq_true rfl) dX12_wordOfPart_47 (mc_X12_isWord _ _ _ _ _ _ hv0 ((by decide)) h14)) ?_
          refine j_if_eq C (tgt := 55) dX12_wordOfPart_50 (by decide) (fun h15 => ?_) (fun h15 => ?_)
          · replace hm := if_t hm h15
            refine j_aload_n C 0 dX12_wordOfPart_55 rfl ?_
            refine j_ldcS C (i := 21) (tx := "tide") (List.mem_of_getElem? (i := 35) rfl) dX12_wordOfPart_56 ?_
            obtain ⟨r16, h17, hm⟩ := bd_some hm
            refine call_I (run_LV C lk_X12_139 ⟨rfl, rfl, Nat.le_of_ble_eq_true rfl, Nat.le_of_ble_eq_true rfl⟩ (As := [.ref (sK Λ 21)]) hv0 rfl rfl (Nat.le_of_ble_eq_true rfl) dX12_wordOfPart_58 (mc_X12_isWord _ _ _ _ _ _ hv0 ((by decide)) h17)) ?_
            refine j_if_eq C (tgt := 66) dX12_wordOfPart_61 (by decide) (fun h18 => ?_) (fun h18 => ?_)
            · replace hm := if_t hm h18
              refine j_aload_n C 0 dX12_wordOfPart_66 rfl ?_
              refine j_ldcS C (i := 7) (tx := "hour") (List.mem_of_getElem? (i := 42) rfl) dX12_wordOfPart_67 ?_
              obtain ⟨r19, h20, hm⟩ := bd_some hm
              refine call_I (run_LV C lk_X12_139 ⟨rfl, rfl, Nat.le_of_ble_eq_true rfl, Nat.le_of_ble_eq_true rfl⟩ (As := [.ref (sK Λ 7)]) hv0 rfl rfl (Nat.le_of_ble_eq_true rfl) dX12_wordOfPart_69 (mc_X12_isWord _ _ _ _ _ _ hv0 ((by decide)) h20)) ?_
              refine j_if_eq C (tgt := 80) dX12_wordOfPart_72 (by decide) (fun h21 => ?_) (fun h21 => ?_)
              · replace hm := if_t hm h21
                refine j_iconst C (v := -1) dX12_wordOfPart_80 rfl ?_
                refine j_sub [] rfl ?_
                exact tj_X12_wordOfPart_81 C _ _ _  hm
              · replace hm := if_f hm h21
                refine j_bipush C (v := 6) dX12_wordOfPart_75 rfl ?_
                refine j_goto C (tgt := 81) dX12_wordOfPart_77 (by decide) ?_
                refine j_sub [] rfl ?_
                exact tj_X12_wordOfPart_81 C _ _ _  hm
            · replace hm := if_f hm h18
              refine j_iconst C (v := 5) dX12_wordOfPart_64 rfl ?_
              obtain rfl := Option.some.inj hm
              exact j_ireti C dX12_wordOfPart_65
          · replace hm := if_f hm h15
            refine j_iconst C (v := 4) dX12_wordOfPart_53 rfl ?_
            obtain rfl := Option.some.inj hm
            exact j_ireti C dX12_wordOfPart_54
        · replace hm := if_f hm h12
          refine j_iconst C (v := 3) dX12_wordOfPart_42 rfl ?_
          obtain rfl := Option.some.inj hm
          exact j_ireti C dX12_wordOfPart_43
      · replace hm := if_f hm h9
        refine j_iconst C (v := 2) dX12_wordOfPart_31 rfl ?_
        obtain rfl := Option.some.inj hm
        exact j_ireti C dX12_wordOfPart_32
    · replace hm := if_f hm h6
      refine j_iconst C (v := 1) dX12_wordOfPart_20 rfl ?_
      obtain rfl := Option.some.inj hm
      exact j_ireti C dX12_wordOfPart_21
  · replace hm := if_f hm h3
    refine j_iconst C (v := 0) dX12_wordOfPart_9 rfl ?_
    obtain rfl := Option.some.inj hm
    exact j_ireti C dX12_wordOfPart_10
set_option maxRecDepth 20000 in
set_option maxHeartbeats 4000000 in
theorem mc_X12_wordOfPart (l : Launch) (N : Nat) (Λ : Lay) (μ : Mem) (v0 : Nat) (hv0 : inL Λ v0 11) {r : Int32} (hm : m_X12_wordOfPart N Λ μ v0 = some r) : MI l yX12_wordOfPart cX12_wordOfPart 1 (some .int) rm_X12_wordOfPart Λ [.ref v0] μ r μ := mi_of rfl (Nat.le_of_ble_eq_true rfl) (fun x C _ => tm_X12_wordOfPart C _ _ _ hv0 hm)
abbrev rm_X12_readPart : Room := { frames := 6, cells := 0, slots := 0, locals := 133 }
set_option maxRecDepth 20000 in
set_option maxHeartbeats 4000000 in
theorem tj_X12_readPart_73 {x : Ctx} {Λ : Lay} (C : Cx x cX12_readPart 3 (some .boolean) RX12 Λ rm_X12_readPart) (N : Nat) (μ : Mem) (s0 : Int32) {r : Int32 × Mem} (hm : jn_X12_readPart_73 N Λ μ s0 = some r) : J x 3 Λ (QI x Λ r.1 r.2) 73 [] [.int s0] μ := by
  obtain ⟨h1, hm⟩ := gd_some hm
  obtain rfl := Option.some.inj hm
  exact j_iretz C h1 dX12_readPart_73
set_option maxRecDepth 20000 in
set_option maxHeartbeats 4000000 in
theorem tj_X12_readPart_61 {x : Ctx} {Λ : Lay} (C : Cx x cX12_readPart 3 (some .boolean) RX12 Λ rm_X12_readPart) (N : Nat) (μ : Mem) (v2 : Int32) (s0 : Nat) (s1 : Int32) (s2 : Int32) (hs0 : inL Λ s0 11) {r : Int32 × Mem} (hm : jn_X12_readPart_61 N Λ μ v2 s0 s1 s2 = some r) : J x 3 Λ (QI x Λ r.1 r.2) 61 [(2, .int v2)] [.int s2, .int s1, .ref s0] μ := by
  obtain ⟨r1, h2, hm⟩ := bd_some hm
  refine call_V (run_LV C lk_X12_217 ⟨rfl, rfl, Nat.le_of_ble_eq_true rfl, Nat.le_of_ble_eq_true rfl⟩ (As := [.int s1, .int s2]) hs0 rfl rfl (Nat.le_of_ble_eq_true rfl) dX12_readPart_61 (mc_X12_emits _ _ _ _ _ _ _ hs0 h2)) ?_
  refine j_iload_n C 0 dX12_readPart_64 rfl ?_
  refine j_if_lt C (tgt := 72) dX12_readPart_65 (by decide) (fun h3 => ?_) (fun h3 => ?_)
  · replace hm := if_t hm h3
    refine j_iconst C (v := 0) dX12_readPart_72 rfl ?_
    refine j_sub [] rfl ?_
    exact tj_X12_readPart_73 C _ _ _  hm
  · replace hm := if_f hm h3
    refine j_iconst C (v := 1) dX12_readPart_68 rfl ?_
    refine j_goto C (tgt := 73) dX12_readPart_69 (by decide) ?_
    refine j_sub [] rfl ?_
    exact tj_X12_readPart_73 C _ _ _  hm
set_option maxRecDepth 20000 in
set_option maxHeartbeats 4000000 in
theorem tj_X12_readPart_52 {x : Ctx} {Λ : Lay} (C : Cx x cX12_readPart 3 (some .boolean) RX12 Λ rm_X12_readPart) (N : Nat) (μ : Mem) (v1 : Int32) (v2 : Int32) (s0 : Nat) (s1 : Int32) (hs0 : inL Λ s0 11) {r : Int32 × Mem} (hm : jn_X12_readPart_52 N Λ μ v1 v2 s0 s1 = some r) : J x 3 Λ (QI x Λ r.1 r.2) 52 [(1, .int v1), (2, .int v2)] [.int s1, .ref s0] μ := by
  refine j_iload_n C 0 dX12_readPart_52 rfl ?_
  refine j_if_eq C (tgt := 60) dX12_readPart_53 (by decide) (fun h1 => ?_) (fun h1 => ?_)
  · replace hm := if_t hm h1
    refine j_iconst C (v := 0) dX12_readPart_60 rfl ?_
    refine j_sub [1] rfl ?_
    exact tj_X12_readPart_61 C _ _ _ _ _ _ hs0 hm
  · replace hm := if_f hm h1
    refine j_iload_n C 1 dX12_readPart_56 rfl ?_
    refine j_goto C (tgt := 61) dX12_readPart_57 (by decide) ?_
    refine j_sub [1] rfl ?_
    exact tj_X12_readPart_61 C _ _ _ _ _ _ hs0 hm
set_option maxRecDepth 20000 in
set_option maxHeartbeats 4000000 in
theorem tj_X12_readPart_40 {x : Ctx} {Λ : Lay} (C : Cx x cX12_readPart 3 (some .boolean) RX12 Λ rm_X12_readPart) (N : Nat) (μ : Mem) (v0 : Nat) (v1 : Int32) (s0 : Int32) (hv0 : inL Λ v0 11) {r : Int32 × Mem} (hm : jn_X12_readPart_40 N Λ μ v0 v1 s0 = some r) : J x 3 Λ (QI x Λ r.1 r.2) 40 [(0, .ref v0), (1, .int v1)] [.int s0] μ := by
  refine j_istore_n C (lv' := [(2, .int s0), (0, .ref v0), (1, .int v1)]) dX12_readPart_40 (by decide) rfl ?_
  refine j_aload_n C 1 dX12_readPart_41 rfl ?_
  refine j_iload_n C 2 dX12_readPart_42 rfl ?_
  refine j_if_eq C (tgt := 51) dX12_readPart_43 (by decide) (fun h1 => ?_) (fun h1 => ?_)
  · replace hm := if_t hm h1
    refine j_iload_n C 0 dX12_readPart_51 rfl ?_
    refine j_sub [2, 0] rfl ?_
    exact tj_X12_readPart_52 C _ _ _ _ _ _ hv0 hm
  · replace hm := if_f hm h1
    refine j_bipush C (v := 10) dX12_readPart_46 rfl ?_
    refine j_goto C (tgt := 52) dX12_readPart_48 (by decide) ?_
    refine j_sub [2, 0] rfl ?_
    exact tj_X12_readPart_52 C _ _ _ _ _ _ hv0 hm
set_option maxRecDepth 20000 in
set_option maxHeartbeats 4000000 in
theorem tj_X12_readPart_20 {x : Ctx} {Λ : Lay} (C : Cx x cX12_readPart 3 (some .boolean) RX12 Λ rm_X12_readPart) (N : Nat) (μ : Mem) (v0 : Nat) (s0 : Int32) (hv0 : inL Λ v0 11) {r : Int32 × Mem} (hm : jn_X12_readPart_20 N Λ μ v0 s0 = some r) : J x 3 Λ (QI x Λ r.1 r.2) 20 [(0, .ref v0)] [.int s0] μ := by
  refine j_istore_n C (lv' := [(1, .int s0), (0, .ref v0)]) dX12_readPart_20 (by decide) rfl ?_
  refine j_iload_n C 0 dX12_readPart_21 rfl ?_
  refine j_if_eq C (tgt := 36) dX12_readPart_22 (by decide) (fun h1 => ?_) (fun h1 => ?_)
  · replace hm := if_t hm h1
    refine j_aload_n C 1 dX12_readPart_36 rfl ?_
    obtain ⟨r2, h3, hm⟩ := bd_some hm
    refine call_I (run_LV C lk_X12_214 ⟨rfl, rfl, Nat.le_of_ble_eq_true rfl, Nat.le_of_ble_eq_true rfl⟩ (As := []) hv0 rfl rfl (Nat.le_of_ble_eq_true rfl) dX12_readPart_37 (mc_X12_wordOfPart _ _ _ _ _ hv0 h3)) ?_
    refine j_sub [1, 0] rfl ?_
    exact tj_X12_readPart_40 C _ _ _ _ _ hv0 hm
  · replace hm := if_f hm h1
    refine j_aload_n C 1 dX12_readPart_25 rfl ?_
    refine j_iconst C (v := 0) dX12_readPart_26 rfl ?_
    refine j_sipush C (v := 999) dX12_readPart_27 rfl ?_
    obtain ⟨r4, h5, hm⟩ := bd_some hm
    refine call_I (run_LV C lk_X12_143 ⟨rfl, rfl, Nat.le_of_ble_eq_true rfl, Nat.le_of_ble_eq_true rfl⟩ (As := [.int 0, .int 999]) hv0 rfl rfl (Nat.le_of_ble_eq_true rfl) dX12_readPart_30 (mc_X12_number _ _ _ _ _ _ _ hv0 h5)) ?_
    refine j_goto C (tgt := 40) dX12_readPart_33 (by decide) ?_
    refine j_sub [1, 0] rfl ?_
    exact tj_X12_readPart_40 C _ _ _ _ _ hv0 hm
set_option maxRecDepth 20000 in
set_option maxHeartbeats 4000000 in
theorem tm_X12_readPart {x : Ctx} {Λ : Lay} (C : Cx x cX12_readPart 3 (some .boolean) RX12 Λ rm_X12_readPart) (N : Nat) (μ : Mem) (v0 : Nat) (hv0 : inL Λ v0 11) {r : Int32 × Mem} (hm : m_X12_readPart N Λ μ v0 = some r) : J x 3 Λ (QI x Λ r.1 r.2) 0 [(0, .ref v0)] [] μ := by
  refine j_aload_n C 0 dX12_readPart_0 rfl ?_
  obtain ⟨r1, h2, hm⟩ := bd_some hm
  refine call_V (run_LV C lk_X12_136 ⟨rfl, rfl, Nat.le_of_ble_eq_true rfl, Nat.le_of_ble_eq_true rfl⟩ (As := []) hv0 rfl rfl (Nat.le_of_ble_eq_true rfl) dX12_readPart_1 (mc_X12_letters _ _ _ _ _ hv0 h2)) ?_
  refine j_aload_n C 0 dX12_readPart_4 rfl ?_
  refine j_getI C fg_X12_111_11 hv0 dX12_readPart_5 ?_
  refine j_aload_n C 0 dX12_readPart_8 rfl ?_
  refine j_getI C fg_X12_121_11 hv0 dX12_readPart_9 ?_
  refine j_icmp_ne C (tgt := 19) dX12_readPart_12 (by decide) (fun h3 => ?_) (fun h3 => ?_)
  · replace hm := if_f hm h3
    refine j_iconst C (v := 0) dX12_readPart_19 rfl ?_
    exact tj_X12_readPart_20 C _ _ _ _ hv0 hm
  · replace hm := if_t hm h3
    refine j_iconst C (v := 1) dX12_readPart_15 rfl ?_
    refine j_goto C (tgt := 20) dX12_readPart_16 (by decide) ?_
    exact tj_X12_readPart_20 C _ _ _ _ hv0 hm
set_option maxRecDepth 20000 in
set_option maxHeartbeats 4000000 in
theorem mc_X12_readPart (l : Launch) (N : Nat) (Λ : Lay) (μ : Mem) (v0 : Nat) (hv0 : inL Λ v0 11) {r : Int32 × Mem} (hm : m_X12_readPart N Λ μ v0 = some r) : MI l yX12_readPart cX12_readPart 3 (some .boolean) rm_X12_readPart Λ [.ref v0] μ r.1 r.2 := mi_of rfl (Nat.le_of_ble_eq_true rfl) (fun x C _ => tm_X12_readPart C _ _ _ hv0 hm)
abbrev rm_X12_readSum : Room := { frames := 7, cells := 0, slots := 0, locals := 155 }
set_option maxRecDepth 20000 in
set_option maxHeartbeats 4000000 in
theorem tb_X12_readSum_9 {x : Ctx} {Λ : Lay} (C : Cx x cX12_readSum 1 (some .boolean) RX12 Λ rm_X12_readSum) (N : Nat) (μ : Mem) (k9 : Mem → Option (Int32 × Mem)) (v0 : Nat) (hk9 : ∀ (s : Mem) (r : Int32 × Mem), k9 s = some r → J x 1 Λ (QI x Λ r.1 r.2) 9 [(0, .ref v0)] [] (s)) (hv0 : inL Λ v0 11) {r : Int32 × Mem} (hm : bd_X12_readSum_9 N Λ μ k9 v0 = some r) : J x 1 Λ (QI x Λ r.1 r.2) 9 [(0, .ref v0)] [] μ := by
  refine j_aload_n C 0 dX12_readSum_9 rfl ?_
  refine j_bipush C (v := 43) dX12_readSum_10 rfl ?_
  obtain ⟨r1, h2, hm⟩ := bd_some hm
  refine call_I (run_LV C lk_X12_224 ⟨rfl, rfl, Nat.le_of_ble_eq_true rfl, Nat.le_of_ble_eq_true rfl⟩ (As := [.int 43]) hv0 rfl rfl (Nat.le_of_ble_eq_true rfl) dX12_readSum_12 (mc_X12_sign _ _ _ _ _ _ hv0 h2)) ?_
  refine j_if_eq C (tgt := 37) dX12_readSum_15 (by decide) (fun h3 => ?_) (fun h3 => ?_)
  · replace hm := if_t hm h3
    refine j_iconst C (v := 1) dX12_readSum_37 rfl ?_
    obtain rfl := Option.some.inj hm
    exact j_iretz C rfl dX12_readSum_38
  · replace hm := if_f hm h3
    refine j_aload_n C 0 dX12_readSum_18 rfl ?_
    obtain ⟨r4, h5, hm⟩ := bd_some hm
    refine call_I (run_LV C lk_X12_221 ⟨rfl, rfl, Nat.le_of_ble_eq_true rfl, Nat.le_of_ble_eq_true rfl⟩ (As := []) hv0 rfl rfl (Nat.le_of_ble_eq_true rfl) dX12_readSum_19 (mc_X12_readPart _ _ _ _ _ hv0 h5)) ?_
    refine j_if_ne C (tgt := 27) dX12_readSum_22 (by decide) (fun h6 => ?_) (fun h6 => ?_)
    · replace hm := if_f hm h6
      refine j_aload_n C 0 dX12_readSum_27 rfl ?_
      refine j_bipush C (v := 11) dX12_readSum_28 rfl ?_
      refine j_iconst C (v := 0) dX12_readSum_30 rfl ?_
      obtain ⟨r7, h8, hm⟩ := bd_some hm
      refine call_V (run_LV C lk_X12_217 ⟨rfl, rfl, Nat.le_of_ble_eq_true rfl, Nat.le_of_ble_eq_true rfl⟩ (As := [.int 11, .int 0]) hv0 rfl rfl (Nat.le_of_ble_eq_true rfl) dX12_readSum_31 (mc_X12_emits _ _ _ _ _ _ _ hv0 h8)) ?_
      refine j_goto C (tgt := 9) dX12_readSum_34 (by decide) ?_
      exact hk9 r7 _ hm
    · replace hm := if_t hm h6
      refine j_iconst C (v := 0) dX12_readSum_25 rfl ?_
      obtain rfl := Option.some.inj hm
      exact j_iretz C rfl dX12_readSum_26
set_option maxRecDepth 20000 in
set_option maxHeartbeats 4000000 in
theorem tl_X12_readSum_9 {x : Ctx} {Λ : Lay} (C : Cx x cX12_readSum 1 (some .boolean) RX12 Λ rm_X12_readSum) (N : Nat) (v0 : Nat) (hv0 : inL Λ v0 11) (s : Mem) {r : Int32 × Mem} (hm : lp_X12_readSum_9 N Λ v0 s = some r) : J x 1 Λ (QI x Λ r.1 r.2) 9 [(0, .ref v0)] [] (s) :=
  cw_ind (P := fun s r => J x 1 Λ (QI x Λ r.1 r.2) 9 [(0, .ref v0)] [] (s)) (fun k hkk s r e => tb_X12_readSum_9 C _ _ _ _ hkk hv0 e) N s r hm
set_option maxRecDepth 20000 in
set_option maxHeartbeats 4000000 in
theorem tm_X12_readSum {x : Ctx} {Λ : Lay} (C : Cx x cX12_readSum 1 (some .boolean) RX12 Λ rm_X12_readSum) (N : Nat) (μ : Mem) (v0 : Nat) (hv0 : inL Λ v0 11) {r : Int32 × Mem} (hm : m_X12_readSum N Λ μ v0 = some r) : J x 1 Λ (QI x Λ r.1 r.2) 0 [(0, .ref v0)] [] μ := by
  refine j_aload_n C 0 dX12_readSum_0 rfl ?_
  obtain ⟨r1, h2, hm⟩ := bd_some hm
  refine call_I (run_LV C lk_X12_221 ⟨rfl, rfl, Nat.le_of_ble_eq_true rfl, Nat.le_of_ble_eq_true rfl⟩ (As := []) hv0 rfl rfl (Nat.le_of_ble_eq_true rfl) dX12_readSum_1 (mc_X12_readPart _ _ _ _ _ hv0 h2)) ?_
  refine j_if_ne C (tgt := 9) dX12_readSum_4 (by decide) (fun h3 => ?_) (fun h3 => ?_)
  · replace hm := if_f hm h3
    exact tl_X12_readSum_9 C _ _ hv0 r1.2 hm
  · replace hm := if_t hm h3
    refine j_iconst C (v := 0) dX12_readSum_7 rfl ?_
    obtain rfl := Option.some.inj hm
    exact j_iretz C rfl dX12_readSum_8
set_option maxRecDepth 20000 in
set_option maxHeartbeats 4000000 in
theorem mc_X12_readSum (l : Launch) (N : Nat) (Λ : Lay) (μ : Mem) (v0 : Nat) (hv0 : inL Λ v0 11) {r : Int32 × Mem} (hm : m_X12_readSum N Λ μ v0 = some r) : MI l yX12_readSum cX12_readSum 1 (some .boolean) rm_X12_readSum Λ [.ref v0] μ r.1 r.2 := mi_of rfl (Nat.le_of_ble_eq_true rfl) (fun x C _ => tm_X12_readSum C _ _ _ hv0 hm)
abbrev rm_X12_readTag : Room := { frames := 5, cells := 0, slots := 0, locals := 113 }
set_option maxRecDepth 20000 in
set_option maxHeartbeats 4000000 in
theorem tj_X12_readTag_78 {x : Ctx} {Λ : Lay} (C : Cx x cX12_readTag 2 (some .boolean) RX12 Λ rm_X12_readTag) (N : Nat) (μ : Mem) (s0 : Int32) {r : Int32 × Mem} (hm : jn_X12_readTag_78 N Λ μ s0 = some r) : J x 2 Λ (QI x Λ r.1 r.2) 78 [] [.int s0] μ := by
  obtain ⟨h1, hm⟩ := gd_some hm
  obtain rfl := Option.some.inj hm
  exact j_iretz C h1 dX12_readTag_78
set_option maxRecDepth 20000 in
set_option maxHeartbeats 4000000 in
theorem tj_X12_readTag_69 {x : Ctx} {Λ : Lay} (C : Cx x cX12_readTag 2 (some .boolean) RX12 Λ rm_X12_readTag) (N : Nat) (μ : Mem) (v1 : Int32) {r : Int32 × Mem} (hm : jn_X12_readTag_69 N Λ μ v1 = some r) : J x 2 Λ (QI x Λ r.1 r.2) 69 [(1, .int v1)] [] μ := by
  refine j_iload_n C 0 dX12_readTag_69 rfl ?_
  refine j_if_lt C (tgt := 77) dX12_readTag_70 (by decide) (fun h1 => ?_) (fun h1 => ?_)
  · replace hm := if_t hm h1
    refine j_iconst C (v := 0) dX12_readTag_77 rfl ?_
    refine j_sub [] rfl ?_
    exact tj_X12_readTag_78 C _ _ _  hm
  · replace hm := if_f hm h1
    refine j_iconst C (v := 1) dX12_readTag_73 rfl ?_
    refine j_goto C (tgt := 78) dX12_readTag_74 (by decide) ?_
    refine j_sub [] rfl ?_
    exact tj_X12_readTag_78 C _ _ _  hm
set_option maxRecDepth 20000 in
set_option maxHeartbeats 4000000 in
theorem tj_X12_readTag_47 {x : Ctx} {Λ : Lay} (C : Cx x cX12_readTag 2 (some .boolean) RX12 Λ rm_X12_readTag) (N : Nat) (μ : Mem) (v0 : Nat) (s0 : Int32) (hv0 : inL Λ v0 11) {r : Int32 × Mem} (hm : jn_X12_readTag_47 N Λ μ v0 s0 = some r) : J x 2 Λ (QI x Λ r.1 r.2) 47 [(0, .ref v0)] [.int s0] μ := by
  refine j_istore_n C (lv' := [(1, .int s0), (0, .ref v0)]) dX12_readTag_47 (by decide) rfl ?_
  refine j_iload_n C 0 dX12_readTag_48 rfl ?_
  refine j_if_lt C (tgt := 61) dX12_readTag_49 (by decide) (fun h1 => ?_) (fun h1 => ?_)
  · replace hm := if_t hm h1
    refine j_aload_n C 1 dX12_readTag_61 rfl ?_
    refine j_aload_n C 1 dX12_readTag_62 rfl ?_
    refine j_getI C fg_X12_121_11 hv0 dX12_readTag_63 ?_
    obtain ⟨μ2, e3, hm⟩ := lt_some hm
    refine j_putI C fp_X12_111_11 hv0 e3 dX12_readTag_66 ?_
    refine j_sub [0] rfl ?_
    exact tj_X12_readTag_69 C _ _ _  hm
  · replace hm := if_f hm h1
    refine j_aload_n C 1 dX12_readTag_52 rfl ?_
    refine j_iload_n C 0 dX12_readTag_53 rfl ?_
    refine j_iconst C (v := 0) dX12_readTag_54 rfl ?_
    obtain ⟨r4, h5, hm⟩ := bd_some hm
    refine call_V (run_LV C lk_X12_217 ⟨rfl, rfl, Nat.le_of_ble_eq_true rfl, Nat.le_of_ble_eq_true rfl⟩ (As := [.int s0, .int 0]) hv0 rfl rfl (Nat.le_of_ble_eq_true rfl) dX12_readTag_55 (mc_X12_emits _ _ _ _ _ _ _ hv0 h5)) ?_
    refine j_goto C (tgt := 69) dX12_readTag_58 (by decide) ?_
    refine j_sub [0] rfl ?_
    exact tj_X12_readTag_69 C _ _ _  hm
set_option maxRecDepth 20000 in
set_option maxHeartbeats 4000000 in
theorem tm_X12_readTag {x : Ctx} {Λ : Lay} (C : Cx x cX12_readTag 2 (some .boolean) RX12 Λ rm_X12_readTag) (N : Nat) (μ : Mem) (v0 : Nat) (hv0 : inL Λ v0 11) {r : Int32 × Mem} (hm : m_X12_readTag N Λ μ v0 = some r) : J x 2 Λ (QI x Λ r.1 r.2) 0 [(0, .ref v0)] [] μ := by
  refine j_aload_n C 0 dX12_readTag_0 rfl ?_
  obtain ⟨r1, h2, hm⟩ := bd_some hm
  refine call_V (run_LV C lk_X12_136 ⟨rfl, rfl, Nat.le_of_ble_eq_true rfl, Nat.le_of_ble_eq_true rfl⟩ (As := []) hv0 rfl rfl (Nat.le_of_ble_eq_true rfl) dX12_readTag_1 (mc_X12_letters _ _ _ _ _ hv0 h2)) ?_
  refine j_aload_n C 0 dX12_readTag_4 rfl ?_
  refine j_ldcS C (i := 14) (tx := "open") (List.mem_of_getElem? (i := 48) rfl) dX12_readTag_5 ?_
  obtain ⟨r3, h4, hm⟩ := bd_some hm
  refine call_I (run_LV C lk_X12_139 ⟨rfl, rfl, Nat.le_of_ble_eq_true rfl, Nat.le_of_ble_eq_true rfl⟩ (As := [.ref (sK Λ 14)]) hv0 rfl rfl (Nat.le_of_ble_eq_true rfl) dX12_readTag_7 (mc_X12_isWord _ _ _ _ _ _ hv0 ((by decide)) h4)) ?_
  refine j_if_eq C (tgt := 18) dX12_readTag_10 (by decide) (fun h5 => ?_) (fun h5 => ?_)
  · replace hm := if_t hm h5
    refine j_aload_n C 0 dX12_readTag_18 rfl ?_
    refine j_ldcS C (i := 4) (tx := "dry") (List.mem_of_getElem? (i := 49) rfl) dX12_readTag_19 ?_
    obtain ⟨r6, h7, hm⟩ := bd_some hm
    refine call_I (run_LV C lk_X12_139 ⟨rfl, rfl, Nat.le_of_ble_eq_true rfl, Nat.le_of_ble_eq_true rfl⟩ (As := [.ref (sK Λ 4)]) hv0 rfl rfl (Nat.le_of_ble_eq_true rfl) dX12_readTag_21 (mc_X12_isWord _ _ _ _ _ _ hv0 ((by decide)) h7)) ?_
    refine j_if_eq C (tgt := 32) dX12_readTag_24 (by decide) (fun h8 => ?_) (fun h8 => ?_)
    · replace hm := if_t hm h8
      refine j_aload_n C 0 dX12_readTag_32 rfl ?_
      refine j_ldcS C (i := 8) (tx := "hurt") (List.mem_of_getElem? (i := 50) rfl) dX12_readTag_33 ?_
      obtain ⟨r9, h10, hm⟩ := bd_some hm
      refine call_I (run_LV C lk_X12_139 ⟨rfl, rfl, Nat.le_of_ble_eq_true rfl, Nat.le_of_ble_eq_true rfl⟩ (As := [.ref (sK Λ 8)]) hv0 rfl rfl (Nat.le_of_ble_eq_true rfl) dX12_readTag_35 (mc_X12_isWord _ _ _ _ _ _ hv0 ((by decide)) h10)) ?_
      refine j_if_eq C (tgt := 46) dX12_readTag_38 (by decide) (fun h11 => ?_) (fun h11 => ?_)
      · replace hm := if_t hm h11
        refine j_iconst C (v := -1) dX12_readTag_46 rfl ?_
        exact tj_X12_readTag_47 C _ _ _ _ hv0 hm
      · replace hm := if_f hm h11
        refine j_bipush C (v := 9) dX12_readTag_41 rfl ?_
        refine j_goto C (tgt := 47) dX12_readTag_43 (by decide) ?_
        exact tj_X12_readTag_47 C _ _ _ _ hv0 hm
    · replace hm := if_f hm h8
      refine j_bipush C (v := 8) dX12_readTag_27 rfl ?_
      refine j_goto C (tgt := 47) dX12_readTag_29 (by decide) ?_
      exact tj_X12_readTag_47 C _ _ _ _ hv0 hm
  · replace hm := if_f hm h5
    refine j_bipush C (v := 7) dX12_readTag_13 rfl ?_
    refine j_goto C (tgt := 47) dX12_readTag_15 (by decide) ?_
    exact tj_X12_readTag_47 C _ _ _ _ hv0 hm
set_option maxRecDepth 20000 in
set_option maxHeartbeats 4000000 in
theorem mc_X12_readTag (l : Launch) (N : Nat) (Λ : Lay) (μ : Mem) (v0 : Nat) (hv0 : inL Λ v0 11) {r : Int32 × Mem} (hm : m_X12_readTag N Λ μ v0 = some r) : MI l yX12_readTag cX12_readTag 2 (some .boolean) rm_X12_readTag Λ [.ref v0] μ r.1 r.2 := mi_of rfl (Nat.le_of_ble_eq_true rfl) (fun x C _ => tm_X12_readTag C _ _ _ hv0 hm)
abbrev rm_X12_readAtom (d : Nat) : Room := { frames := 4 * d + 20, cells := 0, slots := 0, locals := 400 * d + 900 }
abbrev rm_X12_readAllOf (d : Nat) : Room := { frames := 4 * d + 21, cells := 0, slots := 0, locals := 400 * d + 1020 }
abbrev rm_X12_readCond (d : Nat) : Room := { frames := 4 * d + 22, cells := 0, slots := 0, locals := 400 * d + 1140 }
set_option maxRecDepth 20000 in
set_option maxHeartbeats 4000000 in
theorem tb_X12_readAllOf_9 {x : Ctx} {Λ : Lay} {d : Nat} (C : Cx x cX12_readAllOf 1 (some .boolean) RX12 Λ (rm_X12_readAllOf d)) (N : Nat) (fA : Mem → Nat → Option (Int32 × Mem)) (μ : Mem) (k9 : Mem → Option (Int32 × Mem)) (v0 : Nat) (hfA : ∀ (ν : Mem) (a : Nat) (r : Int32 × Mem), inL Λ a 11 → fA ν a = some r → MI x.2.1 yX12_readAtom cX12_readAtom 2 (some .boolean) (rm_X12_readAtom d) Λ [.ref a] ν r.1 r.2) (hk9 : ∀ (s : Mem) (r : Int32 × Mem), k9 s = some r → J x 1 Λ (QI x Λ r.1 r.2) 9 [(0, .ref v0)] [] (s)) (hv0 : inL Λ v0 11) {r : Int32 × Mem} (hm : bd_X12_readAllOf_9 N Λ fA μ k9 v0 = some r) : J x 1 Λ (QI x Λ r.1 r.2) 9 [(0, .ref v0)] [] μ := by
  refine j_aload_n C 0 dX12_readAllOf_9 rfl ?_
  refine j_ldcS C (i := 0) (tx := "and") (List.mem_of_getElem? (i := 51) rfl) dX12_readAllOf_10 ?_
  obtain ⟨r1, h2, hm⟩ := bd_some hm
  refine call_I (run_LV C lk_X12_146 (by refine ⟨rfl, rfl, ?_, ?_⟩ <;> (simp only [rm_X12_passes, rm_X12_readAllOf]; omega)) (As := [.ref (sK Λ 0)]) hv0 rfl rfl (Nat.le_of_ble_eq_true rfl) dX12_readAllOf_12 (mc_X12_passes _ _ _ _ _ _ hv0 ((by decide)) h2)) ?_
  refine j_if_eq C (tgt := 37) dX12_readAllOf_15 (by decide) (fun h3 => ?_) (fun h3 => ?_)
  · replace hm := if_t hm h3
    refine j_iconst C (v := 1) dX12_readAllOf_37 rfl ?_
    obtain rfl := Option.some.inj hm
    exact j_iretz C rfl dX12_readAllOf_38
  · replace hm := if_f hm h3
    refine j_aload_n C 0 dX12_readAllOf_18 rfl ?_
    obtain ⟨r4, h5, hm⟩ := bd_some hm
    refine call_I (run_LV C lk_X12_241 (by refine ⟨rfl, rfl, ?_, ?_⟩ <;> (simp only [rm_X12_readAtom, rm_X12_readAllOf]; omega)) (As := []) hv0 rfl rfl (Nat.le_of_ble_eq_true rfl) dX12_readAllOf_19 (hfA _ _ _ hv0 h5)) ?_
    refine j_if_ne C (tgt := 27) dX12_readAllOf_22 (by decide) (fun h6 => ?_) (fun h6 => ?_)
    · replace hm := if_f hm h6
      refine j_aload_n C 0 dX12_readAllOf_27 rfl ?_
      refine j_bipush C (v := 15) dX12_readAllOf_28 rfl ?_
      refine j_iconst C (v := 0) dX12_readAllOf_30 rfl ?_
      obtain ⟨r7, h8, hm⟩ := bd_some hm
      refine call_V (run_LV C lk_X12_217 (by refine ⟨rfl, rfl, ?_, ?_⟩ <;> (simp only [rm_X12_emits, rm_X12_readAllOf]; omega)) (As := [.int 15, .int 0]) hv0 rfl rfl (Nat.le_of_ble_eq_true rfl) dX12_readAllOf_31 (mc_X12_emits _ _ _ _ _ _ _ hv0 h8)) ?_
      refine j_goto C (tgt := 9) dX12_readAllOf_34 (by decide) ?_
      exact hk9 r7 _ hm
    · replace hm := if_t hm h6
      refine j_iconst C (v := 0) dX12_readAllOf_25 rfl ?_
      obtain rfl := Option.some.inj hm
      exact j_iretz C rfl dX12_readAllOf_26
set_option maxRecDepth 20000 in
set_option maxHeartbeats 4000000 in
theorem tl_X12_readAllOf_9 {x : Ctx} {Λ : Lay} {d : Nat} (C : Cx x cX12_readAllOf 1 (some .boolean) RX12 Λ (rm_X12_readAllOf d)) (N : Nat) (fA : Mem → Nat → Option (Int32 × Mem)) (v0 : Nat) (hfA : ∀ (ν : Mem) (a : Nat) (r : Int32 × Mem), inL Λ a 11 → fA ν a = some r → MI x.2.1 yX12_readAtom cX12_readAtom 2 (some .boolean) (rm_X12_readAtom d) Λ [.ref a] ν r.1 r.2) (hv0 : inL Λ v0 11) (s : Mem) {r : Int32 × Mem} (hm : lp_X12_readAllOf_9 N Λ fA v0 s = some r) : J x 1 Λ (QI x Λ r.1 r.2) 9 [(0, .ref v0)] [] (s) :=
  cw_ind (P := fun s r => J x 1 Λ (QI x Λ r.1 r.2) 9 [(0, .ref v0)] [] (s)) (fun k hkk s r e => tb_X12_readAllOf_9 C _ _ _ _ _ hfA hkk hv0 e) N s r hm
set_option maxRecDepth 20000 in
set_option maxHeartbeats 4000000 in
theorem tm_X12_readAllOf {x : Ctx} {Λ : Lay} {d : Nat} (C : Cx x cX12_readAllOf 1 (some .boolean) RX12 Λ (rm_X12_readAllOf d)) (N : Nat) (fA : Mem → Nat → Option (Int32 × Mem)) (μ : Mem) (v0 : Nat) (hfA : ∀ (ν : Mem) (a : Nat) (r : Int32 × Mem), inL Λ a 11 → fA ν a = some r → MI x.2.1 yX12_readAtom cX12_readAtom 2 (some .boolean) (rm_X12_readAtom d) Λ [.ref a] ν r.1 r.2) (hv0 : inL Λ v0 11) {r : Int32 × Mem} (hm : m_X12_readAllOf N Λ fA μ v0 = some r) : J x 1 Λ (QI x Λ r.1 r.2) 0 [(0, .ref v0)] [] μ := by
  refine j_aload_n C 0 dX12_readAllOf_0 rfl ?_
  obtain ⟨r1, h2, hm⟩ := bd_some hm
  refine call_I (run_LV C lk_X12_241 (by refine ⟨rfl, rfl, ?_, ?_⟩ <;> (simp only [rm_X12_readAtom, rm_X12_readAllOf]; omega)) (As := []) hv0 rfl rfl (Nat.le_of_ble_eq_true rfl) dX12_readAllOf_1 (hfA _ _ _ hv0 h2)) ?_
  refine j_if_ne C (tgt := 9) dX12_readAllOf_4 (by decide) (fun h3 => ?_) (fun h3 => ?_)
  · replace hm := if_f hm h3
    exact tl_X12_readAllOf_9 C _ _ _ hfA hv0 r1.2 hm
  · replace hm := if_t hm h3
    refine j_iconst C (v := 0) dX12_readAllOf_7 rfl ?_
    obtain rfl := Option.some.inj hm
    exact j_iretz C rfl dX12_readAllOf_8
set_option maxRecDepth 20000 in
set_option maxHeartbeats 4000000 in
theorem mc_X12_readAllOf (l : Launch) (N : Nat) (Λ : Lay) (fA : Mem → Nat → Option (Int32 × Mem)) (d : Nat) (hfA : ∀ (ν : Mem) (a : Nat) (r : Int32 × Mem), inL Λ a 11 → fA ν a = some r → MI l yX12_readAtom cX12_readAtom 2 (some .boolean) (rm_X12_readAtom d) Λ [.ref a] ν r.1 r.2) (μ : Mem) (v0 : Nat) (hv0 : inL Λ v0 11) {r : Int32 × Mem} (hm : m_X12_readAllOf N Λ fA μ v0 = some r) : MI l yX12_readAllOf cX12_readAllOf 1 (some .boolean) (rm_X12_readAllOf d) Λ [.ref v0] μ r.1 r.2 := mi_of rfl (Nat.le_of_ble_eq_true rfl) (fun x C hxl => tm_X12_readAllOf C _ _ _ _ (by subst hxl; exact hfA) hv0 hm)
set_option maxRecDepth 20000 in
set_option maxHeartbeats 4000000 in
theorem tb_X12_readCond_9 {x : Ctx} {Λ : Lay} {d : Nat} (C : Cx x cX12_readCond 1 (some .boolean) RX12 Λ (rm_X12_readCond d)) (N : Nat) (fA : Mem → Nat → Option (Int32 × Mem)) (μ : Mem) (k9 : Mem → Option (Int32 × Mem)) (v0 : Nat) (hfA : ∀ (ν : Mem) (a : Nat) (r : Int32 × Mem), inL Λ a 11 → fA ν a = some r → MI x.2.1 yX12_readAtom cX12_readAtom 2 (some .boolean) (rm_X12_readAtom d) Λ [.ref a] ν r.1 r.2) (hk9 : ∀ (s : Mem) (r : Int32 × Mem), k9 s = some r → J x 1 Λ (QI x Λ r.1 r.2) 9 [(0, .ref v0)] [] (s)) (hv0 : inL Λ v0 11) {r : Int32 × Mem} (hm : bd_X12_readCond_9 N Λ fA μ k9 v0 = some r) : J x 1 Λ (QI x Λ r.1 r.2) 9 [(0, .ref v0)] [] μ := by
  refine j_aload_n C 0 dX12_readCond_9 rfl ?_
  refine j_ldcS C (i := 15) (tx := "or") (List.mem_of_getElem? (i := 52) rfl) dX12_readCond_10 ?_
  obtain ⟨r1, h2, hm⟩ := bd_some hm
  refine call_I (run_LV C lk_X12_146 (by refine ⟨rfl, rfl, ?_, ?_⟩ <;> (simp only [rm_X12_passes, rm_X12_readCond]; omega)) (As := [.ref (sK Λ 15)]) hv0 rfl rfl (Nat.le_of_ble_eq_true rfl) dX12_readCond_12 (mc_X12_passes _ _ _ _ _ _ hv0 ((by decide)) h2)) ?_
  refine j_if_eq C (tgt := 37) dX12_readCond_15 (by decide) (fun h3 => ?_) (fun h3 => ?_)
  · replace hm := if_t hm h3
    refine j_iconst C (v := 1) dX12_readCond_37 rfl ?_
    obtain rfl := Option.some.inj hm
    exact j_iretz C rfl dX12_readCond_38
  · replace hm := if_f hm h3
    refine j_aload_n C 0 dX12_readCond_18 rfl ?_
    obtain ⟨r4, h5, hm⟩ := bd_some hm
    refine call_I (run_LV C lk_X12_252 (by refine ⟨rfl, rfl, ?_, ?_⟩ <;> (simp only [rm_X12_readAllOf, rm_X12_readCond]; omega)) (As := []) hv0 rfl rfl (Nat.le_of_ble_eq_true rfl) dX12_readCond_19 (mc_X12_readAllOf _ _ _ _ _ hfA _ _ hv0 h5)) ?_
    refine j_if_ne C (tgt := 27) dX12_readCond_22 (by decide) (fun h6 => ?_) (fun h6 => ?_)
    · replace hm := if_f hm h6
      refine j_aload_n C 0 dX12_readCond_27 rfl ?_
      refine j_bipush C (v := 16) dX12_readCond_28 rfl ?_
      refine j_iconst C (v := 0) dX12_readCond_30 rfl ?_
      obtain ⟨r7, h8, hm⟩ := bd_some hm
      refine call_V (run_LV C lk_X12_217 (by refine ⟨rfl, rfl, ?_, ?_⟩ <;> (simp only [rm_X12_emits, rm_X12_readCond]; omega)) (As := [.int 16, .int 0]) hv0 rfl rfl (Nat.le_of_ble_eq_true rfl) dX12_readCond_31 (mc_X12_emits _ _ _ _ _ _ _ hv0 h8)) ?_
      refine j_goto C (tgt := 9) dX12_readCond_34 (by decide) ?_
      exact hk9 r7 _ hm
    · replace hm := if_t hm h6
      refine j_iconst C (v := 0) dX12_readCond_25 rfl ?_
      obtain rfl := Option.some.inj hm
      exact j_iretz C rfl dX12_readCond_26
set_option maxRecDepth 20000 in
set_option maxHeartbeats 4000000 in
theorem tl_X12_readCond_9 {x : Ctx} {Λ : Lay} {d : Nat} (C : Cx x cX12_readCond 1 (some .boolean) RX12 Λ (rm_X12_readCond d)) (N : Nat) (fA : Mem → Nat → Option (Int32 × Mem)) (v0 : Nat) (hfA : ∀ (ν : Mem) (a : Nat) (r : Int32 × Mem), inL Λ a 11 → fA ν a = some r → MI x.2.1 yX12_readAtom cX12_readAtom 2 (some .boolean) (rm_X12_readAtom d) Λ [.ref a] ν r.1 r.2) (hv0 : inL Λ v0 11) (s : Mem) {r : Int32 × Mem} (hm : lp_X12_readCond_9 N Λ fA v0 s = some r) : J x 1 Λ (QI x Λ r.1 r.2) 9 [(0, .ref v0)] [] (s) :=
  cw_ind (P := fun s r => J x 1 Λ (QI x Λ r.1 r.2) 9 [(0, .ref v0)] [] (s)) (fun k hkk s r e => tb_X12_readCond_9 C _ _ _ _ _ hfA hkk hv0 e) N s r hm
set_option maxRecDepth 20000 in
set_option maxHeartbeats 4000000 in
theorem tm_X12_readCond {x : Ctx} {Λ : Lay} {d : Nat} (C : Cx x cX12_readCond 1 (some .boolean) RX12 Λ (rm_X12_readCond d)) (N : Nat) (fA : Mem → Nat → Option (Int32 × Mem)) (μ : Mem) (v0 : Nat) (hfA : ∀ (ν : Mem) (a : Nat) (r : Int32 × Mem), inL Λ a 11 → fA ν a = some r → MI x.2.1 yX12_readAtom cX12_readAtom 2 (some .boolean) (rm_X12_readAtom d) Λ [.ref a] ν r.1 r.2) (hv0 : inL Λ v0 11) {r : Int32 × Mem} (hm : m_X12_readCond N Λ fA μ v0 = some r) : J x 1 Λ (QI x Λ r.1 r.2) 0 [(0, .ref v0)] [] μ := by
  refine j_aload_n C 0 dX12_readCond_0 rfl ?_
  obtain ⟨r1, h2, hm⟩ := bd_some hm
  refine call_I (run_LV C lk_X12_252 (by refine ⟨rfl, rfl, ?_, ?_⟩ <;> (simp only [rm_X12_readAllOf, rm_X12_readCond]; omega)) (As := []) hv0 rfl rfl (Nat.le_of_ble_eq_true rfl) dX12_readCond_1 (mc_X12_readAllOf _ _ _ _ _ hfA _ _ hv0 h2)) ?_
  refine j_if_ne C (tgt := 9) dX12_readCond_4 (by decide) (fun h3 => ?_) (fun h3 => ?_)
  · replace hm := if_f hm h3
    exact tl_X12_readCond_9 C _ _ _ hfA hv0 r1.2 hm
  · replace hm := if_t hm h3
    refine j_iconst C (v := 0) dX12_readCond_7 rfl ?_
    obtain rfl := Option.some.inj hm
    exact j_iretz C rfl dX12_readCond_8
set_option maxRecDepth 20000 in
set_option maxHeartbeats 4000000 in
theorem mc_X12_readCond (l : Launch) (N : Nat) (Λ : Lay) (fA : Mem → Nat → Option (Int32 × Mem)) (d : Nat) (hfA : ∀ (ν : Mem) (a : Nat) (r : Int32 × Mem), inL Λ a 11 → fA ν a = some r → MI l yX12_readAtom cX12_readAtom 2 (some .boolean) (rm_X12_readAtom d) Λ [.ref a] ν r.1 r.2) (μ : Mem) (v0 : Nat) (hv0 : inL Λ v0 11) {r : Int32 × Mem} (hm : m_X12_readCond N Λ fA μ v0 = some r) : MI l yX12_readCond cX12_readCond 1 (some .boolean) (rm_X12_readCond d) Λ [.ref v0] μ r.1 r.2 := mi_of rfl (Nat.le_of_ble_eq_true rfl) (fun x C hxl => tm_X12_readCond C _ _ _ _ (by subst hxl; exact hfA) hv0 hm)
set_option maxRecDepth 20000 in
set_option maxHeartbeats 4000000 in
theorem tj_X12_readAtom_159 {x : Ctx} {Λ : Lay} {d : Nat} (C : Cx x cX12_readAtom 2 (some .boolean) RX12 Λ (rm_X12_readAtom (d + 1))) (N : Nat) (fA : Mem → Nat → Option (Int32 × Mem)) (μ : Mem) (hfA : ∀ (ν : Mem) (a : Nat) (r : Int32 × Mem), inL Λ a 11 → fA ν a = some r → MI x.2.1 yX12_readAtom cX12_readAtom 2 (some .boolean) (rm_X12_readAtom d) Λ [.ref a] ν r.1 r.2) {r : Int32 × Mem} (hm : jn_X12_readAtom_159 N Λ fA μ = some r) : J x 2 Λ (QI x Λ r.1 r.2) 159 [] [] μ := by
  refine j_iconst C (v := 0) dX12_readAtom_159 rfl ?_
  obtain rfl := Option.some.inj hm
  exact j_iretz C rfl dX12_readAtom_160
set_option maxRecDepth 20000 in
set_option maxHeartbeats 4000000 in
theorem tj_X12_readAtom_173 {x : Ctx} {Λ : Lay} {d : Nat} (C : Cx x cX12_readAtom 2 (some .boolean) RX12 Λ (rm_X12_readAtom (d + 1))) (N : Nat) (fA : Mem → Nat → Option (Int32 × Mem)) (μ : Mem) (s0 : Nat) (s1 : Int32) (hfA : ∀ (ν : Mem) (a : Nat) (r : Int32 × Mem), inL Λ a 11 → fA ν a = some r → MI x.2.1 yX12_readAtom cX12_readAtom 2 (some .boolean) (rm_X12_readAtom d) Λ [.ref a] ν r.1 r.2) (hs0 : inL Λ s0 11) {r : Int32 × Mem} (hm : jn_X12_readAtom_173 N Λ fA μ s0 s1 = some r) : J x 2 Λ (QI x Λ r.1 r.2) 173 [] [.int s1, .ref s0] μ := by
  refine j_iconst C (v := 0) dX12_readAtom_173 rfl ?_
  obtain ⟨r1, h2, hm⟩ := bd_some hm
  refine call_V (run_LV C lk_X12_217 (by refine ⟨rfl, rfl, ?_, ?_⟩ <;> (simp only [rm_X12_emits, rm_X12_readAtom]; omega)) (As := [.int s1, .int 0]) hs0 rfl rfl (Nat.le_of_ble_eq_true rfl) dX12_readAtom_174 (mc_X12_emits _ _ _ _ _ _ _ hs0 h2)) ?_
  refine j_iconst C (v := 1) dX12_readAtom_177 rfl ?_
  obtain rfl := Option.some.inj hm
  exact j_iretz C rfl dX12_readAtom_178
set_option maxRecDepth 20000 in
set_option maxHeartbeats 4000000 in
theorem tj_X12_readAtom_152 {x : Ctx} {Λ : Lay} {d : Nat} (C : Cx x cX12_readAtom 2 (some .boolean) RX12 Λ (rm_X12_readAtom (d + 1))) (N : Nat) (fA : Mem → Nat → Option (Int32 × Mem)) (μ : Mem) (v0 : Nat) (v1 : Int32) (hfA : ∀ (ν : Mem) (a : Nat) (r : Int32 × Mem), inL Λ a 11 → fA ν a = some r → MI x.2.1 yX12_readAtom cX12_readAtom 2 (some .boolean) (rm_X12_readAtom d) Λ [.ref a] ν r.1 r.2) (hv0 : inL Λ v0 11) {r : Int32 × Mem} (hm : jn_X12_readAtom_152 N Λ fA μ v0 v1 = some r) : J x 2 Λ (QI x Λ r.1 r.2) 152 [(0, .ref v0), (1, .int v1)] [] μ := by
  refine j_aload_n C 0 dX12_readAtom_152 rfl ?_
  obtain ⟨r1, h2, hm⟩ := bd_some hm
  refine call_I (run_LV C lk_X12_247 (by refine ⟨rfl, rfl, ?_, ?_⟩ <;> (simp only [rm_X12_readSum, rm_X12_readAtom]; omega)) (As := []) hv0 rfl rfl (Nat.le_of_ble_eq_true rfl) dX12_readAtom_153 (mc_X12_readSum _ _ _ _ _ hv0 h2)) ?_
  refine j_if_ne C (tgt := 161) dX12_readAtom_156 (by decide) (fun h3 => ?_) (fun h3 => ?_)
  · replace hm := if_f hm h3
    refine j_aload_n C 0 dX12_readAtom_161 rfl ?_
    refine j_iload_n C 1 dX12_readAtom_162 rfl ?_
    refine j_if_eq C (tgt := 171) dX12_readAtom_163 (by decide) (fun h4 => ?_) (fun h4 => ?_)
    · replace hm := if_t hm h4
      refine j_bipush C (v := 13) dX12_readAtom_171 rfl ?_
      refine j_sub [] rfl ?_
      exact tj_X12_readAtom_173 C _ _ _ _ _ hfA hv0 hm
    · replace hm := if_f hm h4
      refine j_bipush C (v := 12) dX12_readAtom_166 rfl ?_
      refine j_goto C (tgt := 173) dX12_readAtom_168 (by decide) ?_
      refine j_sub [] rfl ?_
      exact tj_X12_readAtom_173 C _ _ _ _ _ hfA hv0 hm
  · replace hm := if_t hm h3
    refine j_sub [] rfl ?_
    exact tj_X12_readAtom_159 C _ _ _ hfA hm
set_option maxRecDepth 20000 in
set_option maxHeartbeats 4000000 in
theorem tm_X12_readAtom {x : Ctx} {Λ : Lay} {d : Nat} (C : Cx x cX12_readAtom 2 (some .boolean) RX12 Λ (rm_X12_readAtom (d + 1))) (N : Nat) (fA : Mem → Nat → Option (Int32 × Mem)) (μ : Mem) (v0 : Nat) (hfA : ∀ (ν : Mem) (a : Nat) (r : Int32 × Mem), inL Λ a 11 → fA ν a = some r → MI x.2.1 yX12_readAtom cX12_readAtom 2 (some .boolean) (rm_X12_readAtom d) Λ [.ref a] ν r.1 r.2) (hv0 : inL Λ v0 11) {r : Int32 × Mem} (hm : o_X12_readAtom N Λ fA μ v0 = some r) : J x 2 Λ (QI x Λ r.1 r.2) 0 [(0, .ref v0)] [] μ := by
  refine j_aload_n C 0 dX12_readAtom_0 rfl ?_
  refine j_bipush C (v := 40) dX12_readAtom_1 rfl ?_
  obtain ⟨r1, h2, hm⟩ := bd_some hm
  refine call_I (run_LV C lk_X12_224 (by refine ⟨rfl, rfl, ?_, ?_⟩ <;> (simp only [rm_X12_sign, rm_X12_readAtom]; omega)) (As := [.int 40]) hv0 rfl rfl (Nat.le_of_ble_eq_true rfl) dX12_readAtom_3 (mc_X12_sign _ _ _ _ _ _ hv0 h2)) ?_
  refine j_if_eq C (tgt := 56) dX12_readAtom_6 (by decide) (fun h3 => ?_) (fun h3 => ?_)
  · replace hm := if_t hm h3
    refine j_aload_n C 0 dX12_readAtom_56 rfl ?_
    refine j_ldcS C (i := 13) (tx := "not") (List.mem_of_getElem? (i := 47) rfl) dX12_readAtom_57 ?_
    obtain ⟨r4, h5, hm⟩ := bd_some hm
    refine call_I (run_LV C lk_X12_146 (by refine ⟨rfl, rfl, ?_, ?_⟩ <;> (simp only [rm_X12_passes, rm_X12_readAtom]; omega)) (As := [.ref (sK Λ 13)]) hv0 rfl rfl (Nat.le_of_ble_eq_true rfl) dX12_readAtom_59 (mc_X12_passes _ _ _ _ _ _ hv0 ((by decide)) h5)) ?_
    refine j_if_eq C (tgt := 114) dX12_readAtom_62 (by decide) (fun h6 => ?_) (fun h6 => ?_)
    · replace hm := if_t hm h6
      refine j_aload_n C 0 dX12_readAtom_114 rfl ?_
      obtain ⟨r7, h8, hm⟩ := bd_some hm
      refine call_I (run_LV C lk_X12_244 (by refine ⟨rfl, rfl, ?_, ?_⟩ <;> (simp only [rm_X12_readTag, rm_X12_readAtom]; omega)) (As := []) hv0 rfl rfl (Nat.le_of_ble_eq_true rfl) dX12_readAtom_115 (mc_X12_readTag _ _ _ _ _ hv0 h8)) ?_
      refine j_if_eq C (tgt := 123) dX12_readAtom_118 (by decide) (fun h9 => ?_) (fun h9 => ?_)
      · replace hm := if_t hm h9
        refine j_aload_n C 0 dX12_readAtom_123 rfl ?_
        obtain ⟨r10, h11, hm⟩ := bd_some hm
        refine call_I (run_LV C lk_X12_247 (by refine ⟨rfl, rfl, ?_, ?_⟩ <;> (simp only [rm_X12_readSum, rm_X12_readAtom]; omega)) (As := []) hv0 rfl rfl (Nat.le_of_ble_eq_true rfl) dX12_readAtom_124 (mc_X12_readSum _ _ _ _ _ hv0 h11)) ?_
        refine j_if_ne C (tgt := 132) dX12_readAtom_127 (by decide) (fun h12 => ?_) (fun h12 => ?_)
        · replace hm := if_f hm h12
          refine j_aload_n C 0 dX12_readAtom_132 rfl ?_
          refine j_bipush C (v := 60) dX12_readAtom_133 rfl ?_
          obtain ⟨r13, h14, hm⟩ := bd_some hm
          refine call_I (run_LV C lk_X12_224 (by refine ⟨rfl, rfl, ?_, ?_⟩ <;> (simp only [rm_X12_sign, rm_X12_readAtom]; omega)) (As := [.int 60]) hv0 rfl rfl (Nat.le_of_ble_eq_true rfl) dX12_readAtom_135 (mc_X12_sign _ _ _ _ _ _ hv0 h14)) ?_
          refine j_istore_n C (lv' := [(1, .int r13.1), (0, .ref v0)]) dX12_readAtom_138 (by decide) rfl ?_
          refine j_iload_n C 0 dX12_readAtom_139 rfl ?_
          refine j_if_ne C (tgt := 152) dX12_readAtom_140 (by decide) (fun h15 => ?_) (fun h15 => ?_)
          · replace hm := if_f hm h15
            refine j_sub [1, 0] rfl ?_
            exact tj_X12_readAtom_152 C _ _ _ _ _ hfA hv0 hm
          · replace hm := if_t hm h15
            refine j_aload_n C 1 dX12_readAtom_143 rfl ?_
            refine j_bipush C (v := 62) dX12_readAtom_144 rfl ?_
            obtain ⟨r16, h17, hm⟩ := bd_some hm
            refine call_I (run_LV C lk_X12_224 (by refine ⟨rfl, rfl, ?_, ?_⟩ <;> (simp only [rm_X12_sign, rm_X12_readAtom]; omega)) (As := [.int 62]) hv0 rfl rfl (Nat.le_of_ble_eq_true rfl) dX12_readAtom_146 (mc_X12_sign _ _ _ _ _ _ hv0 h17)) ?_
            refine j_if_eq C (tgt := 159) dX12_readAtom_149 (by decide) (fun h18 => ?_) (fun h18 => ?_)
            · replace hm := if_t hm h18
              refine j_sub [] rfl ?_
              exact tj_X12_readAtom_159 C _ _ _ hfA hm
            · replace hm := if_f hm h18
              refine j_sub [1, 0] rfl ?_
              exact tj_X12_readAtom_152 C _ _ _ _ _ hfA hv0 hm
        · replace hm := if_t hm h12
          refine j_iconst C (v := 0) dX12_readAtom_130 rfl ?_
          obtain rfl := Option.some.inj hm
          exact j_iretz C rfl dX12_readAtom_131
      · replace hm := if_f hm h9
        refine j_iconst C (v := 1) dX12_readAtom_121 rfl ?_
        obtain rfl := Option.some.inj hm
        exact j_iretz C rfl dX12_readAtom_122
    · replace hm := if_f hm h6
      refine j_aload_n C 0 dX12_readAtom_65 rfl ?_
      refine j_getI C fg_X12_233_11 hv0 dX12_readAtom_66 ?_
      refine j_bipush C (v := 6) dX12_readAtom_69 rfl ?_
      refine j_icmp_ne C (tgt := 76) dX12_readAtom_71 (by decide) (fun h19 => ?_) (fun h19 => ?_)
      · replace hm := if_f hm h19
        refine j_aload_n C 0 dX12_readAtom_76 rfl ?_
        refine j_dup C dX12_readAtom_77 rfl ?_
        refine j_getI C fg_X12_233_11 hv0 dX12_readAtom_78 ?_
        refine j_iconst C (v := 1) dX12_readAtom_81 rfl ?_
        refine j_iadd C dX12_readAtom_82 ?_
        obtain ⟨μ20, e21, hm⟩ := lt_some hm
        refine j_putI C fp_X12_233_11 hv0 e21 dX12_readAtom_83 ?_
        refine j_aload_n C 0 dX12_readAtom_86 rfl ?_
        obtain ⟨r22, h23, hm⟩ := bd_some hm
        refine call_I (run_LV C lk_X12_241 (by refine ⟨rfl, rfl, ?_, ?_⟩ <;> (simp only [rm_X12_readAtom]; omega)) (As := []) hv0 rfl rfl (Nat.le_of_ble_eq_true rfl) dX12_readAtom_87 (hfA _ _ _ hv0 h23)) ?_
        refine j_if_ne C (tgt := 95) dX12_readAtom_90 (by decide) (fun h24 => ?_) (fun h24 => ?_)
        · replace hm := if_f hm h24
          refine j_aload_n C 0 dX12_readAtom_95 rfl ?_
          refine j_dup C dX12_readAtom_96 rfl ?_
          refine j_getI C fg_X12_233_11 hv0 dX12_readAtom_97 ?_
          refine j_iconst C (v := 1) dX12_readAtom_100 rfl ?_
          refine j_isub C dX12_readAtom_101 ?_
          obtain ⟨μ25, e26, hm⟩ := lt_some hm
          refine j_putI C fp_X12_233_11 hv0 e26 dX12_readAtom_102 ?_
          refine j_aload_n C 0 dX12_readAtom_105 rfl ?_
          refine j_bipush C (v := 14) dX12_readAtom_106 rfl ?_
          refine j_iconst C (v := 0) dX12_readAtom_108 rfl ?_
          obtain ⟨r27, h28, hm⟩ := bd_some hm
          refine call_V (run_LV C lk_X12_217 (by refine ⟨rfl, rfl, ?_, ?_⟩ <;> (simp only [rm_X12_emits, rm_X12_readAtom]; omega)) (As := [.int 14, .int 0]) hv0 rfl rfl (Nat.le_of_ble_eq_true rfl) dX12_readAtom_109 (mc_X12_emits _ _ _ _ _ _ _ hv0 h28)) ?_
          refine j_iconst C (v := 1) dX12_readAtom_112 rfl ?_
          obtain rfl := Option.some.inj hm
          exact j_iretz C rfl dX12_readAtom_113
        · replace hm := if_t hm h24
          refine j_iconst C (v := 0) dX12_readAtom_93 rfl ?_
          obtain rfl := Option.some.inj hm
          exact j_iretz C rfl dX12_readAtom_94
      · replace hm := if_t hm h19
        refine j_iconst C (v := 0) dX12_readAtom_74 rfl ?_
        obtain rfl := Option.some.inj hm
        exact j_iretz C rfl dX12_readAtom_75
  · replace hm := if_f hm h3
    refine j_aload_n C 0 dX12_readAtom_9 rfl ?_
    refine j_getI C fg_X12_233_11 hv0 dX12_readAtom_10 ?_
    refine j_bipush C (v := 6) dX12_readAtom_13 rfl ?_
    refine j_icmp_ne C (tgt := 20) dX12_readAtom_15 (by decide) (fun h29 => ?_) (fun h29 => ?_)
    · replace hm := if_f hm h29
      refine j_aload_n C 0 dX12_readAtom_20 rfl ?_
      refine j_dup C dX12_readAtom_21 rfl ?_
      refine j_getI C fg_X12_233_11 hv0 dX12_readAtom_22 ?_
      refine j_iconst C (v := 1) dX12_readAtom_25 rfl ?_
      refine j_iadd C dX12_readAtom_26 ?_
      obtain ⟨μ30, e31, hm⟩ := lt_some hm
      refine j_putI C fp_X12_233_11 hv0 e31 dX12_readAtom_27 ?_
      refine j_aload_n C 0 dX12_readAtom_30 rfl ?_
      obtain ⟨r32, h33, hm⟩ := bd_some hm
      refine call_I (run_LV C lk_X12_236 (by refine ⟨rfl, rfl, ?_, ?_⟩ <;> (simp only [rm_X12_readCond, rm_X12_readAtom]; omega)) (As := []) hv0 rfl rfl (Nat.le_of_ble_eq_true rfl) dX12_readAtom_31 (mc_X12_readCond _ _ _ _ _ hfA _ _ hv0 h33)) ?_
      refine j_if_ne C (tgt := 39) dX12_readAtom_34 (by decide) (fun h34 => ?_) (fun h34 => ?_)
      · replace hm := if_f hm h34
        refine j_aload_n C 0 dX12_readAtom_39 rfl ?_
        refine j_dup C dX12_readAtom_40 rfl ?_
        refine j_getI C fg_X12_233_11 hv0 dX12_readAtom_41 ?_
        refine j_iconst C (v := 1) dX12_readAtom_44 rfl ?_
        refine j_isub C dX12_readAtom_45 ?_
        obtain ⟨μ35, e36, hm⟩ := lt_some hm
        refine j_putI C fp_X12_233_11 hv0 e36 dX12_readAtom_46 ?_
        refine j_aload_n C 0 dX12_readAtom_49 rfl ?_
        refine j_bipush C (v := 41) dX12_readAtom_50 rfl ?_
        obtain ⟨r37, h38, hm⟩ := bd_some hm
        refine call_I (run_LV C lk_X12_224 (by refine ⟨rfl, rfl, ?_, ?_⟩ <;> (simp only [rm_X12_sign, rm_X12_readAtom]; omega)) (As := [.int 41]) hv0 rfl rfl (Nat.le_of_ble_eq_true rfl) dX12_readAtom_52 (mc_X12_sign _ _ _ _ _ _ hv0 h38)) ?_
        obtain ⟨h39, hm⟩ := gd_some hm
        obtain rfl := Option.some.inj hm
        exact j_iretz C h39 dX12_readAtom_55
      · replace hm := if_t hm h34
        refine j_iconst C (v := 0) dX12_readAtom_37 rfl ?_
        obtain rfl := Option.some.inj hm
        exact j_iretz C rfl dX12_readAtom_38
    · replace hm := if_t hm h29
      refine j_iconst C (v := 0) dX12_readAtom_18 rfl ?_
      obtain rfl := Option.some.inj hm
      exact j_iretz C rfl dX12_readAtom_19
set_option maxRecDepth 20000 in
set_option maxHeartbeats 4000000 in
theorem oc_X12_readAtom (l : Launch) (N : Nat) (Λ : Lay) (fA : Mem → Nat → Option (Int32 × Mem)) (d : Nat) (hfA : ∀ (ν : Mem) (a : Nat) (r : Int32 × Mem), inL Λ a 11 → fA ν a = some r → MI l yX12_readAtom cX12_readAtom 2 (some .boolean) (rm_X12_readAtom d) Λ [.ref a] ν r.1 r.2) (μ : Mem) (v0 : Nat) (hv0 : inL Λ v0 11) {r : Int32 × Mem} (hm : o_X12_readAtom N Λ fA μ v0 = some r) : MI l yX12_readAtom cX12_readAtom 2 (some .boolean) (rm_X12_readAtom (d + 1)) Λ [.ref v0] μ r.1 r.2 := mi_of rfl (Nat.le_of_ble_eq_true rfl) (fun x C hxl => tm_X12_readAtom C _ _ _ _ (by subst hxl; exact hfA) hv0 hm)
set_option maxRecDepth 20000 in
set_option maxHeartbeats 4000000 in
theorem md_X12_readAtom (l : Launch) (N : Nat) (Λ : Lay) : ∀ (d : Nat), ∀ (ν : Mem) (a : Nat) (r : Int32 × Mem), inL Λ a 11 → m_X12_readAtom N Λ d ν a = some r → MI l yX12_readAtom cX12_readAtom 2 (some .boolean) (rm_X12_readAtom d) Λ [.ref a] ν r.1 r.2
  | 0 => fun _ _ _ _ h => by cases h
  | d + 1 => fun _ _ _ hi h => oc_X12_readAtom l N Λ _ d (md_X12_readAtom l N Λ d) _ _ hi h
set_option maxRecDepth 20000 in
set_option maxHeartbeats 4000000 in
theorem mc_X12_readAllOf_8 (l : Launch) (N : Nat) (Λ : Lay) (μ : Mem) (v0 : Nat) (hv0 : inL Λ v0 11) {r : Int32 × Mem} (hm : m_X12_readAllOf N Λ (m_X12_readAtom N Λ 8) μ v0 = some r) : MI l yX12_readAllOf cX12_readAllOf 1 (some .boolean) (rm_X12_readAllOf 8) Λ [.ref v0] μ r.1 r.2 := mc_X12_readAllOf l N Λ _ 8 (md_X12_readAtom l N Λ 8) _ _ hv0 hm
set_option maxRecDepth 20000 in
set_option maxHeartbeats 4000000 in
theorem mc_X12_readCond_8 (l : Launch) (N : Nat) (Λ : Lay) (μ : Mem) (v0 : Nat) (hv0 : inL Λ v0 11) {r : Int32 × Mem} (hm : m_X12_readCond N Λ (m_X12_readAtom N Λ 8) μ v0 = some r) : MI l yX12_readCond cX12_readCond 1 (some .boolean) (rm_X12_readCond 8) Λ [.ref v0] μ r.1 r.2 := mc_X12_readCond l N Λ _ 8 (md_X12_readAtom l N Λ 8) _ _ hv0 hm
abbrev rm_X12_readLawLine : Room := { frames := 55, cells := 0, slots := 0, locals := 4360 }
set_option maxRecDepth 20000 in
set_option maxHeartbeats 4000000 in
theorem tj_X12_readLawLine_132 {x : Ctx} {Λ : Lay} (C : Cx x cX12_readLawLine 3 (some .boolean) RX12 Λ rm_X12_readLawLine) (N : Nat) (μ : Mem) (v0 : Nat) (v2 : Int32) (hv0 : inL Λ v0 11) {r : Int32 × Mem} (hm : jn_X12_readLawLine_132 N Λ μ v0 v2 = some r) : J x 3 Λ (QI x Λ r.1 r.2) 132 [(0, .ref v0), (2, .int v2)] [] μ := by
  refine j_aload_n C 0 dX12_readLawLine_132 rfl ?_
  obtain ⟨q1, h2, hm⟩ := bd_some hm
  refine j_getR C fg_X12_13_11 hv0 (dr_spec h2).1 dX12_readLawLine_133 ?_
  refine j_iload_n C 1 dX12_readLawLine_136 rfl ?_
  refine j_iconst C (v := 3) dX12_readLawLine_137 rfl ?_
  refine j_iadd C dX12_readLawLine_138 ?_
  refine j_aload_n C 0 dX12_readLawLine_139 rfl ?_
  refine j_getI C fg_X12_211_11 hv0 dX12_readLawLine_140 ?_
  obtain ⟨h3, hm⟩ := gd_some hm
  obtain ⟨μ4, e5, hm⟩ := lt_some hm
  refine j_iast C ((dr_spec h2).2) h3 e5 dX12_readLawLine_143 ?_
  refine j_iconst C (v := 1) dX12_readLawLine_144 rfl ?_
  obtain rfl := Option.some.inj hm
  exact j_iretz C rfl dX12_readLawLine_145
set_option maxRecDepth 20000 in
set_option maxHeartbeats 4000000 in
theorem tj_X12_readLawLine_56 {x : Ctx} {Λ : Lay} (C : Cx x cX12_readLawLine 3 (some .boolean) RX12 Λ rm_X12_readLawLine) (N : Nat) (μ : Mem) (v0 : Nat) (v2 : Int32) (s0 : Nat) (s1 : Int32) (s2 : Int32) (hv0 : inL Λ v0 11) (hs0 : inL Λ s0 13) {r : Int32 × Mem} (hm : jn_X12_readLawLine_56 N Λ μ v0 v2 s0 s1 s2 = some r) : J x 3 Λ (QI x Λ r.1 r.2) 56 [(0, .ref v0), (2, .int v2)] [.int s2, .int s1, .ref s0] μ := by
  obtain ⟨h1, hm⟩ := gd_some hm
  obtain ⟨μ2, e3, hm⟩ := lt_some hm
  refine j_iast C hs0 h1 e3 dX12_readLawLine_56 ?_
  refine j_aload_n C 0 dX12_readLawLine_57 rfl ?_
  obtain ⟨q4, h5, hm⟩ := bd_some hm
  refine j_getR C fg_X12_13_11 hv0 (dr_spec h5).1 dX12_readLawLine_58 ?_
  refine j_iload_n C 1 dX12_readLawLine_61 rfl ?_
  obtain ⟨h6, hm⟩ := gd_some hm
  refine j_iald C ((dr_spec h5).2) h6 dX12_readLawLine_62 ?_
  refine j_if_ge C (tgt := 68) dX12_readLawLine_63 (by decide) (fun h7 => ?_) (fun h7 => ?_)
  · replace hm := if_t hm h7
    refine j_aload_n C 0 dX12_readLawLine_68 rfl ?_
    obtain ⟨q8, h9, hm⟩ := bd_some hm
    refine j_getR C fg_X12_13_11 hv0 (dr_spec h9).1 dX12_readLawLine_69 ?_
    refine j_iload_n C 1 dX12_readLawLine_72 rfl ?_
    refine j_iconst C (v := 1) dX12_readLawLine_73 rfl ?_
    refine j_iadd C dX12_readLawLine_74 ?_
    refine j_aload_n C 0 dX12_readLawLine_75 rfl ?_
    refine j_iconst C (v := 0) dX12_readLawLine_76 rfl ?_
    refine j_bipush C (v := 40) dX12_readLawLine_77 rfl ?_
    obtain ⟨r10, h11, hm⟩ := bd_some hm
    refine call_I (run_LV C lk_X12_143 ⟨rfl, rfl, Nat.le_of_ble_eq_true rfl, Nat.le_of_ble_eq_true rfl⟩ (As := [.int 0, .int 40]) hv0 rfl rfl (Nat.le_of_ble_eq_true rfl) dX12_readLawLine_79 (mc_X12_number _ _ _ _ _ _ _ hv0 h11)) ?_
    obtain ⟨h12, hm⟩ := gd_some hm
    obtain ⟨μ13, e14, hm⟩ := lt_some hm
    refine j_iast C ((dr_spec h9).2) h12 e14 dX12_readLawLine_82 ?_
    refine j_aload_n C 0 dX12_readLawLine_83 rfl ?_
    obtain ⟨q15, h16, hm⟩ := bd_some hm
    refine j_getR C fg_X12_13_11 hv0 (dr_spec h16).1 dX12_readLawLine_84 ?_
    refine j_iload_n C 1 dX12_readLawLine_87 rfl ?_
    refine j_iconst C (v := 1) dX12_readLawLine_88 rfl ?_
    refine j_iadd C dX12_readLawLine_89 ?_
    obtain ⟨h17, hm⟩ := gd_some hm
    refine j_iald C ((dr_spec h16).2) h17 dX12_readLawLine_90 ?_
    refine j_if_ge C (tgt := 96) dX12_readLawLine_91 (by decide) (fun h18 => ?_) (fun h18 => ?_)
    · replace hm := if_t hm h18
      refine j_aload_n C 0 dX12_readLawLine_96 rfl ?_
      obtain ⟨q19, h20, hm⟩ := bd_some hm
      refine j_getR C fg_X12_13_11 hv0 (dr_spec h20).1 dX12_readLawLine_97 ?_
      refine j_iload_n C 1 dX12_readLawLine_100 rfl ?_
      refine j_iconst C (v := 2) dX12_readLawLine_101 rfl ?_
      refine j_iadd C dX12_readLawLine_102 ?_
      refine j_aload_n C 0 dX12_readLawLine_103 rfl ?_
      refine j_getI C fg_X12_211_11 hv0 dX12_readLawLine_104 ?_
      obtain ⟨h21, hm⟩ := gd_some hm
      obtain ⟨μ22, e23, hm⟩ := lt_some hm
      refine j_iast C ((dr_spec h20).2) h21 e23 dX12_readLawLine_107 ?_
      refine j_aload_n C 0 dX12_readLawLine_108 rfl ?_
      refine j_iconst C (v := 0) dX12_readLawLine_109 rfl ?_
      obtain ⟨μ24, e25, hm⟩ := lt_some hm
      refine j_putI C fp_X12_233_11 hv0 e25 dX12_readLawLine_110 ?_
      refine j_aload_n C 0 dX12_readLawLine_113 rfl ?_
      refine j_ldcwS C (i := 9) (tx := "if") (List.mem_of_getElem? (i := 46) rfl) dX12_readLawLine_114 ?_
      obtain ⟨r26, h27, hm⟩ := bd_some hm
      refine call_I (run_LV C lk_X12_146 ⟨rfl, rfl, Nat.le_of_ble_eq_true rfl, Nat.le_of_ble_eq_true rfl⟩ (As := [.ref (sK Λ 9)]) hv0 rfl rfl (Nat.le_of_ble_eq_true rfl) dX12_readLawLine_117 (mc_X12_passes _ _ _ _ _ _ hv0 ((by decide)) h27)) ?_
      refine j_if_eq C (tgt := 132) dX12_readLawLine_120 (by decide) (fun h28 => ?_) (fun h28 => ?_)
      · replace hm := if_t hm h28
        exact tj_X12_readLawLine_132 C _ _ _ _ hv0 hm
      · replace hm := if_f hm h28
        refine j_aload_n C 0 dX12_readLawLine_123 rfl ?_
        obtain ⟨r29, h30, hm⟩ := bd_some hm
        refine call_I (run_LV C lk_X12_236 ⟨rfl, rfl, Nat.le_of_ble_eq_true rfl, Nat.le_of_ble_eq_true rfl⟩ (As := []) hv0 rfl rfl (Nat.le_of_ble_eq_true rfl) dX12_readLawLine_124 (mc_X12_readCond_8 _ _ _ _ _ hv0 h30)) ?_
        refine j_if_ne C (tgt := 132) dX12_readLawLine_127 (by decide) (fun h31 => ?_) (fun h31 => ?_)
        · replace hm := if_f hm h31
          exact tj_X12_readLawLine_132 C _ _ _ _ hv0 hm
        · replace hm := if_t hm h31
          refine j_iconst C (v := 0) dX12_readLawLine_130 rfl ?_
          obtain rfl := Option.some.inj hm
          exact j_iretz C rfl dX12_readLawLine_131
    · replace hm := if_f hm h18
      refine j_iconst C (v := 0) dX12_readLawLine_94 rfl ?_
      obtain rfl := Option.some.inj hm
      exact j_iretz C rfl dX12_readLawLine_95
  · replace hm := if_f hm h7
    refine j_iconst C (v := 0) dX12_readLawLine_66 rfl ?_
    obtain rfl := Option.some.inj hm
    exact j_iretz C rfl dX12_readLawLine_67
set_option maxRecDepth 20000 in
set_option maxHeartbeats 4000000 in
theorem tm_X12_readLawLine {x : Ctx} {Λ : Lay} (C : Cx x cX12_readLawLine 3 (some .boolean) RX12 Λ rm_X12_readLawLine) (N : Nat) (μ : Mem) (v0 : Nat) (v1 : Int32) (hv0 : inL Λ v0 11) {r : Int32 × Mem} (hm : m_X12_readLawLine N Λ μ v0 v1 = some r) : J x 3 Λ (QI x Λ r.1 r.2) 0 [(0, .ref v0), (1, .int v1)] [] μ := by
  refine j_sipush C (v := 1223) dX12_readLawLine_0 rfl ?_
  refine j_iconst C (v := 4) dX12_readLawLine_3 rfl ?_
  refine j_iload_n C 1 dX12_readLawLine_4 rfl ?_
  refine j_imul C dX12_readLawLine_5 ?_
  refine j_iadd C dX12_readLawLine_6 ?_
  obtain ⟨y1, e2, hm⟩ := lt_some hm
  refine j_topi e2 ?_
  refine j_istore_n C (lv' := [(2, .int y1), (0, .ref v0), (1, .int v1)]) dX12_readLawLine_7 (by decide) rfl ?_
  refine j_aload_n C 1 dX12_readLawLine_8 rfl ?_
  obtain ⟨q3, h4, hm⟩ := bd_some hm
  refine j_getR C fg_X12_13_11 hv0 (dr_spec h4).1 dX12_readLawLine_9 ?_
  refine j_iload_n C 0 dX12_readLawLine_12 rfl ?_
  refine j_aload_n C 1 dX12_readLawLine_13 rfl ?_
  refine j_ldcwS C (i := 16) (tx := "pull") (List.mem_of_getElem? (i := 43) rfl) dX12_readLawLine_14 ?_
  obtain ⟨r5, h6, hm⟩ := bd_some hm
  refine call_I (run_LV C lk_X12_139 ⟨rfl, rfl, Nat.le_of_ble_eq_true rfl, Nat.le_of_ble_eq_true rfl⟩ (As := [.ref (sK Λ 16)]) hv0 rfl rfl (Nat.le_of_ble_eq_true rfl) dX12_readLawLine_17 (mc_X12_isWord _ _ _ _ _ _ hv0 ((by decide)) h6)) ?_
  refine j_if_eq C (tgt := 27) dX12_readLawLine_20 (by decide) (fun h7 => ?_) (fun h7 => ?_)
  · replace hm := if_t hm h7
    refine j_aload_n C 1 dX12_readLawLine_27 rfl ?_
    refine j_ldcwS C (i := 10) (tx := "leak") (List.mem_of_getElem? (i := 44) rfl) dX12_readLawLine_28 ?_
    obtain ⟨r8, h9, hm⟩ := bd_some hm
    refine call_I (run_LV C lk_X12_139 ⟨rfl, rfl, Nat.le_of_ble_eq_true rfl, Nat.le_of_ble_eq_true rfl⟩ (As := [.ref (sK Λ 10)]) hv0 rfl rfl (Nat.le_of_ble_eq_true rfl) dX12_readLawLine_31 (mc_X12_isWord _ _ _ _ _ _ hv0 ((by decide)) h9)) ?_
    refine j_if_eq C (tgt := 41) dX12_readLawLine_34 (by decide) (fun h10 => ?_) (fun h10 => ?_)
    · replace hm := if_t hm h10
      refine j_aload_n C 1 dX12_readLawLine_41 rfl ?_
      refine j_ldcwS C (i := 5) (tx := "fee") (List.mem_of_getElem? (i := 45) rfl) dX12_readLawLine_42 ?_
      obtain ⟨r11, h12, hm⟩ := bd_some hm
      refine call_I (run_LV C lk_X12_139 ⟨rfl, rfl, Nat.le_of_ble_eq_true rfl, Nat.le_of_ble_eq_true rfl⟩ (As := [.ref (sK Λ 5)]) hv0 rfl rfl (Nat.le_of_ble_eq_true rfl) dX12_readLawLine_45 (mc_X12_isWord _ _ _ _ _ _ hv0 ((by decide)) h12)) ?_
      refine j_if_eq C (tgt := 55) dX12_readLawLine_48 (by decide) (fun h13 => ?_) (fun h13 => ?_)
      · replace hm := if_t hm h13
        refine j_iconst C (v := -1) dX12_readLawLine_55 rfl ?_
        refine j_sub [1, 0] rfl ?_
        exact tj_X12_readLawLine_56 C _ _ _ _ _ _ _ hv0 ((dr_spec h4).2) hm
      · replace hm := if_f hm h13
        refine j_iconst C (v := 2) dX12_readLawLine_51 rfl ?_
        refine j_goto C (tgt := 56) dX12_readLawLine_52 (by decide) ?_
        refine j_sub [1, 0] rfl ?_
        exact tj_X12_readLawLine_56 C _ _ _ _ _ _ _ hv0 ((dr_spec h4).2) hm
    · replace hm := if_f hm h10
      refine j_iconst C (v := 1) dX12_readLawLine_37 rfl ?_
      refine j_goto C (tgt := 56) dX12_readLawLine_38 (by decide) ?_
      refine j_sub [1, 0] rfl ?_
      exact tj_X12_readLawLine_56 C _ _ _ _ _ _ _ hv0 ((dr_spec h4).2) hm
  · replace hm := if_f hm h7
    refine j_iconst C (v := 0) dX12_readLawLine_23 rfl ?_
    refine j_goto C (tgt := 56) dX12_readLawLine_24 (by decide) ?_
    refine j_sub [1, 0] rfl ?_
    exact tj_X12_readLawLine_56 C _ _ _ _ _ _ _ hv0 ((dr_spec h4).2) hm
set_option maxRecDepth 20000 in
set_option maxHeartbeats 4000000 in
theorem mc_X12_readLawLine (l : Launch) (N : Nat) (Λ : Lay) (μ : Mem) (v0 : Nat) (v1 : Int32) (hv0 : inL Λ v0 11) {r : Int32 × Mem} (hm : m_X12_readLawLine N Λ μ v0 v1 = some r) : MI l yX12_readLawLine cX12_readLawLine 3 (some .boolean) rm_X12_readLawLine Λ [.ref v0, .int v1] μ r.1 r.2 := mi_of rfl (Nat.le_of_ble_eq_true rfl) (fun x C _ => tm_X12_readLawLine C _ _ _ _ hv0 hm)
abbrev rm_X12_readLine : Room := { frames := 56, cells := 0, slots := 0, locals := 4382 }
set_option maxRecDepth 20000 in
set_option maxHeartbeats 4000000 in
theorem tj_X12_readLine_46 {x : Ctx} {Λ : Lay} (C : Cx x cX12_readLine 3 (some .boolean) RX12 Λ rm_X12_readLine) (N : Nat) (μ : Mem) (s0 : Int32) {r : Int32 × Mem} (hm : jn_X12_readLine_46 N Λ μ s0 = some r) : J x 3 Λ (QI x Λ r.1 r.2) 46 [] [.int s0] μ := by
  obtain ⟨h1, hm⟩ := gd_some hm
  obtain rfl := Option.some.inj hm
  exact j_iretz C h1 dX12_readLine_46
set_option maxRecDepth 20000 in
set_option maxHeartbeats 4000000 in
theorem tj_X12_readLine_41 {x : Ctx} {Λ : Lay} (C : Cx x cX12_readLine 3 (some .boolean) RX12 Λ rm_X12_readLine) (N : Nat) (μ : Mem) {r : Int32 × Mem} (hm : jn_X12_readLine_41 N Λ μ = some r) : J x 3 Λ (QI x Λ r.1 r.2) 41 [] [] μ := by
  refine j_iconst C (v := 1) dX12_readLine_41 rfl ?_
  refine j_goto C (tgt := 46) dX12_readLine_42 (by decide) ?_
  exact tj_X12_readLine_46 C _ _ _  hm
set_option maxRecDepth 20000 in
set_option maxHeartbeats 4000000 in
theorem tj_X12_readLine_45 {x : Ctx} {Λ : Lay} (C : Cx x cX12_readLine 3 (some .boolean) RX12 Λ rm_X12_readLine) (N : Nat) (μ : Mem) {r : Int32 × Mem} (hm : jn_X12_readLine_45 N Λ μ = some r) : J x 3 Λ (QI x Λ r.1 r.2) 45 [] [] μ := by
  refine j_iconst C (v := 0) dX12_readLine_45 rfl ?_
  exact tj_X12_readLine_46 C _ _ _  hm
set_option maxRecDepth 20000 in
set_option maxHeartbeats 4000000 in
theorem tj_X12_readLine_16 {x : Ctx} {Λ : Lay} (C : Cx x cX12_readLine 3 (some .boolean) RX12 Λ rm_X12_readLine) (N : Nat) (μ : Mem) (v0 : Nat) (v1 : Int32) (v2 : Int32) (s0 : Int32) (s1 : Int32) (hv0 : inL Λ v0 11) {r : Int32 × Mem} (hm : jn_X12_readLine_16 N Λ μ v0 v1 v2 s0 s1 = some r) : J x 3 Λ (QI x Λ r.1 r.2) 16 [(0, .ref v0), (1, .int v1), (2, .int v2)] [.int s1, .int s0] μ := by
  refine j_icmp_ge C (tgt := 45) dX12_readLine_16 (by decide) (fun h1 => ?_) (fun h1 => ?_)
  · replace hm := if_t hm h1
    refine j_sub [] rfl ?_
    exact tj_X12_readLine_45 C _ _  hm
  · replace hm := if_f hm h1
    refine j_iload_n C 1 dX12_readLine_19 rfl ?_
    refine j_if_eq C (tgt := 33) dX12_readLine_20 (by decide) (fun h2 => ?_) (fun h2 => ?_)
    · replace hm := if_t hm h2
      refine j_aload_n C 0 dX12_readLine_33 rfl ?_
      refine j_iload_n C 2 dX12_readLine_34 rfl ?_
      obtain ⟨r3, h4, hm⟩ := bd_some hm
      refine call_I (run_LV C lk_X12_268 ⟨rfl, rfl, Nat.le_of_ble_eq_true rfl, Nat.le_of_ble_eq_true rfl⟩ (As := [.int v2]) hv0 rfl rfl (Nat.le_of_ble_eq_true rfl) dX12_readLine_35 (mc_X12_readLawLine _ _ _ _ _ _ hv0 h4)) ?_
      refine j_if_eq C (tgt := 45) dX12_readLine_38 (by decide) (fun h5 => ?_) (fun h5 => ?_)
      · replace hm := if_t hm h5
        refine j_sub [] rfl ?_
        exact tj_X12_readLine_45 C _ _  hm
      · replace hm := if_f hm h5
        refine j_sub [] rfl ?_
        exact tj_X12_readLine_41 C _ _  hm
    · replace hm := if_f hm h2
      refine j_aload_n C 0 dX12_readLine_23 rfl ?_
      obtain ⟨r6, h7, hm⟩ := bd_some hm
      refine call_I (run_LV C lk_X12_265 ⟨rfl, rfl, Nat.le_of_ble_eq_true rfl, Nat.le_of_ble_eq_true rfl⟩ (As := []) hv0 rfl rfl (Nat.le_of_ble_eq_true rfl) dX12_readLine_24 (mc_X12_readDockLine _ _ _ _ _ hv0 h7)) ?_
      refine j_if_eq C (tgt := 45) dX12_readLine_27 (by decide) (fun h8 => ?_) (fun h8 => ?_)
      · replace hm := if_t hm h8
        refine j_sub [] rfl ?_
        exact tj_X12_readLine_45 C _ _  hm
      · replace hm := if_f hm h8
        refine j_goto C (tgt := 41) dX12_readLine_30 (by decide) ?_
        refine j_sub [] rfl ?_
        exact tj_X12_readLine_41 C _ _  hm
set_option maxRecDepth 20000 in
set_option maxHeartbeats 4000000 in
theorem tm_X12_readLine {x : Ctx} {Λ : Lay} (C : Cx x cX12_readLine 3 (some .boolean) RX12 Λ rm_X12_readLine) (N : Nat) (μ : Mem) (v0 : Nat) (v1 : Int32) (v2 : Int32) (hv0 : inL Λ v0 11) {r : Int32 × Mem} (hm : m_X12_readLine N Λ μ v0 v1 v2 = some r) : J x 3 Λ (QI x Λ r.1 r.2) 0 [(0, .ref v0), (1, .int v1), (2, .int v2)] [] μ := by
  refine j_aload_n C 0 dX12_readLine_0 rfl ?_
  obtain ⟨r1, h2, hm⟩ := bd_some hm
  refine call_V (run_LV C lk_X12_136 ⟨rfl, rfl, Nat.le_of_ble_eq_true rfl, Nat.le_of_ble_eq_true rfl⟩ (As := []) hv0 rfl rfl (Nat.le_of_ble_eq_true rfl) dX12_readLine_1 (mc_X12_letters _ _ _ _ _ hv0 h2)) ?_
  refine j_iload_n C 2 dX12_readLine_4 rfl ?_
  refine j_iload_n C 1 dX12_readLine_5 rfl ?_
  refine j_if_eq C (tgt := 14) dX12_readLine_6 (by decide) (fun h3 => ?_) (fun h3 => ?_)
  · replace hm := if_t hm h3
    refine j_bipush C (v := 12) dX12_readLine_14 rfl ?_
    exact tj_X12_readLine_16 C _ _ _ _ _ _ _ hv0 hm
  · replace hm := if_f hm h3
    refine j_bipush C (v := 14) dX12_readLine_9 rfl ?_
    refine j_goto C (tgt := 16) dX12_readLine_11 (by decide) ?_
    exact tj_X12_readLine_16 C _ _ _ _ _ _ _ hv0 hm
set_option maxRecDepth 20000 in
set_option maxHeartbeats 4000000 in
theorem mc_X12_readLine (l : Launch) (N : Nat) (Λ : Lay) (μ : Mem) (v0 : Nat) (v1 : Int32) (v2 : Int32) (hv0 : inL Λ v0 11) {r : Int32 × Mem} (hm : m_X12_readLine N Λ μ v0 v1 v2 = some r) : MI l yX12_readLine cX12_readLine 3 (some .boolean) rm_X12_readLine Λ [.ref v0, .int v1, .int v2] μ r.1 r.2 := mi_of rfl (Nat.le_of_ble_eq_true rfl) (fun x C _ => tm_X12_readLine C _ _ _ _ _ hv0 hm)
abbrev rm_X12_readAll : Room := { frames := 57, cells := 0, slots := 0, locals := 4404 }
set_option maxRecDepth 20000 in
set_option maxHeartbeats 4000000 in
theorem tb_X12_readAll_28 {x : Ctx} {Λ : Lay} (C : Cx x cX12_readAll 3 (some .int) RX12 Λ rm_X12_readAll) (N : Nat) (μ : Mem) (k28 : Int32 × Mem → Option (Int32 × Mem)) (v0 : Nat) (v1 : Int32) (v2 : Int32) (hk28 : ∀ (s : Int32 × Mem) (r : Int32 × Mem), k28 s = some r → J x 3 Λ (QI x Λ r.1 r.2) 28 [(0, .ref v0), (1, .int v1), (2, .int s.1)] [] (s.2)) (hv0 : inL Λ v0 11) {r : Int32 × Mem} (hm : bd_X12_readAll_28 N Λ μ k28 v0 v1 v2 = some r) : J x 3 Λ (QI x Λ r.1 r.2) 28 [(0, .ref v0), (1, .int v1), (2, .int v2)] [] μ := by
  refine j_aload_n C 0 dX12_readAll_28 rfl ?_
  refine j_iload_n C 1 dX12_readAll_29 rfl ?_
  refine j_iload_n C 2 dX12_readAll_30 rfl ?_
  obtain ⟨r1, h2, hm⟩ := bd_some hm
  refine call_I (run_LV C lk_X12_274 ⟨rfl, rfl, Nat.le_of_ble_eq_true rfl, Nat.le_of_ble_eq_true rfl⟩ (As := [.int v1, .int v2]) hv0 rfl rfl (Nat.le_of_ble_eq_true rfl) dX12_readAll_31 (mc_X12_readLine _ _ _ _ _ _ _ hv0 h2)) ?_
  refine j_if_ne C (tgt := 39) dX12_readAll_34 (by decide) (fun h3 => ?_) (fun h3 => ?_)
  · replace hm := if_f hm h3
    refine j_aload_n C 0 dX12_readAll_39 rfl ?_
    obtain ⟨r4, h5, hm⟩ := bd_some hm
    refine call_V (run_LV C lk_X12_124 ⟨rfl, rfl, Nat.le_of_ble_eq_true rfl, Nat.le_of_ble_eq_true rfl⟩ (As := []) hv0 rfl rfl (Nat.le_of_ble_eq_true rfl) dX12_readAll_40 (mc_X12_blanks _ _ _ _ _ hv0 h5)) ?_
    refine j_aload_n C 0 dX12_readAll_43 rfl ?_
    refine j_getI C fg_X12_111_11 hv0 dX12_readAll_44 ?_
    refine j_aload_n C 0 dX12_readAll_47 rfl ?_
    refine j_getI C fg_X12_114_11 hv0 dX12_readAll_48 ?_
    refine j_icmp_ne C (tgt := 58) dX12_readAll_51 (by decide) (fun h6 => ?_) (fun h6 => ?_)
    · replace hm := if_f hm h6
      refine j_aload_n C 0 dX12_readAll_58 rfl ?_
      refine j_bipush C (v := 59) dX12_readAll_59 rfl ?_
      refine j_bipush C (v := 59) dX12_readAll_61 rfl ?_
      obtain ⟨r7, h8, hm⟩ := bd_some hm
      refine call_I (run_LV C lk_X12_117 ⟨rfl, rfl, Nat.le_of_ble_eq_true rfl, Nat.le_of_ble_eq_true rfl⟩ (As := [.int 59, .int 59]) hv0 rfl rfl (Nat.le_of_ble_eq_true rfl) dX12_readAll_63 (mc_X12_isAt _ _ _ _ _ _ _ hv0 h8)) ?_
      refine j_if_ne C (tgt := 71) dX12_readAll_66 (by decide) (fun h9 => ?_) (fun h9 => ?_)
      · replace hm := if_f hm h9
        refine j_aload_n C 0 dX12_readAll_71 rfl ?_
        refine j_dup C dX12_readAll_72 rfl ?_
        refine j_getI C fg_X12_111_11 hv0 dX12_readAll_73 ?_
        refine j_iconst C (v := 1) dX12_readAll_76 rfl ?_
        refine j_iadd C dX12_readAll_77 ?_
        obtain ⟨μ10, e11, hm⟩ := lt_some hm
        refine j_putI C fp_X12_111_11 hv0 e11 dX12_readAll_78 ?_
        obtain ⟨y12, e13, hm⟩ := lt_some hm
        refine j_iinc C 2 (v := y12) (lv' := [(2, .int y12), (0, .ref v0), (1, .int v1)]) dX12_readAll_81 rfl (by rw [e13]; rfl) (by decide) rfl ?_
        refine j_goto C (tgt := 28) dX12_readAll_84 (by decide) ?_
        refine j_sub [1, 2, 0] rfl ?_
        exact hk28 (y12, μ10) _ hm
      · replace hm := if_t hm h9
        refine j_iconst C (v := -1) dX12_readAll_69 rfl ?_
        obtain rfl := Option.some.inj hm
        exact j_ireti C dX12_readAll_70
    · replace hm := if_t hm h6
      refine j_iload_n C 2 dX12_readAll_54 rfl ?_
      refine j_iconst C (v := 1) dX12_readAll_55 rfl ?_
      refine j_iadd C dX12_readAll_56 ?_
      obtain rfl := Option.some.inj hm
      exact j_ireti C dX12_readAll_57
  · replace hm := if_t hm h3
    refine j_iconst C (v := -1) dX12_readAll_37 rfl ?_
    obtain rfl := Option.some.inj hm
    exact j_ireti C dX12_readAll_38
set_option maxRecDepth 20000 in
set_option maxHeartbeats 4000000 in
theorem tl_X12_readAll_28 {x : Ctx} {Λ : Lay} (C : Cx x cX12_readAll 3 (some .int) RX12 Λ rm_X12_readAll) (N : Nat) (v0 : Nat) (v1 : Int32) (hv0 : inL Λ v0 11) (s : Int32 × Mem) {r : Int32 × Mem} (hm : lp_X12_readAll_28 N Λ v0 v1 s = some r) : J x 3 Λ (QI x Λ r.1 r.2) 28 [(0, .ref v0), (1, .int v1), (2, .int s.1)] [] (s.2) :=
  cw_ind (P := fun s r => J x 3 Λ (QI x Λ r.1 r.2) 28 [(0, .ref v0), (1, .int v1), (2, .int s.1)] [] (s.2)) (fun k hkk s r e => tb_X12_readAll_28 C _ _ _ _ _ _ hkk hv0 e) N s r hm
set_option maxRecDepth 20000 in
set_option maxHeartbeats 4000000 in
theorem tm_X12_readAll {x : Ctx} {Λ : Lay} (C : Cx x cX12_readAll 3 (some .int) RX12 Λ rm_X12_readAll) (N : Nat) (μ : Mem) (v0 : Nat) (v1 : Int32) (hv0 : inL Λ v0 11) {r : Int32 × Mem} (hm : m_X12_readAll N Λ μ v0 v1 = some r) : J x 3 Λ (QI x Λ r.1 r.2) 0 [(0, .ref v0), (1, .int v1)] [] μ := by
  refine j_aload_n C 0 dX12_readAll_0 rfl ?_
  obtain ⟨r1, h2, hm⟩ := bd_some hm
  refine call_V (run_LV C lk_X12_271 ⟨rfl, rfl, Nat.le_of_ble_eq_true rfl, Nat.le_of_ble_eq_true rfl⟩ (As := []) hv0 rfl rfl (Nat.le_of_ble_eq_true rfl) dX12_readAll_1 (mc_X12_uses _ _ _ _ _ hv0 h2)) ?_
  refine j_aload_n C 0 dX12_readAll_4 rfl ?_
  refine j_iconst C (v := 0) dX12_readAll_5 rfl ?_
  obtain ⟨μ3, e4, hm⟩ := lt_some hm
  refine j_putI C fp_X12_211_11 hv0 e4 dX12_readAll_6 ?_
  refine j_aload_n C 0 dX12_readAll_9 rfl ?_
  obtain ⟨r5, h6, hm⟩ := bd_some hm
  refine call_V (run_LV C lk_X12_124 ⟨rfl, rfl, Nat.le_of_ble_eq_true rfl, Nat.le_of_ble_eq_true rfl⟩ (As := []) hv0 rfl rfl (Nat.le_of_ble_eq_true rfl) dX12_readAll_10 (mc_X12_blanks _ _ _ _ _ hv0 h6)) ?_
  refine j_aload_n C 0 dX12_readAll_13 rfl ?_
  refine j_getI C fg_X12_111_11 hv0 dX12_readAll_14 ?_
  refine j_aload_n C 0 dX12_readAll_17 rfl ?_
  refine j_getI C fg_X12_114_11 hv0 dX12_readAll_18 ?_
  refine j_icmp_ne C (tgt := 26) dX12_readAll_21 (by decide) (fun h7 => ?_) (fun h7 => ?_)
  · replace hm := if_f hm h7
    refine j_iconst C (v := 0) dX12_readAll_26 rfl ?_
    refine j_istore_n C (lv' := [(2, .int 0), (0, .ref v0), (1, .int v1)]) dX12_readAll_27 (by decide) rfl ?_
    refine j_sub [1, 2, 0] rfl ?_
    exact tl_X12_readAll_28 C _ _ _ hv0 (0, r5) hm
  · replace hm := if_t hm h7
    refine j_iconst C (v := 0) dX12_readAll_24 rfl ?_
    obtain rfl := Option.some.inj hm
    exact j_ireti C dX12_readAll_25
set_option maxRecDepth 20000 in
set_option maxHeartbeats 4000000 in
theorem mc_X12_readAll (l : Launch) (N : Nat) (Λ : Lay) (μ : Mem) (v0 : Nat) (v1 : Int32) (hv0 : inL Λ v0 11) {r : Int32 × Mem} (hm : m_X12_readAll N Λ μ v0 v1 = some r) : MI l yX12_readAll cX12_readAll 3 (some .int) rm_X12_readAll Λ [.ref v0, .int v1] μ r.1 r.2 := mi_of rfl (Nat.le_of_ble_eq_true rfl) (fun x C _ => tm_X12_readAll C _ _ _ _ hv0 hm)
abbrev rm_X12_dock : Room := { frames := 58, cells := 0, slots := 0, locals := 4426 }
set_option maxRecDepth 20000 in
set_option maxHeartbeats 4000000 in
theorem tb_X12_dock_92 {x : Ctx} {Λ : Lay} (C : Cx x cX12_dock 3 (some .int) RX12 Λ rm_X12_dock) (N : Nat) (μ : Mem) (k92 : Int32 × Mem → Option (Int32 × Mem)) (v0 : Nat) (v2 : Int32) (hk92 : ∀ (s : Int32 × Mem) (r : Int32 × Mem), k92 s = some r → J x 3 Λ (QI x Λ r.1 r.2) 92 [(0, .ref v0), (2, .int s.1)] [] (s.2)) (hv0 : inL Λ v0 11) {r : Int32 × Mem} (hm : bd_X12_dock_92 N Λ μ k92 v0 v2 = some r) : J x 3 Λ (QI x Λ r.1 r.2) 92 [(0, .ref v0), (2, .int v2)] [] μ := by
  refine j_iload_n C 1 dX12_dock_92 rfl ?_
  refine j_sipush C (v := 1222) dX12_dock_93 rfl ?_
  refine j_icmp_ge C (tgt := 117) dX12_dock_96 (by decide) (fun h1 => ?_) (fun h1 => ?_)
  · replace hm := if_t hm h1
    refine j_iconst C (v := 0) dX12_dock_117 rfl ?_
    obtain rfl := Option.some.inj hm
    exact j_ireti C dX12_dock_118
  · replace hm := if_f hm h1
    refine j_aload_n C 0 dX12_dock_99 rfl ?_
    obtain ⟨q2, h3, hm⟩ := bd_some hm
    refine j_getR C fg_X12_13_11 hv0 (dr_spec h3).1 dX12_dock_100 ?_
    refine j_iload_n C 1 dX12_dock_103 rfl ?_
    refine j_aload_n C 0 dX12_dock_104 rfl ?_
    obtain ⟨q4, h5, hm⟩ := bd_some hm
    refine j_getR C fg_X12_20_11 hv0 (dr_spec h5).1 dX12_dock_105 ?_
    refine j_iload_n C 1 dX12_dock_108 rfl ?_
    obtain ⟨h6, hm⟩ := gd_some hm
    refine j_iald C ((dr_spec h5).2) h6 dX12_dock_109 ?_
    obtain ⟨h7, hm⟩ := gd_some hm
    obtain ⟨μ8, e9, hm⟩ := lt_some hm
    refine j_iast C ((dr_spec h3).2) h7 e9 dX12_dock_110 ?_
    obtain ⟨y10, e11, hm⟩ := lt_some hm
    refine j_iinc C 1 (v := y10) (lv' := [(2, .int y10), (0, .ref v0)]) dX12_dock_111 rfl (by rw [e11]; rfl) (by decide) rfl ?_
    refine j_goto C (tgt := 92) dX12_dock_114 (by decide) ?_
    refine j_sub [1, 0] rfl ?_
    exact hk92 (y10, μ8) _ hm
set_option maxRecDepth 20000 in
set_option maxHeartbeats 4000000 in
theorem tl_X12_dock_92 {x : Ctx} {Λ : Lay} (C : Cx x cX12_dock 3 (some .int) RX12 Λ rm_X12_dock) (N : Nat) (v0 : Nat) (hv0 : inL Λ v0 11) (s : Int32 × Mem) {r : Int32 × Mem} (hm : lp_X12_dock_92 N Λ v0 s = some r) : J x 3 Λ (QI x Λ r.1 r.2) 92 [(0, .ref v0), (2, .int s.1)] [] (s.2) :=
  cw_ind (P := fun s r => J x 3 Λ (QI x Λ r.1 r.2) 92 [(0, .ref v0), (2, .int s.1)] [] (s.2)) (fun k hkk s r e => tb_X12_dock_92 C _ _ _ _ _ hkk hv0 e) N s r hm
set_option maxRecDepth 20000 in
set_option maxHeartbeats 4000000 in
theorem tj_X12_dock_90 {x : Ctx} {Λ : Lay} (C : Cx x cX12_dock 3 (some .int) RX12 Λ rm_X12_dock) (N : Nat) (μ : Mem) (v0 : Nat) (hv0 : inL Λ v0 11) {r : Int32 × Mem} (hm : jn_X12_dock_90 N Λ μ v0 = some r) : J x 3 Λ (QI x Λ r.1 r.2) 90 [(0, .ref v0)] [] μ := by
  refine j_iconst C (v := 0) dX12_dock_90 rfl ?_
  refine j_istore_n C (lv' := [(2, .int 0), (0, .ref v0)]) dX12_dock_91 (by decide) rfl ?_
  refine j_sub [1, 0] rfl ?_
  exact tl_X12_dock_92 C _ _ hv0 (0, μ) hm
set_option maxRecDepth 20000 in
set_option maxHeartbeats 4000000 in
theorem tj_X12_dock_83 {x : Ctx} {Λ : Lay} (C : Cx x cX12_dock 3 (some .int) RX12 Λ rm_X12_dock) (N : Nat) (μ : Mem) (v0 : Nat) (s0 : Nat) (s1 : Int32) (hv0 : inL Λ v0 11) (hs0 : inL Λ s0 11) {r : Int32 × Mem} (hm : jn_X12_dock_83 N Λ μ v0 s0 s1 = some r) : J x 3 Λ (QI x Λ r.1 r.2) 83 [(0, .ref v0)] [.int s1, .ref s0] μ := by
  refine j_iconst C (v := 2) dX12_dock_83 rfl ?_
  obtain ⟨r1, h2, hm⟩ := bd_some hm
  refine call_I (run_LV C lk_X12_282 ⟨rfl, rfl, Nat.le_of_ble_eq_true rfl, Nat.le_of_ble_eq_true rfl⟩ (As := [.int s1, .int 2]) hs0 rfl rfl (Nat.le_of_ble_eq_true rfl) dX12_dock_84 (mc_X12_throwsIf _ _ _ _ _ _ _ hs0 h2)) ?_
  refine j_if_eq C (tgt := 119) dX12_dock_87 (by decide) (fun h3 => ?_) (fun h3 => ?_)
  · replace hm := if_t hm h3
    refine j_aload_n C 0 dX12_dock_119 rfl ?_
    obtain ⟨q4, h5, hm⟩ := bd_some hm
    refine j_getR C fg_X12_13_11 hv0 (dr_spec h5).1 dX12_dock_120 ?_
    refine j_iconst C (v := 1) dX12_dock_123 rfl ?_
    refine j_dup2 C dX12_dock_124 rfl rfl ?_
    obtain ⟨h6, hm⟩ := gd_some hm
    refine j_iald C ((dr_spec h5).2) h6 dX12_dock_125 ?_
    refine j_iconst C (v := 1) dX12_dock_126 rfl ?_
    refine j_iadd C dX12_dock_127 ?_
    obtain ⟨h7, hm⟩ := gd_some hm
    obtain ⟨μ8, e9, hm⟩ := lt_some hm
    refine j_iast C ((dr_spec h5).2) h7 e9 dX12_dock_128 ?_
    refine j_aload_n C 0 dX12_dock_129 rfl ?_
    refine j_iconst C (v := 0) dX12_dock_130 rfl ?_
    obtain ⟨μ10, e11, hm⟩ := lt_some hm
    refine j_putI C fp_X12_78_11 hv0 e11 dX12_dock_131 ?_
    refine j_aload_n C 0 dX12_dock_134 rfl ?_
    obtain ⟨q12, h13, hm⟩ := bd_some hm
    refine j_getR C fg_X12_13_11 hv0 (dr_spec h13).1 dX12_dock_135 ?_
    refine j_iconst C (v := 1) dX12_dock_138 rfl ?_
    obtain ⟨h14, hm⟩ := gd_some hm
    refine j_iald C ((dr_spec h13).2) h14 dX12_dock_139 ?_
    obtain rfl := Option.some.inj hm
    exact j_ireti C dX12_dock_140
  · replace hm := if_f hm h3
    exact tj_X12_dock_90 C _ _ _ hv0 hm
set_option maxRecDepth 20000 in
set_option maxHeartbeats 4000000 in
theorem tj_X12_dock_59 {x : Ctx} {Λ : Lay} (C : Cx x cX12_dock 3 (some .int) RX12 Λ rm_X12_dock) (N : Nat) (μ : Mem) (v0 : Nat) (s0 : Nat) (s1 : Int32) (hv0 : inL Λ v0 11) (hs0 : inL Λ s0 11) {r : Int32 × Mem} (hm : jn_X12_dock_59 N Λ μ v0 s0 s1 = some r) : J x 3 Λ (QI x Λ r.1 r.2) 59 [(0, .ref v0)] [.int s1, .ref s0] μ := by
  refine j_iconst C (v := 1) dX12_dock_59 rfl ?_
  obtain ⟨r1, h2, hm⟩ := bd_some hm
  refine call_I (run_LV C lk_X12_282 ⟨rfl, rfl, Nat.le_of_ble_eq_true rfl, Nat.le_of_ble_eq_true rfl⟩ (As := [.int s1, .int 1]) hs0 rfl rfl (Nat.le_of_ble_eq_true rfl) dX12_dock_60 (mc_X12_throwsIf _ _ _ _ _ _ _ hs0 h2)) ?_
  refine j_if_ne C (tgt := 90) dX12_dock_63 (by decide) (fun h3 => ?_) (fun h3 => ?_)
  · replace hm := if_f hm h3
    exact tj_X12_dock_90 C _ _ _ hv0 hm
  · replace hm := if_t hm h3
    refine j_aload_n C 0 dX12_dock_66 rfl ?_
    refine j_aload_n C 0 dX12_dock_67 rfl ?_
    obtain ⟨q4, h5, hm⟩ := bd_some hm
    refine j_getR C fg_X12_13_11 hv0 (dr_spec h5).1 dX12_dock_68 ?_
    refine j_iconst C (v := 1) dX12_dock_71 rfl ?_
    obtain ⟨h6, hm⟩ := gd_some hm
    refine j_iald C ((dr_spec h5).2) h6 dX12_dock_72 ?_
    refine j_bipush C (v := 12) dX12_dock_73 rfl ?_
    refine j_icmp_ne C (tgt := 82) dX12_dock_75 (by decide) (fun h7 => ?_) (fun h7 => ?_)
    · replace hm := if_f hm h7
      refine j_iconst C (v := 0) dX12_dock_82 rfl ?_
      exact tj_X12_dock_83 C _ _ _ _ _ hv0 hv0 hm
    · replace hm := if_t hm h7
      refine j_iconst C (v := 1) dX12_dock_78 rfl ?_
      refine j_goto C (tgt := 83) dX12_dock_79 (by decide) ?_
      exact tj_X12_dock_83 C _ _ _ _ _ hv0 hv0 hm
set_option maxRecDepth 20000 in
set_option maxHeartbeats 4000000 in
theorem tj_X12_dock_46 {x : Ctx} {Λ : Lay} (C : Cx x cX12_dock 3 (some .int) RX12 Λ rm_X12_dock) (N : Nat) (μ : Mem) (v0 : Nat) (v1 : Int32) (s0 : Nat) (s1 : Int32) (hv0 : inL Λ v0 11) (hs0 : inL Λ s0 11) {r : Int32 × Mem} (hm : jn_X12_dock_46 N Λ μ v0 v1 s0 s1 = some r) : J x 3 Λ (QI x Λ r.1 r.2) 46 [(0, .ref v0), (1, .int v1)] [.int s1, .ref s0] μ := by
  obtain ⟨μ1, e2, hm⟩ := lt_some hm
  refine j_putI C fp_X12_33_11 hs0 e2 dX12_dock_46 ?_
  refine j_aload_n C 0 dX12_dock_49 rfl ?_
  refine j_iload_n C 1 dX12_dock_50 rfl ?_
  refine j_if_ge C (tgt := 58) dX12_dock_51 (by decide) (fun h3 => ?_) (fun h3 => ?_)
  · replace hm := if_t hm h3
    refine j_iconst C (v := 0) dX12_dock_58 rfl ?_
    refine j_sub [0] rfl ?_
    exact tj_X12_dock_59 C _ _ _ _ _ hv0 hv0 hm
  · replace hm := if_f hm h3
    refine j_iconst C (v := 1) dX12_dock_54 rfl ?_
    refine j_goto C (tgt := 59) dX12_dock_55 (by decide) ?_
    refine j_sub [0] rfl ?_
    exact tj_X12_dock_59 C _ _ _ _ _ hv0 hv0 hm
set_option maxRecDepth 20000 in
set_option maxHeartbeats 4000000 in
theorem tb_X12_dock_2 {x : Ctx} {Λ : Lay} (C : Cx x cX12_dock 3 (some .int) RX12 Λ rm_X12_dock) (N : Nat) (μ : Mem) (k2 : Int32 × Mem → Option (Int32 × Mem)) (v0 : Nat) (v1 : Int32) (hk2 : ∀ (s : Int32 × Mem) (r : Int32 × Mem), k2 s = some r → J x 3 Λ (QI x Λ r.1 r.2) 2 [(0, .ref v0), (1, .int s.1)] [] (s.2)) (hv0 : inL Λ v0 11) {r : Int32 × Mem} (hm : bd_X12_dock_2 N Λ μ k2 v0 v1 = some r) : J x 3 Λ (QI x Λ r.1 r.2) 2 [(0, .ref v0), (1, .int v1)] [] μ := by
  refine j_iload_n C 1 dX12_dock_2 rfl ?_
  refine j_sipush C (v := 1222) dX12_dock_3 rfl ?_
  refine j_icmp_ge C (tgt := 27) dX12_dock_6 (by decide) (fun h1 => ?_) (fun h1 => ?_)
  · replace hm := if_t hm h1
    refine j_aload_n C 0 dX12_dock_27 rfl ?_
    refine j_iconst C (v := 1) dX12_dock_28 rfl ?_
    obtain ⟨r2, h3, hm⟩ := bd_some hm
    refine call_I (run_LV C lk_X12_278 ⟨rfl, rfl, Nat.le_of_ble_eq_true rfl, Nat.le_of_ble_eq_true rfl⟩ (As := [.int 1]) hv0 rfl rfl (Nat.le_of_ble_eq_true rfl) dX12_dock_29 (mc_X12_readAll _ _ _ _ _ _ hv0 h3)) ?_
    refine j_istore_n C (lv' := [(1, .int r2.1), (0, .ref v0)]) dX12_dock_32 (by decide) rfl ?_
    refine j_aload_n C 1 dX12_dock_33 rfl ?_
    refine j_iload_n C 0 dX12_dock_34 rfl ?_
    refine j_if_ge C (tgt := 45) dX12_dock_35 (by decide) (fun h4 => ?_) (fun h4 => ?_)
    · replace hm := if_t hm h4
      refine j_iconst C (v := -1) dX12_dock_45 rfl ?_
      refine j_sub [1, 0] rfl ?_
      exact tj_X12_dock_46 C _ _ _ _ _ _ hv0 hv0 hm
    · replace hm := if_f hm h4
      refine j_aload_n C 1 dX12_dock_38 rfl ?_
      refine j_getI C fg_X12_121_11 hv0 dX12_dock_39 ?_
      refine j_goto C (tgt := 46) dX12_dock_42 (by decide) ?_
      refine j_sub [1, 0] rfl ?_
      exact tj_X12_dock_46 C _ _ _ _ _ _ hv0 hv0 hm
  · replace hm := if_f hm h1
    refine j_aload_n C 0 dX12_dock_9 rfl ?_
    obtain ⟨q5, h6, hm⟩ := bd_some hm
    refine j_getR C fg_X12_20_11 hv0 (dr_spec h6).1 dX12_dock_10 ?_
    refine j_iload_n C 1 dX12_dock_13 rfl ?_
    refine j_aload_n C 0 dX12_dock_14 rfl ?_
    obtain ⟨q7, h8, hm⟩ := bd_some hm
    refine j_getR C fg_X12_13_11 hv0 (dr_spec h8).1 dX12_dock_15 ?_
    refine j_iload_n C 1 dX12_dock_18 rfl ?_
    obtain ⟨h9, hm⟩ := gd_some hm
    refine j_iald C ((dr_spec h8).2) h9 dX12_dock_19 ?_
    obtain ⟨h10, hm⟩ := gd_some hm
    obtain ⟨μ11, e12, hm⟩ := lt_some hm
    refine j_iast C ((dr_spec h6).2) h10 e12 dX12_dock_20 ?_
    obtain ⟨y13, e14, hm⟩ := lt_some hm
    refine j_iinc C 1 (v := y13) (lv' := [(1, .int y13), (0, .ref v0)]) dX12_dock_21 rfl (by rw [e14]; rfl) (by decide) rfl ?_
    refine j_goto C (tgt := 2) dX12_dock_24 (by decide) ?_
    refine j_sub [1, 0] rfl ?_
    exact hk2 (y13, μ11) _ hm
set_option maxRecDepth 20000 in
set_option maxHeartbeats 4000000 in
theorem tl_X12_dock_2 {x : Ctx} {Λ : Lay} (C : Cx x cX12_dock 3 (some .int) RX12 Λ rm_X12_dock) (N : Nat) (v0 : Nat) (hv0 : inL Λ v0 11) (s : Int32 × Mem) {r : Int32 × Mem} (hm : lp_X12_dock_2 N Λ v0 s = some r) : J x 3 Λ (QI x Λ r.1 r.2) 2 [(0, .ref v0), (1, .int s.1)] [] (s.2) :=
  cw_ind (P := fun s r => J x 3 Λ (QI x Λ r.1 r.2) 2 [(0, .ref v0), (1, .int s.1)] [] (s.2)) (fun k hkk s r e => tb_X12_dock_2 C _ _ _ _ _ hkk hv0 e) N s r hm
set_option maxRecDepth 20000 in
set_option maxHeartbeats 4000000 in
theorem tm_X12_dock {x : Ctx} {Λ : Lay} (C : Cx x cX12_dock 3 (some .int) RX12 Λ rm_X12_dock) (N : Nat) (μ : Mem) (v0 : Nat) (hv0 : inL Λ v0 11) {r : Int32 × Mem} (hm : m_X12_dock N Λ μ v0 = some r) : J x 3 Λ (QI x Λ r.1 r.2) 0 [(0, .ref v0)] [] μ := by
  refine j_iconst C (v := 0) dX12_dock_0 rfl ?_
  refine j_istore_n C (lv' := [(1, .int 0), (0, .ref v0)]) dX12_dock_1 (by decide) rfl ?_
  refine j_sub [1, 0] rfl ?_
  exact tl_X12_dock_2 C _ _ hv0 (0, μ) hm
set_option maxRecDepth 20000 in
set_option maxHeartbeats 4000000 in
theorem mc_X12_dock (l : Launch) (N : Nat) (Λ : Lay) (μ : Mem) (v0 : Nat) (hv0 : inL Λ v0 11) {r : Int32 × Mem} (hm : m_X12_dock N Λ μ v0 = some r) : MI l yX12_dock cX12_dock 3 (some .int) rm_X12_dock Λ [.ref v0] μ r.1 r.2 := mi_of rfl (Nat.le_of_ble_eq_true rfl) (fun x C _ => tm_X12_dock C _ _ _ hv0 hm)
abbrev rm_X12_law : Room := { frames := 58, cells := 0, slots := 0, locals := 4426 }
set_option maxRecDepth 20000 in
set_option maxHeartbeats 4000000 in
theorem tb_X12_law_52 {x : Ctx} {Λ : Lay} (C : Cx x cX12_law 3 (some .int) RX12 Λ rm_X12_law) (N : Nat) (μ : Mem) (k52 : Int32 × Mem → Option (Int32 × Mem)) (v0 : Nat) (v1 : Int32) (v2 : Int32) (hk52 : ∀ (s : Int32 × Mem) (r : Int32 × Mem), k52 s = some r → J x 3 Λ (QI x Λ r.1 r.2) 52 [(0, .ref v0), (1, .int v1), (2, .int s.1)] [] (s.2)) (hv0 : inL Λ v0 11) {r : Int32 × Mem} (hm : bd_X12_law_52 N Λ μ k52 v0 v1 v2 = some r) : J x 3 Λ (QI x Λ r.1 r.2) 52 [(0, .ref v0), (1, .int v1), (2, .int v2)] [] μ := by
  refine j_iload_n C 2 dX12_law_52 rfl ?_
  refine j_sipush C (v := 849) dX12_law_53 rfl ?_
  refine j_icmp_ge C (tgt := 85) dX12_law_56 (by decide) (fun h1 => ?_) (fun h1 => ?_)
  · replace hm := if_t hm h1
    refine j_aload_n C 0 dX12_law_85 rfl ?_
    obtain ⟨q2, h3, hm⟩ := bd_some hm
    refine j_getR C fg_X12_13_11 hv0 (dr_spec h3).1 dX12_law_86 ?_
    refine j_iconst C (v := 2) dX12_law_89 rfl ?_
    refine j_iconst C (v := 1) dX12_law_90 rfl ?_
    obtain ⟨h4, hm⟩ := gd_some hm
    obtain ⟨μ5, e6, hm⟩ := lt_some hm
    refine j_iast C ((dr_spec h3).2) h4 e6 dX12_law_91 ?_
    refine j_aload_n C 0 dX12_law_92 rfl ?_
    refine j_iconst C (v := 0) dX12_law_93 rfl ?_
    obtain ⟨μ7, e8, hm⟩ := lt_some hm
    refine j_putI C fp_X12_78_11 hv0 e8 dX12_law_94 ?_
    refine j_iload_n C 1 dX12_law_97 rfl ?_
    obtain rfl := Option.some.inj hm
    exact j_ireti C dX12_law_98
  · replace hm := if_f hm h1
    refine j_aload_n C 0 dX12_law_59 rfl ?_
    obtain ⟨q9, h10, hm⟩ := bd_some hm
    refine j_getR C fg_X12_13_11 hv0 (dr_spec h10).1 dX12_law_60 ?_
    refine j_sipush C (v := 373) dX12_law_63 rfl ?_
    refine j_iload_n C 2 dX12_law_66 rfl ?_
    refine j_iadd C dX12_law_67 ?_
    refine j_aload_n C 0 dX12_law_68 rfl ?_
    obtain ⟨q11, h12, hm⟩ := bd_some hm
    refine j_getR C fg_X12_13_11 hv0 (dr_spec h12).1 dX12_law_69 ?_
    refine j_sipush C (v := 1222) dX12_law_72 rfl ?_
    refine j_iload_n C 2 dX12_law_75 rfl ?_
    refine j_iadd C dX12_law_76 ?_
    obtain ⟨h13, hm⟩ := gd_some hm
    refine j_iald C ((dr_spec h12).2) h13 dX12_law_77 ?_
    obtain ⟨h14, hm⟩ := gd_some hm
    obtain ⟨μ15, e16, hm⟩ := lt_some hm
    refine j_iast C ((dr_spec h10).2) h14 e16 dX12_law_78 ?_
    obtain ⟨y17, e18, hm⟩ := lt_some hm
    refine j_iinc C 2 (v := y17) (lv' := [(2, .int y17), (0, .ref v0), (1, .int v1)]) dX12_law_79 rfl (by rw [e18]; rfl) (by decide) rfl ?_
    refine j_goto C (tgt := 52) dX12_law_82 (by decide) ?_
    refine j_sub [1, 2, 0] rfl ?_
    exact hk52 (y17, μ15) _ hm
set_option maxRecDepth 20000 in
set_option maxHeartbeats 4000000 in
theorem tl_X12_law_52 {x : Ctx} {Λ : Lay} (C : Cx x cX12_law 3 (some .int) RX12 Λ rm_X12_law) (N : Nat) (v0 : Nat) (v1 : Int32) (hv0 : inL Λ v0 11) (s : Int32 × Mem) {r : Int32 × Mem} (hm : lp_X12_law_52 N Λ v0 v1 s = some r) : J x 3 Λ (QI x Λ r.1 r.2) 52 [(0, .ref v0), (1, .int v1), (2, .int s.1)] [] (s.2) :=
  cw_ind (P := fun s r => J x 3 Λ (QI x Λ r.1 r.2) 52 [(0, .ref v0), (1, .int v1), (2, .int s.1)] [] (s.2)) (fun k hkk s r e => tb_X12_law_52 C _ _ _ _ _ _ hkk hv0 e) N s r hm
set_option maxRecDepth 20000 in
set_option maxHeartbeats 4000000 in
theorem tj_X12_law_32 {x : Ctx} {Λ : Lay} (C : Cx x cX12_law 3 (some .int) RX12 Λ rm_X12_law) (N : Nat) (μ : Mem) (v0 : Nat) (v1 : Int32) (s0 : Nat) (s1 : Int32) (hv0 : inL Λ v0 11) (hs0 : inL Λ s0 11) {r : Int32 × Mem} (hm : jn_X12_law_32 N Λ μ v0 v1 s0 s1 = some r) : J x 3 Λ (QI x Λ r.1 r.2) 32 [(0, .ref v0), (1, .int v1)] [.int s1, .ref s0] μ := by
  refine j_iconst C (v := 1) dX12_law_32 rfl ?_
  obtain ⟨r1, h2, hm⟩ := bd_some hm
  refine call_I (run_LV C lk_X12_282 ⟨rfl, rfl, Nat.le_of_ble_eq_true rfl, Nat.le_of_ble_eq_true rfl⟩ (As := [.int s1, .int 1]) hs0 rfl rfl (Nat.le_of_ble_eq_true rfl) dX12_law_33 (mc_X12_throwsIf _ _ _ _ _ _ _ hs0 h2)) ?_
  refine j_if_eq C (tgt := 41) dX12_law_36 (by decide) (fun h3 => ?_) (fun h3 => ?_)
  · replace hm := if_t hm h3
    refine j_aload_n C 0 dX12_law_41 rfl ?_
    obtain ⟨q4, h5, hm⟩ := bd_some hm
    refine j_getR C fg_X12_13_11 hv0 (dr_spec h5).1 dX12_law_42 ?_
    refine j_sipush C (v := 1222) dX12_law_45 rfl ?_
    refine j_iload_n C 1 dX12_law_48 rfl ?_
    obtain ⟨h6, hm⟩ := gd_some hm
    obtain ⟨μ7, e8, hm⟩ := lt_some hm
    refine j_iast C ((dr_spec h5).2) h6 e8 dX12_law_49 ?_
    refine j_iconst C (v := 0) dX12_law_50 rfl ?_
    refine j_istore_n C (lv' := [(2, .int 0), (0, .ref v0), (1, .int v1)]) dX12_law_51 (by decide) rfl ?_
    refine j_sub [1, 2, 0] rfl ?_
    exact tl_X12_law_52 C _ _ _ hv0 (0, μ7) hm
  · replace hm := if_f hm h3
    refine j_iconst C (v := 0) dX12_law_39 rfl ?_
    obtain rfl := Option.some.inj hm
    exact j_ireti C dX12_law_40
set_option maxRecDepth 20000 in
set_option maxHeartbeats 4000000 in
theorem tj_X12_law_19 {x : Ctx} {Λ : Lay} (C : Cx x cX12_law 3 (some .int) RX12 Λ rm_X12_law) (N : Nat) (μ : Mem) (v0 : Nat) (v1 : Int32) (s0 : Nat) (s1 : Int32) (hv0 : inL Λ v0 11) (hs0 : inL Λ s0 11) {r : Int32 × Mem} (hm : jn_X12_law_19 N Λ μ v0 v1 s0 s1 = some r) : J x 3 Λ (QI x Λ r.1 r.2) 19 [(0, .ref v0), (1, .int v1)] [.int s1, .ref s0] μ := by
  obtain ⟨μ1, e2, hm⟩ := lt_some hm
  refine j_putI C fp_X12_33_11 hs0 e2 dX12_law_19 ?_
  refine j_aload_n C 0 dX12_law_22 rfl ?_
  refine j_iload_n C 1 dX12_law_23 rfl ?_
  refine j_if_ge C (tgt := 31) dX12_law_24 (by decide) (fun h3 => ?_) (fun h3 => ?_)
  · replace hm := if_t hm h3
    refine j_iconst C (v := 0) dX12_law_31 rfl ?_
    exact tj_X12_law_32 C _ _ _ _ _ _ hv0 hv0 hm
  · replace hm := if_f hm h3
    refine j_iconst C (v := 1) dX12_law_27 rfl ?_
    refine j_goto C (tgt := 32) dX12_law_28 (by decide) ?_
    exact tj_X12_law_32 C _ _ _ _ _ _ hv0 hv0 hm
set_option maxRecDepth 20000 in
set_option maxHeartbeats 4000000 in
theorem tm_X12_law {x : Ctx} {Λ : Lay} (C : Cx x cX12_law 3 (some .int) RX12 Λ rm_X12_law) (N : Nat) (μ : Mem) (v0 : Nat) (hv0 : inL Λ v0 11) {r : Int32 × Mem} (hm : m_X12_law N Λ μ v0 = some r) : J x 3 Λ (QI x Λ r.1 r.2) 0 [(0, .ref v0)] [] μ := by
  refine j_aload_n C 0 dX12_law_0 rfl ?_
  refine j_iconst C (v := 0) dX12_law_1 rfl ?_
  obtain ⟨r1, h2, hm⟩ := bd_some hm
  refine call_I (run_LV C lk_X12_278 ⟨rfl, rfl, Nat.le_of_ble_eq_true rfl, Nat.le_of_ble_eq_true rfl⟩ (As := [.int 0]) hv0 rfl rfl (Nat.le_of_ble_eq_true rfl) dX12_law_2 (mc_X12_readAll _ _ _ _ _ _ hv0 h2)) ?_
  refine j_istore_n C (lv' := [(1, .int r1.1), (0, .ref v0)]) dX12_law_5 (by decide) rfl ?_
  refine j_aload_n C 1 dX12_law_6 rfl ?_
  refine j_iload_n C 0 dX12_law_7 rfl ?_
  refine j_if_ge C (tgt := 18) dX12_law_8 (by decide) (fun h3 => ?_) (fun h3 => ?_)
  · replace hm := if_t hm h3
    refine j_iconst C (v := -1) dX12_law_18 rfl ?_
    refine j_sub [1, 0] rfl ?_
    exact tj_X12_law_19 C _ _ _ _ _ _ hv0 hv0 hm
  · replace hm := if_f hm h3
    refine j_aload_n C 1 dX12_law_11 rfl ?_
    refine j_getI C fg_X12_121_11 hv0 dX12_law_12 ?_
    refine j_goto C (tgt := 19) dX12_law_15 (by decide) ?_
    refine j_sub [1, 0] rfl ?_
    exact tj_X12_law_19 C _ _ _ _ _ _ hv0 hv0 hm
set_option maxRecDepth 20000 in
set_option maxHeartbeats 4000000 in
theorem mc_X12_law (l : Launch) (N : Nat) (Λ : Lay) (μ : Mem) (v0 : Nat) (hv0 : inL Λ v0 11) {r : Int32 × Mem} (hm : m_X12_law N Λ μ v0 = some r) : MI l yX12_law cX12_law 3 (some .int) rm_X12_law Λ [.ref v0] μ r.1 r.2 := mi_of rfl (Nat.le_of_ble_eq_true rfl) (fun x C _ => tm_X12_law C _ _ _ hv0 hm)
abbrev rm_X12_ofShip : Room := { frames := 2, cells := 0, slots := 0, locals := 43 }
set_option maxRecDepth 20000 in
set_option maxHeartbeats 4000000 in
theorem tj_X12_ofShip_15 {x : Ctx} {Λ : Lay} (C : Cx x cX12_ofShip 3 (some .int) RX12 Λ rm_X12_ofShip) (N : Nat) (μ : Mem) (s0 : Int32) {r : Int32} (hm : jn_X12_ofShip_15 N Λ μ s0 = some r) : J x 3 Λ (QI x Λ r μ) 15 [] [.int s0] μ := by
  obtain rfl := Option.some.inj hm
  exact j_ireti C dX12_ofShip_15
set_option maxRecDepth 20000 in
set_option maxHeartbeats 4000000 in
theorem tm_X12_ofShip {x : Ctx} {Λ : Lay} (C : Cx x cX12_ofShip 3 (some .int) RX12 Λ rm_X12_ofShip) (N : Nat) (μ : Mem) (v0 : Nat) (v1 : Int32) (v2 : Int32) (hv0 : inL Λ v0 11) {r : Int32} (hm : m_X12_ofShip N Λ μ v0 v1 v2 = some r) : J x 3 Λ (QI x Λ r μ) 0 [(0, .ref v0), (1, .int v1), (2, .int v2)] [] μ := by
  refine j_iload_n C 1 dX12_ofShip_0 rfl ?_
  refine j_iconst C (v := -1) dX12_ofShip_1 rfl ?_
  refine j_icmp_ne C (tgt := 9) dX12_ofShip_2 (by decide) (fun h1 => ?_) (fun h1 => ?_)
  · replace hm := if_f hm h1
    refine j_aload_n C 0 dX12_ofShip_9 rfl ?_
    refine j_iload_n C 1 dX12_ofShip_10 rfl ?_
    refine j_iload_n C 2 dX12_ofShip_11 rfl ?_
    obtain ⟨r2, h3, hm⟩ := bd_some hm
    refine call_I (run_LV C lk_X12_85 ⟨rfl, rfl, Nat.le_of_ble_eq_true rfl, Nat.le_of_ble_eq_true rfl⟩ (As := [.int v1, .int v2]) hv0 rfl rfl (Nat.le_of_ble_eq_true rfl) dX12_ofShip_12 (mc_X12_of _ _ _ _ _ _ _ hv0 h3)) ?_
    refine j_sub [] rfl ?_
    exact tj_X12_ofShip_15 C _ _ _  hm
  · replace hm := if_t hm h1
    refine j_iconst C (v := 0) dX12_ofShip_5 rfl ?_
    refine j_goto C (tgt := 15) dX12_ofShip_6 (by decide) ?_
    refine j_sub [] rfl ?_
    exact tj_X12_ofShip_15 C _ _ _  hm
set_option maxRecDepth 20000 in
set_option maxHeartbeats 4000000 in
theorem mc_X12_ofShip (l : Launch) (N : Nat) (Λ : Lay) (μ : Mem) (v0 : Nat) (v1 : Int32) (v2 : Int32) (hv0 : inL Λ v0 11) {r : Int32} (hm : m_X12_ofShip N Λ μ v0 v1 v2 = some r) : MI l yX12_ofShip cX12_ofShip 3 (some .int) rm_X12_ofShip Λ [.ref v0, .int v1, .int v2] μ r μ := mi_of rfl (Nat.le_of_ble_eq_true rfl) (fun x C _ => tm_X12_ofShip C _ _ _ _ _ hv0 hm)
abbrev rm_X12_factOf : Room := { frames := 3, cells := 0, slots := 0, locals := 65 }
set_option maxRecDepth 20000 in
set_option maxHeartbeats 4000000 in
theorem tj_X12_factOf_67 {x : Ctx} {Λ : Lay} (C : Cx x cX12_factOf 4 (some .int) RX12 Λ rm_X12_factOf) (N : Nat) (μ : Mem) (s0 : Int32) {r : Int32} (hm : jn_X12_factOf_67 N Λ μ s0 = some r) : J x 4 Λ (QI x Λ r μ) 67 [] [.int s0] μ := by
  obtain rfl := Option.some.inj hm
  exact j_ireti C dX12_factOf_67
set_option maxRecDepth 20000 in
set_option maxHeartbeats 4000000 in
theorem tj_X12_factOf_135 {x : Ctx} {Λ : Lay} (C : Cx x cX12_factOf 4 (some .int) RX12 Λ rm_X12_factOf) (N : Nat) (μ : Mem) (s0 : Int32) {r : Int32} (hm : jn_X12_factOf_135 N Λ μ s0 = some r) : J x 4 Λ (QI x Λ r μ) 135 [] [.int s0] μ := by
  obtain rfl := Option.some.inj hm
  exact j_ireti C dX12_factOf_135
set_option maxRecDepth 20000 in
set_option maxHeartbeats 4000000 in
theorem tm_X12_factOf {x : Ctx} {Λ : Lay} (C : Cx x cX12_factOf 4 (some .int) RX12 Λ rm_X12_factOf) (N : Nat) (μ : Mem) (v0 : Nat) (v1 : Int32) (v2 : Int32) (v3 : Int32) (hv0 : inL Λ v0 11) {r : Int32} (hm : m_X12_factOf N Λ μ v0 v1 v2 v3 = some r) : J x 4 Λ (QI x Λ r μ) 0 [(0, .ref v0), (1, .int v1), (2, .int v2), (3, .int v3)] [] μ := by
  refine j_iload_n C 1 dX12_factOf_0 rfl ?_
  by_cases h1 : v1 = 0
  · replace hm := if_t hm h1
    refine j_tabI C (tgt := 56) 0 dX12_factOf_1 (by rw [h1]; first | done | rfl) (by decide) (by decide) rfl (by decide) ?_
    refine j_iload_n C 3 dX12_factOf_56 rfl ?_
    refine j_iconst C (v := -1) dX12_factOf_57 rfl ?_
    refine j_icmp_ne C (tgt := 66) dX12_factOf_58 (by decide) (fun h2 => ?_) (fun h2 => ?_)
    · replace hm := if_f hm h2
      refine j_iload_n C 3 dX12_factOf_66 rfl ?_
      refine j_sub [] rfl ?_
      exact tj_X12_factOf_67 C _ _ _  hm
    · replace hm := if_t hm h2
      refine j_bipush C (v := 9) dX12_factOf_61 rfl ?_
      refine j_goto C (tgt := 67) dX12_factOf_63 (by decide) ?_
      refine j_sub [] rfl ?_
      exact tj_X12_factOf_67 C _ _ _  hm
  replace hm := if_f hm h1
  by_cases h3 : v1 = 1
  · replace hm := if_t hm h3
    refine j_tabI C (tgt := 68) 1 dX12_factOf_1 (by rw [h3]; first | done | rfl) (by decide) (by decide) rfl (by decide) ?_
    refine j_aload_n C 0 dX12_factOf_68 rfl ?_
    refine j_iload_n C 3 dX12_factOf_69 rfl ?_
    refine j_iconst C (v := 0) dX12_factOf_70 rfl ?_
    obtain ⟨r4, h5, hm⟩ := bd_some hm
    refine call_I (run_LV C lk_X12_285 ⟨rfl, rfl, Nat.le_of_ble_eq_true rfl, Nat.le_of_ble_eq_true rfl⟩ (As := [.int v3, .int 0]) hv0 rfl rfl (Nat.le_of_ble_eq_true rfl) dX12_factOf_71 (mc_X12_ofShip _ _ _ _ _ _ _ hv0 h5)) ?_
    obtain rfl := Option.some.inj hm
    exact j_ireti C dX12_factOf_74
  replace hm := if_f hm h3
  by_cases h6 : v1 = 2
  · replace hm := if_t hm h6
    refine j_tabI C (tgt := 75) 2 dX12_factOf_1 (by rw [h6]; first | done | rfl) (by decide) (by decide) rfl (by decide) ?_
    refine j_aload_n C 0 dX12_factOf_75 rfl ?_
    refine j_iload_n C 3 dX12_factOf_76 rfl ?_
    refine j_iconst C (v := 1) dX12_factOf_77 rfl ?_
    obtain ⟨r7, h8, hm⟩ := bd_some hm
    refine call_I (run_LV C lk_X12_285 ⟨rfl, rfl, Nat.le_of_ble_eq_true rfl, Nat.le_of_ble_eq_true rfl⟩ (As := [.int v3, .int 1]) hv0 rfl rfl (Nat.le_of_ble_eq_true rfl) dX12_factOf_78 (mc_X12_ofShip _ _ _ _ _ _ _ hv0 h8)) ?_
    obtain rfl := Option.some.inj hm
    exact j_ireti C dX12_factOf_81
  replace hm := if_f hm h6
  by_cases h9 : v1 = 3
  · replace hm := if_t hm h9
    refine j_tabI C (tgt := 82) 3 dX12_factOf_1 (by rw [h9]; first | done | rfl) (by decide) (by decide) rfl (by decide) ?_
    refine j_aload_n C 0 dX12_factOf_82 rfl ?_
    refine j_iload_n C 3 dX12_factOf_83 rfl ?_
    refine j_iconst C (v := 2) dX12_factOf_84 rfl ?_
    obtain ⟨r10, h11, hm⟩ := bd_some hm
    refine call_I (run_LV C lk_X12_285 ⟨rfl, rfl, Nat.le_of_ble_eq_true rfl, Nat.le_of_ble_eq_true rfl⟩ (As := [.int v3, .int 2]) hv0 rfl rfl (Nat.le_of_ble_eq_true rfl) dX12_factOf_85 (mc_X12_ofShip _ _ _ _ _ _ _ hv0 h11)) ?_
    obtain rfl := Option.some.inj hm
    exact j_ireti C dX12_factOf_88
  replace hm := if_f hm h9
  by_cases h12 : v1 = 4
  · replace hm := if_t hm h12
    refine j_tabI C (tgt := 89) 4 dX12_factOf_1 (by rw [h12]; first | done | rfl) (by decide) (by decide) rfl (by decide) ?_
    refine j_aload_n C 0 dX12_factOf_89 rfl ?_
    obtain ⟨q13, h14, hm⟩ := bd_some hm
    refine j_getR C fg_X12_13_11 hv0 (dr_spec h14).1 dX12_factOf_90 ?_
    refine j_iconst C (v := 3) dX12_factOf_93 rfl ?_
    obtain ⟨h15, hm⟩ := gd_some hm
    refine j_iald C ((dr_spec h14).2) h15 dX12_factOf_94 ?_
    obtain rfl := Option.some.inj hm
    exact j_ireti C dX12_factOf_95
  replace hm := if_f hm h12
  by_cases h16 : v1 = 5
  · replace hm := if_t hm h16
    refine j_tabI C (tgt := 96) 5 dX12_factOf_1 (by rw [h16]; first | done | rfl) (by decide) (by decide) rfl (by decide) ?_
    refine j_aload_n C 0 dX12_factOf_96 rfl ?_
    refine j_iconst C (v := 0) dX12_factOf_97 rfl ?_
    obtain ⟨r17, h18, hm⟩ := bd_some hm
    refine call_I (run_LV C lk_X12_288 ⟨rfl, rfl, Nat.le_of_ble_eq_true rfl, Nat.le_of_ble_eq_true rfl⟩ (As := [.int 0]) hv0 rfl rfl (Nat.le_of_ble_eq_true rfl) dX12_factOf_98 (mc_X12_tideIn _ _ _ _ _ _ hv0 h18)) ?_
    obtain rfl := Option.some.inj hm
    exact j_ireti C dX12_factOf_101
  replace hm := if_f hm h16
  by_cases h19 : v1 = 6
  · replace hm := if_t hm h19
    refine j_tabI C (tgt := 102) 6 dX12_factOf_1 (by rw [h19]; first | done | rfl) (by decide) (by decide) rfl (by decide) ?_
    refine j_aload_n C 0 dX12_factOf_102 rfl ?_
    obtain ⟨q20, h21, hm⟩ := bd_some hm
    refine j_getR C fg_X12_13_11 hv0 (dr_spec h21).1 dX12_factOf_103 ?_
    refine j_bipush C (v := 9) dX12_factOf_106 rfl ?_
    obtain ⟨h22, hm⟩ := gd_some hm
    refine j_iald C ((dr_spec h21).2) h22 dX12_factOf_108 ?_
    refine j_bipush C (v := 12) dX12_factOf_109 rfl ?_
    refine j_irem C dX12_factOf_111 (by decide) ?_
    obtain rfl := Option.some.inj hm
    exact j_ireti C dX12_factOf_112
  replace hm := if_f hm h19
  by_cases h23 : v1 = 7
  · replace hm := if_t hm h23
    refine j_tabI C (tgt := 113) 7 dX12_factOf_1 (by rw [h23]; first | done | rfl) (by decide) (by decide) rfl (by decide) ?_
    refine j_aload_n C 0 dX12_factOf_113 rfl ?_
    obtain ⟨q24, h25, hm⟩ := bd_some hm
    refine j_getR C fg_X12_13_11 hv0 (dr_spec h25).1 dX12_factOf_114 ?_
    refine j_iconst C (v := 4) dX12_factOf_117 rfl ?_
    obtain ⟨h26, hm⟩ := gd_some hm
    refine j_iald C ((dr_spec h25).2) h26 dX12_factOf_118 ?_
    obtain rfl := Option.some.inj hm
    exact j_ireti C dX12_factOf_119
  replace hm := if_f hm h23
  by_cases h27 : v1 = 8
  · replace hm := if_t hm h27
    refine j_tabI C (tgt := 120) 8 dX12_factOf_1 (by rw [h27]; first | done | rfl) (by decide) (by decide) rfl (by decide) ?_
    refine j_aload_n C 0 dX12_factOf_120 rfl ?_
    obtain ⟨q28, h29, hm⟩ := bd_some hm
    refine j_getR C fg_X12_13_11 hv0 (dr_spec h29).1 dX12_factOf_121 ?_
    refine j_iconst C (v := 3) dX12_factOf_124 rfl ?_
    obtain ⟨h30, hm⟩ := gd_some hm
    refine j_iald C ((dr_spec h29).2) h30 dX12_factOf_125 ?_
    refine j_iconst C (v := 2) dX12_factOf_126 rfl ?_
    refine j_icmp_gt C (tgt := 134) dX12_factOf_127 (by decide) (fun h31 => ?_) (fun h31 => ?_)
    · replace hm := if_t hm h31
      refine j_iconst C (v := 0) dX12_factOf_134 rfl ?_
      refine j_sub [] rfl ?_
      exact tj_X12_factOf_135 C _ _ _  hm
    · replace hm := if_f hm h31
      refine j_iconst C (v := 1) dX12_factOf_130 rfl ?_
      refine j_goto C (tgt := 135) dX12_factOf_131 (by decide) ?_
      refine j_sub [] rfl ?_
      exact tj_X12_factOf_135 C _ _ _  hm
  replace hm := if_f hm h27
  by_cases h32 : v1 = 9
  · replace hm := if_t hm h32
    refine j_tabI C (tgt := 136) 9 dX12_factOf_1 (by rw [h32]; first | done | rfl) (by decide) (by decide) rfl (by decide) ?_
    refine j_aload_n C 0 dX12_factOf_136 rfl ?_
    refine j_iload_n C 3 dX12_factOf_137 rfl ?_
    refine j_iconst C (v := 5) dX12_factOf_138 rfl ?_
    obtain ⟨r33, h34, hm⟩ := bd_some hm
    refine call_I (run_LV C lk_X12_285 ⟨rfl, rfl, Nat.le_of_ble_eq_true rfl, Nat.le_of_ble_eq_true rfl⟩ (As := [.int v3, .int 5]) hv0 rfl rfl (Nat.le_of_ble_eq_true rfl) dX12_factOf_139 (mc_X12_ofShip _ _ _ _ _ _ _ hv0 h34)) ?_
    obtain rfl := Option.some.inj hm
    exact j_ireti C dX12_factOf_142
  replace hm := if_f hm h32
  refine j_tabO C (tgt := 143) dX12_factOf_1 (sw_out v1 [0, 1, 2, 3, 4, 5, 6, 7, 8, 9] (by decide +kernel) ?_) (by decide) ?_
  · simp only [List.mem_cons, List.not_mem_nil, or_false, not_or]; exact ⟨h1, h3, h6, h9, h12, h16, h19, h23, h27, h32⟩
  refine j_iload_n C 2 dX12_factOf_143 rfl ?_
  obtain rfl := Option.some.inj hm
  exact j_ireti C dX12_factOf_144
set_option maxRecDepth 20000 in
set_option maxHeartbeats 4000000 in
theorem mc_X12_factOf (l : Launch) (N : Nat) (Λ : Lay) (μ : Mem) (v0 : Nat) (v1 : Int32) (v2 : Int32) (v3 : Int32) (hv0 : inL Λ v0 11) {r : Int32} (hm : m_X12_factOf N Λ μ v0 v1 v2 v3 = some r) : MI l yX12_factOf cX12_factOf 4 (some .int) rm_X12_factOf Λ [.ref v0, .int v1, .int v2, .int v3] μ r μ := mi_of rfl (Nat.le_of_ble_eq_true rfl) (fun x C _ => tm_X12_factOf C _ _ _ _ _ _ hv0 hm)
abbrev rm_X12_holdsLine : Room := { frames := 4, cells := 0, slots := 0, locals := 88 }
set_option maxRecDepth 20000 in
set_option maxHeartbeats 4000000 in
theorem tj_X12_holdsLine_257 {x : Ctx} {Λ : Lay} (C : Cx x cX12_holdsLine 10 (some .boolean) RX12 Λ rm_X12_holdsLine) (N : Nat) (μ : Mem) (k22 : Int32 × Int32 × Mem → Option (Int32 × Mem)) (v0 : Nat) (v2 : Int32) (v3 : Int32) (v4 : Int32) (v5 : Int32) (hk22 : ∀ (s : Int32 × Int32 × Mem) (r : Int32 × Mem), k22 s = some r → J x 10 Λ (QI x Λ r.1 r.2) 22 [(0, .ref v0), (2, .int v2), (3, .int s.1), (4, .int v4), (5, .int s.2.1)] [] (s.2.2)) (hv0 : inL Λ v0 11) {r : Int32 × Mem} (hm : jn_X12_holdsLine_257 N Λ μ k22 v0 v2 v3 v4 v5 = some r) : J x 10 Λ (QI x Λ r.1 r.2) 257 [(0, .ref v0), (2, .int v2), (3, .int v3), (4, .int v4), (5, .int v5)] [] μ := by
  obtain ⟨y1, e2, hm⟩ := lt_some hm
  refine j_iinc C 4 (v := y1) (lv' := [(5, .int y1), (0, .ref v0), (2, .int v2), (3, .int v3), (4, .int v4)]) dX12_holdsLine_257 rfl (by rw [e2]; rfl) (by decide) rfl ?_
  refine j_goto C (tgt := 22) dX12_holdsLine_260 (by decide) ?_
  refine j_sub [1, 2, 3, 4, 0] rfl ?_
  exact hk22 (v3, y1, μ) _ hm
set_option maxRecDepth 20000 in
set_option maxHeartbeats 4000000 in
theorem tj_X12_holdsLine_256 {x : Ctx} {Λ : Lay} (C : Cx x cX12_holdsLine 10 (some .boolean) RX12 Λ rm_X12_holdsLine) (N : Nat) (μ : Mem) (k22 : Int32 × Int32 × Mem → Option (Int32 × Mem)) (v0 : Nat) (v2 : Int32) (v3 : Int32) (v4 : Int32) (v5 : Int32) (s0 : Nat) (s1 : Int32) (s2 : Int32) (hk22 : ∀ (s : Int32 × Int32 × Mem) (r : Int32 × Mem), k22 s = some r → J x 10 Λ (QI x Λ r.1 r.2) 22 [(0, .ref v0), (2, .int v2), (3, .int s.1), (4, .int v4), (5, .int s.2.1)] [] (s.2.2)) (hv0 : inL Λ v0 11) (hs0 : inL Λ s0 13) {r : Int32 × Mem} (hm : jn_X12_holdsLine_256 N Λ μ k22 v0 v2 v3 v4 v5 s0 s1 s2 = some r) : J x 10 Λ (QI x Λ r.1 r.2) 256 [(0, .ref v0), (2, .int v2), (3, .int v3), (4, .int v4), (5, .int v5)] [.int s2, .int s1, .ref s0] μ := by
  obtain ⟨h1, hm⟩ := gd_some hm
  obtain ⟨μ2, e3, hm⟩ := lt_some hm
  refine j_iast C hs0 h1 e3 dX12_holdsLine_256 ?_
  exact tj_X12_holdsLine_257 C _ _ _ _ _ _ _ _ hk22 hv0 hm
set_option maxRecDepth 20000 in
set_option maxHeartbeats 4000000 in
theorem tj_X12_holdsLine_222 {x : Ctx} {Λ : Lay} (C : Cx x cX12_holdsLine 10 (some .boolean) RX12 Λ rm_X12_holdsLine) (N : Nat) (μ : Mem) (k22 : Int32 × Int32 × Mem → Option (Int32 × Mem)) (v0 : Nat) (v2 : Int32) (v3 : Int32) (v4 : Int32) (v5 : Int32) (v6 : Int32) (v7 : Int32) (v8 : Int32) (s0 : Int32) (hk22 : ∀ (s : Int32 × Int32 × Mem) (r : Int32 × Mem), k22 s = some r → J x 10 Λ (QI x Λ r.1 r.2) 22 [(0, .ref v0), (2, .int v2), (3, .int s.1), (4, .int v4), (5, .int s.2.1)] [] (s.2.2)) (hv0 : inL Λ v0 11) {r : Int32 × Mem} (hm : jn_X12_holdsLine_222 N Λ μ k22 v0 v2 v3 v4 v5 v6 v7 v8 s0 = some r) : J x 10 Λ (QI x Λ r.1 r.2) 222 [(0, .ref v0), (2, .int v2), (3, .int v3), (4, .int v4), (5, .int v5), (6, .int v6), (7, .int v7), (8, .int v8)] [.int s0] μ := by
  refine j_istore C (lv' := [(9, .int s0), (0, .ref v0), (2, .int v2), (3, .int v3), (4, .int v4), (5, .int v5), (6, .int v6), (7, .int v7), (8, .int v8)]) dX12_holdsLine_222 (by decide) rfl ?_
  refine j_aload_n C 1 dX12_holdsLine_224 rfl ?_
  obtain ⟨q1, h2, hm⟩ := bd_some hm
  refine j_getR C fg_X12_39_11 hv0 (dr_spec h2).1 dX12_holdsLine_225 ?_
  refine j_iload_n C 3 dX12_holdsLine_228 rfl ?_
  refine j_iconst C (v := 1) dX12_holdsLine_229 rfl ?_
  refine j_isub C dX12_holdsLine_230 ?_
  refine j_iload C 6 dX12_holdsLine_231 rfl ?_
  refine j_bipush C (v := 11) dX12_holdsLine_233 rfl ?_
  refine j_icmp_ne C (tgt := 246) dX12_holdsLine_235 (by decide) (fun h3 => ?_) (fun h3 => ?_)
  · replace hm := if_f hm h3
    refine j_iload C 0 dX12_holdsLine_246 rfl ?_
    refine j_if_eq C (tgt := 255) dX12_holdsLine_248 (by decide) (fun h4 => ?_) (fun h4 => ?_)
    · replace hm := if_t hm h4
      refine j_iconst C (v := 0) dX12_holdsLine_255 rfl ?_
      refine j_sub [1, 2, 3, 4, 5] rfl ?_
      exact tj_X12_holdsLine_256 C _ _ _ _ _ _ _ _ _ _ _ hk22 hv0 ((dr_spec h2).2) hm
    · replace hm := if_f hm h4
      refine j_iconst C (v := 1) dX12_holdsLine_251 rfl ?_
      refine j_goto C (tgt := 256) dX12_holdsLine_252 (by decide) ?_
      refine j_sub [1, 2, 3, 4, 5] rfl ?_
      exact tj_X12_holdsLine_256 C _ _ _ _ _ _ _ _ _ _ _ hk22 hv0 ((dr_spec h2).2) hm
  · replace hm := if_t hm h3
    refine j_iload C 7 dX12_holdsLine_238 rfl ?_
    refine j_iload C 8 dX12_holdsLine_240 rfl ?_
    refine j_iadd C dX12_holdsLine_242 ?_
    refine j_goto C (tgt := 256) dX12_holdsLine_243 (by decide) ?_
    refine j_sub [1, 2, 3, 4, 5] rfl ?_
    exact tj_X12_holdsLine_256 C _ _ _ _ _ _ _ _ _ _ _ hk22 hv0 ((dr_spec h2).2) hm
set_option maxRecDepth 20000 in
set_option maxHeartbeats 4000000 in
theorem tj_X12_holdsLine_282 {x : Ctx} {Λ : Lay} (C : Cx x cX12_holdsLine 10 (some .boolean) RX12 Λ rm_X12_holdsLine) (N : Nat) (μ : Mem) (s0 : Int32) {r : Int32 × Mem} (hm : jn_X12_holdsLine_282 N Λ μ s0 = some r) : J x 10 Λ (QI x Λ r.1 r.2) 282 [] [.int s0] μ := by
  obtain ⟨h1, hm⟩ := gd_some hm
  obtain rfl := Option.some.inj hm
  exact j_iretz C h1 dX12_holdsLine_282
set_option maxRecDepth 20000 in
set_option maxHeartbeats 4000000 in
theorem tj_X12_holdsLine_277 {x : Ctx} {Λ : Lay} (C : Cx x cX12_holdsLine 10 (some .boolean) RX12 Λ rm_X12_holdsLine) (N : Nat) (μ : Mem) {r : Int32 × Mem} (hm : jn_X12_holdsLine_277 N Λ μ = some r) : J x 10 Λ (QI x Λ r.1 r.2) 277 [] [] μ := by
  refine j_iconst C (v := 1) dX12_holdsLine_277 rfl ?_
  refine j_goto C (tgt := 282) dX12_holdsLine_278 (by decide) ?_
  exact tj_X12_holdsLine_282 C _ _ _  hm
set_option maxRecDepth 20000 in
set_option maxHeartbeats 4000000 in
theorem tb_X12_holdsLine_22 {x : Ctx} {Λ : Lay} (C : Cx x cX12_holdsLine 10 (some .boolean) RX12 Λ rm_X12_holdsLine) (N : Nat) (μ : Mem) (k22 : Int32 × Int32 × Mem → Option (Int32 × Mem)) (v0 : Nat) (v2 : Int32) (v3 : Int32) (v4 : Int32) (v5 : Int32) (hk22 : ∀ (s : Int32 × Int32 × Mem) (r : Int32 × Mem), k22 s = some r → J x 10 Λ (QI x Λ r.1 r.2) 22 [(0, .ref v0), (2, .int v2), (3, .int s.1), (4, .int v4), (5, .int s.2.1)] [] (s.2.2)) (hv0 : inL Λ v0 11) {r : Int32 × Mem} (hm : bd_X12_holdsLine_22 N Λ μ k22 v0 v2 v3 v4 v5 = some r) : J x 10 Λ (QI x Λ r.1 r.2) 22 [(0, .ref v0), (2, .int v2), (3, .int v3), (4, .int v4), (5, .int v5)] [] μ := by
  refine j_iload C 4 dX12_holdsLine_22 rfl ?_
  refine j_aload_n C 0 dX12_holdsLine_24 rfl ?_
  obtain ⟨q1, h2, hm⟩ := bd_some hm
  refine j_getR C fg_X12_13_11 hv0 (dr_spec h2).1 dX12_holdsLine_25 ?_
  refine j_iload C 3 dX12_holdsLine_28 rfl ?_
  refine j_iconst C (v := 3) dX12_holdsLine_30 rfl ?_
  refine j_iadd C dX12_holdsLine_31 ?_
  obtain ⟨h3, hm⟩ := gd_some hm
  refine j_iald C ((dr_spec h2).2) h3 dX12_holdsLine_32 ?_
  refine j_icmp_ge C (tgt := 263) dX12_holdsLine_33 (by decide) (fun h4 => ?_) (fun h4 => ?_)
  · replace hm := if_t hm h4
    refine j_iload_n C 2 dX12_holdsLine_263 rfl ?_
    refine j_if_eq C (tgt := 277) dX12_holdsLine_264 (by decide) (fun h5 => ?_) (fun h5 => ?_)
    · replace hm := if_t hm h5
      refine j_sub [] rfl ?_
      exact tj_X12_holdsLine_277 C _ _  hm
    · replace hm := if_f hm h5
      refine j_aload_n C 0 dX12_holdsLine_267 rfl ?_
      obtain ⟨q6, h7, hm⟩ := bd_some hm
      refine j_getR C fg_X12_39_11 hv0 (dr_spec h7).1 dX12_holdsLine_268 ?_
      refine j_iconst C (v := 0) dX12_holdsLine_271 rfl ?_
      obtain ⟨h8, hm⟩ := gd_some hm
      refine j_iald C ((dr_spec h7).2) h8 dX12_holdsLine_272 ?_
      refine j_iconst C (v := 1) dX12_holdsLine_273 rfl ?_
      refine j_icmp_ne C (tgt := 281) dX12_holdsLine_274 (by decide) (fun h9 => ?_) (fun h9 => ?_)
      · replace hm := if_f hm h9
        refine j_iconst C (v := 0) dX12_holdsLine_281 rfl ?_
        refine j_sub [] rfl ?_
        exact tj_X12_holdsLine_282 C _ _ _  hm
      · replace hm := if_t hm h9
        refine j_sub [] rfl ?_
        exact tj_X12_holdsLine_277 C _ _  hm
  · replace hm := if_f hm h4
    refine j_aload_n C 0 dX12_holdsLine_36 rfl ?_
    obtain ⟨q10, h11, hm⟩ := bd_some hm
    refine j_getR C fg_X12_13_11 hv0 (dr_spec h11).1 dX12_holdsLine_37 ?_
    refine j_sipush C (v := 422) dX12_holdsLine_40 rfl ?_
    refine j_iconst C (v := 2) dX12_holdsLine_43 rfl ?_
    refine j_iload C 4 dX12_holdsLine_44 rfl ?_
    refine j_imul C dX12_holdsLine_46 ?_
    refine j_iadd C dX12_holdsLine_47 ?_
    obtain ⟨h12, hm⟩ := gd_some hm
    refine j_iald C ((dr_spec h11).2) h12 dX12_holdsLine_48 ?_
    obtain ⟨y13, e14, hm⟩ := lt_some hm
    refine j_topi e14 ?_
    refine j_istore C (lv' := [(6, .int y13), (0, .ref v0), (2, .int v2), (3, .int v3), (4, .int v4), (5, .int v5)]) dX12_holdsLine_49 (by decide) rfl ?_
    refine j_iload C 0 dX12_holdsLine_51 rfl ?_
    refine j_bipush C (v := 10) dX12_holdsLine_53 rfl ?_
    refine j_icmp_gt C (tgt := 92) dX12_holdsLine_55 (by decide) (fun h15 => ?_) (fun h15 => ?_)
    · replace hm := if_t hm h15
      refine j_iload C 0 dX12_holdsLine_92 rfl ?_
      refine j_bipush C (v := 14) dX12_holdsLine_94 rfl ?_
      refine j_icmp_ne C (tgt := 120) dX12_holdsLine_96 (by decide) (fun h16 => ?_) (fun h16 => ?_)
      · replace hm := if_f hm h16
        obtain ⟨y17, e18, hm⟩ := lt_some hm
        refine j_iinc C 3 (v := y17) (lv' := [(3, .int y17), (6, .int y13), (0, .ref v0), (2, .int v2), (4, .int v4), (5, .int v5)]) dX12_holdsLine_120 rfl (by rw [e18]; rfl) (by decide) rfl ?_
        refine j_aload_n C 2 dX12_holdsLine_123 rfl ?_
        obtain ⟨q19, h20, hm⟩ := bd_some hm
        refine j_getR C fg_X12_39_11 hv0 (dr_spec h20).1 dX12_holdsLine_124 ?_
        refine j_iload_n C 0 dX12_holdsLine_127 rfl ?_
        refine j_iconst C (v := 1) dX12_holdsLine_128 rfl ?_
        refine j_isub C dX12_holdsLine_129 ?_
        obtain ⟨h21, hm⟩ := gd_some hm
        refine j_iald C ((dr_spec h20).2) h21 dX12_holdsLine_130 ?_
        obtain ⟨y22, e23, hm⟩ := lt_some hm
        refine j_topi e23 ?_
        refine j_istore C (lv' := [(7, .int y22), (3, .int y17), (6, .int y13), (0, .ref v0), (2, .int v2), (4, .int v4), (5, .int v5)]) dX12_holdsLine_131 (by decide) rfl ?_
        refine j_aload_n C 3 dX12_holdsLine_133 rfl ?_
        obtain ⟨q24, h25, hm⟩ := bd_some hm
        refine j_getR C fg_X12_39_11 hv0 (dr_spec h25).1 dX12_holdsLine_134 ?_
        refine j_iload_n C 1 dX12_holdsLine_137 rfl ?_
        obtain ⟨h26, hm⟩ := gd_some hm
        refine j_iald C ((dr_spec h25).2) h26 dX12_holdsLine_138 ?_
        obtain ⟨y27, e28, hm⟩ := lt_some hm
        refine j_topi e28 ?_
        refine j_istore C (lv' := [(8, .int y27), (7, .int y22), (3, .int y17), (6, .int y13), (0, .ref v0), (2, .int v2), (4, .int v4), (5, .int v5)]) dX12_holdsLine_139 (by decide) rfl ?_
        refine j_iload C 3 dX12_holdsLine_141 rfl ?_
        refine j_bipush C (v := 12) dX12_holdsLine_143 rfl ?_
        refine j_icmp_ne C (tgt := 163) dX12_holdsLine_145 (by decide) (fun h29 => ?_) (fun h29 => ?_)
        · replace hm := if_f hm h29
          refine j_iload C 3 dX12_holdsLine_163 rfl ?_
          refine j_bipush C (v := 13) dX12_holdsLine_165 rfl ?_
          refine j_icmp_ne C (tgt := 185) dX12_holdsLine_167 (by decide) (fun h30 => ?_) (fun h30 => ?_)
          · replace hm := if_f hm h30
            refine j_iload C 3 dX12_holdsLine_185 rfl ?_
            refine j_bipush C (v := 15) dX12_holdsLine_187 rfl ?_
            refine j_icmp_ne C (tgt := 209) dX12_holdsLine_189 (by decide) (fun h31 => ?_) (fun h31 => ?_)
            · replace hm := if_f hm h31
              refine j_iload C 1 dX12_holdsLine_209 rfl ?_
              refine j_iload C 0 dX12_holdsLine_211 rfl ?_
              refine j_iadd C dX12_holdsLine_213 ?_
              refine j_if_le C (tgt := 221) dX12_holdsLine_214 (by decide) (fun h32 => ?_) (fun h32 => ?_)
              · replace hm := if_t hm h32
                refine j_iconst C (v := 0) dX12_holdsLine_221 rfl ?_
                refine j_sub [4, 5, 2, 6, 7, 3, 1, 0] rfl ?_
                exact tj_X12_holdsLine_222 C _ _ _ _ _ _ _ _ _ _ _ _ hk22 hv0 hm
              · replace hm := if_f hm h32
                refine j_iconst C (v := 1) dX12_holdsLine_217 rfl ?_
                refine j_goto C (tgt := 222) dX12_holdsLine_218 (by decide) ?_
                refine j_sub [4, 5, 2, 6, 7, 3, 1, 0] rfl ?_
                exact tj_X12_holdsLine_222 C _ _ _ _ _ _ _ _ _ _ _ _ hk22 hv0 hm
            · replace hm := if_t hm h31
              refine j_iload C 1 dX12_holdsLine_192 rfl ?_
              refine j_iload C 0 dX12_holdsLine_194 rfl ?_
              refine j_iadd C dX12_holdsLine_196 ?_
              refine j_iconst C (v := 2) dX12_holdsLine_197 rfl ?_
              refine j_icmp_ne C (tgt := 205) dX12_holdsLine_198 (by decide) (fun h33 => ?_) (fun h33 => ?_)
              · replace hm := if_f hm h33
                refine j_iconst C (v := 0) dX12_holdsLine_205 rfl ?_
                refine j_goto C (tgt := 222) dX12_holdsLine_206 (by decide) ?_
                refine j_sub [4, 5, 2, 6, 7, 3, 1, 0] rfl ?_
                exact tj_X12_holdsLine_222 C _ _ _ _ _ _ _ _ _ _ _ _ hk22 hv0 hm
              · replace hm := if_t hm h33
                refine j_iconst C (v := 1) dX12_holdsLine_201 rfl ?_
                refine j_goto C (tgt := 222) dX12_holdsLine_202 (by decide) ?_
                refine j_sub [4, 5, 2, 6, 7, 3, 1, 0] rfl ?_
                exact tj_X12_holdsLine_222 C _ _ _ _ _ _ _ _ _ _ _ _ hk22 hv0 hm
          · replace hm := if_t hm h30
            refine j_iload C 1 dX12_holdsLine_170 rfl ?_
            refine j_iload C 0 dX12_holdsLine_172 rfl ?_
            refine j_icmp_le C (tgt := 181) dX12_holdsLine_174 (by decide) (fun h34 => ?_) (fun h34 => ?_)
            · replace hm := if_t hm h34
              refine j_iconst C (v := 0) dX12_holdsLine_181 rfl ?_
              refine j_goto C (tgt := 222) dX12_holdsLine_182 (by decide) ?_
              refine j_sub [4, 5, 2, 6, 7, 3, 1, 0] rfl ?_
              exact tj_X12_holdsLine_222 C _ _ _ _ _ _ _ _ _ _ _ _ hk22 hv0 hm
            · replace hm := if_f hm h34
              refine j_iconst C (v := 1) dX12_holdsLine_177 rfl ?_
              refine j_goto C (tgt := 222) dX12_holdsLine_178 (by decide) ?_
              refine j_sub [4, 5, 2, 6, 7, 3, 1, 0] rfl ?_
              exact tj_X12_holdsLine_222 C _ _ _ _ _ _ _ _ _ _ _ _ hk22 hv0 hm
        · replace hm := if_t hm h29
          refine j_iload C 1 dX12_holdsLine_148 rfl ?_
          refine j_iload C 0 dX12_holdsLine_150 rfl ?_
          refine j_icmp_ge C (tgt := 159) dX12_holdsLine_152 (by decide) (fun h35 => ?_) (fun h35 => ?_)
          · replace hm := if_t hm h35
            refine j_iconst C (v := 0) dX12_holdsLine_159 rfl ?_
            refine j_goto C (tgt := 222) dX12_holdsLine_160 (by decide) ?_
            refine j_sub [4, 5, 2, 6, 7, 3, 1, 0] rfl ?_
            exact tj_X12_holdsLine_222 C _ _ _ _ _ _ _ _ _ _ _ _ hk22 hv0 hm
          · replace hm := if_f hm h35
            refine j_iconst C (v := 1) dX12_holdsLine_155 rfl ?_
            refine j_goto C (tgt := 222) dX12_holdsLine_156 (by decide) ?_
            refine j_sub [4, 5, 2, 6, 7, 3, 1, 0] rfl ?_
            exact tj_X12_holdsLine_222 C _ _ _ _ _ _ _ _ _ _ _ _ hk22 hv0 hm
      · replace hm := if_t hm h16
        refine j_aload_n C 1 dX12_holdsLine_99 rfl ?_
        obtain ⟨q36, h37, hm⟩ := bd_some hm
        refine j_getR C fg_X12_39_11 hv0 (dr_spec h37).1 dX12_holdsLine_100 ?_
        refine j_iload_n C 3 dX12_holdsLine_103 rfl ?_
        refine j_iconst C (v := 1) dX12_holdsLine_104 rfl ?_
        refine j_isub C dX12_holdsLine_105 ?_
        refine j_iconst C (v := 1) dX12_holdsLine_106 rfl ?_
        refine j_aload_n C 1 dX12_holdsLine_107 rfl ?_
        obtain ⟨q38, h39, hm⟩ := bd_some hm
        refine j_getR C fg_X12_39_11 hv0 (dr_spec h39).1 dX12_holdsLine_108 ?_
        refine j_iload_n C 3 dX12_holdsLine_111 rfl ?_
        refine j_iconst C (v := 1) dX12_holdsLine_112 rfl ?_
        refine j_isub C dX12_holdsLine_113 ?_
        obtain ⟨h40, hm⟩ := gd_some hm
        refine j_iald C ((dr_spec h39).2) h40 dX12_holdsLine_114 ?_
        refine j_isub C dX12_holdsLine_115 ?_
        obtain ⟨h41, hm⟩ := gd_some hm
        obtain ⟨μ42, e43, hm⟩ := lt_some hm
        refine j_iast C ((dr_spec h37).2) h41 e43 dX12_holdsLine_116 ?_
        refine j_goto C (tgt := 257) dX12_holdsLine_117 (by decide) ?_
        refine j_sub [1, 2, 3, 4, 5] rfl ?_
        exact tj_X12_holdsLine_257 C _ _ _ _ _ _ _ _ hk22 hv0 hm
    · replace hm := if_f hm h15
      refine j_aload_n C 1 dX12_holdsLine_58 rfl ?_
      obtain ⟨q44, h45, hm⟩ := bd_some hm
      refine j_getR C fg_X12_39_11 hv0 (dr_spec h45).1 dX12_holdsLine_59 ?_
      refine j_iload_n C 3 dX12_holdsLine_62 rfl ?_
      refine j_aload_n C 1 dX12_holdsLine_63 rfl ?_
      refine j_iload C 0 dX12_holdsLine_64 rfl ?_
      refine j_aload_n C 1 dX12_holdsLine_66 rfl ?_
      obtain ⟨q46, h47, hm⟩ := bd_some hm
      refine j_getR C fg_X12_13_11 hv0 (dr_spec h47).1 dX12_holdsLine_67 ?_
      refine j_sipush C (v := 422) dX12_holdsLine_70 rfl ?_
      refine j_iconst C (v := 2) dX12_holdsLine_73 rfl ?_
      refine j_iload C 5 dX12_holdsLine_74 rfl ?_
      refine j_imul C dX12_holdsLine_76 ?_
      refine j_iadd C dX12_holdsLine_77 ?_
      refine j_iconst C (v := 1) dX12_holdsLine_78 rfl ?_
      refine j_iadd C dX12_holdsLine_79 ?_
      obtain ⟨h48, hm⟩ := gd_some hm
      refine j_iald C ((dr_spec h47).2) h48 dX12_holdsLine_80 ?_
      refine j_iload_n C 2 dX12_holdsLine_81 rfl ?_
      obtain ⟨r49, h50, hm⟩ := bd_some hm
      refine call_I (run_LV C lk_X12_291 ⟨rfl, rfl, Nat.le_of_ble_eq_true rfl, Nat.le_of_ble_eq_true rfl⟩ (As := [.int y13, .int (μ.1 q46 ((422 + (2 * v5)) + 1).toNatClampNeg), .int v2]) hv0 rfl rfl (Nat.le_of_ble_eq_true rfl) dX12_holdsLine_82 (mc_X12_factOf _ _ _ _ _ _ _ _ hv0 h50)) ?_
      obtain ⟨h51, hm⟩ := gd_some hm
      obtain ⟨μ52, e53, hm⟩ := lt_some hm
      refine j_iast C ((dr_spec h45).2) h51 e53 dX12_holdsLine_85 ?_
      obtain ⟨y54, e55, hm⟩ := lt_some hm
      refine j_iinc C 3 (v := y54) (lv' := [(3, .int y54), (6, .int y13), (0, .ref v0), (2, .int v2), (4, .int v4), (5, .int v5)]) dX12_holdsLine_86 rfl (by rw [e55]; rfl) (by decide) rfl ?_
      refine j_goto C (tgt := 257) dX12_holdsLine_89 (by decide) ?_
      refine j_sub [2, 3, 0, 4, 5] rfl ?_
      exact tj_X12_holdsLine_257 C _ _ _ _ _ _ _ _ hk22 hv0 hm
set_option maxRecDepth 20000 in
set_option maxHeartbeats 4000000 in
theorem tl_X12_holdsLine_22 {x : Ctx} {Λ : Lay} (C : Cx x cX12_holdsLine 10 (some .boolean) RX12 Λ rm_X12_holdsLine) (N : Nat) (v0 : Nat) (v2 : Int32) (v4 : Int32) (hv0 : inL Λ v0 11) (s : Int32 × Int32 × Mem) {r : Int32 × Mem} (hm : lp_X12_holdsLine_22 N Λ v0 v2 v4 s = some r) : J x 10 Λ (QI x Λ r.1 r.2) 22 [(0, .ref v0), (2, .int v2), (3, .int s.1), (4, .int v4), (5, .int s.2.1)] [] (s.2.2) :=
  cw_ind (P := fun s r => J x 10 Λ (QI x Λ r.1 r.2) 22 [(0, .ref v0), (2, .int v2), (3, .int s.1), (4, .int v4), (5, .int s.2.1)] [] (s.2.2)) (fun k hkk s r e => tb_X12_holdsLine_22 C _ _ _ _ _ _ _ _ hkk hv0 e) N s r hm
set_option maxRecDepth 20000 in
set_option maxHeartbeats 4000000 in
theorem tm_X12_holdsLine {x : Ctx} {Λ : Lay} (C : Cx x cX12_holdsLine 10 (some .boolean) RX12 Λ rm_X12_holdsLine) (N : Nat) (μ : Mem) (v0 : Nat) (v1 : Int32) (v2 : Int32) (hv0 : inL Λ v0 11) {r : Int32 × Mem} (hm : m_X12_holdsLine N Λ μ v0 v1 v2 = some r) : J x 10 Λ (QI x Λ r.1 r.2) 0 [(0, .ref v0), (1, .int v1), (2, .int v2)] [] μ := by
  refine j_iconst C (v := 0) dX12_holdsLine_0 rfl ?_
  refine j_istore_n C (lv' := [(3, .int 0), (0, .ref v0), (1, .int v1), (2, .int v2)]) dX12_holdsLine_1 (by decide) rfl ?_
  refine j_sipush C (v := 374) dX12_holdsLine_2 rfl ?_
  refine j_iconst C (v := 4) dX12_holdsLine_5 rfl ?_
  refine j_iload_n C 2 dX12_holdsLine_6 rfl ?_
  refine j_imul C dX12_holdsLine_7 ?_
  refine j_iadd C dX12_holdsLine_8 ?_
  obtain ⟨y1, e2, hm⟩ := lt_some hm
  refine j_topi e2 ?_
  refine j_istore C (lv' := [(4, .int y1), (3, .int 0), (0, .ref v0), (1, .int v1), (2, .int v2)]) dX12_holdsLine_9 (by decide) rfl ?_
  refine j_aload_n C 2 dX12_holdsLine_11 rfl ?_
  obtain ⟨q3, h4, hm⟩ := bd_some hm
  refine j_getR C fg_X12_13_11 hv0 (dr_spec h4).1 dX12_holdsLine_12 ?_
  refine j_iload C 0 dX12_holdsLine_15 rfl ?_
  refine j_iconst C (v := 2) dX12_holdsLine_17 rfl ?_
  refine j_iadd C dX12_holdsLine_18 ?_
  obtain ⟨h5, hm⟩ := gd_some hm
  refine j_iald C ((dr_spec h4).2) h5 dX12_holdsLine_19 ?_
  obtain ⟨y6, e7, hm⟩ := lt_some hm
  refine j_topi e7 ?_
  refine j_istore C (lv' := [(5, .int y6), (4, .int y1), (3, .int 0), (0, .ref v0), (1, .int v1), (2, .int v2)]) dX12_holdsLine_20 (by decide) rfl ?_
  refine j_sub [3, 5, 2, 1, 0] rfl ?_
  exact tl_X12_holdsLine_22 C _ _ _ _ hv0 (0, y6, μ) hm
set_option maxRecDepth 20000 in
set_option maxHeartbeats 4000000 in
theorem mc_X12_holdsLine (l : Launch) (N : Nat) (Λ : Lay) (μ : Mem) (v0 : Nat) (v1 : Int32) (v2 : Int32) (hv0 : inL Λ v0 11) {r : Int32 × Mem} (hm : m_X12_holdsLine N Λ μ v0 v1 v2 = some r) : MI l yX12_holdsLine cX12_holdsLine 10 (some .boolean) rm_X12_holdsLine Λ [.ref v0, .int v1, .int v2] μ r.1 r.2 := mi_of rfl (Nat.le_of_ble_eq_true rfl) (fun x C _ => tm_X12_holdsLine C _ _ _ _ _ hv0 hm)
abbrev rm_X12_sumOf : Room := { frames := 5, cells := 0, slots := 0, locals := 117 }
set_option maxRecDepth 20000 in
set_option maxHeartbeats 4000000 in
theorem tj_X12_sumOf_73 {x : Ctx} {Λ : Lay} (C : Cx x cX12_sumOf 5 (some .int) RX12 Λ rm_X12_sumOf) (N : Nat) (μ : Mem) (k5 : Int32 × Int32 × Mem → Option (Int32 × Mem)) (v0 : Nat) (v1 : Int32) (v2 : Int32) (v3 : Int32) (v4 : Int32) (hk5 : ∀ (s : Int32 × Int32 × Mem) (r : Int32 × Mem), k5 s = some r → J x 5 Λ (QI x Λ r.1 r.2) 5 [(0, .ref v0), (1, .int v1), (2, .int v2), (3, .int s.1), (4, .int s.2.1)] [] (s.2.2)) (hv0 : inL Λ v0 11) {r : Int32 × Mem} (hm : jn_X12_sumOf_73 N Λ μ k5 v0 v1 v2 v3 v4 = some r) : J x 5 Λ (QI x Λ r.1 r.2) 73 [(0, .ref v0), (1, .int v1), (2, .int v2), (3, .int v3), (4, .int v4)] [] μ := by
  obtain ⟨y1, e2, hm⟩ := lt_some hm
  refine j_iinc C 4 (v := y1) (lv' := [(4, .int y1), (0, .ref v0), (1, .int v1), (2, .int v2), (3, .int v3)]) dX12_sumOf_73 rfl (by rw [e2]; rfl) (by decide) rfl ?_
  refine j_goto C (tgt := 5) dX12_sumOf_76 (by decide) ?_
  refine j_sub [1, 2, 3, 4, 0] rfl ?_
  exact hk5 (v3, y1, μ) _ hm
set_option maxRecDepth 20000 in
set_option maxHeartbeats 4000000 in
theorem tj_X12_sumOf_79 {x : Ctx} {Λ : Lay} (C : Cx x cX12_sumOf 5 (some .int) RX12 Λ rm_X12_sumOf) (N : Nat) (μ : Mem) (v3 : Int32) {r : Int32 × Mem} (hm : jn_X12_sumOf_79 N Λ μ v3 = some r) : J x 5 Λ (QI x Λ r.1 r.2) 79 [(3, .int v3)] [] μ := by
  refine j_iload_n C 0 dX12_sumOf_79 rfl ?_
  obtain rfl := Option.some.inj hm
  exact j_ireti C dX12_sumOf_80
set_option maxRecDepth 20000 in
set_option maxHeartbeats 4000000 in
theorem tb_X12_sumOf_5 {x : Ctx} {Λ : Lay} (C : Cx x cX12_sumOf 5 (some .int) RX12 Λ rm_X12_sumOf) (N : Nat) (μ : Mem) (k5 : Int32 × Int32 × Mem → Option (Int32 × Mem)) (v0 : Nat) (v1 : Int32) (v2 : Int32) (v3 : Int32) (v4 : Int32) (hk5 : ∀ (s : Int32 × Int32 × Mem) (r : Int32 × Mem), k5 s = some r → J x 5 Λ (QI x Λ r.1 r.2) 5 [(0, .ref v0), (1, .int v1), (2, .int v2), (3, .int s.1), (4, .int s.2.1)] [] (s.2.2)) (hv0 : inL Λ v0 11) {r : Int32 × Mem} (hm : bd_X12_sumOf_5 N Λ μ k5 v0 v1 v2 v3 v4 = some r) : J x 5 Λ (QI x Λ r.1 r.2) 5 [(0, .ref v0), (1, .int v1), (2, .int v2), (3, .int v3), (4, .int v4)] [] μ := by
  refine j_aload_n C 0 dX12_sumOf_5 rfl ?_
  obtain ⟨q1, h2, hm⟩ := bd_some hm
  refine j_getR C fg_X12_13_11 hv0 (dr_spec h2).1 dX12_sumOf_6 ?_
  refine j_iconst C (v := 2) dX12_sumOf_9 rfl ?_
  obtain ⟨h3, hm⟩ := gd_some hm
  refine j_iald C ((dr_spec h2).2) h3 dX12_sumOf_10 ?_
  refine j_iconst C (v := 1) dX12_sumOf_11 rfl ?_
  refine j_icmp_ne C (tgt := 79) dX12_sumOf_12 (by decide) (fun h4 => ?_) (fun h4 => ?_)
  · replace hm := if_f hm h4
    refine j_sub [3] rfl ?_
    exact tj_X12_sumOf_79 C _ _ _  hm
  · replace hm := if_t hm h4
    refine j_iload C 4 dX12_sumOf_15 rfl ?_
    refine j_aload_n C 0 dX12_sumOf_17 rfl ?_
    obtain ⟨q5, h6, hm⟩ := bd_some hm
    refine j_getR C fg_X12_13_11 hv0 (dr_spec h6).1 dX12_sumOf_18 ?_
    refine j_sipush C (v := 373) dX12_sumOf_21 rfl ?_
    obtain ⟨h7, hm⟩ := gd_some hm
    refine j_iald C ((dr_spec h6).2) h7 dX12_sumOf_24 ?_
    refine j_icmp_ge C (tgt := 79) dX12_sumOf_25 (by decide) (fun h8 => ?_) (fun h8 => ?_)
    · replace hm := if_t hm h8
      refine j_sub [3] rfl ?_
      exact tj_X12_sumOf_79 C _ _ _  hm
    · replace hm := if_f hm h8
      refine j_aload_n C 0 dX12_sumOf_28 rfl ?_
      obtain ⟨q9, h10, hm⟩ := bd_some hm
      refine j_getR C fg_X12_13_11 hv0 (dr_spec h10).1 dX12_sumOf_29 ?_
      refine j_sipush C (v := 374) dX12_sumOf_32 rfl ?_
      refine j_iconst C (v := 4) dX12_sumOf_35 rfl ?_
      refine j_iload C 4 dX12_sumOf_36 rfl ?_
      refine j_imul C dX12_sumOf_38 ?_
      refine j_iadd C dX12_sumOf_39 ?_
      obtain ⟨h11, hm⟩ := gd_some hm
      refine j_iald C ((dr_spec h10).2) h11 dX12_sumOf_40 ?_
      refine j_iload_n C 1 dX12_sumOf_41 rfl ?_
      refine j_icmp_ne C (tgt := 73) dX12_sumOf_42 (by decide) (fun h12 => ?_) (fun h12 => ?_)
      · replace hm := if_f hm h12
        exact tj_X12_sumOf_73 C _ _ _ _ _ _ _ _ hk5 hv0 hm
      · replace hm := if_t hm h12
        refine j_aload_n C 0 dX12_sumOf_45 rfl ?_
        refine j_iload C 4 dX12_sumOf_46 rfl ?_
        refine j_iload_n C 2 dX12_sumOf_48 rfl ?_
        obtain ⟨r13, h14, hm⟩ := bd_some hm
        refine call_I (run_LV C lk_X12_295 ⟨rfl, rfl, Nat.le_of_ble_eq_true rfl, Nat.le_of_ble_eq_true rfl⟩ (As := [.int v4, .int v2]) hv0 rfl rfl (Nat.le_of_ble_eq_true rfl) dX12_sumOf_49 (mc_X12_holdsLine _ _ _ _ _ _ _ hv0 h14)) ?_
        refine j_if_eq C (tgt := 73) dX12_sumOf_52 (by decide) (fun h15 => ?_) (fun h15 => ?_)
        · replace hm := if_t hm h15
          exact tj_X12_sumOf_73 C _ _ _ _ _ _ _ _ hk5 hv0 hm
        · replace hm := if_f hm h15
          refine j_iload_n C 3 dX12_sumOf_55 rfl ?_
          refine j_aload_n C 0 dX12_sumOf_56 rfl ?_
          obtain ⟨q16, h17, hm⟩ := bd_some hm
          refine j_getR C fg_X12_13_11 hv0 (dr_spec h17).1 dX12_sumOf_57 ?_
          refine j_sipush C (v := 374) dX12_sumOf_60 rfl ?_
          refine j_iconst C (v := 4) dX12_sumOf_63 rfl ?_
          refine j_iload C 4 dX12_sumOf_64 rfl ?_
          refine j_imul C dX12_sumOf_66 ?_
          refine j_iadd C dX12_sumOf_67 ?_
          refine j_iconst C (v := 1) dX12_sumOf_68 rfl ?_
          refine j_iadd C dX12_sumOf_69 ?_
          obtain ⟨h18, hm⟩ := gd_some hm
          refine j_iald C ((dr_spec h17).2) h18 dX12_sumOf_70 ?_
          refine j_iadd C dX12_sumOf_71 ?_
          obtain ⟨y19, e20, hm⟩ := lt_some hm
          refine j_topi e20 ?_
          refine j_istore_n C (lv' := [(3, .int y19), (0, .ref v0), (1, .int v1), (2, .int v2), (4, .int v4)]) dX12_sumOf_72 (by decide) rfl ?_
          refine j_sub [1, 2, 3, 0, 4] rfl ?_
          exact tj_X12_sumOf_73 C _ _ _ _ _ _ _ _ hk5 hv0 hm
set_option maxRecDepth 20000 in
set_option maxHeartbeats 4000000 in
theorem tl_X12_sumOf_5 {x : Ctx} {Λ : Lay} (C : Cx x cX12_sumOf 5 (some .int) RX12 Λ rm_X12_sumOf) (N : Nat) (v0 : Nat) (v1 : Int32) (v2 : Int32) (hv0 : inL Λ v0 11) (s : Int32 × Int32 × Mem) {r : Int32 × Mem} (hm : lp_X12_sumOf_5 N Λ v0 v1 v2 s = some r) : J x 5 Λ (QI x Λ r.1 r.2) 5 [(0, .ref v0), (1, .int v1), (2, .int v2), (3, .int s.1), (4, .int s.2.1)] [] (s.2.2) :=
  cw_ind (P := fun s r => J x 5 Λ (QI x Λ r.1 r.2) 5 [(0, .ref v0), (1, .int v1), (2, .int v2), (3, .int s.1), (4, .int s.2.1)] [] (s.2.2)) (fun k hkk s r e => tb_X12_sumOf_5 C _ _ _ _ _ _ _ _ hkk hv0 e) N s r hm
set_option maxRecDepth 20000 in
set_option maxHeartbeats 4000000 in
theorem tm_X12_sumOf {x : Ctx} {Λ : Lay} (C : Cx x cX12_sumOf 5 (some .int) RX12 Λ rm_X12_sumOf) (N : Nat) (μ : Mem) (v0 : Nat) (v1 : Int32) (v2 : Int32) (hv0 : inL Λ v0 11) {r : Int32 × Mem} (hm : m_X12_sumOf N Λ μ v0 v1 v2 = some r) : J x 5 Λ (QI x Λ r.1 r.2) 0 [(0, .ref v0), (1, .int v1), (2, .int v2)] [] μ := by
  refine j_iconst C (v := 0) dX12_sumOf_0 rfl ?_
  refine j_istore_n C (lv' := [(3, .int 0), (0, .ref v0), (1, .int v1), (2, .int v2)]) dX12_sumOf_1 (by decide) rfl ?_
  refine j_iconst C (v := 0) dX12_sumOf_2 rfl ?_
  refine j_istore C (lv' := [(4, .int 0), (3, .int 0), (0, .ref v0), (1, .int v1), (2, .int v2)]) dX12_sumOf_3 (by decide) rfl ?_
  refine j_sub [2, 3, 4, 1, 0] rfl ?_
  exact tl_X12_sumOf_5 C _ _ _ _ hv0 (0, 0, μ) hm
set_option maxRecDepth 20000 in
set_option maxHeartbeats 4000000 in
theorem mc_X12_sumOf (l : Launch) (N : Nat) (Λ : Lay) (μ : Mem) (v0 : Nat) (v1 : Int32) (v2 : Int32) (hv0 : inL Λ v0 11) {r : Int32 × Mem} (hm : m_X12_sumOf N Λ μ v0 v1 v2 = some r) : MI l yX12_sumOf cX12_sumOf 5 (some .int) rm_X12_sumOf Λ [.ref v0, .int v1, .int v2] μ r.1 r.2 := mi_of rfl (Nat.le_of_ble_eq_true rfl) (fun x C _ => tm_X12_sumOf C _ _ _ _ _ hv0 hm)
abbrev rm_X12_pullsNow : Room := { frames := 6, cells := 0, slots := 0, locals := 141 }
set_option maxRecDepth 20000 in
set_option maxHeartbeats 4000000 in
theorem tm_X12_pullsNow {x : Ctx} {Λ : Lay} (C : Cx x cX12_pullsNow 1 (some .int) RX12 Λ rm_X12_pullsNow) (N : Nat) (μ : Mem) (v0 : Nat) (hv0 : inL Λ v0 11) {r : Int32 × Mem} (hm : m_X12_pullsNow N Λ μ v0 = some r) : J x 1 Λ (QI x Λ r.1 r.2) 0 [(0, .ref v0)] [] μ := by
  refine j_aload_n C 0 dX12_pullsNow_0 rfl ?_
  obtain ⟨q1, h2, hm⟩ := bd_some hm
  refine j_getR C fg_X12_13_11 hv0 (dr_spec h2).1 dX12_pullsNow_1 ?_
  refine j_iconst C (v := 5) dX12_pullsNow_4 rfl ?_
  obtain ⟨h3, hm⟩ := gd_some hm
  refine j_iald C ((dr_spec h2).2) h3 dX12_pullsNow_5 ?_
  refine j_aload_n C 0 dX12_pullsNow_6 rfl ?_
  refine j_iconst C (v := 0) dX12_pullsNow_7 rfl ?_
  refine j_iconst C (v := -1) dX12_pullsNow_8 rfl ?_
  obtain ⟨r4, h5, hm⟩ := bd_some hm
  refine call_I (run_LV C lk_X12_298 ⟨rfl, rfl, Nat.le_of_ble_eq_true rfl, Nat.le_of_ble_eq_true rfl⟩ (As := [.int 0, .int (-1)]) hv0 rfl rfl (Nat.le_of_ble_eq_true rfl) dX12_pullsNow_9 (mc_X12_sumOf _ _ _ _ _ _ _ hv0 h5)) ?_
  refine j_iadd C dX12_pullsNow_12 ?_
  obtain rfl := Option.some.inj hm
  exact j_ireti C dX12_pullsNow_13
set_option maxRecDepth 20000 in
set_option maxHeartbeats 4000000 in
theorem mc_X12_pullsNow (l : Launch) (N : Nat) (Λ : Lay) (μ : Mem) (v0 : Nat) (hv0 : inL Λ v0 11) {r : Int32 × Mem} (hm : m_X12_pullsNow N Λ μ v0 = some r) : MI l yX12_pullsNow cX12_pullsNow 1 (some .int) rm_X12_pullsNow Λ [.ref v0] μ r.1 r.2 := mi_of rfl (Nat.le_of_ble_eq_true rfl) (fun x C _ => tm_X12_pullsNow C _ _ _ hv0 hm)
abbrev rm_X12_leaksNow : Room := { frames := 6, cells := 0, slots := 0, locals := 141 }
set_option maxRecDepth 20000 in
set_option maxHeartbeats 4000000 in
theorem tj_X12_leaksNow_19 {x : Ctx} {Λ : Lay} (C : Cx x cX12_leaksNow 1 (some .int) RX12 Λ rm_X12_leaksNow) (N : Nat) (μ : Mem) (v0 : Nat) (s0 : Int32) (hv0 : inL Λ v0 11) {r : Int32 × Mem} (hm : jn_X12_leaksNow_19 N Λ μ v0 s0 = some r) : J x 1 Λ (QI x Λ r.1 r.2) 19 [(0, .ref v0)] [.int s0] μ := by
  refine j_aload_n C 0 dX12_leaksNow_19 rfl ?_
  refine j_iconst C (v := 1) dX12_leaksNow_20 rfl ?_
  refine j_iconst C (v := -1) dX12_leaksNow_21 rfl ?_
  obtain ⟨r1, h2, hm⟩ := bd_some hm
  refine call_I (run_LV C lk_X12_298 ⟨rfl, rfl, Nat.le_of_ble_eq_true rfl, Nat.le_of_ble_eq_true rfl⟩ (As := [.int 1, .int (-1)]) hv0 rfl rfl (Nat.le_of_ble_eq_true rfl) dX12_leaksNow_22 (mc_X12_sumOf _ _ _ _ _ _ _ hv0 h2)) ?_
  refine j_iadd C dX12_leaksNow_25 ?_
  obtain rfl := Option.some.inj hm
  exact j_ireti C dX12_leaksNow_26
set_option maxRecDepth 20000 in
set_option maxHeartbeats 4000000 in
theorem tm_X12_leaksNow {x : Ctx} {Λ : Lay} (C : Cx x cX12_leaksNow 1 (some .int) RX12 Λ rm_X12_leaksNow) (N : Nat) (μ : Mem) (v0 : Nat) (hv0 : inL Λ v0 11) {r : Int32 × Mem} (hm : m_X12_leaksNow N Λ μ v0 = some r) : J x 1 Λ (QI x Λ r.1 r.2) 0 [(0, .ref v0)] [] μ := by
  refine j_aload_n C 0 dX12_leaksNow_0 rfl ?_
  refine j_iconst C (v := 0) dX12_leaksNow_1 rfl ?_
  obtain ⟨r1, h2, hm⟩ := bd_some hm
  refine call_I (run_LV C lk_X12_288 ⟨rfl, rfl, Nat.le_of_ble_eq_true rfl, Nat.le_of_ble_eq_true rfl⟩ (As := [.int 0]) hv0 rfl rfl (Nat.le_of_ble_eq_true rfl) dX12_leaksNow_2 (mc_X12_tideIn _ _ _ _ _ _ hv0 h2)) ?_
  refine j_aload_n C 0 dX12_leaksNow_5 rfl ?_
  obtain ⟨q3, h4, hm⟩ := bd_some hm
  refine j_getR C fg_X12_13_11 hv0 (dr_spec h4).1 dX12_leaksNow_6 ?_
  refine j_iconst C (v := 3) dX12_leaksNow_9 rfl ?_
  obtain ⟨h5, hm⟩ := gd_some hm
  refine j_iald C ((dr_spec h4).2) h5 dX12_leaksNow_10 ?_
  refine j_icmp_le C (tgt := 18) dX12_leaksNow_11 (by decide) (fun h6 => ?_) (fun h6 => ?_)
  · replace hm := if_t hm h6
    refine j_iconst C (v := 0) dX12_leaksNow_18 rfl ?_
    exact tj_X12_leaksNow_19 C _ _ _ _ hv0 hm
  · replace hm := if_f hm h6
    refine j_iconst C (v := 1) dX12_leaksNow_14 rfl ?_
    refine j_goto C (tgt := 19) dX12_leaksNow_15 (by decide) ?_
    exact tj_X12_leaksNow_19 C _ _ _ _ hv0 hm
set_option maxRecDepth 20000 in
set_option maxHeartbeats 4000000 in
theorem mc_X12_leaksNow (l : Launch) (N : Nat) (Λ : Lay) (μ : Mem) (v0 : Nat) (hv0 : inL Λ v0 11) {r : Int32 × Mem} (hm : m_X12_leaksNow N Λ μ v0 = some r) : MI l yX12_leaksNow cX12_leaksNow 1 (some .int) rm_X12_leaksNow Λ [.ref v0] μ r.1 r.2 := mi_of rfl (Nat.le_of_ble_eq_true rfl) (fun x C _ => tm_X12_leaksNow C _ _ _ hv0 hm)
abbrev rm_X12_feeOf : Room := { frames := 6, cells := 0, slots := 0, locals := 141 }
set_option maxRecDepth 20000 in
set_option maxHeartbeats 4000000 in
theorem tm_X12_feeOf {x : Ctx} {Λ : Lay} (C : Cx x cX12_feeOf 2 (some .int) RX12 Λ rm_X12_feeOf) (N : Nat) (μ : Mem) (v0 : Nat) (v1 : Int32) (hv0 : inL Λ v0 11) {r : Int32 × Mem} (hm : m_X12_feeOf N Λ μ v0 v1 = some r) : J x 2 Λ (QI x Λ r.1 r.2) 0 [(0, .ref v0), (1, .int v1)] [] μ := by
  refine j_iconst C (v := 3) dX12_feeOf_0 rfl ?_
  refine j_aload_n C 0 dX12_feeOf_1 rfl ?_
  refine j_iload_n C 1 dX12_feeOf_2 rfl ?_
  refine j_iconst C (v := 0) dX12_feeOf_3 rfl ?_
  obtain ⟨r1, h2, hm⟩ := bd_some hm
  refine call_I (run_LV C lk_X12_85 ⟨rfl, rfl, Nat.le_of_ble_eq_true rfl, Nat.le_of_ble_eq_true rfl⟩ (As := [.int v1, .int 0]) hv0 rfl rfl (Nat.le_of_ble_eq_true rfl) dX12_feeOf_4 (mc_X12_of _ _ _ _ _ _ _ hv0 h2)) ?_
  refine j_imul C dX12_feeOf_7 ?_
  refine j_aload_n C 0 dX12_feeOf_8 rfl ?_
  refine j_iconst C (v := 2) dX12_feeOf_9 rfl ?_
  refine j_iload_n C 1 dX12_feeOf_10 rfl ?_
  obtain ⟨r3, h4, hm⟩ := bd_some hm
  refine call_I (run_LV C lk_X12_298 ⟨rfl, rfl, Nat.le_of_ble_eq_true rfl, Nat.le_of_ble_eq_true rfl⟩ (As := [.int 2, .int v1]) hv0 rfl rfl (Nat.le_of_ble_eq_true rfl) dX12_feeOf_11 (mc_X12_sumOf _ _ _ _ _ _ _ hv0 h4)) ?_
  refine j_iadd C dX12_feeOf_14 ?_
  obtain rfl := Option.some.inj hm
  exact j_ireti C dX12_feeOf_15
set_option maxRecDepth 20000 in
set_option maxHeartbeats 4000000 in
theorem mc_X12_feeOf (l : Launch) (N : Nat) (Λ : Lay) (μ : Mem) (v0 : Nat) (v1 : Int32) (hv0 : inL Λ v0 11) {r : Int32 × Mem} (hm : m_X12_feeOf N Λ μ v0 v1 = some r) : MI l yX12_feeOf cX12_feeOf 2 (some .int) rm_X12_feeOf Λ [.ref v0, .int v1] μ r.1 r.2 := mi_of rfl (Nat.le_of_ble_eq_true rfl) (fun x C _ => tm_X12_feeOf C _ _ _ _ hv0 hm)
abbrev rm_X12_isEven : Room := { frames := 1, cells := 0, slots := 0, locals := 60 }
set_option maxRecDepth 20000 in
set_option maxHeartbeats 4000000 in
theorem tj_X12_isEven_24 {x : Ctx} {Λ : Lay} (C : Cx x cX12_isEven 1 (some .boolean) RX12 Λ rm_X12_isEven) (N : Nat) (μ : Mem) (s0 : Int32) {r : Int32} (hm : jn_X12_isEven_24 N Λ μ s0 = some r) : J x 1 Λ (QI x Λ r μ) 24 [] [.int s0] μ := by
  obtain ⟨h1, hm⟩ := gd_some hm
  obtain rfl := Option.some.inj hm
  exact j_iretz C h1 dX12_isEven_24
set_option maxRecDepth 20000 in
set_option maxHeartbeats 4000000 in
theorem tm_X12_isEven {x : Ctx} {Λ : Lay} (C : Cx x cX12_isEven 1 (some .boolean) RX12 Λ rm_X12_isEven) (N : Nat) (μ : Mem) (v0 : Nat) (hv0 : inL Λ v0 11) {r : Int32} (hm : m_X12_isEven N Λ μ v0 = some r) : J x 1 Λ (QI x Λ r μ) 0 [(0, .ref v0)] [] μ := by
  refine j_aload_n C 0 dX12_isEven_0 rfl ?_
  obtain ⟨q1, h2, hm⟩ := bd_some hm
  refine j_getR C fg_X12_13_11 hv0 (dr_spec h2).1 dX12_isEven_1 ?_
  refine j_iconst C (v := 3) dX12_isEven_4 rfl ?_
  obtain ⟨h3, hm⟩ := gd_some hm
  refine j_iald C ((dr_spec h2).2) h3 dX12_isEven_5 ?_
  refine j_aload_n C 0 dX12_isEven_6 rfl ?_
  refine j_iconst C (v := 0) dX12_isEven_7 rfl ?_
  obtain ⟨r4, h5, hm⟩ := bd_some hm
  refine call_I (run_LV C lk_X12_288 ⟨rfl, rfl, Nat.le_of_ble_eq_true rfl, Nat.le_of_ble_eq_true rfl⟩ (As := [.int 0]) hv0 rfl rfl (Nat.le_of_ble_eq_true rfl) dX12_isEven_8 (mc_X12_tideIn _ _ _ _ _ _ hv0 h5)) ?_
  refine j_isub C dX12_isEven_11 ?_
  refine j_mabs C wk_1963 ⟨Nat.le_of_ble_eq_true rfl, Nat.le_of_ble_eq_true rfl⟩ dX12_isEven_12 ?_
  refine j_iconst C (v := 1) dX12_isEven_15 rfl ?_
  refine j_icmp_gt C (tgt := 23) dX12_isEven_16 (by decide) (fun h6 => ?_) (fun h6 => ?_)
  · replace hm := if_t hm h6
    refine j_iconst C (v := 0) dX12_isEven_23 rfl ?_
    refine j_sub [] rfl ?_
    exact tj_X12_isEven_24 C _ _ _  hm
  · replace hm := if_f hm h6
    refine j_iconst C (v := 1) dX12_isEven_19 rfl ?_
    refine j_goto C (tgt := 24) dX12_isEven_20 (by decide) ?_
    refine j_sub [] rfl ?_
    exact tj_X12_isEven_24 C _ _ _  hm
set_option maxRecDepth 20000 in
set_option maxHeartbeats 4000000 in
theorem mc_X12_isEven (l : Launch) (N : Nat) (Λ : Lay) (μ : Mem) (v0 : Nat) (hv0 : inL Λ v0 11) {r : Int32} (hm : m_X12_isEven N Λ μ v0 = some r) : MI l yX12_isEven cX12_isEven 1 (some .boolean) rm_X12_isEven Λ [.ref v0] μ r μ := mi_of rfl (Nat.le_of_ble_eq_true rfl) (fun x C _ => tm_X12_isEven C _ _ _ hv0 hm)
abbrev rm_X12_sits : Room := { frames := 3, cells := 0, slots := 0, locals := 64 }
set_option maxRecDepth 20000 in
set_option maxHeartbeats 4000000 in
theorem tj_X12_sits_28 {x : Ctx} {Λ : Lay} (C : Cx x cX12_sits 2 (some .boolean) RX12 Λ rm_X12_sits) (N : Nat) (μ : Mem) (s0 : Int32) {r : Int32} (hm : jn_X12_sits_28 N Λ μ s0 = some r) : J x 2 Λ (QI x Λ r μ) 28 [] [.int s0] μ := by
  obtain ⟨h1, hm⟩ := gd_some hm
  obtain rfl := Option.some.inj hm
  exact j_iretz C h1 dX12_sits_28
set_option maxRecDepth 20000 in
set_option maxHeartbeats 4000000 in
theorem tj_X12_sits_27 {x : Ctx} {Λ : Lay} (C : Cx x cX12_sits 2 (some .boolean) RX12 Λ rm_X12_sits) (N : Nat) (μ : Mem) {r : Int32} (hm : jn_X12_sits_27 N Λ μ = some r) : J x 2 Λ (QI x Λ r μ) 27 [] [] μ := by
  refine j_iconst C (v := 0) dX12_sits_27 rfl ?_
  exact tj_X12_sits_28 C _ _ _  hm
set_option maxRecDepth 20000 in
set_option maxHeartbeats 4000000 in
theorem tm_X12_sits {x : Ctx} {Λ : Lay} (C : Cx x cX12_sits 2 (some .boolean) RX12 Λ rm_X12_sits) (N : Nat) (μ : Mem) (v0 : Nat) (v1 : Int32) (hv0 : inL Λ v0 11) {r : Int32} (hm : m_X12_sits N Λ μ v0 v1 = some r) : J x 2 Λ (QI x Λ r μ) 0 [(0, .ref v0), (1, .int v1)] [] μ := by
  refine j_aload_n C 0 dX12_sits_0 rfl ?_
  refine j_iload_n C 1 dX12_sits_1 rfl ?_
  obtain ⟨r1, h2, hm⟩ := bd_some hm
  refine call_I (run_LV C lk_X12_88 ⟨rfl, rfl, Nat.le_of_ble_eq_true rfl, Nat.le_of_ble_eq_true rfl⟩ (As := [.int v1]) hv0 rfl rfl (Nat.le_of_ble_eq_true rfl) dX12_sits_2 (mc_X12_isDocked _ _ _ _ _ _ hv0 h2)) ?_
  refine j_if_eq C (tgt := 27) dX12_sits_5 (by decide) (fun h3 => ?_) (fun h3 => ?_)
  · replace hm := if_t hm h3
    refine j_sub [] rfl ?_
    exact tj_X12_sits_27 C _ _  hm
  · replace hm := if_f hm h3
    refine j_aload_n C 0 dX12_sits_8 rfl ?_
    refine j_iload_n C 1 dX12_sits_9 rfl ?_
    refine j_iconst C (v := 1) dX12_sits_10 rfl ?_
    obtain ⟨r4, h5, hm⟩ := bd_some hm
    refine call_I (run_LV C lk_X12_85 ⟨rfl, rfl, Nat.le_of_ble_eq_true rfl, Nat.le_of_ble_eq_true rfl⟩ (As := [.int v1, .int 1]) hv0 rfl rfl (Nat.le_of_ble_eq_true rfl) dX12_sits_11 (mc_X12_of _ _ _ _ _ _ _ hv0 h5)) ?_
    refine j_aload_n C 0 dX12_sits_14 rfl ?_
    obtain ⟨q6, h7, hm⟩ := bd_some hm
    refine j_getR C fg_X12_13_11 hv0 (dr_spec h7).1 dX12_sits_15 ?_
    refine j_iconst C (v := 3) dX12_sits_18 rfl ?_
    obtain ⟨h8, hm⟩ := gd_some hm
    refine j_iald C ((dr_spec h7).2) h8 dX12_sits_19 ?_
    refine j_icmp_le C (tgt := 27) dX12_sits_20 (by decide) (fun h9 => ?_) (fun h9 => ?_)
    · replace hm := if_t hm h9
      refine j_sub [] rfl ?_
      exact tj_X12_sits_27 C _ _  hm
    · replace hm := if_f hm h9
      refine j_iconst C (v := 1) dX12_sits_23 rfl ?_
      refine j_goto C (tgt := 28) dX12_sits_24 (by decide) ?_
      refine j_sub [] rfl ?_
      exact tj_X12_sits_28 C _ _ _  hm
set_option maxRecDepth 20000 in
set_option maxHeartbeats 4000000 in
theorem mc_X12_sits (l : Launch) (N : Nat) (Λ : Lay) (μ : Mem) (v0 : Nat) (v1 : Int32) (hv0 : inL Λ v0 11) {r : Int32} (hm : m_X12_sits N Λ μ v0 v1 = some r) : MI l yX12_sits cX12_sits 2 (some .boolean) rm_X12_sits Λ [.ref v0, .int v1] μ r μ := mi_of rfl (Nat.le_of_ble_eq_true rfl) (fun x C _ => tm_X12_sits C _ _ _ _ hv0 hm)
abbrev rm_X12_wedgesOf : Room := { frames := 4, cells := 0, slots := 0, locals := 85 }
set_option maxRecDepth 20000 in
set_option maxHeartbeats 4000000 in
theorem tj_X12_wedgesOf_40 {x : Ctx} {Λ : Lay} (C : Cx x cX12_wedgesOf 8 (some .int) RX12 Λ rm_X12_wedgesOf) (N : Nat) (μ : Mem) (s0 : Int32) {r : Int32} (hm : jn_X12_wedgesOf_40 N Λ μ s0 = some r) : J x 8 Λ (QI x Λ r μ) 40 [] [.int s0] μ := by
  obtain rfl := Option.some.inj hm
  exact j_ireti C dX12_wedgesOf_40
set_option maxRecDepth 20000 in
set_option maxHeartbeats 4000000 in
theorem tj_X12_wedgesOf_112 {x : Ctx} {Λ : Lay} (C : Cx x cX12_wedgesOf 8 (some .int) RX12 Λ rm_X12_wedgesOf) (N : Nat) (μ : Mem) (k52 : Int32 × Int32 × Int32 → Option (Int32)) (v0 : Nat) (v2 : Int32) (v3 : Int32) (v4 : Int32) (v6 : Int32) (s0 : Int32) (hk52 : ∀ (s : Int32 × Int32 × Int32) (r : Int32), k52 s = some r → J x 8 Λ (QI x Λ r μ) 52 [(0, .ref v0), (2, .int v2), (3, .int v3), (4, .int s.1), (5, .int s.2.1), (6, .int s.2.2)] [] (μ)) (hv0 : inL Λ v0 11) {r : Int32} (hm : jn_X12_wedgesOf_112 N Λ μ k52 v0 v2 v3 v4 v6 s0 = some r) : J x 8 Λ (QI x Λ r μ) 112 [(0, .ref v0), (2, .int v2), (3, .int v3), (4, .int v4), (6, .int v6)] [.int s0] μ := by
  refine j_istore C (lv' := [(5, .int s0), (0, .ref v0), (2, .int v2), (3, .int v3), (4, .int v4), (6, .int v6)]) dX12_wedgesOf_112 (by decide) rfl ?_
  obtain ⟨y1, e2, hm⟩ := lt_some hm
  refine j_iinc C 5 (v := y1) (lv' := [(6, .int y1), (5, .int s0), (0, .ref v0), (2, .int v2), (3, .int v3), (4, .int v4)]) dX12_wedgesOf_114 rfl (by rw [e2]; rfl) (by decide) rfl ?_
  refine j_goto C (tgt := 52) dX12_wedgesOf_117 (by decide) ?_
  refine j_sub [2, 3, 4, 5, 1, 0] rfl ?_
  exact hk52 (v4, s0, y1) _ hm
set_option maxRecDepth 20000 in
set_option maxHeartbeats 4000000 in
theorem tj_X12_wedgesOf_105 {x : Ctx} {Λ : Lay} (C : Cx x cX12_wedgesOf 8 (some .int) RX12 Λ rm_X12_wedgesOf) (N : Nat) (μ : Mem) (k52 : Int32 × Int32 × Int32 → Option (Int32)) (v0 : Nat) (v2 : Int32) (v3 : Int32) (v4 : Int32) (v6 : Int32) (hk52 : ∀ (s : Int32 × Int32 × Int32) (r : Int32), k52 s = some r → J x 8 Λ (QI x Λ r μ) 52 [(0, .ref v0), (2, .int v2), (3, .int v3), (4, .int s.1), (5, .int s.2.1), (6, .int s.2.2)] [] (μ)) (hv0 : inL Λ v0 11) {r : Int32} (hm : jn_X12_wedgesOf_105 N Λ μ k52 v0 v2 v3 v4 v6 = some r) : J x 8 Λ (QI x Λ r μ) 105 [(0, .ref v0), (2, .int v2), (3, .int v3), (4, .int v4), (6, .int v6)] [] μ := by
  refine j_iload C 4 dX12_wedgesOf_105 rfl ?_
  refine j_goto C (tgt := 112) dX12_wedgesOf_107 (by decide) ?_
  exact tj_X12_wedgesOf_112 C _ _ _ _ _ _ _ _ _ hk52 hv0 hm
set_option maxRecDepth 20000 in
set_option maxHeartbeats 4000000 in
theorem tj_X12_wedgesOf_91 {x : Ctx} {Λ : Lay} (C : Cx x cX12_wedgesOf 8 (some .int) RX12 Λ rm_X12_wedgesOf) (N : Nat) (μ : Mem) (k52 : Int32 × Int32 × Int32 → Option (Int32)) (v0 : Nat) (v2 : Int32) (v3 : Int32) (v4 : Int32) (v5 : Int32) (v6 : Int32) (v7 : Int32) (hk52 : ∀ (s : Int32 × Int32 × Int32) (r : Int32), k52 s = some r → J x 8 Λ (QI x Λ r μ) 52 [(0, .ref v0), (2, .int v2), (3, .int v3), (4, .int s.1), (5, .int s.2.1), (6, .int s.2.2)] [] (μ)) (hv0 : inL Λ v0 11) {r : Int32} (hm : jn_X12_wedgesOf_91 N Λ μ k52 v0 v2 v3 v4 v5 v6 v7 = some r) : J x 8 Λ (QI x Λ r μ) 91 [(0, .ref v0), (2, .int v2), (3, .int v3), (4, .int v4), (5, .int v5), (6, .int v6), (7, .int v7)] [] μ := by
  refine j_iload C 6 dX12_wedgesOf_91 rfl ?_
  refine j_if_ne C (tgt := 105) dX12_wedgesOf_93 (by decide) (fun h1 => ?_) (fun h1 => ?_)
  · replace hm := if_f hm h1
    refine j_sub [0, 1, 2, 3, 5] rfl ?_
    exact tj_X12_wedgesOf_105 C _ _ _ _ _ _ _ _ hk52 hv0 hm
  · replace hm := if_t hm h1
    refine j_iload C 5 dX12_wedgesOf_96 rfl ?_
    refine j_iload C 4 dX12_wedgesOf_98 rfl ?_
    refine j_isub C dX12_wedgesOf_100 ?_
    refine j_iconst C (v := 3) dX12_wedgesOf_101 rfl ?_
    refine j_icmp_ne C (tgt := 110) dX12_wedgesOf_102 (by decide) (fun h2 => ?_) (fun h2 => ?_)
    · replace hm := if_f hm h2
      refine j_iload C 4 dX12_wedgesOf_110 rfl ?_
      refine j_sub [0, 1, 2, 3, 5] rfl ?_
      exact tj_X12_wedgesOf_112 C _ _ _ _ _ _ _ _ _ hk52 hv0 hm
    · replace hm := if_t hm h2
      refine j_sub [0, 1, 2, 3, 5] rfl ?_
      exact tj_X12_wedgesOf_105 C _ _ _ _ _ _ _ _ hk52 hv0 hm
set_option maxRecDepth 20000 in
set_option maxHeartbeats 4000000 in
theorem tb_X12_wedgesOf_52 {x : Ctx} {Λ : Lay} (C : Cx x cX12_wedgesOf 8 (some .int) RX12 Λ rm_X12_wedgesOf) (N : Nat) (μ : Mem) (k52 : Int32 × Int32 × Int32 → Option (Int32)) (v0 : Nat) (v2 : Int32) (v3 : Int32) (v4 : Int32) (v5 : Int32) (v6 : Int32) (hk52 : ∀ (s : Int32 × Int32 × Int32) (r : Int32), k52 s = some r → J x 8 Λ (QI x Λ r μ) 52 [(0, .ref v0), (2, .int v2), (3, .int v3), (4, .int s.1), (5, .int s.2.1), (6, .int s.2.2)] [] (μ)) (hv0 : inL Λ v0 11) {r : Int32} (hm : bd_X12_wedgesOf_52 N Λ μ k52 v0 v2 v3 v4 v5 v6 = some r) : J x 8 Λ (QI x Λ r μ) 52 [(0, .ref v0), (2, .int v2), (3, .int v3), (4, .int v4), (5, .int v5), (6, .int v6)] [] μ := by
  refine j_iload C 5 dX12_wedgesOf_52 rfl ?_
  refine j_iload_n C 1 dX12_wedgesOf_54 rfl ?_
  refine j_iload_n C 2 dX12_wedgesOf_55 rfl ?_
  refine j_iadd C dX12_wedgesOf_56 ?_
  refine j_icmp_ge C (tgt := 120) dX12_wedgesOf_57 (by decide) (fun h1 => ?_) (fun h1 => ?_)
  · replace hm := if_t hm h1
    refine j_iload C 3 dX12_wedgesOf_120 rfl ?_
    obtain rfl := Option.some.inj hm
    exact j_ireti C dX12_wedgesOf_122
  · replace hm := if_f hm h1
    refine j_aload_n C 0 dX12_wedgesOf_60 rfl ?_
    obtain ⟨q2, h3, hm⟩ := bd_some hm
    refine j_getR C fg_X12_13_11 hv0 (dr_spec h3).1 dX12_wedgesOf_61 ?_
    refine j_bipush C (v := 10) dX12_wedgesOf_64 rfl ?_
    obtain ⟨h4, hm⟩ := gd_some hm
    refine j_iald C ((dr_spec h3).2) h4 dX12_wedgesOf_66 ?_
    refine j_iload C 5 dX12_wedgesOf_67 rfl ?_
    obtain ⟨r5, h6, hm⟩ := bd_some hm
    refine call_I (run_LS C ls_X12_306 ⟨rfl, rfl, Nat.le_of_ble_eq_true rfl, Nat.le_of_ble_eq_true rfl⟩ (As := [.int (μ.1 q2 (10 : Int32).toNatClampNeg), .int v6]) rfl rfl (Nat.le_of_ble_eq_true rfl) dX12_wedgesOf_69 (mc_X12_has _ _ _ _ _ _  h6)) ?_
    refine j_istore C (lv' := [(7, .int r5), (0, .ref v0), (2, .int v2), (3, .int v3), (4, .int v4), (5, .int v5), (6, .int v6)]) dX12_wedgesOf_72 (by decide) rfl ?_
    refine j_iload C 0 dX12_wedgesOf_74 rfl ?_
    refine j_if_ne C (tgt := 91) dX12_wedgesOf_76 (by decide) (fun h7 => ?_) (fun h7 => ?_)
    · replace hm := if_f hm h7
      refine j_sub [1, 2, 3, 4, 5, 6, 0] rfl ?_
      exact tj_X12_wedgesOf_91 C _ _ _ _ _ _ _ _ _ _ hk52 hv0 hm
    · replace hm := if_t hm h7
      refine j_iload C 6 dX12_wedgesOf_79 rfl ?_
      refine j_iload C 5 dX12_wedgesOf_81 rfl ?_
      refine j_isub C dX12_wedgesOf_83 ?_
      refine j_iconst C (v := 3) dX12_wedgesOf_84 rfl ?_
      refine j_icmp_ne C (tgt := 91) dX12_wedgesOf_85 (by decide) (fun h8 => ?_) (fun h8 => ?_)
      · replace hm := if_f hm h8
        refine j_sub [1, 2, 3, 4, 5, 6, 0] rfl ?_
        exact tj_X12_wedgesOf_91 C _ _ _ _ _ _ _ _ _ _ hk52 hv0 hm
      · replace hm := if_t hm h8
        obtain ⟨y9, e10, hm⟩ := lt_some hm
        refine j_iinc C 4 (v := y9) (lv' := [(4, .int y9), (7, .int r5), (0, .ref v0), (2, .int v2), (3, .int v3), (5, .int v5), (6, .int v6)]) dX12_wedgesOf_88 rfl (by rw [e10]; rfl) (by decide) rfl ?_
        refine j_sub [2, 3, 4, 0, 5, 6, 1] rfl ?_
        exact tj_X12_wedgesOf_91 C _ _ _ _ _ _ _ _ _ _ hk52 hv0 hm
set_option maxRecDepth 20000 in
set_option maxHeartbeats 4000000 in
theorem tl_X12_wedgesOf_52 {x : Ctx} {Λ : Lay} (C : Cx x cX12_wedgesOf 8 (some .int) RX12 Λ rm_X12_wedgesOf) (N : Nat) (μ : Mem) (v0 : Nat) (v2 : Int32) (v3 : Int32) (hv0 : inL Λ v0 11) (s : Int32 × Int32 × Int32) {r : Int32} (hm : lp_X12_wedgesOf_52 N Λ μ v0 v2 v3 s = some r) : J x 8 Λ (QI x Λ r μ) 52 [(0, .ref v0), (2, .int v2), (3, .int v3), (4, .int s.1), (5, .int s.2.1), (6, .int s.2.2)] [] (μ) :=
  cw_ind (P := fun s r => J x 8 Λ (QI x Λ r μ) 52 [(0, .ref v0), (2, .int v2), (3, .int v3), (4, .int s.1), (5, .int s.2.1), (6, .int s.2.2)] [] (μ)) (fun k hkk s r e => tb_X12_wedgesOf_52 C _ _ _ _ _ _ _ _ _ hkk hv0 e) N s r hm
set_option maxRecDepth 20000 in
set_option maxHeartbeats 4000000 in
theorem tm_X12_wedgesOf {x : Ctx} {Λ : Lay} (C : Cx x cX12_wedgesOf 8 (some .int) RX12 Λ rm_X12_wedgesOf) (N : Nat) (μ : Mem) (v0 : Nat) (v1 : Int32) (hv0 : inL Λ v0 11) {r : Int32} (hm : m_X12_wedgesOf N Λ μ v0 v1 = some r) : J x 8 Λ (QI x Λ r μ) 0 [(0, .ref v0), (1, .int v1)] [] μ := by
  refine j_aload_n C 0 dX12_wedgesOf_0 rfl ?_
  refine j_iload_n C 1 dX12_wedgesOf_1 rfl ?_
  refine j_iconst C (v := 4) dX12_wedgesOf_2 rfl ?_
  obtain ⟨r1, h2, hm⟩ := bd_some hm
  refine call_I (run_LV C lk_X12_85 ⟨rfl, rfl, Nat.le_of_ble_eq_true rfl, Nat.le_of_ble_eq_true rfl⟩ (As := [.int v1, .int 4]) hv0 rfl rfl (Nat.le_of_ble_eq_true rfl) dX12_wedgesOf_3 (mc_X12_of _ _ _ _ _ _ _ hv0 h2)) ?_
  refine j_istore_n C (lv' := [(2, .int r1), (0, .ref v0), (1, .int v1)]) dX12_wedgesOf_6 (by decide) rfl ?_
  refine j_aload_n C 1 dX12_wedgesOf_7 rfl ?_
  refine j_iload_n C 2 dX12_wedgesOf_8 rfl ?_
  refine j_iconst C (v := 0) dX12_wedgesOf_9 rfl ?_
  obtain ⟨r3, h4, hm⟩ := bd_some hm
  refine call_I (run_LV C lk_X12_85 ⟨rfl, rfl, Nat.le_of_ble_eq_true rfl, Nat.le_of_ble_eq_true rfl⟩ (As := [.int v1, .int 0]) hv0 rfl rfl (Nat.le_of_ble_eq_true rfl) dX12_wedgesOf_10 (mc_X12_of _ _ _ _ _ _ _ hv0 h4)) ?_
  refine j_istore_n C (lv' := [(3, .int r3), (2, .int r1), (0, .ref v0), (1, .int v1)]) dX12_wedgesOf_13 (by decide) rfl ?_
  refine j_iload_n C 0 dX12_wedgesOf_14 rfl ?_
  refine j_iconst C (v := 3) dX12_wedgesOf_15 rfl ?_
  refine j_icmp_ge C (tgt := 41) dX12_wedgesOf_16 (by decide) (fun h5 => ?_) (fun h5 => ?_)
  · replace hm := if_t hm h5
    refine j_iconst C (v := 0) dX12_wedgesOf_41 rfl ?_
    refine j_istore C (lv' := [(4, .int 0), (3, .int r3), (2, .int r1), (0, .ref v0), (1, .int v1)]) dX12_wedgesOf_42 (by decide) rfl ?_
    refine j_iload_n C 2 dX12_wedgesOf_44 rfl ?_
    refine j_iconst C (v := 1) dX12_wedgesOf_45 rfl ?_
    refine j_isub C dX12_wedgesOf_46 ?_
    obtain ⟨y6, e7, hm⟩ := lt_some hm
    refine j_topi e7 ?_
    refine j_istore C (lv' := [(5, .int y6), (4, .int 0), (3, .int r3), (2, .int r1), (0, .ref v0), (1, .int v1)]) dX12_wedgesOf_47 (by decide) rfl ?_
    refine j_iload_n C 3 dX12_wedgesOf_49 rfl ?_
    refine j_istore C (lv' := [(6, .int r1), (5, .int y6), (4, .int 0), (3, .int r3), (2, .int r1), (0, .ref v0), (1, .int v1)]) dX12_wedgesOf_50 (by decide) rfl ?_
    refine j_sub [5, 4, 3, 2, 1, 0] rfl ?_
    exact tl_X12_wedgesOf_52 C _ _ _ _ _ hv0 (0, y6, r1) hm
  · replace hm := if_f hm h5
    refine j_aload_n C 2 dX12_wedgesOf_19 rfl ?_
    obtain ⟨q8, h9, hm⟩ := bd_some hm
    refine j_getR C fg_X12_13_11 hv0 (dr_spec h9).1 dX12_wedgesOf_20 ?_
    refine j_bipush C (v := 10) dX12_wedgesOf_23 rfl ?_
    obtain ⟨h10, hm⟩ := gd_some hm
    refine j_iald C ((dr_spec h9).2) h10 dX12_wedgesOf_25 ?_
    refine j_aload_n C 2 dX12_wedgesOf_26 rfl ?_
    refine j_iload_n C 3 dX12_wedgesOf_27 rfl ?_
    obtain ⟨r11, h12, hm⟩ := bd_some hm
    refine call_I (run_LV C lk_X12_99 ⟨rfl, rfl, Nat.le_of_ble_eq_true rfl, Nat.le_of_ble_eq_true rfl⟩ (As := [.int v1]) hv0 rfl rfl (Nat.le_of_ble_eq_true rfl) dX12_wedgesOf_28 (mc_X12_placesOf _ _ _ _ _ _ hv0 h12)) ?_
    refine j_iand C dX12_wedgesOf_31 ?_
    refine j_if_ne C (tgt := 39) dX12_wedgesOf_32 (by decide) (fun h13 => ?_) (fun h13 => ?_)
    · replace hm := if_f hm h13
      refine j_iconst C (v := 0) dX12_wedgesOf_39 rfl ?_
      refine j_sub [] rfl ?_
      exact tj_X12_wedgesOf_40 C _ _ _  hm
    · replace hm := if_t hm h13
      refine j_iconst C (v := 1) dX12_wedgesOf_35 rfl ?_
      refine j_goto C (tgt := 40) dX12_wedgesOf_36 (by decide) ?_
      refine j_sub [] rfl ?_
      exact tj_X12_wedgesOf_40 C _ _ _  hm
set_option maxRecDepth 20000 in
set_option maxHeartbeats 4000000 in
theorem mc_X12_wedgesOf (l : Launch) (N : Nat) (Λ : Lay) (μ : Mem) (v0 : Nat) (v1 : Int32) (hv0 : inL Λ v0 11) {r : Int32} (hm : m_X12_wedgesOf N Λ μ v0 v1 = some r) : MI l yX12_wedgesOf cX12_wedgesOf 8 (some .int) rm_X12_wedgesOf Λ [.ref v0, .int v1] μ r μ := mi_of rfl (Nat.le_of_ble_eq_true rfl) (fun x C _ => tm_X12_wedgesOf C _ _ _ _ hv0 hm)

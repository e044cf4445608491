abbrev rm_X9_takenPlaces : Room := { frames := 1, cells := 0, slots := 0, locals := 21 }
set_option maxRecDepth 20000 in
set_option maxHeartbeats 4000000 in
theorem tj_X9_takenPlaces_42 {x : Ctx} {Λ : Lay} (C : Cx x cX9_takenPlaces 3 (some .int) RX9 Λ rm_X9_takenPlaces) (N : Nat) (μ : Mem) (k4 : Int32 × Int32 → Option (Int32)) (v0 : Nat) (v2 : Int32) (s0 : Int32) (s1 : Int32) (hk4 : ∀ (s : Int32 × Int32) (r : Int32), k4 s = some r → J x 3 Λ (QI x Λ r μ) 4 [(0, .ref v0), (1, .int s.1), (2, .int s.2)] [] (μ)) (hv0 : inL Λ v0 8) {r : Int32} (hm : jn_X9_takenPlaces_42 N Λ μ k4 v0 v2 s0 s1 = some r) : J x 3 Λ (QI x Λ r μ) 42 [(0, .ref v0), (2, .int v2)] [.int s1, .int s0] μ := by
  refine j_ior C dX9_takenPlaces_42 ?_
  obtain ⟨y1, e2, hm⟩ := lt_some hm
  refine j_topi e2 ?_
  refine j_istore_n C (lv' := [(1, .int y1), (0, .ref v0), (2, .int v2)]) dX9_takenPlaces_43 (by decide) rfl ?_
  obtain ⟨y3, e4, hm⟩ := lt_some hm
  refine j_iinc C 2 (v := y3) (lv' := [(2, .int y3), (1, .int y1), (0, .ref v0)]) dX9_takenPlaces_44 rfl (by rw [e4]; rfl) (by decide) rfl ?_
  refine j_goto C (tgt := 4) dX9_takenPlaces_47 (by decide) ?_
  refine j_sub [2, 1, 0] rfl ?_
  exact hk4 (y1, y3) _ hm
set_option maxRecDepth 20000 in
set_option maxHeartbeats 4000000 in
theorem tb_X9_takenPlaces_4 {x : Ctx} {Λ : Lay} (C : Cx x cX9_takenPlaces 3 (some .int) RX9 Λ rm_X9_takenPlaces) (N : Nat) (μ : Mem) (k4 : Int32 × Int32 → Option (Int32)) (v0 : Nat) (v1 : Int32) (v2 : Int32) (hk4 : ∀ (s : Int32 × Int32) (r : Int32), k4 s = some r → J x 3 Λ (QI x Λ r μ) 4 [(0, .ref v0), (1, .int s.1), (2, .int s.2)] [] (μ)) (hv0 : inL Λ v0 8) {r : Int32} (hm : bd_X9_takenPlaces_4 N Λ μ k4 v0 v1 v2 = some r) : J x 3 Λ (QI x Λ r μ) 4 [(0, .ref v0), (1, .int v1), (2, .int v2)] [] μ := by
  refine j_iload_n C 2 dX9_takenPlaces_4 rfl ?_
  refine j_aload_n C 0 dX9_takenPlaces_5 rfl ?_
  refine j_getI C fg_X9_66_8 hv0 dX9_takenPlaces_6 ?_
  refine j_icmp_ge C (tgt := 50) dX9_takenPlaces_9 (by decide) (fun h1 => ?_) (fun h1 => ?_)
  · replace hm := if_t hm h1
    refine j_iload_n C 1 dX9_takenPlaces_50 rfl ?_
    obtain rfl := Option.some.inj hm
    exact j_ireti C dX9_takenPlaces_51
  · replace hm := if_f hm h1
    refine j_iload_n C 1 dX9_takenPlaces_12 rfl ?_
    refine j_aload_n C 0 dX9_takenPlaces_13 rfl ?_
    obtain ⟨q2, h3, hm⟩ := bd_some hm
    refine j_getR C fg_X9_41_8 hv0 (dr_spec h3).1 dX9_takenPlaces_14 ?_
    refine j_iload_n C 2 dX9_takenPlaces_17 rfl ?_
    obtain ⟨h4, hm⟩ := gd_some hm
    refine j_iald C ((dr_spec h3).2) h4 dX9_takenPlaces_18 ?_
    refine j_iconst C (v := 1) dX9_takenPlaces_19 rfl ?_
    refine j_icmp_ne C (tgt := 41) dX9_takenPlaces_20 (by decide) (fun h5 => ?_) (fun h5 => ?_)
    · replace hm := if_f hm h5
      refine j_iconst C (v := 0) dX9_takenPlaces_41 rfl ?_
      refine j_sub [0, 2] rfl ?_
      exact tj_X9_takenPlaces_42 C _ _ _ _ _ _ _ hk4 hv0 hm
    · replace hm := if_t hm h5
      refine j_aload_n C 0 dX9_takenPlaces_23 rfl ?_
      obtain ⟨q6, h7, hm⟩ := bd_some hm
      refine j_getR C fg_X9_44_8 hv0 (dr_spec h7).1 dX9_takenPlaces_24 ?_
      refine j_iload_n C 2 dX9_takenPlaces_27 rfl ?_
      obtain ⟨h8, hm⟩ := gd_some hm
      refine j_iald C ((dr_spec h7).2) h8 dX9_takenPlaces_28 ?_
      refine j_aload_n C 0 dX9_takenPlaces_29 rfl ?_
      obtain ⟨q9, h10, hm⟩ := bd_some hm
      refine j_getR C fg_X9_32_8 hv0 (dr_spec h10).1 dX9_takenPlaces_30 ?_
      refine j_iload_n C 2 dX9_takenPlaces_33 rfl ?_
      obtain ⟨h11, hm⟩ := gd_some hm
      refine j_iald C ((dr_spec h10).2) h11 dX9_takenPlaces_34 ?_
      obtain ⟨r12, h13, hm⟩ := bd_some hm
      refine call_I (run_LN C ln_X9_157 ⟨rfl, rfl, Nat.le_of_ble_eq_true rfl, Nat.le_of_ble_eq_true rfl⟩ (As := [.int (μ.1 q6 v2.toNatClampNeg), .int (μ.1 q9 v2.toNatClampNeg)]) rfl rfl (Nat.le_of_ble_eq_true rfl) dX9_takenPlaces_35 (mc_X11_placeBits _ _ _ _ _ _  h13)) ?_
      refine j_goto C (tgt := 42) dX9_takenPlaces_38 (by decide) ?_
      refine j_sub [0, 2] rfl ?_
      exact tj_X9_takenPlaces_42 C _ _ _ _ _ _ _ hk4 hv0 hm
set_option maxRecDepth 20000 in
set_option maxHeartbeats 4000000 in
theorem tl_X9_takenPlaces_4 {x : Ctx} {Λ : Lay} (C : Cx x cX9_takenPlaces 3 (some .int) RX9 Λ rm_X9_takenPlaces) (N : Nat) (μ : Mem) (v0 : Nat) (hv0 : inL Λ v0 8) (s : Int32 × Int32) {r : Int32} (hm : lp_X9_takenPlaces_4 N Λ μ v0 s = some r) : J x 3 Λ (QI x Λ r μ) 4 [(0, .ref v0), (1, .int s.1), (2, .int s.2)] [] (μ) :=
  cw_ind (P := fun s r => J x 3 Λ (QI x Λ r μ) 4 [(0, .ref v0), (1, .int s.1), (2, .int s.2)] [] (μ)) (fun k hkk s r e => tb_X9_takenPlaces_4 C _ _ _ _ _ _ hkk hv0 e) N s r hm
set_option maxRecDepth 20000 in
set_option maxHeartbeats 4000000 in
theorem tm_X9_takenPlaces {x : Ctx} {Λ : Lay} (C : Cx x cX9_takenPlaces 3 (some .int) RX9 Λ rm_X9_takenPlaces) (N : Nat) (μ : Mem) (v0 : Nat) (hv0 : inL Λ v0 8) {r : Int32} (hm : m_X9_takenPlaces N Λ μ v0 = some r) : J x 3 Λ (QI x Λ r μ) 0 [(0, .ref v0)] [] μ := by
  refine j_iconst C (v := 0) dX9_takenPlaces_0 rfl ?_
  refine j_istore_n C (lv' := [(1, .int 0), (0, .ref v0)]) dX9_takenPlaces_1 (by decide) rfl ?_
  refine j_iconst C (v := 0) dX9_takenPlaces_2 rfl ?_
  refine j_istore_n C (lv' := [(2, .int 0), (1, .int 0), (0, .ref v0)]) dX9_takenPlaces_3 (by decide) rfl ?_
  refine j_sub [2, 1, 0] rfl ?_
  exact tl_X9_takenPlaces_4 C _ _ _ hv0 (0, 0) hm
set_option maxRecDepth 20000 in
set_option maxHeartbeats 4000000 in
theorem mc_X9_takenPlaces (l : Launch) (N : Nat) (Λ : Lay) (μ : Mem) (v0 : Nat) (hv0 : inL Λ v0 8) {r : Int32} (hm : m_X9_takenPlaces N Λ μ v0 = some r) : MI l yX9_takenPlaces cX9_takenPlaces 3 (some .int) rm_X9_takenPlaces Λ [.ref v0] μ r μ := mi_of rfl (Nat.le_of_ble_eq_true rfl) (fun x C _ => tm_X9_takenPlaces C _ _ _ hv0 hm)
abbrev rm_X9_addShip : Room := { frames := 0, cells := 0, slots := 0, locals := 0 }
set_option maxRecDepth 20000 in
set_option maxHeartbeats 4000000 in
theorem tj_X9_addShip_58 {x : Ctx} {Λ : Lay} (C : Cx x cX9_addShip 6 (some .int) RX9 Λ rm_X9_addShip) (N : Nat) (μ : Mem) (v0 : Nat) (v4 : Int32) (v5 : Int32) (s0 : Nat) (s1 : Int32) (s2 : Int32) (hv0 : inL Λ v0 8) (hs0 : inL Λ s0 13) {r : Int32 × Mem} (hm : jn_X9_addShip_58 N Λ μ v0 v4 v5 s0 s1 s2 = some r) : J x 6 Λ (QI x Λ r.1 r.2) 58 [(0, .ref v0), (4, .int v4), (5, .int v5)] [.int s2, .int s1, .ref s0] μ := by
  obtain ⟨h1, hm⟩ := gd_some hm
  obtain ⟨μ2, e3, hm⟩ := lt_some hm
  refine j_iast C hs0 h1 e3 dX9_addShip_58 ?_
  refine j_aload_n C 0 dX9_addShip_59 rfl ?_
  obtain ⟨q4, h5, hm⟩ := bd_some hm
  refine j_getR C fg_X9_44_8 hv0 (dr_spec h5).1 dX9_addShip_60 ?_
  refine j_iload C 2 dX9_addShip_63 rfl ?_
  refine j_iload C 1 dX9_addShip_65 rfl ?_
  obtain ⟨h6, hm⟩ := gd_some hm
  obtain ⟨μ7, e8, hm⟩ := lt_some hm
  refine j_iast C ((dr_spec h5).2) h6 e8 dX9_addShip_67 ?_
  refine j_aload_n C 0 dX9_addShip_68 rfl ?_
  refine j_dup C dX9_addShip_69 rfl ?_
  refine j_getI C fg_X9_66_8 hv0 dX9_addShip_70 ?_
  refine j_iconst C (v := 1) dX9_addShip_73 rfl ?_
  refine j_iadd C dX9_addShip_74 ?_
  obtain ⟨μ9, e10, hm⟩ := lt_some hm
  refine j_putI C fp_X9_66_8 hv0 e10 dX9_addShip_75 ?_
  refine j_iload C 2 dX9_addShip_78 rfl ?_
  obtain rfl := Option.some.inj hm
  exact j_ireti C dX9_addShip_80
set_option maxRecDepth 20000 in
set_option maxHeartbeats 4000000 in
theorem tm_X9_addShip {x : Ctx} {Λ : Lay} (C : Cx x cX9_addShip 6 (some .int) RX9 Λ rm_X9_addShip) (N : Nat) (μ : Mem) (v0 : Nat) (v1 : Int32) (v2 : Int32) (v3 : Int32) (v4 : Int32) (hv0 : inL Λ v0 8) {r : Int32 × Mem} (hm : m_X9_addShip N Λ μ v0 v1 v2 v3 v4 = some r) : J x 6 Λ (QI x Λ r.1 r.2) 0 [(0, .ref v0), (1, .int v1), (2, .int v2), (3, .int v3), (4, .int v4)] [] μ := by
  refine j_aload_n C 0 dX9_addShip_0 rfl ?_
  refine j_getI C fg_X9_66_8 hv0 dX9_addShip_1 ?_
  refine j_bipush C (v := 8) dX9_addShip_4 rfl ?_
  refine j_icmp_lt C (tgt := 11) dX9_addShip_6 (by decide) (fun h1 => ?_) (fun h1 => ?_)
  · replace hm := if_t hm h1
    refine j_aload_n C 0 dX9_addShip_11 rfl ?_
    refine j_getI C fg_X9_66_8 hv0 dX9_addShip_12 ?_
    obtain ⟨y2, e3, hm⟩ := lt_some hm
    refine j_topi e3 ?_
    refine j_istore C (lv' := [(5, .int y2), (0, .ref v0), (1, .int v1), (2, .int v2), (3, .int v3), (4, .int v4)]) dX9_addShip_15 (by decide) rfl ?_
    refine j_aload_n C 1 dX9_addShip_17 rfl ?_
    obtain ⟨q4, h5, hm⟩ := bd_some hm
    refine j_getR C fg_X9_32_8 hv0 (dr_spec h5).1 dX9_addShip_18 ?_
    refine j_iload C 0 dX9_addShip_21 rfl ?_
    refine j_iload_n C 2 dX9_addShip_23 rfl ?_
    obtain ⟨h6, hm⟩ := gd_some hm
    obtain ⟨μ7, e8, hm⟩ := lt_some hm
    refine j_iast C ((dr_spec h5).2) h6 e8 dX9_addShip_24 ?_
    refine j_aload_n C 1 dX9_addShip_25 rfl ?_
    obtain ⟨q9, h10, hm⟩ := bd_some hm
    refine j_getR C fg_X9_35_8 hv0 (dr_spec h10).1 dX9_addShip_26 ?_
    refine j_iload C 0 dX9_addShip_29 rfl ?_
    refine j_iload_n C 3 dX9_addShip_31 rfl ?_
    obtain ⟨h11, hm⟩ := gd_some hm
    obtain ⟨μ12, e13, hm⟩ := lt_some hm
    refine j_iast C ((dr_spec h10).2) h11 e13 dX9_addShip_32 ?_
    refine j_aload_n C 1 dX9_addShip_33 rfl ?_
    obtain ⟨q14, h15, hm⟩ := bd_some hm
    refine j_getR C fg_X9_38_8 hv0 (dr_spec h15).1 dX9_addShip_34 ?_
    refine j_iload C 0 dX9_addShip_37 rfl ?_
    refine j_iload_n C 4 dX9_addShip_39 rfl ?_
    obtain ⟨h16, hm⟩ := gd_some hm
    obtain ⟨μ17, e18, hm⟩ := lt_some hm
    refine j_iast C ((dr_spec h15).2) h16 e18 dX9_addShip_40 ?_
    refine j_aload_n C 1 dX9_addShip_41 rfl ?_
    obtain ⟨q19, h20, hm⟩ := bd_some hm
    refine j_getR C fg_X9_41_8 hv0 (dr_spec h20).1 dX9_addShip_42 ?_
    refine j_iload C 0 dX9_addShip_45 rfl ?_
    refine j_iload C 5 dX9_addShip_47 rfl ?_
    refine j_iconst C (v := -1) dX9_addShip_49 rfl ?_
    refine j_icmp_ne C (tgt := 57) dX9_addShip_50 (by decide) (fun h21 => ?_) (fun h21 => ?_)
    · replace hm := if_f hm h21
      refine j_iconst C (v := 1) dX9_addShip_57 rfl ?_
      refine j_sub [1, 5, 0] rfl ?_
      exact tj_X9_addShip_58 C _ _ _ _ _ _ _ _ hv0 ((dr_spec h20).2) hm
    · replace hm := if_t hm h21
      refine j_iconst C (v := 0) dX9_addShip_53 rfl ?_
      refine j_goto C (tgt := 58) dX9_addShip_54 (by decide) ?_
      refine j_sub [1, 5, 0] rfl ?_
      exact tj_X9_addShip_58 C _ _ _ _ _ _ _ _ hv0 ((dr_spec h20).2) hm
  · replace hm := if_f hm h1
    refine j_iconst C (v := -1) dX9_addShip_9 rfl ?_
    obtain rfl := Option.some.inj hm
    exact j_ireti C dX9_addShip_10
set_option maxRecDepth 20000 in
set_option maxHeartbeats 4000000 in
theorem mc_X9_addShip (l : Launch) (N : Nat) (Λ : Lay) (μ : Mem) (v0 : Nat) (v1 : Int32) (v2 : Int32) (v3 : Int32) (v4 : Int32) (hv0 : inL Λ v0 8) {r : Int32 × Mem} (hm : m_X9_addShip N Λ μ v0 v1 v2 v3 v4 = some r) : MI l yX9_addShip cX9_addShip 6 (some .int) rm_X9_addShip Λ [.ref v0, .int v1, .int v2, .int v3, .int v4] μ r.1 r.2 := mi_of rfl (Nat.le_of_ble_eq_true rfl) (fun x C _ => tm_X9_addShip C _ _ _ _ _ _ _ hv0 hm)
abbrev rm_X9_copy : Room := { frames := 2, cells := 0, slots := 0, locals := 81 }
set_option maxRecDepth 20000 in
set_option maxHeartbeats 4000000 in
theorem tm_X9_copy {x : Ctx} {Λ : Lay} (C : Cx x cX9_copy 2 none RX9 Λ rm_X9_copy) (N : Nat) (μ : Mem) (v0 : Nat) (v1 : Nat) (hv0 : inL Λ v0 8) (hv1 : inL Λ v1 8) {r : Mem} (hm : m_X9_copy N Λ μ v0 v1 = some r) : J x 2 Λ (QV x Λ r) 0 [(0, .ref v0), (1, .ref v1)] [] μ := by
  refine j_aload_n C 0 dX9_copy_0 rfl ?_
  refine j_aload_n C 1 dX9_copy_1 rfl ?_
  refine j_getI C fg_X9_9_8 hv1 dX9_copy_2 ?_
  obtain ⟨μ1, e2, hm⟩ := lt_some hm
  refine j_putI C fp_X9_9_8 hv0 e2 dX9_copy_5 ?_
  refine j_aload_n C 0 dX9_copy_8 rfl ?_
  refine j_aload_n C 1 dX9_copy_9 rfl ?_
  refine j_getI C fg_X9_54_8 hv1 dX9_copy_10 ?_
  obtain ⟨μ3, e4, hm⟩ := lt_some hm
  refine j_putI C fp_X9_54_8 hv0 e4 dX9_copy_13 ?_
  refine j_aload_n C 0 dX9_copy_16 rfl ?_
  refine j_aload_n C 1 dX9_copy_17 rfl ?_
  refine j_getI C fg_X9_15_8 hv1 dX9_copy_18 ?_
  obtain ⟨μ5, e6, hm⟩ := lt_some hm
  refine j_putI C fp_X9_15_8 hv0 e6 dX9_copy_21 ?_
  refine j_aload_n C 0 dX9_copy_24 rfl ?_
  refine j_aload_n C 1 dX9_copy_25 rfl ?_
  refine j_getI C fg_X9_18_8 hv1 dX9_copy_26 ?_
  obtain ⟨μ7, e8, hm⟩ := lt_some hm
  refine j_putI C fp_X9_18_8 hv0 e8 dX9_copy_29 ?_
  refine j_aload_n C 0 dX9_copy_32 rfl ?_
  refine j_aload_n C 1 dX9_copy_33 rfl ?_
  refine j_getI C fg_X9_57_8 hv1 dX9_copy_34 ?_
  obtain ⟨μ9, e10, hm⟩ := lt_some hm
  refine j_putI C fp_X9_57_8 hv0 e10 dX9_copy_37 ?_
  refine j_aload_n C 0 dX9_copy_40 rfl ?_
  refine j_aload_n C 1 dX9_copy_41 rfl ?_
  refine j_getI C fg_X9_60_8 hv1 dX9_copy_42 ?_
  obtain ⟨μ11, e12, hm⟩ := lt_some hm
  refine j_putI C fp_X9_60_8 hv0 e12 dX9_copy_45 ?_
  refine j_aload_n C 0 dX9_copy_48 rfl ?_
  refine j_aload_n C 1 dX9_copy_49 rfl ?_
  refine j_getI C fg_X9_21_8 hv1 dX9_copy_50 ?_
  obtain ⟨μ13, e14, hm⟩ := lt_some hm
  refine j_putI C fp_X9_21_8 hv0 e14 dX9_copy_53 ?_
  refine j_aload_n C 0 dX9_copy_56 rfl ?_
  refine j_aload_n C 1 dX9_copy_57 rfl ?_
  refine j_getI C fg_X9_63_8 hv1 dX9_copy_58 ?_
  obtain ⟨μ15, e16, hm⟩ := lt_some hm
  refine j_putI C fp_X9_63_8 hv0 e16 dX9_copy_61 ?_
  refine j_aload_n C 0 dX9_copy_64 rfl ?_
  refine j_aload_n C 1 dX9_copy_65 rfl ?_
  refine j_getI C fg_X9_66_8 hv1 dX9_copy_66 ?_
  obtain ⟨μ17, e18, hm⟩ := lt_some hm
  refine j_putI C fp_X9_66_8 hv0 e18 dX9_copy_69 ?_
  refine j_aload_n C 0 dX9_copy_72 rfl ?_
  refine j_aload_n C 1 dX9_copy_73 rfl ?_
  refine j_getI C fg_X9_69_8 hv1 dX9_copy_74 ?_
  obtain ⟨μ19, e20, hm⟩ := lt_some hm
  refine j_putI C fp_X9_69_8 hv0 e20 dX9_copy_77 ?_
  refine j_aload_n C 0 dX9_copy_80 rfl ?_
  refine j_aload_n C 1 dX9_copy_81 rfl ?_
  refine j_getI C fg_X9_72_8 hv1 dX9_copy_82 ?_
  obtain ⟨μ21, e22, hm⟩ := lt_some hm
  refine j_putI C fp_X9_72_8 hv0 e22 dX9_copy_85 ?_
  refine j_aload_n C 0 dX9_copy_88 rfl ?_
  refine j_aload_n C 1 dX9_copy_89 rfl ?_
  refine j_getI C fg_X9_24_8 hv1 dX9_copy_90 ?_
  obtain ⟨h23, hm⟩ := gd_some hm
  obtain ⟨μ24, e25, hm⟩ := lt_some hm
  refine j_putZ C fp_X9_24_8 h23 hv0 e25 dX9_copy_93 ?_
  refine j_aload_n C 1 dX9_copy_96 rfl ?_
  obtain ⟨q26, h27, hm⟩ := bd_some hm
  refine j_getR C fg_X9_28_8 hv1 (dr_spec h27).1 dX9_copy_97 ?_
  refine j_iconst C (v := 0) dX9_copy_100 rfl ?_
  refine j_aload_n C 0 dX9_copy_101 rfl ?_
  obtain ⟨q28, h29, hm⟩ := bd_some hm
  refine j_getR C fg_X9_28_8 hv0 (dr_spec h29).1 dX9_copy_102 ?_
  refine j_iconst C (v := 0) dX9_copy_105 rfl ?_
  refine j_bipush C (v := 12) dX9_copy_106 rfl ?_
  obtain ⟨h30, hm⟩ := gd_some hm
  obtain ⟨μ31, e32, hm⟩ := lt_some hm
  refine j_acopy C wk_560 ⟨Nat.le_of_ble_eq_true rfl, Nat.le_of_ble_eq_true rfl⟩ ((dr_spec h27).2) ((dr_spec h29).2) h30 e32 dX9_copy_108 ?_
  refine j_aload_n C 1 dX9_copy_111 rfl ?_
  obtain ⟨q33, h34, hm⟩ := bd_some hm
  refine j_getR C fg_X9_32_8 hv1 (dr_spec h34).1 dX9_copy_112 ?_
  refine j_iconst C (v := 0) dX9_copy_115 rfl ?_
  refine j_aload_n C 0 dX9_copy_116 rfl ?_
  obtain ⟨q35, h36, hm⟩ := bd_some hm
  refine j_getR C fg_X9_32_8 hv0 (dr_spec h36).1 dX9_copy_117 ?_
  refine j_iconst C (v := 0) dX9_copy_120 rfl ?_
  refine j_bipush C (v := 8) dX9_copy_121 rfl ?_
  obtain ⟨h37, hm⟩ := gd_some hm
  obtain ⟨μ38, e39, hm⟩ := lt_some hm
  refine j_acopy C wk_560 ⟨Nat.le_of_ble_eq_true rfl, Nat.le_of_ble_eq_true rfl⟩ ((dr_spec h34).2) ((dr_spec h36).2) h37 e39 dX9_copy_123 ?_
  refine j_aload_n C 1 dX9_copy_126 rfl ?_
  obtain ⟨q40, h41, hm⟩ := bd_some hm
  refine j_getR C fg_X9_35_8 hv1 (dr_spec h41).1 dX9_copy_127 ?_
  refine j_iconst C (v := 0) dX9_copy_130 rfl ?_
  refine j_aload_n C 0 dX9_copy_131 rfl ?_
  obtain ⟨q42, h43, hm⟩ := bd_some hm
  refine j_getR C fg_X9_35_8 hv0 (dr_spec h43).1 dX9_copy_132 ?_
  refine j_iconst C (v := 0) dX9_copy_135 rfl ?_
  refine j_bipush C (v := 8) dX9_copy_136 rfl ?_
  obtain ⟨h44, hm⟩ := gd_some hm
  obtain ⟨μ45, e46, hm⟩ := lt_some hm
  refine j_acopy C wk_560 ⟨Nat.le_of_ble_eq_true rfl, Nat.le_of_ble_eq_true rfl⟩ ((dr_spec h41).2) ((dr_spec h43).2) h44 e46 dX9_copy_138 ?_
  refine j_aload_n C 1 dX9_copy_141 rfl ?_
  obtain ⟨q47, h48, hm⟩ := bd_some hm
  refine j_getR C fg_X9_38_8 hv1 (dr_spec h48).1 dX9_copy_142 ?_
  refine j_iconst C (v := 0) dX9_copy_145 rfl ?_
  refine j_aload_n C 0 dX9_copy_146 rfl ?_
  obtain ⟨q49, h50, hm⟩ := bd_some hm
  refine j_getR C fg_X9_38_8 hv0 (dr_spec h50).1 dX9_copy_147 ?_
  refine j_iconst C (v := 0) dX9_copy_150 rfl ?_
  refine j_bipush C (v := 8) dX9_copy_151 rfl ?_
  obtain ⟨h51, hm⟩ := gd_some hm
  obtain ⟨μ52, e53, hm⟩ := lt_some hm
  refine j_acopy C wk_560 ⟨Nat.le_of_ble_eq_true rfl, Nat.le_of_ble_eq_true rfl⟩ ((dr_spec h48).2) ((dr_spec h50).2) h51 e53 dX9_copy_153 ?_
  refine j_aload_n C 1 dX9_copy_156 rfl ?_
  obtain ⟨q54, h55, hm⟩ := bd_some hm
  refine j_getR C fg_X9_41_8 hv1 (dr_spec h55).1 dX9_copy_157 ?_
  refine j_iconst C (v := 0) dX9_copy_160 rfl ?_
  refine j_aload_n C 0 dX9_copy_161 rfl ?_
  obtain ⟨q56, h57, hm⟩ := bd_some hm
  refine j_getR C fg_X9_41_8 hv0 (dr_spec h57).1 dX9_copy_162 ?_
  refine j_iconst C (v := 0) dX9_copy_165 rfl ?_
  refine j_bipush C (v := 8) dX9_copy_166 rfl ?_
  obtain ⟨h58, hm⟩ := gd_some hm
  obtain ⟨μ59, e60, hm⟩ := lt_some hm
  refine j_acopy C wk_560 ⟨Nat.le_of_ble_eq_true rfl, Nat.le_of_ble_eq_true rfl⟩ ((dr_spec h55).2) ((dr_spec h57).2) h58 e60 dX9_copy_168 ?_
  refine j_aload_n C 1 dX9_copy_171 rfl ?_
  obtain ⟨q61, h62, hm⟩ := bd_some hm
  refine j_getR C fg_X9_44_8 hv1 (dr_spec h62).1 dX9_copy_172 ?_
  refine j_iconst C (v := 0) dX9_copy_175 rfl ?_
  refine j_aload_n C 0 dX9_copy_176 rfl ?_
  obtain ⟨q63, h64, hm⟩ := bd_some hm
  refine j_getR C fg_X9_44_8 hv0 (dr_spec h64).1 dX9_copy_177 ?_
  refine j_iconst C (v := 0) dX9_copy_180 rfl ?_
  refine j_bipush C (v := 8) dX9_copy_181 rfl ?_
  obtain ⟨h65, hm⟩ := gd_some hm
  obtain ⟨μ66, e67, hm⟩ := lt_some hm
  refine j_acopy C wk_560 ⟨Nat.le_of_ble_eq_true rfl, Nat.le_of_ble_eq_true rfl⟩ ((dr_spec h62).2) ((dr_spec h64).2) h65 e67 dX9_copy_183 ?_
  refine j_aload_n C 0 dX9_copy_186 rfl ?_
  obtain ⟨q68, h69, hm⟩ := bd_some hm
  refine j_getR C fg_X9_50_8 hv0 (dr_spec h69).1 dX9_copy_187 ?_
  refine j_aload_n C 1 dX9_copy_190 rfl ?_
  obtain ⟨q70, h71, hm⟩ := bd_some hm
  refine j_getR C fg_X9_50_8 hv1 (dr_spec h71).1 dX9_copy_191 ?_
  obtain ⟨r72, h73, hm⟩ := bd_some hm
  refine call_V (run_LV C lk_X9_81 ⟨rfl, rfl, Nat.le_of_ble_eq_true rfl, Nat.le_of_ble_eq_true rfl⟩ (As := [.ref q70]) ((dr_spec h69).2) rfl rfl (Nat.le_of_ble_eq_true rfl) dX9_copy_194 (mc_X4_copy _ _ _ _ _ _ ((dr_spec h69).2) ((dr_spec h71).2) h73)) ?_
  obtain rfl := Option.some.inj hm
  exact j_vret C dX9_copy_197
set_option maxRecDepth 20000 in
set_option maxHeartbeats 4000000 in
theorem mc_X9_copy (l : Launch) (N : Nat) (Λ : Lay) (μ : Mem) (v0 : Nat) (v1 : Nat) (hv0 : inL Λ v0 8) (hv1 : inL Λ v1 8) {r : Mem} (hm : m_X9_copy N Λ μ v0 v1 = some r) : MV l yX9_copy cX9_copy 2 rm_X9_copy Λ [.ref v0, .ref v1] μ r := mv_of rfl (Nat.le_of_ble_eq_true rfl) (fun x C _ => tm_X9_copy C _ _ _ _ hv0 hv1 hm)
abbrev rm_X9_feeOf : Room := { frames := 3, cells := 0, slots := 0, locals := 77 }
set_option maxRecDepth 20000 in
set_option maxHeartbeats 4000000 in
theorem tm_X9_feeOf {x : Ctx} {Λ : Lay} (C : Cx x cX9_feeOf 3 (some .int) RX9 Λ rm_X9_feeOf) (N : Nat) (μ : Mem) (v0 : Nat) (v1 : Int32) (v2 : Nat) (hv0 : inL Λ v0 8) (hv2 : inL Λ v2 2) {r : Int32 × Mem} (hm : m_X9_feeOf N Λ μ v0 v1 v2 = some r) : J x 3 Λ (QI x Λ r.1 r.2) 0 [(0, .ref v0), (1, .int v1), (2, .ref v2)] [] μ := by
  refine j_iconst C (v := 3) dX9_feeOf_0 rfl ?_
  refine j_aload_n C 0 dX9_feeOf_1 rfl ?_
  obtain ⟨q1, h2, hm⟩ := bd_some hm
  refine j_getR C fg_X9_32_8 hv0 (dr_spec h2).1 dX9_feeOf_2 ?_
  refine j_iload_n C 1 dX9_feeOf_5 rfl ?_
  obtain ⟨h3, hm⟩ := gd_some hm
  refine j_iald C ((dr_spec h2).2) h3 dX9_feeOf_6 ?_
  refine j_imul C dX9_feeOf_7 ?_
  refine j_aload_n C 2 dX9_feeOf_8 rfl ?_
  refine j_iconst C (v := 2) dX9_feeOf_9 rfl ?_
  refine j_aload_n C 0 dX9_feeOf_10 rfl ?_
  refine j_iload_n C 1 dX9_feeOf_11 rfl ?_
  obtain ⟨r4, h5, hm⟩ := bd_some hm
  refine call_I (run_LV C lk_X9_95 ⟨rfl, rfl, Nat.le_of_ble_eq_true rfl, Nat.le_of_ble_eq_true rfl⟩ (As := [.int 2, .ref v0, .int v1]) hv2 rfl rfl (Nat.le_of_ble_eq_true rfl) dX9_feeOf_12 (mc_X2_sumOf _ _ _ _ _ _ _ _ hv2 hv0 h5)) ?_
  refine j_iadd C dX9_feeOf_15 ?_
  obtain rfl := Option.some.inj hm
  exact j_ireti C dX9_feeOf_16
set_option maxRecDepth 20000 in
set_option maxHeartbeats 4000000 in
theorem mc_X9_feeOf (l : Launch) (N : Nat) (Λ : Lay) (μ : Mem) (v0 : Nat) (v1 : Int32) (v2 : Nat) (hv0 : inL Λ v0 8) (hv2 : inL Λ v2 2) {r : Int32 × Mem} (hm : m_X9_feeOf N Λ μ v0 v1 v2 = some r) : MI l yX9_feeOf cX9_feeOf 3 (some .int) rm_X9_feeOf Λ [.ref v0, .int v1, .ref v2] μ r.1 r.2 := mi_of rfl (Nat.le_of_ble_eq_true rfl) (fun x C _ => tm_X9_feeOf C _ _ _ _ _ hv0 hv2 hm)
abbrev rm_X9_busyDocked : Room := { frames := 0, cells := 0, slots := 0, locals := 0 }
set_option maxRecDepth 20000 in
set_option maxHeartbeats 4000000 in
theorem tj_X9_busyDocked_39 {x : Ctx} {Λ : Lay} (C : Cx x cX9_busyDocked 3 (some .int) RX9 Λ rm_X9_busyDocked) (N : Nat) (μ : Mem) (k4 : Int32 × Int32 → Option (Int32)) (v0 : Nat) (v2 : Int32) (s0 : Int32) (s1 : Int32) (hk4 : ∀ (s : Int32 × Int32) (r : Int32), k4 s = some r → J x 3 Λ (QI x Λ r μ) 4 [(0, .ref v0), (1, .int s.1), (2, .int s.2)] [] (μ)) (hv0 : inL Λ v0 8) {r : Int32} (hm : jn_X9_busyDocked_39 N Λ μ k4 v0 v2 s0 s1 = some r) : J x 3 Λ (QI x Λ r μ) 39 [(0, .ref v0), (2, .int v2)] [.int s1, .int s0] μ := by
  refine j_ior C dX9_busyDocked_39 ?_
  obtain ⟨y1, e2, hm⟩ := lt_some hm
  refine j_topi e2 ?_
  refine j_istore_n C (lv' := [(1, .int y1), (0, .ref v0), (2, .int v2)]) dX9_busyDocked_40 (by decide) rfl ?_
  obtain ⟨y3, e4, hm⟩ := lt_some hm
  refine j_iinc C 2 (v := y3) (lv' := [(2, .int y3), (1, .int y1), (0, .ref v0)]) dX9_busyDocked_41 rfl (by rw [e4]; rfl) (by decide) rfl ?_
  refine j_goto C (tgt := 4) dX9_busyDocked_44 (by decide) ?_
  refine j_sub [2, 1, 0] rfl ?_
  exact hk4 (y1, y3) _ hm
set_option maxRecDepth 20000 in
set_option maxHeartbeats 4000000 in
theorem tj_X9_busyDocked_38 {x : Ctx} {Λ : Lay} (C : Cx x cX9_busyDocked 3 (some .int) RX9 Λ rm_X9_busyDocked) (N : Nat) (μ : Mem) (k4 : Int32 × Int32 → Option (Int32)) (v0 : Nat) (v2 : Int32) (s0 : Int32) (hk4 : ∀ (s : Int32 × Int32) (r : Int32), k4 s = some r → J x 3 Λ (QI x Λ r μ) 4 [(0, .ref v0), (1, .int s.1), (2, .int s.2)] [] (μ)) (hv0 : inL Λ v0 8) {r : Int32} (hm : jn_X9_busyDocked_38 N Λ μ k4 v0 v2 s0 = some r) : J x 3 Λ (QI x Λ r μ) 38 [(0, .ref v0), (2, .int v2)] [.int s0] μ := by
  refine j_iconst C (v := 0) dX9_busyDocked_38 rfl ?_
  exact tj_X9_busyDocked_39 C _ _ _ _ _ _ _ hk4 hv0 hm
set_option maxRecDepth 20000 in
set_option maxHeartbeats 4000000 in
theorem tb_X9_busyDocked_4 {x : Ctx} {Λ : Lay} (C : Cx x cX9_busyDocked 3 (some .int) RX9 Λ rm_X9_busyDocked) (N : Nat) (μ : Mem) (k4 : Int32 × Int32 → Option (Int32)) (v0 : Nat) (v1 : Int32) (v2 : Int32) (hk4 : ∀ (s : Int32 × Int32) (r : Int32), k4 s = some r → J x 3 Λ (QI x Λ r μ) 4 [(0, .ref v0), (1, .int s.1), (2, .int s.2)] [] (μ)) (hv0 : inL Λ v0 8) {r : Int32} (hm : bd_X9_busyDocked_4 N Λ μ k4 v0 v1 v2 = some r) : J x 3 Λ (QI x Λ r μ) 4 [(0, .ref v0), (1, .int v1), (2, .int v2)] [] μ := by
  refine j_iload_n C 2 dX9_busyDocked_4 rfl ?_
  refine j_aload_n C 0 dX9_busyDocked_5 rfl ?_
  refine j_getI C fg_X9_66_8 hv0 dX9_busyDocked_6 ?_
  refine j_icmp_ge C (tgt := 47) dX9_busyDocked_9 (by decide) (fun h1 => ?_) (fun h1 => ?_)
  · replace hm := if_t hm h1
    refine j_iload_n C 1 dX9_busyDocked_47 rfl ?_
    obtain rfl := Option.some.inj hm
    exact j_ireti C dX9_busyDocked_48
  · replace hm := if_f hm h1
    refine j_iload_n C 1 dX9_busyDocked_12 rfl ?_
    refine j_aload_n C 0 dX9_busyDocked_13 rfl ?_
    obtain ⟨q2, h3, hm⟩ := bd_some hm
    refine j_getR C fg_X9_41_8 hv0 (dr_spec h3).1 dX9_busyDocked_14 ?_
    refine j_iload_n C 2 dX9_busyDocked_17 rfl ?_
    obtain ⟨h4, hm⟩ := gd_some hm
    refine j_iald C ((dr_spec h3).2) h4 dX9_busyDocked_18 ?_
    refine j_iconst C (v := 1) dX9_busyDocked_19 rfl ?_
    refine j_icmp_ne C (tgt := 38) dX9_busyDocked_20 (by decide) (fun h5 => ?_) (fun h5 => ?_)
    · replace hm := if_f hm h5
      refine j_sub [0, 2] rfl ?_
      exact tj_X9_busyDocked_38 C _ _ _ _ _ _ hk4 hv0 hm
    · replace hm := if_t hm h5
      refine j_aload_n C 0 dX9_busyDocked_23 rfl ?_
      obtain ⟨q6, h7, hm⟩ := bd_some hm
      refine j_getR C fg_X9_38_8 hv0 (dr_spec h7).1 dX9_busyDocked_24 ?_
      refine j_iload_n C 2 dX9_busyDocked_27 rfl ?_
      obtain ⟨h8, hm⟩ := gd_some hm
      refine j_iald C ((dr_spec h7).2) h8 dX9_busyDocked_28 ?_
      refine j_if_le C (tgt := 38) dX9_busyDocked_29 (by decide) (fun h9 => ?_) (fun h9 => ?_)
      · replace hm := if_t hm h9
        refine j_sub [0, 2] rfl ?_
        exact tj_X9_busyDocked_38 C _ _ _ _ _ _ hk4 hv0 hm
      · replace hm := if_f hm h9
        refine j_iconst C (v := 1) dX9_busyDocked_32 rfl ?_
        refine j_iload_n C 2 dX9_busyDocked_33 rfl ?_
        refine j_ishl C dX9_busyDocked_34 ?_
        refine j_goto C (tgt := 39) dX9_busyDocked_35 (by decide) ?_
        refine j_sub [0, 2] rfl ?_
        exact tj_X9_busyDocked_39 C _ _ _ _ _ _ _ hk4 hv0 hm
set_option maxRecDepth 20000 in
set_option maxHeartbeats 4000000 in
theorem tl_X9_busyDocked_4 {x : Ctx} {Λ : Lay} (C : Cx x cX9_busyDocked 3 (some .int) RX9 Λ rm_X9_busyDocked) (N : Nat) (μ : Mem) (v0 : Nat) (hv0 : inL Λ v0 8) (s : Int32 × Int32) {r : Int32} (hm : lp_X9_busyDocked_4 N Λ μ v0 s = some r) : J x 3 Λ (QI x Λ r μ) 4 [(0, .ref v0), (1, .int s.1), (2, .int s.2)] [] (μ) :=
  cw_ind (P := fun s r => J x 3 Λ (QI x Λ r μ) 4 [(0, .ref v0), (1, .int s.1), (2, .int s.2)] [] (μ)) (fun k hkk s r e => tb_X9_busyDocked_4 C _ _ _ _ _ _ hkk hv0 e) N s r hm
set_option maxRecDepth 20000 in
set_option maxHeartbeats 4000000 in
theorem tm_X9_busyDocked {x : Ctx} {Λ : Lay} (C : Cx x cX9_busyDocked 3 (some .int) RX9 Λ rm_X9_busyDocked) (N : Nat) (μ : Mem) (v0 : Nat) (hv0 : inL Λ v0 8) {r : Int32} (hm : m_X9_busyDocked N Λ μ v0 = some r) : J x 3 Λ (QI x Λ r μ) 0 [(0, .ref v0)] [] μ := by
  refine j_iconst C (v := 0) dX9_busyDocked_0 rfl ?_
  refine j_istore_n C (lv' := [(1, .int 0), (0, .ref v0)]) dX9_busyDocked_1 (by decide) rfl ?_
  refine j_iconst C (v := 0) dX9_busyDocked_2 rfl ?_
  refine j_istore_n C (lv' := [(2, .int 0), (1, .int 0), (0, .ref v0)]) dX9_busyDocked_3 (by decide) rfl ?_
  refine j_sub [2, 1, 0] rfl ?_
  exact tl_X9_busyDocked_4 C _ _ _ hv0 (0, 0) hm
set_option maxRecDepth 20000 in
set_option maxHeartbeats 4000000 in
theorem mc_X9_busyDocked (l : Launch) (N : Nat) (Λ : Lay) (μ : Mem) (v0 : Nat) (hv0 : inL Λ v0 8) {r : Int32} (hm : m_X9_busyDocked N Λ μ v0 = some r) : MI l yX9_busyDocked cX9_busyDocked 3 (some .int) rm_X9_busyDocked Λ [.ref v0] μ r μ := mi_of rfl (Nat.le_of_ble_eq_true rfl) (fun x C _ => tm_X9_busyDocked C _ _ _ hv0 hm)
abbrev rm_X9_tideNow : Room := { frames := 0, cells := 0, slots := 0, locals := 0 }
set_option maxRecDepth 20000 in
set_option maxHeartbeats 4000000 in
theorem tm_X9_tideNow {x : Ctx} {Λ : Lay} (C : Cx x cX9_tideNow 1 (some .int) RX9 Λ rm_X9_tideNow) (N : Nat) (μ : Mem) (v0 : Nat) (hv0 : inL Λ v0 8) {r : Int32} (hm : m_X9_tideNow N Λ μ v0 = some r) : J x 1 Λ (QI x Λ r μ) 0 [(0, .ref v0)] [] μ := by
  refine j_aload_n C 0 dX9_tideNow_0 rfl ?_
  obtain ⟨q1, h2, hm⟩ := bd_some hm
  refine j_getR C fg_X9_28_8 hv0 (dr_spec h2).1 dX9_tideNow_1 ?_
  refine j_aload_n C 0 dX9_tideNow_4 rfl ?_
  refine j_getI C fg_X9_54_8 hv0 dX9_tideNow_5 ?_
  refine j_bipush C (v := 12) dX9_tideNow_8 rfl ?_
  refine j_irem C dX9_tideNow_10 (by decide) ?_
  obtain ⟨h3, hm⟩ := gd_some hm
  refine j_iald C ((dr_spec h2).2) h3 dX9_tideNow_11 ?_
  obtain rfl := Option.some.inj hm
  exact j_ireti C dX9_tideNow_12
set_option maxRecDepth 20000 in
set_option maxHeartbeats 4000000 in
theorem mc_X9_tideNow (l : Launch) (N : Nat) (Λ : Lay) (μ : Mem) (v0 : Nat) (hv0 : inL Λ v0 8) {r : Int32} (hm : m_X9_tideNow N Λ μ v0 = some r) : MI l yX9_tideNow cX9_tideNow 1 (some .int) rm_X9_tideNow Λ [.ref v0] μ r μ := mi_of rfl (Nat.le_of_ble_eq_true rfl) (fun x C _ => tm_X9_tideNow C _ _ _ hv0 hm)
abbrev rm_X9_isEven : Room := { frames := 1, cells := 0, slots := 0, locals := 60 }
set_option maxRecDepth 20000 in
set_option maxHeartbeats 4000000 in
theorem tj_X9_isEven_21 {x : Ctx} {Λ : Lay} (C : Cx x cX9_isEven 1 (some .boolean) RX9 Λ rm_X9_isEven) (N : Nat) (μ : Mem) (s0 : Int32) {r : Int32} (hm : jn_X9_isEven_21 N Λ μ s0 = some r) : J x 1 Λ (QI x Λ r μ) 21 [] [.int s0] μ := by
  obtain ⟨h1, hm⟩ := gd_some hm
  obtain rfl := Option.some.inj hm
  exact j_iretz C h1 dX9_isEven_21
set_option maxRecDepth 20000 in
set_option maxHeartbeats 4000000 in
theorem tm_X9_isEven {x : Ctx} {Λ : Lay} (C : Cx x cX9_isEven 1 (some .boolean) RX9 Λ rm_X9_isEven) (N : Nat) (μ : Mem) (v0 : Nat) (hv0 : inL Λ v0 8) {r : Int32} (hm : m_X9_isEven N Λ μ v0 = some r) : J x 1 Λ (QI x Λ r μ) 0 [(0, .ref v0)] [] μ := by
  refine j_aload_n C 0 dX9_isEven_0 rfl ?_
  refine j_getI C fg_X9_9_8 hv0 dX9_isEven_1 ?_
  refine j_aload_n C 0 dX9_isEven_4 rfl ?_
  obtain ⟨r1, h2, hm⟩ := bd_some hm
  refine call_I (run_LV C lk_X9_85 ⟨rfl, rfl, Nat.le_of_ble_eq_true rfl, Nat.le_of_ble_eq_true rfl⟩ (As := []) hv0 rfl rfl (Nat.le_of_ble_eq_true rfl) dX9_isEven_5 (mc_X9_tideNow _ _ _ _ _ hv0 h2)) ?_
  refine j_isub C dX9_isEven_8 ?_
  refine j_mabs C wk_490 ⟨Nat.le_of_ble_eq_true rfl, Nat.le_of_ble_eq_true rfl⟩ dX9_isEven_9 ?_
  refine j_iconst C (v := 1) dX9_isEven_12 rfl ?_
  refine j_icmp_gt C (tgt := 20) dX9_isEven_13 (by decide) (fun h3 => ?_) (fun h3 => ?_)
  · replace hm := if_t hm h3
    refine j_iconst C (v := 0) dX9_isEven_20 rfl ?_
    refine j_sub [] rfl ?_
    exact tj_X9_isEven_21 C _ _ _  hm
  · replace hm := if_f hm h3
    refine j_iconst C (v := 1) dX9_isEven_16 rfl ?_
    refine j_goto C (tgt := 21) dX9_isEven_17 (by decide) ?_
    refine j_sub [] rfl ?_
    exact tj_X9_isEven_21 C _ _ _  hm
set_option maxRecDepth 20000 in
set_option maxHeartbeats 4000000 in
theorem mc_X9_isEven (l : Launch) (N : Nat) (Λ : Lay) (μ : Mem) (v0 : Nat) (hv0 : inL Λ v0 8) {r : Int32} (hm : m_X9_isEven N Λ μ v0 = some r) : MI l yX9_isEven cX9_isEven 1 (some .boolean) rm_X9_isEven Λ [.ref v0] μ r μ := mi_of rfl (Nat.le_of_ble_eq_true rfl) (fun x C _ => tm_X9_isEven C _ _ _ hv0 hm)
abbrev rm_X9_pulling : Room := { frames := 3, cells := 0, slots := 0, locals := 77 }
set_option maxRecDepth 20000 in
set_option maxHeartbeats 4000000 in
theorem tm_X9_pulling {x : Ctx} {Λ : Lay} (C : Cx x cX9_pulling 2 (some .int) RX9 Λ rm_X9_pulling) (N : Nat) (μ : Mem) (v0 : Nat) (v1 : Nat) (hv0 : inL Λ v0 8) (hv1 : inL Λ v1 2) {r : Int32 × Mem} (hm : m_X9_pulling N Λ μ v0 v1 = some r) : J x 2 Λ (QI x Λ r.1 r.2) 0 [(0, .ref v0), (1, .ref v1)] [] μ := by
  refine j_aload_n C 0 dX9_pulling_0 rfl ?_
  refine j_getI C fg_X9_15_8 hv0 dX9_pulling_1 ?_
  refine j_aload_n C 1 dX9_pulling_4 rfl ?_
  refine j_iconst C (v := 0) dX9_pulling_5 rfl ?_
  refine j_aload_n C 0 dX9_pulling_6 rfl ?_
  refine j_iconst C (v := -1) dX9_pulling_7 rfl ?_
  obtain ⟨r1, h2, hm⟩ := bd_some hm
  refine call_I (run_LV C lk_X9_95 ⟨rfl, rfl, Nat.le_of_ble_eq_true rfl, Nat.le_of_ble_eq_true rfl⟩ (As := [.int 0, .ref v0, .int (-1)]) hv1 rfl rfl (Nat.le_of_ble_eq_true rfl) dX9_pulling_8 (mc_X2_sumOf _ _ _ _ _ _ _ _ hv1 hv0 h2)) ?_
  refine j_iadd C dX9_pulling_11 ?_
  obtain rfl := Option.some.inj hm
  exact j_ireti C dX9_pulling_12
set_option maxRecDepth 20000 in
set_option maxHeartbeats 4000000 in
theorem mc_X9_pulling (l : Launch) (N : Nat) (Λ : Lay) (μ : Mem) (v0 : Nat) (v1 : Nat) (hv0 : inL Λ v0 8) (hv1 : inL Λ v1 2) {r : Int32 × Mem} (hm : m_X9_pulling N Λ μ v0 v1 = some r) : MI l yX9_pulling cX9_pulling 2 (some .int) rm_X9_pulling Λ [.ref v0, .ref v1] μ r.1 r.2 := mi_of rfl (Nat.le_of_ble_eq_true rfl) (fun x C _ => tm_X9_pulling C _ _ _ _ hv0 hv1 hm)
abbrev rm_X9_leaking : Room := { frames := 3, cells := 0, slots := 0, locals := 77 }
set_option maxRecDepth 20000 in
set_option maxHeartbeats 4000000 in
theorem tj_X9_leaking_16 {x : Ctx} {Λ : Lay} (C : Cx x cX9_leaking 2 (some .int) RX9 Λ rm_X9_leaking) (N : Nat) (μ : Mem) (v0 : Nat) (v1 : Nat) (s0 : Int32) (hv0 : inL Λ v0 8) (hv1 : inL Λ v1 2) {r : Int32 × Mem} (hm : jn_X9_leaking_16 N Λ μ v0 v1 s0 = some r) : J x 2 Λ (QI x Λ r.1 r.2) 16 [(0, .ref v0), (1, .ref v1)] [.int s0] μ := by
  refine j_aload_n C 1 dX9_leaking_16 rfl ?_
  refine j_iconst C (v := 1) dX9_leaking_17 rfl ?_
  refine j_aload_n C 0 dX9_leaking_18 rfl ?_
  refine j_iconst C (v := -1) dX9_leaking_19 rfl ?_
  obtain ⟨r1, h2, hm⟩ := bd_some hm
  refine call_I (run_LV C lk_X9_95 ⟨rfl, rfl, Nat.le_of_ble_eq_true rfl, Nat.le_of_ble_eq_true rfl⟩ (As := [.int 1, .ref v0, .int (-1)]) hv1 rfl rfl (Nat.le_of_ble_eq_true rfl) dX9_leaking_20 (mc_X2_sumOf _ _ _ _ _ _ _ _ hv1 hv0 h2)) ?_
  refine j_iadd C dX9_leaking_23 ?_
  obtain rfl := Option.some.inj hm
  exact j_ireti C dX9_leaking_24
set_option maxRecDepth 20000 in
set_option maxHeartbeats 4000000 in
theorem tm_X9_leaking {x : Ctx} {Λ : Lay} (C : Cx x cX9_leaking 2 (some .int) RX9 Λ rm_X9_leaking) (N : Nat) (μ : Mem) (v0 : Nat) (v1 : Nat) (hv0 : inL Λ v0 8) (hv1 : inL Λ v1 2) {r : Int32 × Mem} (hm : m_X9_leaking N Λ μ v0 v1 = some r) : J x 2 Λ (QI x Λ r.1 r.2) 0 [(0, .ref v0), (1, .ref v1)] [] μ := by
  refine j_aload_n C 0 dX9_leaking_0 rfl ?_
  obtain ⟨r1, h2, hm⟩ := bd_some hm
  refine call_I (run_LV C lk_X9_85 ⟨rfl, rfl, Nat.le_of_ble_eq_true rfl, Nat.le_of_ble_eq_true rfl⟩ (As := []) hv0 rfl rfl (Nat.le_of_ble_eq_true rfl) dX9_leaking_1 (mc_X9_tideNow _ _ _ _ _ hv0 h2)) ?_
  refine j_aload_n C 0 dX9_leaking_4 rfl ?_
  refine j_getI C fg_X9_9_8 hv0 dX9_leaking_5 ?_
  refine j_icmp_le C (tgt := 15) dX9_leaking_8 (by decide) (fun h3 => ?_) (fun h3 => ?_)
  · replace hm := if_t hm h3
    refine j_iconst C (v := 0) dX9_leaking_15 rfl ?_
    exact tj_X9_leaking_16 C _ _ _ _ _ hv0 hv1 hm
  · replace hm := if_f hm h3
    refine j_iconst C (v := 1) dX9_leaking_11 rfl ?_
    refine j_goto C (tgt := 16) dX9_leaking_12 (by decide) ?_
    exact tj_X9_leaking_16 C _ _ _ _ _ hv0 hv1 hm
set_option maxRecDepth 20000 in
set_option maxHeartbeats 4000000 in
theorem mc_X9_leaking (l : Launch) (N : Nat) (Λ : Lay) (μ : Mem) (v0 : Nat) (v1 : Nat) (hv0 : inL Λ v0 8) (hv1 : inL Λ v1 2) {r : Int32 × Mem} (hm : m_X9_leaking N Λ μ v0 v1 = some r) : MI l yX9_leaking cX9_leaking 2 (some .int) rm_X9_leaking Λ [.ref v0, .ref v1] μ r.1 r.2 := mi_of rfl (Nat.le_of_ble_eq_true rfl) (fun x C _ => tm_X9_leaking C _ _ _ _ hv0 hv1 hm)
abbrev rm_X9_nextSurge : Room := { frames := 0, cells := 0, slots := 0, locals := 0 }
set_option maxRecDepth 20000 in
set_option maxHeartbeats 4000000 in
theorem tj_X9_nextSurge_46 {x : Ctx} {Λ : Lay} (C : Cx x cX9_nextSurge 2 (some .int) RX9 Λ rm_X9_nextSurge) (N : Nat) (μ : Mem) (s0 : Int32) {r : Int32 × Mem} (hm : jn_X9_nextSurge_46 N Λ μ s0 = some r) : J x 2 Λ (QI x Λ r.1 r.2) 46 [] [.int s0] μ := by
  obtain rfl := Option.some.inj hm
  exact j_ireti C dX9_nextSurge_46
set_option maxRecDepth 20000 in
set_option maxHeartbeats 4000000 in
theorem tm_X9_nextSurge {x : Ctx} {Λ : Lay} (C : Cx x cX9_nextSurge 2 (some .int) RX9 Λ rm_X9_nextSurge) (N : Nat) (μ : Mem) (v0 : Nat) (hv0 : inL Λ v0 8) {r : Int32 × Mem} (hm : m_X9_nextSurge N Λ μ v0 = some r) : J x 2 Λ (QI x Λ r.1 r.2) 0 [(0, .ref v0)] [] μ := by
  refine j_aload_n C 0 dX9_nextSurge_0 rfl ?_
  refine j_ldc C (v := 1103515245) wk_586 dX9_nextSurge_1 ?_
  refine j_aload_n C 0 dX9_nextSurge_3 rfl ?_
  refine j_getI C fg_X9_21_8 hv0 dX9_nextSurge_4 ?_
  refine j_imul C dX9_nextSurge_7 ?_
  refine j_sipush C (v := 12345) dX9_nextSurge_8 rfl ?_
  refine j_iadd C dX9_nextSurge_11 ?_
  obtain ⟨μ1, e2, hm⟩ := lt_some hm
  refine j_putI C fp_X9_21_8 hv0 e2 dX9_nextSurge_12 ?_
  refine j_aload_n C 0 dX9_nextSurge_15 rfl ?_
  refine j_getI C fg_X9_21_8 hv0 dX9_nextSurge_16 ?_
  refine j_bipush C (v := 16) dX9_nextSurge_19 rfl ?_
  refine j_iushr C dX9_nextSurge_21 ?_
  refine j_sipush C (v := 32767) dX9_nextSurge_22 rfl ?_
  refine j_iand C dX9_nextSurge_25 ?_
  obtain ⟨y3, e4, hm⟩ := lt_some hm
  refine j_topi e4 ?_
  refine j_istore_n C (lv' := [(1, .int y3), (0, .ref v0)]) dX9_nextSurge_26 (by decide) rfl ?_
  refine j_aload_n C 1 dX9_nextSurge_27 rfl ?_
  refine j_getI C fg_X9_57_8 hv0 dX9_nextSurge_28 ?_
  refine j_if_le C (tgt := 45) dX9_nextSurge_31 (by decide) (fun h5 => ?_) (fun h5 => ?_)
  · replace hm := if_t hm h5
    refine j_iconst C (v := 0) dX9_nextSurge_45 rfl ?_
    refine j_sub [] rfl ?_
    exact tj_X9_nextSurge_46 C _ _ _  hm
  · replace hm := if_f hm h5
    refine j_iload_n C 0 dX9_nextSurge_34 rfl ?_
    refine j_aload_n C 1 dX9_nextSurge_35 rfl ?_
    refine j_getI C fg_X9_57_8 hv0 dX9_nextSurge_36 ?_
    refine j_iconst C (v := 1) dX9_nextSurge_39 rfl ?_
    refine j_iadd C dX9_nextSurge_40 ?_
    obtain ⟨h6, hm⟩ := gd_some hm
    refine j_irem C dX9_nextSurge_41 (of_decide_eq_true h6) ?_
    refine j_goto C (tgt := 46) dX9_nextSurge_42 (by decide) ?_
    refine j_sub [] rfl ?_
    exact tj_X9_nextSurge_46 C _ _ _  hm
set_option maxRecDepth 20000 in
set_option maxHeartbeats 4000000 in
theorem mc_X9_nextSurge (l : Launch) (N : Nat) (Λ : Lay) (μ : Mem) (v0 : Nat) (hv0 : inL Λ v0 8) {r : Int32 × Mem} (hm : m_X9_nextSurge N Λ μ v0 = some r) : MI l yX9_nextSurge cX9_nextSurge 2 (some .int) rm_X9_nextSurge Λ [.ref v0] μ r.1 r.2 := mi_of rfl (Nat.le_of_ble_eq_true rfl) (fun x C _ => tm_X9_nextSurge C _ _ _ hv0 hm)
abbrev rm_X9_sits : Room := { frames := 0, cells := 0, slots := 0, locals := 0 }
set_option maxRecDepth 20000 in
set_option maxHeartbeats 4000000 in
theorem tj_X9_sits_28 {x : Ctx} {Λ : Lay} (C : Cx x cX9_sits 2 (some .boolean) RX9 Λ rm_X9_sits) (N : Nat) (μ : Mem) (s0 : Int32) {r : Int32} (hm : jn_X9_sits_28 N Λ μ s0 = some r) : J x 2 Λ (QI x Λ r μ) 28 [] [.int s0] μ := by
  obtain ⟨h1, hm⟩ := gd_some hm
  obtain rfl := Option.some.inj hm
  exact j_iretz C h1 dX9_sits_28
set_option maxRecDepth 20000 in
set_option maxHeartbeats 4000000 in
theorem tj_X9_sits_27 {x : Ctx} {Λ : Lay} (C : Cx x cX9_sits 2 (some .boolean) RX9 Λ rm_X9_sits) (N : Nat) (μ : Mem) {r : Int32} (hm : jn_X9_sits_27 N Λ μ = some r) : J x 2 Λ (QI x Λ r μ) 27 [] [] μ := by
  refine j_iconst C (v := 0) dX9_sits_27 rfl ?_
  exact tj_X9_sits_28 C _ _ _  hm
set_option maxRecDepth 20000 in
set_option maxHeartbeats 4000000 in
theorem tm_X9_sits {x : Ctx} {Λ : Lay} (C : Cx x cX9_sits 2 (some .boolean) RX9 Λ rm_X9_sits) (N : Nat) (μ : Mem) (v0 : Nat) (v1 : Int32) (hv0 : inL Λ v0 8) {r : Int32} (hm : m_X9_sits N Λ μ v0 v1 = some r) : J x 2 Λ (QI x Λ r μ) 0 [(0, .ref v0), (1, .int v1)] [] μ := by
  refine j_aload_n C 0 dX9_sits_0 rfl ?_
  obtain ⟨q1, h2, hm⟩ := bd_some hm
  refine j_getR C fg_X9_41_8 hv0 (dr_spec h2).1 dX9_sits_1 ?_
  refine j_iload_n C 1 dX9_sits_4 rfl ?_
  obtain ⟨h3, hm⟩ := gd_some hm
  refine j_iald C ((dr_spec h2).2) h3 dX9_sits_5 ?_
  refine j_iconst C (v := 1) dX9_sits_6 rfl ?_
  refine j_icmp_ne C (tgt := 27) dX9_sits_7 (by decide) (fun h4 => ?_) (fun h4 => ?_)
  · replace hm := if_f hm h4
    refine j_sub [] rfl ?_
    exact tj_X9_sits_27 C _ _  hm
  · replace hm := if_t hm h4
    refine j_aload_n C 0 dX9_sits_10 rfl ?_
    obtain ⟨q5, h6, hm⟩ := bd_some hm
    refine j_getR C fg_X9_35_8 hv0 (dr_spec h6).1 dX9_sits_11 ?_
    refine j_iload_n C 1 dX9_sits_14 rfl ?_
    obtain ⟨h7, hm⟩ := gd_some hm
    refine j_iald C ((dr_spec h6).2) h7 dX9_sits_15 ?_
    refine j_aload_n C 0 dX9_sits_16 rfl ?_
    refine j_getI C fg_X9_9_8 hv0 dX9_sits_17 ?_
    refine j_icmp_le C (tgt := 27) dX9_sits_20 (by decide) (fun h8 => ?_) (fun h8 => ?_)
    · replace hm := if_t hm h8
      refine j_sub [] rfl ?_
      exact tj_X9_sits_27 C _ _  hm
    · replace hm := if_f hm h8
      refine j_iconst C (v := 1) dX9_sits_23 rfl ?_
      refine j_goto C (tgt := 28) dX9_sits_24 (by decide) ?_
      refine j_sub [] rfl ?_
      exact tj_X9_sits_28 C _ _ _  hm
set_option maxRecDepth 20000 in
set_option maxHeartbeats 4000000 in
theorem mc_X9_sits (l : Launch) (N : Nat) (Λ : Lay) (μ : Mem) (v0 : Nat) (v1 : Int32) (hv0 : inL Λ v0 8) {r : Int32} (hm : m_X9_sits N Λ μ v0 v1 = some r) : MI l yX9_sits cX9_sits 2 (some .boolean) rm_X9_sits Λ [.ref v0, .int v1] μ r μ := mi_of rfl (Nat.le_of_ble_eq_true rfl) (fun x C _ => tm_X9_sits C _ _ _ _ hv0 hm)
abbrev rm_X9_isHurt : Room := { frames := 0, cells := 0, slots := 0, locals := 0 }
set_option maxRecDepth 20000 in
set_option maxHeartbeats 4000000 in
theorem tj_X9_isHurt_17 {x : Ctx} {Λ : Lay} (C : Cx x cX9_isHurt 2 (some .boolean) RX9 Λ rm_X9_isHurt) (N : Nat) (μ : Mem) (s0 : Int32) {r : Int32} (hm : jn_X9_isHurt_17 N Λ μ s0 = some r) : J x 2 Λ (QI x Λ r μ) 17 [] [.int s0] μ := by
  obtain ⟨h1, hm⟩ := gd_some hm
  obtain rfl := Option.some.inj hm
  exact j_iretz C h1 dX9_isHurt_17
set_option maxRecDepth 20000 in
set_option maxHeartbeats 4000000 in
theorem tm_X9_isHurt {x : Ctx} {Λ : Lay} (C : Cx x cX9_isHurt 2 (some .boolean) RX9 Λ rm_X9_isHurt) (N : Nat) (μ : Mem) (v0 : Nat) (v1 : Int32) (hv0 : inL Λ v0 8) {r : Int32} (hm : m_X9_isHurt N Λ μ v0 v1 = some r) : J x 2 Λ (QI x Λ r μ) 0 [(0, .ref v0), (1, .int v1)] [] μ := by
  refine j_aload_n C 0 dX9_isHurt_0 rfl ?_
  refine j_getI C fg_X9_72_8 hv0 dX9_isHurt_1 ?_
  refine j_iload_n C 1 dX9_isHurt_4 rfl ?_
  refine j_ishr C dX9_isHurt_5 ?_
  refine j_iconst C (v := 1) dX9_isHurt_6 rfl ?_
  refine j_iand C dX9_isHurt_7 ?_
  refine j_iconst C (v := 1) dX9_isHurt_8 rfl ?_
  refine j_icmp_ne C (tgt := 16) dX9_isHurt_9 (by decide) (fun h1 => ?_) (fun h1 => ?_)
  · replace hm := if_f hm h1
    refine j_iconst C (v := 0) dX9_isHurt_16 rfl ?_
    refine j_sub [] rfl ?_
    exact tj_X9_isHurt_17 C _ _ _  hm
  · replace hm := if_t hm h1
    refine j_iconst C (v := 1) dX9_isHurt_12 rfl ?_
    refine j_goto C (tgt := 17) dX9_isHurt_13 (by decide) ?_
    refine j_sub [] rfl ?_
    exact tj_X9_isHurt_17 C _ _ _  hm
set_option maxRecDepth 20000 in
set_option maxHeartbeats 4000000 in
theorem mc_X9_isHurt (l : Launch) (N : Nat) (Λ : Lay) (μ : Mem) (v0 : Nat) (v1 : Int32) (hv0 : inL Λ v0 8) {r : Int32} (hm : m_X9_isHurt N Λ μ v0 v1 = some r) : MI l yX9_isHurt cX9_isHurt 2 (some .boolean) rm_X9_isHurt Λ [.ref v0, .int v1] μ r μ := mi_of rfl (Nat.le_of_ble_eq_true rfl) (fun x C _ => tm_X9_isHurt C _ _ _ _ hv0 hm)
abbrev rm_X9_wedgesOf : Room := { frames := 1, cells := 0, slots := 0, locals := 21 }
set_option maxRecDepth 20000 in
set_option maxHeartbeats 4000000 in
theorem tj_X9_wedgesOf_50 {x : Ctx} {Λ : Lay} (C : Cx x cX9_wedgesOf 5 (some .int) RX9 Λ rm_X9_wedgesOf) (N : Nat) (μ : Mem) (s0 : Int32) {r : Int32} (hm : jn_X9_wedgesOf_50 N Λ μ s0 = some r) : J x 5 Λ (QI x Λ r μ) 50 [] [.int s0] μ := by
  obtain rfl := Option.some.inj hm
  exact j_ireti C dX9_wedgesOf_50
set_option maxRecDepth 20000 in
set_option maxHeartbeats 4000000 in
theorem tj_X9_wedgesOf_107 {x : Ctx} {Λ : Lay} (C : Cx x cX9_wedgesOf 5 (some .int) RX9 Λ rm_X9_wedgesOf) (N : Nat) (μ : Mem) (k58 : Int32 × Int32 × Int32 → Option (Int32)) (v0 : Nat) (v1 : Int32) (v2 : Int32) (v3 : Int32) (v4 : Int32) (hk58 : ∀ (s : Int32 × Int32 × Int32) (r : Int32), k58 s = some r → J x 5 Λ (QI x Λ r μ) 58 [(0, .ref v0), (1, .int v1), (2, .int s.1), (3, .int s.2.1), (4, .int s.2.2)] [] (μ)) (hv0 : inL Λ v0 8) {r : Int32} (hm : jn_X9_wedgesOf_107 N Λ μ k58 v0 v1 v2 v3 v4 = some r) : J x 5 Λ (QI x Λ r μ) 107 [(0, .ref v0), (1, .int v1), (2, .int v2), (3, .int v3), (4, .int v4)] [] μ := by
  obtain ⟨y1, e2, hm⟩ := lt_some hm
  refine j_iinc C 4 (v := y1) (lv' := [(4, .int y1), (0, .ref v0), (1, .int v1), (2, .int v2), (3, .int v3)]) dX9_wedgesOf_107 rfl (by rw [e2]; rfl) (by decide) rfl ?_
  refine j_goto C (tgt := 58) dX9_wedgesOf_110 (by decide) ?_
  refine j_sub [1, 2, 3, 4, 0] rfl ?_
  exact hk58 (v2, v3, y1) _ hm
set_option maxRecDepth 20000 in
set_option maxHeartbeats 4000000 in
theorem tj_X9_wedgesOf_96 {x : Ctx} {Λ : Lay} (C : Cx x cX9_wedgesOf 5 (some .int) RX9 Λ rm_X9_wedgesOf) (N : Nat) (μ : Mem) (k58 : Int32 × Int32 × Int32 → Option (Int32)) (v0 : Nat) (v1 : Int32) (v3 : Int32) (v4 : Int32) (s0 : Int32) (hk58 : ∀ (s : Int32 × Int32 × Int32) (r : Int32), k58 s = some r → J x 5 Λ (QI x Λ r μ) 58 [(0, .ref v0), (1, .int v1), (2, .int s.1), (3, .int s.2.1), (4, .int s.2.2)] [] (μ)) (hv0 : inL Λ v0 8) {r : Int32} (hm : jn_X9_wedgesOf_96 N Λ μ k58 v0 v1 v3 v4 s0 = some r) : J x 5 Λ (QI x Λ r μ) 96 [(0, .ref v0), (1, .int v1), (3, .int v3), (4, .int v4)] [.int s0] μ := by
  refine j_istore_n C (lv' := [(2, .int s0), (0, .ref v0), (1, .int v1), (3, .int v3), (4, .int v4)]) dX9_wedgesOf_96 (by decide) rfl ?_
  refine j_iload_n C 0 dX9_wedgesOf_97 rfl ?_
  refine j_iconst C (v := 3) dX9_wedgesOf_98 rfl ?_
  refine j_icmp_ne C (tgt := 107) dX9_wedgesOf_99 (by decide) (fun h1 => ?_) (fun h1 => ?_)
  · replace hm := if_f hm h1
    refine j_sub [1, 2, 0, 3, 4] rfl ?_
    exact tj_X9_wedgesOf_107 C _ _ _ _ _ _ _ _ hk58 hv0 hm
  · replace hm := if_t hm h1
    obtain ⟨y2, e3, hm⟩ := lt_some hm
    refine j_iinc C 3 (v := y2) (lv' := [(3, .int y2), (2, .int s0), (0, .ref v0), (1, .int v1), (4, .int v4)]) dX9_wedgesOf_102 rfl (by rw [e3]; rfl) (by decide) rfl ?_
    refine j_iconst C (v := 0) dX9_wedgesOf_105 rfl ?_
    refine j_istore_n C (lv' := [(2, .int 0), (3, .int y2), (0, .ref v0), (1, .int v1), (4, .int v4)]) dX9_wedgesOf_106 (by decide) rfl ?_
    refine j_sub [2, 3, 0, 1, 4] rfl ?_
    exact tj_X9_wedgesOf_107 C _ _ _ _ _ _ _ _ hk58 hv0 hm
set_option maxRecDepth 20000 in
set_option maxHeartbeats 4000000 in
theorem tb_X9_wedgesOf_58 {x : Ctx} {Λ : Lay} (C : Cx x cX9_wedgesOf 5 (some .int) RX9 Λ rm_X9_wedgesOf) (N : Nat) (μ : Mem) (k58 : Int32 × Int32 × Int32 → Option (Int32)) (v0 : Nat) (v1 : Int32) (v2 : Int32) (v3 : Int32) (v4 : Int32) (hk58 : ∀ (s : Int32 × Int32 × Int32) (r : Int32), k58 s = some r → J x 5 Λ (QI x Λ r μ) 58 [(0, .ref v0), (1, .int v1), (2, .int s.1), (3, .int s.2.1), (4, .int s.2.2)] [] (μ)) (hv0 : inL Λ v0 8) {r : Int32} (hm : bd_X9_wedgesOf_58 N Λ μ k58 v0 v1 v2 v3 v4 = some r) : J x 5 Λ (QI x Λ r μ) 58 [(0, .ref v0), (1, .int v1), (2, .int v2), (3, .int v3), (4, .int v4)] [] μ := by
  refine j_iload C 4 dX9_wedgesOf_58 rfl ?_
  refine j_aload_n C 0 dX9_wedgesOf_60 rfl ?_
  obtain ⟨q1, h2, hm⟩ := bd_some hm
  refine j_getR C fg_X9_32_8 hv0 (dr_spec h2).1 dX9_wedgesOf_61 ?_
  refine j_iload_n C 1 dX9_wedgesOf_64 rfl ?_
  obtain ⟨h3, hm⟩ := gd_some hm
  refine j_iald C ((dr_spec h2).2) h3 dX9_wedgesOf_65 ?_
  refine j_icmp_ge C (tgt := 113) dX9_wedgesOf_66 (by decide) (fun h4 => ?_) (fun h4 => ?_)
  · replace hm := if_t hm h4
    refine j_iload_n C 3 dX9_wedgesOf_113 rfl ?_
    obtain rfl := Option.some.inj hm
    exact j_ireti C dX9_wedgesOf_114
  · replace hm := if_f hm h4
    refine j_aload_n C 0 dX9_wedgesOf_69 rfl ?_
    refine j_getI C fg_X9_69_8 hv0 dX9_wedgesOf_70 ?_
    refine j_aload_n C 0 dX9_wedgesOf_73 rfl ?_
    obtain ⟨q5, h6, hm⟩ := bd_some hm
    refine j_getR C fg_X9_44_8 hv0 (dr_spec h6).1 dX9_wedgesOf_74 ?_
    refine j_iload_n C 1 dX9_wedgesOf_77 rfl ?_
    obtain ⟨h7, hm⟩ := gd_some hm
    refine j_iald C ((dr_spec h6).2) h7 dX9_wedgesOf_78 ?_
    refine j_iload C 4 dX9_wedgesOf_79 rfl ?_
    refine j_iadd C dX9_wedgesOf_81 ?_
    refine j_ishr C dX9_wedgesOf_82 ?_
    refine j_iconst C (v := 1) dX9_wedgesOf_83 rfl ?_
    refine j_iand C dX9_wedgesOf_84 ?_
    refine j_iconst C (v := 1) dX9_wedgesOf_85 rfl ?_
    refine j_icmp_ne C (tgt := 93) dX9_wedgesOf_86 (by decide) (fun h8 => ?_) (fun h8 => ?_)
    · replace hm := if_f hm h8
      refine j_iload_n C 2 dX9_wedgesOf_93 rfl ?_
      refine j_iconst C (v := 1) dX9_wedgesOf_94 rfl ?_
      refine j_iadd C dX9_wedgesOf_95 ?_
      refine j_sub [0, 1, 3, 4] rfl ?_
      exact tj_X9_wedgesOf_96 C _ _ _ _ _ _ _ _ hk58 hv0 hm
    · replace hm := if_t hm h8
      refine j_iconst C (v := 0) dX9_wedgesOf_89 rfl ?_
      refine j_goto C (tgt := 96) dX9_wedgesOf_90 (by decide) ?_
      refine j_sub [0, 1, 3, 4] rfl ?_
      exact tj_X9_wedgesOf_96 C _ _ _ _ _ _ _ _ hk58 hv0 hm
set_option maxRecDepth 20000 in
set_option maxHeartbeats 4000000 in
theorem tl_X9_wedgesOf_58 {x : Ctx} {Λ : Lay} (C : Cx x cX9_wedgesOf 5 (some .int) RX9 Λ rm_X9_wedgesOf) (N : Nat) (μ : Mem) (v0 : Nat) (v1 : Int32) (hv0 : inL Λ v0 8) (s : Int32 × Int32 × Int32) {r : Int32} (hm : lp_X9_wedgesOf_58 N Λ μ v0 v1 s = some r) : J x 5 Λ (QI x Λ r μ) 58 [(0, .ref v0), (1, .int v1), (2, .int s.1), (3, .int s.2.1), (4, .int s.2.2)] [] (μ) :=
  cw_ind (P := fun s r => J x 5 Λ (QI x Λ r μ) 58 [(0, .ref v0), (1, .int v1), (2, .int s.1), (3, .int s.2.1), (4, .int s.2.2)] [] (μ)) (fun k hkk s r e => tb_X9_wedgesOf_58 C _ _ _ _ _ _ _ _ hkk hv0 e) N s r hm
set_option maxRecDepth 20000 in
set_option maxHeartbeats 4000000 in
theorem tm_X9_wedgesOf {x : Ctx} {Λ : Lay} (C : Cx x cX9_wedgesOf 5 (some .int) RX9 Λ rm_X9_wedgesOf) (N : Nat) (μ : Mem) (v0 : Nat) (v1 : Int32) (hv0 : inL Λ v0 8) {r : Int32} (hm : m_X9_wedgesOf N Λ μ v0 v1 = some r) : J x 5 Λ (QI x Λ r μ) 0 [(0, .ref v0), (1, .int v1)] [] μ := by
  refine j_aload_n C 0 dX9_wedgesOf_0 rfl ?_
  obtain ⟨q1, h2, hm⟩ := bd_some hm
  refine j_getR C fg_X9_41_8 hv0 (dr_spec h2).1 dX9_wedgesOf_1 ?_
  refine j_iload_n C 1 dX9_wedgesOf_4 rfl ?_
  obtain ⟨h3, hm⟩ := gd_some hm
  refine j_iald C ((dr_spec h2).2) h3 dX9_wedgesOf_5 ?_
  refine j_iconst C (v := 1) dX9_wedgesOf_6 rfl ?_
  refine j_icmp_eq C (tgt := 12) dX9_wedgesOf_7 (by decide) (fun h4 => ?_) (fun h4 => ?_)
  · replace hm := if_t hm h4
    refine j_aload_n C 0 dX9_wedgesOf_12 rfl ?_
    obtain ⟨q5, h6, hm⟩ := bd_some hm
    refine j_getR C fg_X9_32_8 hv0 (dr_spec h6).1 dX9_wedgesOf_13 ?_
    refine j_iload_n C 1 dX9_wedgesOf_16 rfl ?_
    obtain ⟨h7, hm⟩ := gd_some hm
    refine j_iald C ((dr_spec h6).2) h7 dX9_wedgesOf_17 ?_
    refine j_iconst C (v := 3) dX9_wedgesOf_18 rfl ?_
    refine j_icmp_ge C (tgt := 51) dX9_wedgesOf_19 (by decide) (fun h8 => ?_) (fun h8 => ?_)
    · replace hm := if_t hm h8
      refine j_iconst C (v := 0) dX9_wedgesOf_51 rfl ?_
      refine j_istore_n C (lv' := [(2, .int 0), (0, .ref v0), (1, .int v1)]) dX9_wedgesOf_52 (by decide) rfl ?_
      refine j_iconst C (v := 0) dX9_wedgesOf_53 rfl ?_
      refine j_istore_n C (lv' := [(3, .int 0), (2, .int 0), (0, .ref v0), (1, .int v1)]) dX9_wedgesOf_54 (by decide) rfl ?_
      refine j_iconst C (v := 0) dX9_wedgesOf_55 rfl ?_
      refine j_istore C (lv' := [(4, .int 0), (3, .int 0), (2, .int 0), (0, .ref v0), (1, .int v1)]) dX9_wedgesOf_56 (by decide) rfl ?_
      refine j_sub [3, 4, 2, 1, 0] rfl ?_
      exact tl_X9_wedgesOf_58 C _ _ _ _ hv0 (0, 0, 0) hm
    · replace hm := if_f hm h8
      refine j_aload_n C 0 dX9_wedgesOf_22 rfl ?_
      refine j_getI C fg_X9_69_8 hv0 dX9_wedgesOf_23 ?_
      refine j_aload_n C 0 dX9_wedgesOf_26 rfl ?_
      obtain ⟨q9, h10, hm⟩ := bd_some hm
      refine j_getR C fg_X9_44_8 hv0 (dr_spec h10).1 dX9_wedgesOf_27 ?_
      refine j_iload_n C 1 dX9_wedgesOf_30 rfl ?_
      obtain ⟨h11, hm⟩ := gd_some hm
      refine j_iald C ((dr_spec h10).2) h11 dX9_wedgesOf_31 ?_
      refine j_aload_n C 0 dX9_wedgesOf_32 rfl ?_
      obtain ⟨q12, h13, hm⟩ := bd_some hm
      refine j_getR C fg_X9_32_8 hv0 (dr_spec h13).1 dX9_wedgesOf_33 ?_
      refine j_iload_n C 1 dX9_wedgesOf_36 rfl ?_
      obtain ⟨h14, hm⟩ := gd_some hm
      refine j_iald C ((dr_spec h13).2) h14 dX9_wedgesOf_37 ?_
      obtain ⟨r15, h16, hm⟩ := bd_some hm
      refine call_I (run_LN C ln_X9_157 ⟨rfl, rfl, Nat.le_of_ble_eq_true rfl, Nat.le_of_ble_eq_true rfl⟩ (As := [.int (μ.1 q9 v1.toNatClampNeg), .int (μ.1 q12 v1.toNatClampNeg)]) rfl rfl (Nat.le_of_ble_eq_true rfl) dX9_wedgesOf_38 (mc_X11_placeBits _ _ _ _ _ _  h16)) ?_
      refine j_iand C dX9_wedgesOf_41 ?_
      refine j_if_ne C (tgt := 49) dX9_wedgesOf_42 (by decide) (fun h17 => ?_) (fun h17 => ?_)
      · replace hm := if_f hm h17
        refine j_iconst C (v := 0) dX9_wedgesOf_49 rfl ?_
        refine j_sub [] rfl ?_
        exact tj_X9_wedgesOf_50 C _ _ _  hm
      · replace hm := if_t hm h17
        refine j_iconst C (v := 1) dX9_wedgesOf_45 rfl ?_
        refine j_goto C (tgt := 50) dX9_wedgesOf_46 (by decide) ?_
        refine j_sub [] rfl ?_
        exact tj_X9_wedgesOf_50 C _ _ _  hm
  · replace hm := if_f hm h4
    refine j_iconst C (v := -1) dX9_wedgesOf_10 rfl ?_
    obtain rfl := Option.some.inj hm
    exact j_ireti C dX9_wedgesOf_11
set_option maxRecDepth 20000 in
set_option maxHeartbeats 4000000 in
theorem mc_X9_wedgesOf (l : Launch) (N : Nat) (Λ : Lay) (μ : Mem) (v0 : Nat) (v1 : Int32) (hv0 : inL Λ v0 8) {r : Int32} (hm : m_X9_wedgesOf N Λ μ v0 v1 = some r) : MI l yX9_wedgesOf cX9_wedgesOf 5 (some .int) rm_X9_wedgesOf Λ [.ref v0, .int v1] μ r μ := mi_of rfl (Nat.le_of_ble_eq_true rfl) (fun x C _ => tm_X9_wedgesOf C _ _ _ _ hv0 hm)
abbrev rm_X9_isBorne : Room := { frames := 2, cells := 0, slots := 0, locals := 45 }
set_option maxRecDepth 20000 in
set_option maxHeartbeats 4000000 in
theorem tj_X9_isBorne_13 {x : Ctx} {Λ : Lay} (C : Cx x cX9_isBorne 2 (some .boolean) RX9 Λ rm_X9_isBorne) (N : Nat) (μ : Mem) (s0 : Int32) {r : Int32} (hm : jn_X9_isBorne_13 N Λ μ s0 = some r) : J x 2 Λ (QI x Λ r μ) 13 [] [.int s0] μ := by
  obtain ⟨h1, hm⟩ := gd_some hm
  obtain rfl := Option.some.inj hm
  exact j_iretz C h1 dX9_isBorne_13
set_option maxRecDepth 20000 in
set_option maxHeartbeats 4000000 in
theorem tm_X9_isBorne {x : Ctx} {Λ : Lay} (C : Cx x cX9_isBorne 2 (some .boolean) RX9 Λ rm_X9_isBorne) (N : Nat) (μ : Mem) (v0 : Nat) (v1 : Int32) (hv0 : inL Λ v0 8) {r : Int32} (hm : m_X9_isBorne N Λ μ v0 v1 = some r) : J x 2 Λ (QI x Λ r μ) 0 [(0, .ref v0), (1, .int v1)] [] μ := by
  refine j_aload_n C 0 dX9_isBorne_0 rfl ?_
  refine j_iload_n C 1 dX9_isBorne_1 rfl ?_
  obtain ⟨r1, h2, hm⟩ := bd_some hm
  refine call_I (run_LV C lk_X9_154 ⟨rfl, rfl, Nat.le_of_ble_eq_true rfl, Nat.le_of_ble_eq_true rfl⟩ (As := [.int v1]) hv0 rfl rfl (Nat.le_of_ble_eq_true rfl) dX9_isBorne_2 (mc_X9_wedgesOf _ _ _ _ _ _ hv0 h2)) ?_
  refine j_if_ne C (tgt := 12) dX9_isBorne_5 (by decide) (fun h3 => ?_) (fun h3 => ?_)
  · replace hm := if_f hm h3
    refine j_iconst C (v := 0) dX9_isBorne_12 rfl ?_
    refine j_sub [] rfl ?_
    exact tj_X9_isBorne_13 C _ _ _  hm
  · replace hm := if_t hm h3
    refine j_iconst C (v := 1) dX9_isBorne_8 rfl ?_
    refine j_goto C (tgt := 13) dX9_isBorne_9 (by decide) ?_
    refine j_sub [] rfl ?_
    exact tj_X9_isBorne_13 C _ _ _  hm
set_option maxRecDepth 20000 in
set_option maxHeartbeats 4000000 in
theorem mc_X9_isBorne (l : Launch) (N : Nat) (Λ : Lay) (μ : Mem) (v0 : Nat) (v1 : Int32) (hv0 : inL Λ v0 8) {r : Int32} (hm : m_X9_isBorne N Λ μ v0 v1 = some r) : MI l yX9_isBorne cX9_isBorne 2 (some .boolean) rm_X9_isBorne Λ [.ref v0, .int v1] μ r μ := mi_of rfl (Nat.le_of_ble_eq_true rfl) (fun x C _ => tm_X9_isBorne C _ _ _ _ hv0 hm)
abbrev rm_X9_hurtUnborne : Room := { frames := 3, cells := 0, slots := 0, locals := 86 }
set_option maxRecDepth 20000 in
set_option maxHeartbeats 4000000 in
theorem tj_X9_hurtUnborne_88 {x : Ctx} {Λ : Lay} (C : Cx x cX9_hurtUnborne 2 none RX9 Λ rm_X9_hurtUnborne) (N : Nat) (μ : Mem) (k2 : Int32 × Mem → Option (Mem)) (v0 : Nat) (v1 : Int32) (hk2 : ∀ (s : Int32 × Mem) (r : Mem), k2 s = some r → J x 2 Λ (QV x Λ r) 2 [(0, .ref v0), (1, .int s.1)] [] (s.2)) (hv0 : inL Λ v0 8) {r : Mem} (hm : jn_X9_hurtUnborne_88 N Λ μ k2 v0 v1 = some r) : J x 2 Λ (QV x Λ r) 88 [(0, .ref v0), (1, .int v1)] [] μ := by
  obtain ⟨y1, e2, hm⟩ := lt_some hm
  refine j_iinc C 1 (v := y1) (lv' := [(1, .int y1), (0, .ref v0)]) dX9_hurtUnborne_88 rfl (by rw [e2]; rfl) (by decide) rfl ?_
  refine j_goto C (tgt := 2) dX9_hurtUnborne_91 (by decide) ?_
  refine j_sub [1, 0] rfl ?_
  exact hk2 (y1, μ) _ hm
set_option maxRecDepth 20000 in
set_option maxHeartbeats 4000000 in
theorem tb_X9_hurtUnborne_2 {x : Ctx} {Λ : Lay} (C : Cx x cX9_hurtUnborne 2 none RX9 Λ rm_X9_hurtUnborne) (N : Nat) (μ : Mem) (k2 : Int32 × Mem → Option (Mem)) (v0 : Nat) (v1 : Int32) (hk2 : ∀ (s : Int32 × Mem) (r : Mem), k2 s = some r → J x 2 Λ (QV x Λ r) 2 [(0, .ref v0), (1, .int s.1)] [] (s.2)) (hv0 : inL Λ v0 8) {r : Mem} (hm : bd_X9_hurtUnborne_2 N Λ μ k2 v0 v1 = some r) : J x 2 Λ (QV x Λ r) 2 [(0, .ref v0), (1, .int v1)] [] μ := by
  refine j_iload_n C 1 dX9_hurtUnborne_2 rfl ?_
  refine j_aload_n C 0 dX9_hurtUnborne_3 rfl ?_
  refine j_getI C fg_X9_66_8 hv0 dX9_hurtUnborne_4 ?_
  refine j_icmp_ge C (tgt := 94) dX9_hurtUnborne_7 (by decide) (fun h1 => ?_) (fun h1 => ?_)
  · replace hm := if_t hm h1
    obtain rfl := Option.some.inj hm
    exact j_vret C dX9_hurtUnborne_94
  · replace hm := if_f hm h1
    refine j_aload_n C 0 dX9_hurtUnborne_10 rfl ?_
    refine j_iload_n C 1 dX9_hurtUnborne_11 rfl ?_
    obtain ⟨r2, h3, hm⟩ := bd_some hm
    refine call_I (run_LV C lk_X9_129 ⟨rfl, rfl, Nat.le_of_ble_eq_true rfl, Nat.le_of_ble_eq_true rfl⟩ (As := [.int v1]) hv0 rfl rfl (Nat.le_of_ble_eq_true rfl) dX9_hurtUnborne_12 (mc_X9_sits _ _ _ _ _ _ hv0 h3)) ?_
    refine j_if_eq C (tgt := 88) dX9_hurtUnborne_15 (by decide) (fun h4 => ?_) (fun h4 => ?_)
    · replace hm := if_t hm h4
      exact tj_X9_hurtUnborne_88 C _ _ _ _ _ hk2 hv0 hm
    · replace hm := if_f hm h4
      refine j_aload_n C 0 dX9_hurtUnborne_18 rfl ?_
      refine j_iload_n C 1 dX9_hurtUnborne_19 rfl ?_
      obtain ⟨r5, h6, hm⟩ := bd_some hm
      refine call_I (run_LV C lk_X9_133 ⟨rfl, rfl, Nat.le_of_ble_eq_true rfl, Nat.le_of_ble_eq_true rfl⟩ (As := [.int v1]) hv0 rfl rfl (Nat.le_of_ble_eq_true rfl) dX9_hurtUnborne_20 (mc_X9_isHurt _ _ _ _ _ _ hv0 h6)) ?_
      refine j_if_ne C (tgt := 88) dX9_hurtUnborne_23 (by decide) (fun h7 => ?_) (fun h7 => ?_)
      · replace hm := if_f hm h7
        exact tj_X9_hurtUnborne_88 C _ _ _ _ _ hk2 hv0 hm
      · replace hm := if_t hm h7
        refine j_aload_n C 0 dX9_hurtUnborne_26 rfl ?_
        refine j_iload_n C 1 dX9_hurtUnborne_27 rfl ?_
        obtain ⟨r8, h9, hm⟩ := bd_some hm
        refine call_I (run_LV C lk_X9_136 ⟨rfl, rfl, Nat.le_of_ble_eq_true rfl, Nat.le_of_ble_eq_true rfl⟩ (As := [.int v1]) hv0 rfl rfl (Nat.le_of_ble_eq_true rfl) dX9_hurtUnborne_28 (mc_X9_isBorne _ _ _ _ _ _ hv0 h9)) ?_
        refine j_if_ne C (tgt := 88) dX9_hurtUnborne_31 (by decide) (fun h10 => ?_) (fun h10 => ?_)
        · replace hm := if_f hm h10
          exact tj_X9_hurtUnborne_88 C _ _ _ _ _ hk2 hv0 hm
        · replace hm := if_t hm h10
          refine j_aload_n C 0 dX9_hurtUnborne_34 rfl ?_
          refine j_dup C dX9_hurtUnborne_35 rfl ?_
          refine j_getI C fg_X9_72_8 hv0 dX9_hurtUnborne_36 ?_
          refine j_iconst C (v := 1) dX9_hurtUnborne_39 rfl ?_
          refine j_iload_n C 1 dX9_hurtUnborne_40 rfl ?_
          refine j_ishl C dX9_hurtUnborne_41 ?_
          refine j_ior C dX9_hurtUnborne_42 ?_
          obtain ⟨μ11, e12, hm⟩ := lt_some hm
          refine j_putI C fp_X9_72_8 hv0 e12 dX9_hurtUnborne_43 ?_
          refine j_aload_n C 0 dX9_hurtUnborne_46 rfl ?_
          obtain ⟨q13, h14, hm⟩ := bd_some hm
          refine j_getR C fg_X9_38_8 hv0 (dr_spec h14).1 dX9_hurtUnborne_47 ?_
          refine j_iload_n C 1 dX9_hurtUnborne_50 rfl ?_
          refine j_aload_n C 0 dX9_hurtUnborne_51 rfl ?_
          obtain ⟨q15, h16, hm⟩ := bd_some hm
          refine j_getR C fg_X9_38_8 hv0 (dr_spec h16).1 dX9_hurtUnborne_52 ?_
          refine j_iload_n C 1 dX9_hurtUnborne_55 rfl ?_
          obtain ⟨h17, hm⟩ := gd_some hm
          refine j_iald C ((dr_spec h16).2) h17 dX9_hurtUnborne_56 ?_
          refine j_iconst C (v := 5) dX9_hurtUnborne_57 rfl ?_
          refine j_iadd C dX9_hurtUnborne_58 ?_
          refine j_bipush C (v := 99) dX9_hurtUnborne_59 rfl ?_
          refine j_mmin C wk_581 ⟨Nat.le_of_ble_eq_true rfl, Nat.le_of_ble_eq_true rfl⟩ dX9_hurtUnborne_61 ?_
          obtain ⟨h18, hm⟩ := gd_some hm
          obtain ⟨μ19, e20, hm⟩ := lt_some hm
          refine j_iast C ((dr_spec h14).2) h18 e20 dX9_hurtUnborne_64 ?_
          refine j_aload_n C 0 dX9_hurtUnborne_65 rfl ?_
          obtain ⟨q21, h22, hm⟩ := bd_some hm
          refine j_getR C fg_X9_50_8 hv0 (dr_spec h22).1 dX9_hurtUnborne_66 ?_
          refine j_aload_n C 0 dX9_hurtUnborne_69 rfl ?_
          refine j_getI C fg_X9_54_8 hv0 dX9_hurtUnborne_70 ?_
          refine j_iload_n C 1 dX9_hurtUnborne_73 rfl ?_
          refine j_iconst C (v := 2) dX9_hurtUnborne_74 rfl ?_
          refine j_aload_n C 0 dX9_hurtUnborne_75 rfl ?_
          obtain ⟨q23, h24, hm⟩ := bd_some hm
          refine j_getR C fg_X9_44_8 hv0 (dr_spec h24).1 dX9_hurtUnborne_76 ?_
          refine j_iload_n C 1 dX9_hurtUnborne_79 rfl ?_
          obtain ⟨h25, hm⟩ := gd_some hm
          refine j_iald C ((dr_spec h24).2) h25 dX9_hurtUnborne_80 ?_
          refine j_aload_n C 0 dX9_hurtUnborne_81 rfl ?_
          refine j_getI C fg_X9_9_8 hv0 dX9_hurtUnborne_82 ?_
          obtain ⟨r26, h27, hm⟩ := bd_some hm
          refine call_V (run_LV C lk_X9_139 ⟨rfl, rfl, Nat.le_of_ble_eq_true rfl, Nat.le_of_ble_eq_true rfl⟩ (As := [.int (μ19.1 v0 1), .int v1, .int 2, .int (μ19.1 q23 v1.toNatClampNeg), .int (μ19.1 v0 0)]) ((dr_spec h22).2) rfl rfl (Nat.le_of_ble_eq_true rfl) dX9_hurtUnborne_85 (mc_X4_add _ _ _ _ _ _ _ _ _ _ ((dr_spec h22).2) h27)) ?_
          exact tj_X9_hurtUnborne_88 C _ _ _ _ _ hk2 hv0 hm
set_option maxRecDepth 20000 in
set_option maxHeartbeats 4000000 in
theorem tl_X9_hurtUnborne_2 {x : Ctx} {Λ : Lay} (C : Cx x cX9_hurtUnborne 2 none RX9 Λ rm_X9_hurtUnborne) (N : Nat) (v0 : Nat) (hv0 : inL Λ v0 8) (s : Int32 × Mem) {r : Mem} (hm : lp_X9_hurtUnborne_2 N Λ v0 s = some r) : J x 2 Λ (QV x Λ r) 2 [(0, .ref v0), (1, .int s.1)] [] (s.2) :=
  cw_ind (P := fun s r => J x 2 Λ (QV x Λ r) 2 [(0, .ref v0), (1, .int s.1)] [] (s.2)) (fun k hkk s r e => tb_X9_hurtUnborne_2 C _ _ _ _ _ hkk hv0 e) N s r hm
set_option maxRecDepth 20000 in
set_option maxHeartbeats 4000000 in
theorem tm_X9_hurtUnborne {x : Ctx} {Λ : Lay} (C : Cx x cX9_hurtUnborne 2 none RX9 Λ rm_X9_hurtUnborne) (N : Nat) (μ : Mem) (v0 : Nat) (hv0 : inL Λ v0 8) {r : Mem} (hm : m_X9_hurtUnborne N Λ μ v0 = some r) : J x 2 Λ (QV x Λ r) 0 [(0, .ref v0)] [] μ := by
  refine j_iconst C (v := 0) dX9_hurtUnborne_0 rfl ?_
  refine j_istore_n C (lv' := [(1, .int 0), (0, .ref v0)]) dX9_hurtUnborne_1 (by decide) rfl ?_
  refine j_sub [1, 0] rfl ?_
  exact tl_X9_hurtUnborne_2 C _ _ hv0 (0, μ) hm
set_option maxRecDepth 20000 in
set_option maxHeartbeats 4000000 in
theorem mc_X9_hurtUnborne (l : Launch) (N : Nat) (Λ : Lay) (μ : Mem) (v0 : Nat) (hv0 : inL Λ v0 8) {r : Mem} (hm : m_X9_hurtUnborne N Λ μ v0 = some r) : MV l yX9_hurtUnborne cX9_hurtUnborne 2 rm_X9_hurtUnborne Λ [.ref v0] μ r := mv_of rfl (Nat.le_of_ble_eq_true rfl) (fun x C _ => tm_X9_hurtUnborne C _ _ _ hv0 hm)
abbrev rm_X9_workHands : Room := { frames := 2, cells := 0, slots := 0, locals := 86 }
set_option maxRecDepth 20000 in
set_option maxHeartbeats 4000000 in
theorem tj_X9_workHands_84 {x : Ctx} {Λ : Lay} (C : Cx x cX9_workHands 4 (some .int) RX9 Λ rm_X9_workHands) (N : Nat) (μ : Mem) (k7 : Int32 × Int32 × Mem → Option (Int32 × Mem)) (v0 : Nat) (v1 : Int32) (v2 : Int32) (hk7 : ∀ (s : Int32 × Int32 × Mem) (r : Int32 × Mem), k7 s = some r → J x 4 Λ (QI x Λ r.1 r.2) 7 [(0, .ref v0), (1, .int s.1), (2, .int s.2.1)] [] (s.2.2)) (hv0 : inL Λ v0 8) {r : Int32 × Mem} (hm : jn_X9_workHands_84 N Λ μ k7 v0 v1 v2 = some r) : J x 4 Λ (QI x Λ r.1 r.2) 84 [(0, .ref v0), (1, .int v1), (2, .int v2)] [] μ := by
  obtain ⟨y1, e2, hm⟩ := lt_some hm
  refine j_iinc C 2 (v := y1) (lv' := [(2, .int y1), (0, .ref v0), (1, .int v1)]) dX9_workHands_84 rfl (by rw [e2]; rfl) (by decide) rfl ?_
  refine j_goto C (tgt := 7) dX9_workHands_87 (by decide) ?_
  refine j_sub [1, 2, 0] rfl ?_
  exact hk7 (v1, y1, μ) _ hm
set_option maxRecDepth 20000 in
set_option maxHeartbeats 4000000 in
theorem tb_X9_workHands_7 {x : Ctx} {Λ : Lay} (C : Cx x cX9_workHands 4 (some .int) RX9 Λ rm_X9_workHands) (N : Nat) (μ : Mem) (k7 : Int32 × Int32 × Mem → Option (Int32 × Mem)) (v0 : Nat) (v1 : Int32) (v2 : Int32) (hk7 : ∀ (s : Int32 × Int32 × Mem) (r : Int32 × Mem), k7 s = some r → J x 4 Λ (QI x Λ r.1 r.2) 7 [(0, .ref v0), (1, .int s.1), (2, .int s.2.1)] [] (s.2.2)) (hv0 : inL Λ v0 8) {r : Int32 × Mem} (hm : bd_X9_workHands_7 N Λ μ k7 v0 v1 v2 = some r) : J x 4 Λ (QI x Λ r.1 r.2) 7 [(0, .ref v0), (1, .int v1), (2, .int v2)] [] μ := by
  refine j_iload_n C 2 dX9_workHands_7 rfl ?_
  refine j_aload_n C 0 dX9_workHands_8 rfl ?_
  refine j_getI C fg_X9_66_8 hv0 dX9_workHands_9 ?_
  refine j_icmp_ge C (tgt := 90) dX9_workHands_12 (by decide) (fun h1 => ?_) (fun h1 => ?_)
  · replace hm := if_t hm h1
    refine j_aload_n C 0 dX9_workHands_90 rfl ?_
    refine j_getI C fg_X9_18_8 hv0 dX9_workHands_91 ?_
    refine j_iload_n C 1 dX9_workHands_94 rfl ?_
    refine j_isub C dX9_workHands_95 ?_
    obtain rfl := Option.some.inj hm
    exact j_ireti C dX9_workHands_96
  · replace hm := if_f hm h1
    refine j_aload_n C 0 dX9_workHands_15 rfl ?_
    refine j_iload_n C 2 dX9_workHands_16 rfl ?_
    obtain ⟨r2, h3, hm⟩ := bd_some hm
    refine call_I (run_LV C lk_X9_129 ⟨rfl, rfl, Nat.le_of_ble_eq_true rfl, Nat.le_of_ble_eq_true rfl⟩ (As := [.int v2]) hv0 rfl rfl (Nat.le_of_ble_eq_true rfl) dX9_workHands_17 (mc_X9_sits _ _ _ _ _ _ hv0 h3)) ?_
    refine j_if_eq C (tgt := 84) dX9_workHands_20 (by decide) (fun h4 => ?_) (fun h4 => ?_)
    · replace hm := if_t hm h4
      exact tj_X9_workHands_84 C _ _ _ _ _ _ hk7 hv0 hm
    · replace hm := if_f hm h4
      refine j_iload_n C 1 dX9_workHands_23 rfl ?_
      refine j_aload_n C 0 dX9_workHands_24 rfl ?_
      obtain ⟨q5, h6, hm⟩ := bd_some hm
      refine j_getR C fg_X9_38_8 hv0 (dr_spec h6).1 dX9_workHands_25 ?_
      refine j_iload_n C 2 dX9_workHands_28 rfl ?_
      obtain ⟨h7, hm⟩ := gd_some hm
      refine j_iald C ((dr_spec h6).2) h7 dX9_workHands_29 ?_
      refine j_mmin C wk_581 ⟨Nat.le_of_ble_eq_true rfl, Nat.le_of_ble_eq_true rfl⟩ dX9_workHands_30 ?_
      obtain ⟨y8, e9, hm⟩ := lt_some hm
      refine j_topi e9 ?_
      refine j_istore_n C (lv' := [(3, .int y8), (0, .ref v0), (1, .int v1), (2, .int v2)]) dX9_workHands_33 (by decide) rfl ?_
      refine j_iload_n C 2 dX9_workHands_34 rfl ?_
      refine j_iload_n C 0 dX9_workHands_35 rfl ?_
      refine j_isub C dX9_workHands_36 ?_
      obtain ⟨y10, e11, hm⟩ := lt_some hm
      refine j_topi e11 ?_
      refine j_istore_n C (lv' := [(1, .int y10), (3, .int y8), (0, .ref v0), (2, .int v2)]) dX9_workHands_37 (by decide) rfl ?_
      refine j_aload_n C 2 dX9_workHands_38 rfl ?_
      obtain ⟨q12, h13, hm⟩ := bd_some hm
      refine j_getR C fg_X9_38_8 hv0 (dr_spec h13).1 dX9_workHands_39 ?_
      refine j_iload_n C 3 dX9_workHands_42 rfl ?_
      refine j_dup2 C dX9_workHands_43 rfl rfl ?_
      obtain ⟨h14, hm⟩ := gd_some hm
      refine j_iald C ((dr_spec h13).2) h14 dX9_workHands_44 ?_
      refine j_iload_n C 1 dX9_workHands_45 rfl ?_
      refine j_isub C dX9_workHands_46 ?_
      obtain ⟨h15, hm⟩ := gd_some hm
      obtain ⟨μ16, e17, hm⟩ := lt_some hm
      refine j_iast C ((dr_spec h13).2) h15 e17 dX9_workHands_47 ?_
      refine j_iload_n C 1 dX9_workHands_48 rfl ?_
      refine j_if_le C (tgt := 84) dX9_workHands_49 (by decide) (fun h18 => ?_) (fun h18 => ?_)
      · replace hm := if_t hm h18
        refine j_sub [2, 0, 3] rfl ?_
        exact tj_X9_workHands_84 C _ _ _ _ _ _ hk7 hv0 hm
      · replace hm := if_f hm h18
        refine j_aload_n C 2 dX9_workHands_52 rfl ?_
        obtain ⟨q19, h20, hm⟩ := bd_some hm
        refine j_getR C fg_X9_38_8 hv0 (dr_spec h20).1 dX9_workHands_53 ?_
        refine j_iload_n C 3 dX9_workHands_56 rfl ?_
        obtain ⟨h21, hm⟩ := gd_some hm
        refine j_iald C ((dr_spec h20).2) h21 dX9_workHands_57 ?_
        refine j_if_ne C (tgt := 84) dX9_workHands_58 (by decide) (fun h22 => ?_) (fun h22 => ?_)
        · replace hm := if_f hm h22
          refine j_sub [2, 0, 3] rfl ?_
          exact tj_X9_workHands_84 C _ _ _ _ _ _ hk7 hv0 hm
        · replace hm := if_t hm h22
          refine j_aload_n C 2 dX9_workHands_61 rfl ?_
          obtain ⟨q23, h24, hm⟩ := bd_some hm
          refine j_getR C fg_X9_50_8 hv0 (dr_spec h24).1 dX9_workHands_62 ?_
          refine j_aload_n C 2 dX9_workHands_65 rfl ?_
          refine j_getI C fg_X9_54_8 hv0 dX9_workHands_66 ?_
          refine j_iload_n C 3 dX9_workHands_69 rfl ?_
          refine j_iconst C (v := 3) dX9_workHands_70 rfl ?_
          refine j_aload_n C 2 dX9_workHands_71 rfl ?_
          obtain ⟨q25, h26, hm⟩ := bd_some hm
          refine j_getR C fg_X9_44_8 hv0 (dr_spec h26).1 dX9_workHands_72 ?_
          refine j_iload_n C 3 dX9_workHands_75 rfl ?_
          obtain ⟨h27, hm⟩ := gd_some hm
          refine j_iald C ((dr_spec h26).2) h27 dX9_workHands_76 ?_
          refine j_aload_n C 2 dX9_workHands_77 rfl ?_
          refine j_getI C fg_X9_9_8 hv0 dX9_workHands_78 ?_
          obtain ⟨r28, h29, hm⟩ := bd_some hm
          refine call_V (run_LV C lk_X9_139 ⟨rfl, rfl, Nat.le_of_ble_eq_true rfl, Nat.le_of_ble_eq_true rfl⟩ (As := [.int (μ16.1 v0 1), .int v2, .int 3, .int (μ16.1 q25 v2.toNatClampNeg), .int (μ16.1 v0 0)]) ((dr_spec h24).2) rfl rfl (Nat.le_of_ble_eq_true rfl) dX9_workHands_81 (mc_X4_add _ _ _ _ _ _ _ _ _ _ ((dr_spec h24).2) h29)) ?_
          refine j_sub [2, 0, 3] rfl ?_
          exact tj_X9_workHands_84 C _ _ _ _ _ _ hk7 hv0 hm
set_option maxRecDepth 20000 in
set_option maxHeartbeats 4000000 in
theorem tl_X9_workHands_7 {x : Ctx} {Λ : Lay} (C : Cx x cX9_workHands 4 (some .int) RX9 Λ rm_X9_workHands) (N : Nat) (v0 : Nat) (hv0 : inL Λ v0 8) (s : Int32 × Int32 × Mem) {r : Int32 × Mem} (hm : lp_X9_workHands_7 N Λ v0 s = some r) : J x 4 Λ (QI x Λ r.1 r.2) 7 [(0, .ref v0), (1, .int s.1), (2, .int s.2.1)] [] (s.2.2) :=
  cw_ind (P := fun s r => J x 4 Λ (QI x Λ r.1 r.2) 7 [(0, .ref v0), (1, .int s.1), (2, .int s.2.1)] [] (s.2.2)) (fun k hkk s r e => tb_X9_workHands_7 C _ _ _ _ _ _ hkk hv0 e) N s r hm
set_option maxRecDepth 20000 in
set_option maxHeartbeats 4000000 in
theorem tm_X9_workHands {x : Ctx} {Λ : Lay} (C : Cx x cX9_workHands 4 (some .int) RX9 Λ rm_X9_workHands) (N : Nat) (μ : Mem) (v0 : Nat) (hv0 : inL Λ v0 8) {r : Int32 × Mem} (hm : m_X9_workHands N Λ μ v0 = some r) : J x 4 Λ (QI x Λ r.1 r.2) 0 [(0, .ref v0)] [] μ := by
  refine j_aload_n C 0 dX9_workHands_0 rfl ?_
  refine j_getI C fg_X9_18_8 hv0 dX9_workHands_1 ?_
  obtain ⟨y1, e2, hm⟩ := lt_some hm
  refine j_topi e2 ?_
  refine j_istore_n C (lv' := [(1, .int y1), (0, .ref v0)]) dX9_workHands_4 (by decide) rfl ?_
  refine j_iconst C (v := 0) dX9_workHands_5 rfl ?_
  refine j_istore_n C (lv' := [(2, .int 0), (1, .int y1), (0, .ref v0)]) dX9_workHands_6 (by decide) rfl ?_
  refine j_sub [2, 1, 0] rfl ?_
  exact tl_X9_workHands_7 C _ _ hv0 (y1, 0, μ) hm
set_option maxRecDepth 20000 in
set_option maxHeartbeats 4000000 in
theorem mc_X9_workHands (l : Launch) (N : Nat) (Λ : Lay) (μ : Mem) (v0 : Nat) (hv0 : inL Λ v0 8) {r : Int32 × Mem} (hm : m_X9_workHands N Λ μ v0 = some r) : MI l yX9_workHands cX9_workHands 4 (some .int) rm_X9_workHands Λ [.ref v0] μ r.1 r.2 := mi_of rfl (Nat.le_of_ble_eq_true rfl) (fun x C _ => tm_X9_workHands C _ _ _ hv0 hm)
abbrev rm_X9_step : Room := { frames := 4, cells := 0, slots := 0, locals := 109 }
set_option maxRecDepth 20000 in
set_option maxHeartbeats 4000000 in
theorem tj_X9_step_96 {x : Ctx} {Λ : Lay} (C : Cx x cX9_step 3 (some .int) RX9 Λ rm_X9_step) (N : Nat) (μ : Mem) (s0 : Int32) {r : Int32 × Mem} (hm : jn_X9_step_96 N Λ μ s0 = some r) : J x 3 Λ (QI x Λ r.1 r.2) 96 [] [.int s0] μ := by
  obtain rfl := Option.some.inj hm
  exact j_ireti C dX9_step_96
set_option maxRecDepth 20000 in
set_option maxHeartbeats 4000000 in
theorem tj_X9_step_76 {x : Ctx} {Λ : Lay} (C : Cx x cX9_step 3 (some .int) RX9 Λ rm_X9_step) (N : Nat) (μ : Mem) (v0 : Nat) (hv0 : inL Λ v0 8) {r : Int32 × Mem} (hm : jn_X9_step_76 N Λ μ v0 = some r) : J x 3 Λ (QI x Λ r.1 r.2) 76 [(0, .ref v0)] [] μ := by
  refine j_aload_n C 0 dX9_step_76 rfl ?_
  obtain ⟨r1, h2, hm⟩ := bd_some hm
  refine call_V (run_LV C lk_X9_123 ⟨rfl, rfl, Nat.le_of_ble_eq_true rfl, Nat.le_of_ble_eq_true rfl⟩ (As := []) hv0 rfl rfl (Nat.le_of_ble_eq_true rfl) dX9_step_77 (mc_X9_hurtUnborne _ _ _ _ _ hv0 h2)) ?_
  refine j_aload_n C 0 dX9_step_80 rfl ?_
  refine j_getI C fg_X9_9_8 hv0 dX9_step_81 ?_
  refine j_iconst C (v := 2) dX9_step_84 rfl ?_
  refine j_icmp_gt C (tgt := 95) dX9_step_85 (by decide) (fun h3 => ?_) (fun h3 => ?_)
  · replace hm := if_t hm h3
    refine j_iconst C (v := 0) dX9_step_95 rfl ?_
    refine j_sub [] rfl ?_
    exact tj_X9_step_96 C _ _ _  hm
  · replace hm := if_f hm h3
    refine j_aload_n C 0 dX9_step_88 rfl ?_
    obtain ⟨r4, h5, hm⟩ := bd_some hm
    refine call_I (run_LV C lk_X9_126 ⟨rfl, rfl, Nat.le_of_ble_eq_true rfl, Nat.le_of_ble_eq_true rfl⟩ (As := []) hv0 rfl rfl (Nat.le_of_ble_eq_true rfl) dX9_step_89 (mc_X9_workHands _ _ _ _ _ hv0 h5)) ?_
    refine j_goto C (tgt := 96) dX9_step_92 (by decide) ?_
    refine j_sub [] rfl ?_
    exact tj_X9_step_96 C _ _ _  hm
set_option maxRecDepth 20000 in
set_option maxHeartbeats 4000000 in
theorem tj_X9_step_40 {x : Ctx} {Λ : Lay} (C : Cx x cX9_step 3 (some .int) RX9 Λ rm_X9_step) (N : Nat) (μ : Mem) (v0 : Nat) (s0 : Nat) (s1 : Int32) (s2 : Int32) (hv0 : inL Λ v0 8) (hs0 : inL Λ s0 8) {r : Int32 × Mem} (hm : jn_X9_step_40 N Λ μ v0 s0 s1 s2 = some r) : J x 3 Λ (QI x Λ r.1 r.2) 40 [(0, .ref v0)] [.int s2, .int s1, .ref s0] μ := by
  refine j_iadd C dX9_step_40 ?_
  obtain ⟨μ1, e2, hm⟩ := lt_some hm
  refine j_putI C fp_X9_9_8 hs0 e2 dX9_step_41 ?_
  refine j_goto C (tgt := 76) dX9_step_44 (by decide) ?_
  exact tj_X9_step_76 C _ _ _ hv0 hm
set_option maxRecDepth 20000 in
set_option maxHeartbeats 4000000 in
theorem tm_X9_step {x : Ctx} {Λ : Lay} (C : Cx x cX9_step 3 (some .int) RX9 Λ rm_X9_step) (N : Nat) (μ : Mem) (v0 : Nat) (v1 : Nat) (v2 : Int32) (hv0 : inL Λ v0 8) (hv1 : inL Λ v1 2) {r : Int32 × Mem} (hm : m_X9_step N Λ μ v0 v1 v2 = some r) : J x 3 Λ (QI x Λ r.1 r.2) 0 [(0, .ref v0), (1, .ref v1), (2, .int v2)] [] μ := by
  refine j_aload_n C 0 dX9_step_0 rfl ?_
  refine j_aload_n C 0 dX9_step_1 rfl ?_
  refine j_getI C fg_X9_54_8 hv0 dX9_step_2 ?_
  refine j_iconst C (v := 1) dX9_step_5 rfl ?_
  refine j_iadd C dX9_step_6 ?_
  refine j_sipush C (v := 9999) dX9_step_7 rfl ?_
  refine j_mmin C wk_581 ⟨Nat.le_of_ble_eq_true rfl, Nat.le_of_ble_eq_true rfl⟩ dX9_step_10 ?_
  obtain ⟨μ1, e2, hm⟩ := lt_some hm
  refine j_putI C fp_X9_54_8 hv0 e2 dX9_step_13 ?_
  refine j_aload_n C 0 dX9_step_16 rfl ?_
  refine j_getI C fg_X9_24_8 hv0 dX9_step_17 ?_
  refine j_if_eq C (tgt := 47) dX9_step_20 (by decide) (fun h3 => ?_) (fun h3 => ?_)
  · replace hm := if_t hm h3
    refine j_aload_n C 0 dX9_step_47 rfl ?_
    refine j_iconst C (v := 0) dX9_step_48 rfl ?_
    refine j_bipush C (v := 40) dX9_step_49 rfl ?_
    refine j_aload_n C 0 dX9_step_51 rfl ?_
    refine j_getI C fg_X9_9_8 hv0 dX9_step_52 ?_
    refine j_aload_n C 0 dX9_step_55 rfl ?_
    refine j_aload_n C 1 dX9_step_56 rfl ?_
    obtain ⟨r4, h5, hm⟩ := bd_some hm
    refine call_I (run_LV C lk_X9_113 ⟨rfl, rfl, Nat.le_of_ble_eq_true rfl, Nat.le_of_ble_eq_true rfl⟩ (As := [.ref v1]) hv0 rfl rfl (Nat.le_of_ble_eq_true rfl) dX9_step_57 (mc_X9_leaking _ _ _ _ _ _ hv0 hv1 h5)) ?_
    refine j_iadd C dX9_step_60 ?_
    refine j_aload_n C 0 dX9_step_61 rfl ?_
    refine j_aload_n C 1 dX9_step_62 rfl ?_
    obtain ⟨r6, h7, hm⟩ := bd_some hm
    refine call_I (run_LV C lk_X9_117 ⟨rfl, rfl, Nat.le_of_ble_eq_true rfl, Nat.le_of_ble_eq_true rfl⟩ (As := [.ref v1]) hv0 rfl rfl (Nat.le_of_ble_eq_true rfl) dX9_step_63 (mc_X9_pulling _ _ _ _ _ _ hv0 hv1 h7)) ?_
    refine j_isub C dX9_step_66 ?_
    refine j_mmin C wk_581 ⟨Nat.le_of_ble_eq_true rfl, Nat.le_of_ble_eq_true rfl⟩ dX9_step_67 ?_
    refine j_mmax C wk_589 ⟨Nat.le_of_ble_eq_true rfl, Nat.le_of_ble_eq_true rfl⟩ dX9_step_70 ?_
    obtain ⟨μ8, e9, hm⟩ := lt_some hm
    refine j_putI C fp_X9_9_8 hv0 e9 dX9_step_73 ?_
    refine j_sub [0] rfl ?_
    exact tj_X9_step_76 C _ _ _ hv0 hm
  · replace hm := if_f hm h3
    refine j_aload_n C 0 dX9_step_23 rfl ?_
    refine j_aload_n C 0 dX9_step_24 rfl ?_
    obtain ⟨r10, h11, hm⟩ := bd_some hm
    refine call_I (run_LV C lk_X9_85 ⟨rfl, rfl, Nat.le_of_ble_eq_true rfl, Nat.le_of_ble_eq_true rfl⟩ (As := []) hv0 rfl rfl (Nat.le_of_ble_eq_true rfl) dX9_step_25 (mc_X9_tideNow _ _ _ _ _ hv0 h11)) ?_
    refine j_iload_n C 2 dX9_step_28 rfl ?_
    refine j_if_eq C (tgt := 39) dX9_step_29 (by decide) (fun h12 => ?_) (fun h12 => ?_)
    · replace hm := if_t hm h12
      refine j_iconst C (v := 0) dX9_step_39 rfl ?_
      refine j_sub [0] rfl ?_
      exact tj_X9_step_40 C _ _ _ _ _ _ hv0 hv0 hm
    · replace hm := if_f hm h12
      refine j_aload_n C 0 dX9_step_32 rfl ?_
      obtain ⟨r13, h14, hm⟩ := bd_some hm
      refine call_I (run_LV C lk_X9_110 ⟨rfl, rfl, Nat.le_of_ble_eq_true rfl, Nat.le_of_ble_eq_true rfl⟩ (As := []) hv0 rfl rfl (Nat.le_of_ble_eq_true rfl) dX9_step_33 (mc_X9_nextSurge _ _ _ _ _ hv0 h14)) ?_
      refine j_goto C (tgt := 40) dX9_step_36 (by decide) ?_
      refine j_sub [0] rfl ?_
      exact tj_X9_step_40 C _ _ _ _ _ _ hv0 hv0 hm
set_option maxRecDepth 20000 in
set_option maxHeartbeats 4000000 in
theorem mc_X9_step (l : Launch) (N : Nat) (Λ : Lay) (μ : Mem) (v0 : Nat) (v1 : Nat) (v2 : Int32) (hv0 : inL Λ v0 8) (hv1 : inL Λ v1 2) {r : Int32 × Mem} (hm : m_X9_step N Λ μ v0 v1 v2 = some r) : MI l yX9_step cX9_step 3 (some .int) rm_X9_step Λ [.ref v0, .ref v1, .int v2] μ r.1 r.2 := mi_of rfl (Nat.le_of_ble_eq_true rfl) (fun x C _ => tm_X9_step C _ _ _ _ _ hv0 hv1 hm)
abbrev rm_X9_pass : Room := { frames := 5, cells := 0, slots := 0, locals := 131 }
set_option maxRecDepth 20000 in
set_option maxHeartbeats 4000000 in
theorem tb_X9_pass_6 {x : Ctx} {Λ : Lay} (C : Cx x cX9_pass 6 (some .int) RX9 Λ rm_X9_pass) (N : Nat) (μ : Mem) (k6 : Int32 × Int32 × Mem → Option (Int32 × Mem)) (v0 : Nat) (v1 : Int32) (v2 : Nat) (v3 : Int32) (v4 : Int32) (v5 : Int32) (hk6 : ∀ (s : Int32 × Int32 × Mem) (r : Int32 × Mem), k6 s = some r → J x 6 Λ (QI x Λ r.1 r.2) 6 [(0, .ref v0), (1, .int v1), (2, .ref v2), (3, .int v3), (4, .int s.1), (5, .int s.2.1)] [] (s.2.2)) (hv0 : inL Λ v0 8) (hv2 : inL Λ v2 2) {r : Int32 × Mem} (hm : bd_X9_pass_6 N Λ μ k6 v0 v1 v2 v3 v4 v5 = some r) : J x 6 Λ (QI x Λ r.1 r.2) 6 [(0, .ref v0), (1, .int v1), (2, .ref v2), (3, .int v3), (4, .int v4), (5, .int v5)] [] μ := by
  refine j_iload C 5 dX9_pass_6 rfl ?_
  refine j_iload_n C 1 dX9_pass_8 rfl ?_
  refine j_icmp_ge C (tgt := 29) dX9_pass_9 (by decide) (fun h1 => ?_) (fun h1 => ?_)
  · replace hm := if_t hm h1
    refine j_iload C 4 dX9_pass_29 rfl ?_
    obtain rfl := Option.some.inj hm
    exact j_ireti C dX9_pass_31
  · replace hm := if_f hm h1
    refine j_iload C 4 dX9_pass_12 rfl ?_
    refine j_aload_n C 0 dX9_pass_14 rfl ?_
    refine j_aload_n C 2 dX9_pass_15 rfl ?_
    refine j_iload_n C 3 dX9_pass_16 rfl ?_
    obtain ⟨r2, h3, hm⟩ := bd_some hm
    refine call_I (run_LV C lk_X9_102 ⟨rfl, rfl, Nat.le_of_ble_eq_true rfl, Nat.le_of_ble_eq_true rfl⟩ (As := [.ref v2, .int v3]) hv0 rfl rfl (Nat.le_of_ble_eq_true rfl) dX9_pass_17 (mc_X9_step _ _ _ _ _ _ _ hv0 hv2 h3)) ?_
    refine j_iadd C dX9_pass_20 ?_
    obtain ⟨y4, e5, hm⟩ := lt_some hm
    refine j_topi e5 ?_
    refine j_istore C (lv' := [(4, .int y4), (0, .ref v0), (1, .int v1), (2, .ref v2), (3, .int v3), (5, .int v5)]) dX9_pass_21 (by decide) rfl ?_
    obtain ⟨y6, e7, hm⟩ := lt_some hm
    refine j_iinc C 5 (v := y6) (lv' := [(5, .int y6), (4, .int y4), (0, .ref v0), (1, .int v1), (2, .ref v2), (3, .int v3)]) dX9_pass_23 rfl (by rw [e7]; rfl) (by decide) rfl ?_
    refine j_goto C (tgt := 6) dX9_pass_26 (by decide) ?_
    refine j_sub [2, 3, 4, 5, 1, 0] rfl ?_
    exact hk6 (y4, y6, r2.2) _ hm
set_option maxRecDepth 20000 in
set_option maxHeartbeats 4000000 in
theorem tl_X9_pass_6 {x : Ctx} {Λ : Lay} (C : Cx x cX9_pass 6 (some .int) RX9 Λ rm_X9_pass) (N : Nat) (v0 : Nat) (v1 : Int32) (v2 : Nat) (v3 : Int32) (hv0 : inL Λ v0 8) (hv2 : inL Λ v2 2) (s : Int32 × Int32 × Mem) {r : Int32 × Mem} (hm : lp_X9_pass_6 N Λ v0 v1 v2 v3 s = some r) : J x 6 Λ (QI x Λ r.1 r.2) 6 [(0, .ref v0), (1, .int v1), (2, .ref v2), (3, .int v3), (4, .int s.1), (5, .int s.2.1)] [] (s.2.2) :=
  cw_ind (P := fun s r => J x 6 Λ (QI x Λ r.1 r.2) 6 [(0, .ref v0), (1, .int v1), (2, .ref v2), (3, .int v3), (4, .int s.1), (5, .int s.2.1)] [] (s.2.2)) (fun k hkk s r e => tb_X9_pass_6 C _ _ _ _ _ _ _ _ _ hkk hv0 hv2 e) N s r hm
set_option maxRecDepth 20000 in
set_option maxHeartbeats 4000000 in
theorem tm_X9_pass {x : Ctx} {Λ : Lay} (C : Cx x cX9_pass 6 (some .int) RX9 Λ rm_X9_pass) (N : Nat) (μ : Mem) (v0 : Nat) (v1 : Int32) (v2 : Nat) (v3 : Int32) (hv0 : inL Λ v0 8) (hv2 : inL Λ v2 2) {r : Int32 × Mem} (hm : m_X9_pass N Λ μ v0 v1 v2 v3 = some r) : J x 6 Λ (QI x Λ r.1 r.2) 0 [(0, .ref v0), (1, .int v1), (2, .ref v2), (3, .int v3)] [] μ := by
  refine j_iconst C (v := 0) dX9_pass_0 rfl ?_
  refine j_istore C (lv' := [(4, .int 0), (0, .ref v0), (1, .int v1), (2, .ref v2), (3, .int v3)]) dX9_pass_1 (by decide) rfl ?_
  refine j_iconst C (v := 0) dX9_pass_3 rfl ?_
  refine j_istore C (lv' := [(5, .int 0), (4, .int 0), (0, .ref v0), (1, .int v1), (2, .ref v2), (3, .int v3)]) dX9_pass_4 (by decide) rfl ?_
  refine j_sub [2, 3, 4, 5, 1, 0] rfl ?_
  exact tl_X9_pass_6 C _ _ _ _ _ hv0 hv2 (0, 0, μ) hm
set_option maxRecDepth 20000 in
set_option maxHeartbeats 4000000 in
theorem mc_X9_pass (l : Launch) (N : Nat) (Λ : Lay) (μ : Mem) (v0 : Nat) (v1 : Int32) (v2 : Nat) (v3 : Int32) (hv0 : inL Λ v0 8) (hv2 : inL Λ v2 2) {r : Int32 × Mem} (hm : m_X9_pass N Λ μ v0 v1 v2 v3 = some r) : MI l yX9_pass cX9_pass 6 (some .int) rm_X9_pass Λ [.ref v0, .int v1, .ref v2, .int v3] μ r.1 r.2 := mi_of rfl (Nat.le_of_ble_eq_true rfl) (fun x C _ => tm_X9_pass C _ _ _ _ _ _ hv0 hv2 hm)
abbrev rm_X9_reaches : Room := { frames := 2, cells := 0, slots := 0, locals := 80 }
set_option maxRecDepth 20000 in
set_option maxHeartbeats 4000000 in
theorem tj_X9_reaches_41 {x : Ctx} {Λ : Lay} (C : Cx x cX9_reaches 2 (some .boolean) RX9 Λ rm_X9_reaches) (N : Nat) (μ : Mem) (s0 : Int32) {r : Int32} (hm : jn_X9_reaches_41 N Λ μ s0 = some r) : J x 2 Λ (QI x Λ r μ) 41 [] [.int s0] μ := by
  obtain ⟨h1, hm⟩ := gd_some hm
  obtain rfl := Option.some.inj hm
  exact j_iretz C h1 dX9_reaches_41
set_option maxRecDepth 20000 in
set_option maxHeartbeats 4000000 in
theorem tj_X9_reaches_54 {x : Ctx} {Λ : Lay} (C : Cx x cX9_reaches 2 (some .boolean) RX9 Λ rm_X9_reaches) (N : Nat) (μ : Mem) (s0 : Int32) {r : Int32} (hm : jn_X9_reaches_54 N Λ μ s0 = some r) : J x 2 Λ (QI x Λ r μ) 54 [] [.int s0] μ := by
  obtain ⟨h1, hm⟩ := gd_some hm
  obtain rfl := Option.some.inj hm
  exact j_iretz C h1 dX9_reaches_54
set_option maxRecDepth 20000 in
set_option maxHeartbeats 4000000 in
theorem tj_X9_reaches_74 {x : Ctx} {Λ : Lay} (C : Cx x cX9_reaches 2 (some .boolean) RX9 Λ rm_X9_reaches) (N : Nat) (μ : Mem) (s0 : Int32) {r : Int32} (hm : jn_X9_reaches_74 N Λ μ s0 = some r) : J x 2 Λ (QI x Λ r μ) 74 [] [.int s0] μ := by
  obtain ⟨h1, hm⟩ := gd_some hm
  obtain rfl := Option.some.inj hm
  exact j_iretz C h1 dX9_reaches_74
set_option maxRecDepth 20000 in
set_option maxHeartbeats 4000000 in
theorem tj_X9_reaches_69 {x : Ctx} {Λ : Lay} (C : Cx x cX9_reaches 2 (some .boolean) RX9 Λ rm_X9_reaches) (N : Nat) (μ : Mem) {r : Int32} (hm : jn_X9_reaches_69 N Λ μ = some r) : J x 2 Λ (QI x Λ r μ) 69 [] [] μ := by
  refine j_iconst C (v := 1) dX9_reaches_69 rfl ?_
  refine j_goto C (tgt := 74) dX9_reaches_70 (by decide) ?_
  exact tj_X9_reaches_74 C _ _ _  hm
set_option maxRecDepth 20000 in
set_option maxHeartbeats 4000000 in
theorem tm_X9_reaches {x : Ctx} {Λ : Lay} (C : Cx x cX9_reaches 2 (some .boolean) RX9 Λ rm_X9_reaches) (N : Nat) (μ : Mem) (v0 : Nat) (v1 : Int32) (hv0 : inL Λ v0 8) {r : Int32} (hm : m_X9_reaches N Λ μ v0 v1 = some r) : J x 2 Λ (QI x Λ r μ) 0 [(0, .ref v0), (1, .int v1)] [] μ := by
  refine j_iload_n C 1 dX9_reaches_0 rfl ?_
  by_cases h1 : v1 = 0
  · replace hm := if_t hm h1
    refine j_look C (tgt := 28) dX9_reaches_1 (by decide) (by rw [h1]; first | done | rfl) (by decide) ?_
    refine j_aload_n C 0 dX9_reaches_28 rfl ?_
    refine j_getI C fg_X9_9_8 hv0 dX9_reaches_29 ?_
    refine j_iconst C (v := 2) dX9_reaches_32 rfl ?_
    refine j_icmp_gt C (tgt := 40) dX9_reaches_33 (by decide) (fun h2 => ?_) (fun h2 => ?_)
    · replace hm := if_t hm h2
      refine j_iconst C (v := 0) dX9_reaches_40 rfl ?_
      refine j_sub [] rfl ?_
      exact tj_X9_reaches_41 C _ _ _  hm
    · replace hm := if_f hm h2
      refine j_iconst C (v := 1) dX9_reaches_36 rfl ?_
      refine j_goto C (tgt := 41) dX9_reaches_37 (by decide) ?_
      refine j_sub [] rfl ?_
      exact tj_X9_reaches_41 C _ _ _  hm
  replace hm := if_f hm h1
  by_cases h3 : v1 = 1
  · replace hm := if_t hm h3
    refine j_look C (tgt := 42) dX9_reaches_1 (by decide) (by rw [h3]; first | done | rfl) (by decide) ?_
    refine j_aload_n C 0 dX9_reaches_42 rfl ?_
    obtain ⟨r4, h5, hm⟩ := bd_some hm
    refine call_I (run_LV C lk_X9_143 ⟨rfl, rfl, Nat.le_of_ble_eq_true rfl, Nat.le_of_ble_eq_true rfl⟩ (As := []) hv0 rfl rfl (Nat.le_of_ble_eq_true rfl) dX9_reaches_43 (mc_X9_busyDocked _ _ _ _ _ hv0 h5)) ?_
    refine j_if_ne C (tgt := 53) dX9_reaches_46 (by decide) (fun h6 => ?_) (fun h6 => ?_)
    · replace hm := if_f hm h6
      refine j_iconst C (v := 0) dX9_reaches_53 rfl ?_
      refine j_sub [] rfl ?_
      exact tj_X9_reaches_54 C _ _ _  hm
    · replace hm := if_t hm h6
      refine j_iconst C (v := 1) dX9_reaches_49 rfl ?_
      refine j_goto C (tgt := 54) dX9_reaches_50 (by decide) ?_
      refine j_sub [] rfl ?_
      exact tj_X9_reaches_54 C _ _ _  hm
  replace hm := if_f hm h3
  refine j_look C (tgt := 55) dX9_reaches_1 (by decide) (sw_look v1 [0, 1] rfl ?_) (by decide) ?_
  · simp only [List.mem_cons, List.not_mem_nil, or_false, not_or]; exact ⟨h1, h3⟩
  refine j_aload_n C 0 dX9_reaches_55 rfl ?_
  refine j_getI C fg_X9_24_8 hv0 dX9_reaches_56 ?_
  refine j_if_ne C (tgt := 69) dX9_reaches_59 (by decide) (fun h7 => ?_) (fun h7 => ?_)
  · replace hm := if_f hm h7
    refine j_sub [] rfl ?_
    exact tj_X9_reaches_69 C _ _  hm
  · replace hm := if_t hm h7
    refine j_aload_n C 0 dX9_reaches_62 rfl ?_
    obtain ⟨r8, h9, hm⟩ := bd_some hm
    refine call_I (run_LV C lk_X9_146 ⟨rfl, rfl, Nat.le_of_ble_eq_true rfl, Nat.le_of_ble_eq_true rfl⟩ (As := []) hv0 rfl rfl (Nat.le_of_ble_eq_true rfl) dX9_reaches_63 (mc_X9_isEven _ _ _ _ _ hv0 h9)) ?_
    refine j_if_eq C (tgt := 73) dX9_reaches_66 (by decide) (fun h10 => ?_) (fun h10 => ?_)
    · replace hm := if_t hm h10
      refine j_iconst C (v := 0) dX9_reaches_73 rfl ?_
      refine j_sub [] rfl ?_
      exact tj_X9_reaches_74 C _ _ _  hm
    · replace hm := if_f hm h10
      refine j_sub [] rfl ?_
      exact tj_X9_reaches_69 C _ _  hm
set_option maxRecDepth 20000 in
set_option maxHeartbeats 4000000 in
theorem mc_X9_reaches (l : Launch) (N : Nat) (Λ : Lay) (μ : Mem) (v0 : Nat) (v1 : Int32) (hv0 : inL Λ v0 8) {r : Int32} (hm : m_X9_reaches N Λ μ v0 v1 = some r) : MI l yX9_reaches cX9_reaches 2 (some .boolean) rm_X9_reaches Λ [.ref v0, .int v1] μ r μ := mi_of rfl (Nat.le_of_ble_eq_true rfl) (fun x C _ => tm_X9_reaches C _ _ _ _ hv0 hm)
abbrev rm_X9_letIn : Room := { frames := 2, cells := 0, slots := 0, locals := 86 }
set_option maxRecDepth 20000 in
set_option maxHeartbeats 4000000 in
theorem tm_X9_letIn {x : Ctx} {Λ : Lay} (C : Cx x cX9_letIn 3 none RX9 Λ rm_X9_letIn) (N : Nat) (μ : Mem) (v0 : Nat) (v1 : Int32) (v2 : Int32) (hv0 : inL Λ v0 8) {r : Mem} (hm : m_X9_letIn N Λ μ v0 v1 v2 = some r) : J x 3 Λ (QV x Λ r) 0 [(0, .ref v0), (1, .int v1), (2, .int v2)] [] μ := by
  refine j_aload_n C 0 dX9_letIn_0 rfl ?_
  obtain ⟨q1, h2, hm⟩ := bd_some hm
  refine j_getR C fg_X9_41_8 hv0 (dr_spec h2).1 dX9_letIn_1 ?_
  refine j_iload_n C 1 dX9_letIn_4 rfl ?_
  refine j_iconst C (v := 1) dX9_letIn_5 rfl ?_
  obtain ⟨h3, hm⟩ := gd_some hm
  obtain ⟨μ4, e5, hm⟩ := lt_some hm
  refine j_iast C ((dr_spec h2).2) h3 e5 dX9_letIn_6 ?_
  refine j_aload_n C 0 dX9_letIn_7 rfl ?_
  obtain ⟨q6, h7, hm⟩ := bd_some hm
  refine j_getR C fg_X9_44_8 hv0 (dr_spec h7).1 dX9_letIn_8 ?_
  refine j_iload_n C 1 dX9_letIn_11 rfl ?_
  refine j_iload_n C 2 dX9_letIn_12 rfl ?_
  obtain ⟨h8, hm⟩ := gd_some hm
  obtain ⟨μ9, e10, hm⟩ := lt_some hm
  refine j_iast C ((dr_spec h7).2) h8 e10 dX9_letIn_13 ?_
  refine j_aload_n C 0 dX9_letIn_14 rfl ?_
  obtain ⟨q11, h12, hm⟩ := bd_some hm
  refine j_getR C fg_X9_50_8 hv0 (dr_spec h12).1 dX9_letIn_15 ?_
  refine j_aload_n C 0 dX9_letIn_18 rfl ?_
  refine j_getI C fg_X9_54_8 hv0 dX9_letIn_19 ?_
  refine j_iload_n C 1 dX9_letIn_22 rfl ?_
  refine j_iconst C (v := 0) dX9_letIn_23 rfl ?_
  refine j_iload_n C 2 dX9_letIn_24 rfl ?_
  refine j_aload_n C 0 dX9_letIn_25 rfl ?_
  refine j_getI C fg_X9_9_8 hv0 dX9_letIn_26 ?_
  obtain ⟨r13, h14, hm⟩ := bd_some hm
  refine call_V (run_LV C lk_X9_139 ⟨rfl, rfl, Nat.le_of_ble_eq_true rfl, Nat.le_of_ble_eq_true rfl⟩ (As := [.int (μ9.1 v0 1), .int v1, .int 0, .int v2, .int (μ9.1 v0 0)]) ((dr_spec h12).2) rfl rfl (Nat.le_of_ble_eq_true rfl) dX9_letIn_29 (mc_X4_add _ _ _ _ _ _ _ _ _ _ ((dr_spec h12).2) h14)) ?_
  obtain rfl := Option.some.inj hm
  exact j_vret C dX9_letIn_32
set_option maxRecDepth 20000 in
set_option maxHeartbeats 4000000 in
theorem mc_X9_letIn (l : Launch) (N : Nat) (Λ : Lay) (μ : Mem) (v0 : Nat) (v1 : Int32) (v2 : Int32) (hv0 : inL Λ v0 8) {r : Mem} (hm : m_X9_letIn N Λ μ v0 v1 v2 = some r) : MV l yX9_letIn cX9_letIn 3 rm_X9_letIn Λ [.ref v0, .int v1, .int v2] μ r := mv_of rfl (Nat.le_of_ble_eq_true rfl) (fun x C _ => tm_X9_letIn C _ _ _ _ _ hv0 hm)
abbrev rm_X9_letOut : Room := { frames := 4, cells := 0, slots := 0, locals := 99 }
set_option maxRecDepth 20000 in
set_option maxHeartbeats 4000000 in
theorem tm_X9_letOut {x : Ctx} {Λ : Lay} (C : Cx x cX9_letOut 4 (some .int) RX9 Λ rm_X9_letOut) (N : Nat) (μ : Mem) (v0 : Nat) (v1 : Int32) (v2 : Nat) (hv0 : inL Λ v0 8) (hv2 : inL Λ v2 2) {r : Int32 × Mem} (hm : m_X9_letOut N Λ μ v0 v1 v2 = some r) : J x 4 Λ (QI x Λ r.1 r.2) 0 [(0, .ref v0), (1, .int v1), (2, .ref v2)] [] μ := by
  refine j_aload_n C 0 dX9_letOut_0 rfl ?_
  refine j_iload_n C 1 dX9_letOut_1 rfl ?_
  refine j_aload_n C 2 dX9_letOut_2 rfl ?_
  obtain ⟨r1, h2, hm⟩ := bd_some hm
  refine call_I (run_LV C lk_X9_150 ⟨rfl, rfl, Nat.le_of_ble_eq_true rfl, Nat.le_of_ble_eq_true rfl⟩ (As := [.int v1, .ref v2]) hv0 rfl rfl (Nat.le_of_ble_eq_true rfl) dX9_letOut_3 (mc_X9_feeOf _ _ _ _ _ _ _ hv0 hv2 h2)) ?_
  refine j_istore_n C (lv' := [(3, .int r1.1), (0, .ref v0), (1, .int v1), (2, .ref v2)]) dX9_letOut_6 (by decide) rfl ?_
  refine j_aload_n C 1 dX9_letOut_7 rfl ?_
  obtain ⟨q3, h4, hm⟩ := bd_some hm
  refine j_getR C fg_X9_50_8 hv0 (dr_spec h4).1 dX9_letOut_8 ?_
  refine j_aload_n C 1 dX9_letOut_11 rfl ?_
  refine j_getI C fg_X9_54_8 hv0 dX9_letOut_12 ?_
  refine j_iload_n C 2 dX9_letOut_15 rfl ?_
  refine j_iconst C (v := 1) dX9_letOut_16 rfl ?_
  refine j_aload_n C 1 dX9_letOut_17 rfl ?_
  obtain ⟨q5, h6, hm⟩ := bd_some hm
  refine j_getR C fg_X9_44_8 hv0 (dr_spec h6).1 dX9_letOut_18 ?_
  refine j_iload_n C 2 dX9_letOut_21 rfl ?_
  obtain ⟨h7, hm⟩ := gd_some hm
  refine j_iald C ((dr_spec h6).2) h7 dX9_letOut_22 ?_
  refine j_aload_n C 1 dX9_letOut_23 rfl ?_
  refine j_getI C fg_X9_9_8 hv0 dX9_letOut_24 ?_
  obtain ⟨r8, h9, hm⟩ := bd_some hm
  refine call_V (run_LV C lk_X9_139 ⟨rfl, rfl, Nat.le_of_ble_eq_true rfl, Nat.le_of_ble_eq_true rfl⟩ (As := [.int (r1.2.1 v0 1), .int v1, .int 1, .int (r1.2.1 q5 v1.toNatClampNeg), .int (r1.2.1 v0 0)]) ((dr_spec h4).2) rfl rfl (Nat.le_of_ble_eq_true rfl) dX9_letOut_27 (mc_X4_add _ _ _ _ _ _ _ _ _ _ ((dr_spec h4).2) h9)) ?_
  refine j_aload_n C 1 dX9_letOut_30 rfl ?_
  obtain ⟨q10, h11, hm⟩ := bd_some hm
  refine j_getR C fg_X9_41_8 hv0 (dr_spec h11).1 dX9_letOut_31 ?_
  refine j_iload_n C 2 dX9_letOut_34 rfl ?_
  refine j_iconst C (v := 2) dX9_letOut_35 rfl ?_
  obtain ⟨h12, hm⟩ := gd_some hm
  obtain ⟨μ13, e14, hm⟩ := lt_some hm
  refine j_iast C ((dr_spec h11).2) h12 e14 dX9_letOut_36 ?_
  refine j_aload_n C 1 dX9_letOut_37 rfl ?_
  obtain ⟨q15, h16, hm⟩ := bd_some hm
  refine j_getR C fg_X9_44_8 hv0 (dr_spec h16).1 dX9_letOut_38 ?_
  refine j_iload_n C 2 dX9_letOut_41 rfl ?_
  refine j_iconst C (v := -1) dX9_letOut_42 rfl ?_
  obtain ⟨h17, hm⟩ := gd_some hm
  obtain ⟨μ18, e19, hm⟩ := lt_some hm
  refine j_iast C ((dr_spec h16).2) h17 e19 dX9_letOut_43 ?_
  refine j_aload_n C 1 dX9_letOut_44 rfl ?_
  refine j_aload_n C 1 dX9_letOut_45 rfl ?_
  refine j_getI C fg_X9_60_8 hv0 dX9_letOut_46 ?_
  refine j_iload_n C 0 dX9_letOut_49 rfl ?_
  refine j_iadd C dX9_letOut_50 ?_
  refine j_sipush C (v := 9999) dX9_letOut_51 rfl ?_
  refine j_mmin C wk_581 ⟨Nat.le_of_ble_eq_true rfl, Nat.le_of_ble_eq_true rfl⟩ dX9_letOut_54 ?_
  obtain ⟨μ20, e21, hm⟩ := lt_some hm
  refine j_putI C fp_X9_60_8 hv0 e21 dX9_letOut_57 ?_
  refine j_iload_n C 0 dX9_letOut_60 rfl ?_
  obtain rfl := Option.some.inj hm
  exact j_ireti C dX9_letOut_61
set_option maxRecDepth 20000 in
set_option maxHeartbeats 4000000 in
theorem mc_X9_letOut (l : Launch) (N : Nat) (Λ : Lay) (μ : Mem) (v0 : Nat) (v1 : Int32) (v2 : Nat) (hv0 : inL Λ v0 8) (hv2 : inL Λ v2 2) {r : Int32 × Mem} (hm : m_X9_letOut N Λ μ v0 v1 v2 = some r) : MI l yX9_letOut cX9_letOut 4 (some .int) rm_X9_letOut Λ [.ref v0, .int v1, .ref v2] μ r.1 r.2 := mi_of rfl (Nat.le_of_ble_eq_true rfl) (fun x C _ => tm_X9_letOut C _ _ _ _ _ hv0 hv2 hm)
abbrev rm_X9_floats : Room := { frames := 0, cells := 0, slots := 0, locals := 0 }
set_option maxRecDepth 20000 in
set_option maxHeartbeats 4000000 in
theorem tj_X9_floats_28 {x : Ctx} {Λ : Lay} (C : Cx x cX9_floats 2 (some .boolean) RX9 Λ rm_X9_floats) (N : Nat) (μ : Mem) (s0 : Int32) {r : Int32} (hm : jn_X9_floats_28 N Λ μ s0 = some r) : J x 2 Λ (QI x Λ r μ) 28 [] [.int s0] μ := by
  obtain ⟨h1, hm⟩ := gd_some hm
  obtain rfl := Option.some.inj hm
  exact j_iretz C h1 dX9_floats_28
set_option maxRecDepth 20000 in
set_option maxHeartbeats 4000000 in
theorem tj_X9_floats_27 {x : Ctx} {Λ : Lay} (C : Cx x cX9_floats 2 (some .boolean) RX9 Λ rm_X9_floats) (N : Nat) (μ : Mem) {r : Int32} (hm : jn_X9_floats_27 N Λ μ = some r) : J x 2 Λ (QI x Λ r μ) 27 [] [] μ := by
  refine j_iconst C (v := 0) dX9_floats_27 rfl ?_
  exact tj_X9_floats_28 C _ _ _  hm
set_option maxRecDepth 20000 in
set_option maxHeartbeats 4000000 in
theorem tm_X9_floats {x : Ctx} {Λ : Lay} (C : Cx x cX9_floats 2 (some .boolean) RX9 Λ rm_X9_floats) (N : Nat) (μ : Mem) (v0 : Nat) (v1 : Int32) (hv0 : inL Λ v0 8) {r : Int32} (hm : m_X9_floats N Λ μ v0 v1 = some r) : J x 2 Λ (QI x Λ r μ) 0 [(0, .ref v0), (1, .int v1)] [] μ := by
  refine j_aload_n C 0 dX9_floats_0 rfl ?_
  obtain ⟨q1, h2, hm⟩ := bd_some hm
  refine j_getR C fg_X9_41_8 hv0 (dr_spec h2).1 dX9_floats_1 ?_
  refine j_iload_n C 1 dX9_floats_4 rfl ?_
  obtain ⟨h3, hm⟩ := gd_some hm
  refine j_iald C ((dr_spec h2).2) h3 dX9_floats_5 ?_
  refine j_iconst C (v := 1) dX9_floats_6 rfl ?_
  refine j_icmp_ne C (tgt := 27) dX9_floats_7 (by decide) (fun h4 => ?_) (fun h4 => ?_)
  · replace hm := if_f hm h4
    refine j_sub [] rfl ?_
    exact tj_X9_floats_27 C _ _  hm
  · replace hm := if_t hm h4
    refine j_aload_n C 0 dX9_floats_10 rfl ?_
    obtain ⟨q5, h6, hm⟩ := bd_some hm
    refine j_getR C fg_X9_35_8 hv0 (dr_spec h6).1 dX9_floats_11 ?_
    refine j_iload_n C 1 dX9_floats_14 rfl ?_
    obtain ⟨h7, hm⟩ := gd_some hm
    refine j_iald C ((dr_spec h6).2) h7 dX9_floats_15 ?_
    refine j_aload_n C 0 dX9_floats_16 rfl ?_
    refine j_getI C fg_X9_9_8 hv0 dX9_floats_17 ?_
    refine j_icmp_gt C (tgt := 27) dX9_floats_20 (by decide) (fun h8 => ?_) (fun h8 => ?_)
    · replace hm := if_t hm h8
      refine j_sub [] rfl ?_
      exact tj_X9_floats_27 C _ _  hm
    · replace hm := if_f hm h8
      refine j_iconst C (v := 1) dX9_floats_23 rfl ?_
      refine j_goto C (tgt := 28) dX9_floats_24 (by decide) ?_
      refine j_sub [] rfl ?_
      exact tj_X9_floats_28 C _ _ _  hm
set_option maxRecDepth 20000 in
set_option maxHeartbeats 4000000 in
theorem mc_X9_floats (l : Launch) (N : Nat) (Λ : Lay) (μ : Mem) (v0 : Nat) (v1 : Int32) (hv0 : inL Λ v0 8) {r : Int32} (hm : m_X9_floats N Λ μ v0 v1 = some r) : MI l yX9_floats cX9_floats 2 (some .boolean) rm_X9_floats Λ [.ref v0, .int v1] μ r μ := mi_of rfl (Nat.le_of_ble_eq_true rfl) (fun x C _ => tm_X9_floats C _ _ _ _ hv0 hm)
abbrev rm_X9_whenFor : Room := { frames := 0, cells := 0, slots := 0, locals := 0 }
set_option maxRecDepth 20000 in
set_option maxHeartbeats 4000000 in
theorem tb_X9_whenFor_2 {x : Ctx} {Λ : Lay} (C : Cx x cX9_whenFor 3 (some .int) RX9 Λ rm_X9_whenFor) (N : Nat) (μ : Mem) (k2 : Int32 → Option (Int32)) (v0 : Nat) (v1 : Int32) (v2 : Int32) (hk2 : ∀ (s : Int32) (r : Int32), k2 s = some r → J x 3 Λ (QI x Λ r μ) 2 [(0, .ref v0), (1, .int v1), (2, .int s)] [] (μ)) (hv0 : inL Λ v0 8) {r : Int32} (hm : bd_X9_whenFor_2 N Λ μ k2 v0 v1 v2 = some r) : J x 3 Λ (QI x Λ r μ) 2 [(0, .ref v0), (1, .int v1), (2, .int v2)] [] μ := by
  refine j_iload_n C 2 dX9_whenFor_2 rfl ?_
  refine j_bipush C (v := 60) dX9_whenFor_3 rfl ?_
  refine j_icmp_gt C (tgt := 39) dX9_whenFor_5 (by decide) (fun h1 => ?_) (fun h1 => ?_)
  · replace hm := if_t hm h1
    refine j_iconst C (v := -1) dX9_whenFor_39 rfl ?_
    obtain rfl := Option.some.inj hm
    exact j_ireti C dX9_whenFor_40
  · replace hm := if_f hm h1
    refine j_aload_n C 0 dX9_whenFor_8 rfl ?_
    obtain ⟨q2, h3, hm⟩ := bd_some hm
    refine j_getR C fg_X9_28_8 hv0 (dr_spec h3).1 dX9_whenFor_9 ?_
    refine j_aload_n C 0 dX9_whenFor_12 rfl ?_
    refine j_getI C fg_X9_54_8 hv0 dX9_whenFor_13 ?_
    refine j_iload_n C 2 dX9_whenFor_16 rfl ?_
    refine j_iadd C dX9_whenFor_17 ?_
    refine j_bipush C (v := 12) dX9_whenFor_18 rfl ?_
    refine j_irem C dX9_whenFor_20 (by decide) ?_
    obtain ⟨h4, hm⟩ := gd_some hm
    refine j_iald C ((dr_spec h3).2) h4 dX9_whenFor_21 ?_
    refine j_aload_n C 0 dX9_whenFor_22 rfl ?_
    obtain ⟨q5, h6, hm⟩ := bd_some hm
    refine j_getR C fg_X9_35_8 hv0 (dr_spec h6).1 dX9_whenFor_23 ?_
    refine j_iload_n C 1 dX9_whenFor_26 rfl ?_
    obtain ⟨h7, hm⟩ := gd_some hm
    refine j_iald C ((dr_spec h6).2) h7 dX9_whenFor_27 ?_
    refine j_icmp_lt C (tgt := 33) dX9_whenFor_28 (by decide) (fun h8 => ?_) (fun h8 => ?_)
    · replace hm := if_t hm h8
      obtain ⟨y9, e10, hm⟩ := lt_some hm
      refine j_iinc C 2 (v := y9) (lv' := [(2, .int y9), (0, .ref v0), (1, .int v1)]) dX9_whenFor_33 rfl (by rw [e10]; rfl) (by decide) rfl ?_
      refine j_goto C (tgt := 2) dX9_whenFor_36 (by decide) ?_
      refine j_sub [1, 2, 0] rfl ?_
      exact hk2 y9 _ hm
    · replace hm := if_f hm h8
      refine j_iload_n C 2 dX9_whenFor_31 rfl ?_
      obtain rfl := Option.some.inj hm
      exact j_ireti C dX9_whenFor_32
set_option maxRecDepth 20000 in
set_option maxHeartbeats 4000000 in
theorem tl_X9_whenFor_2 {x : Ctx} {Λ : Lay} (C : Cx x cX9_whenFor 3 (some .int) RX9 Λ rm_X9_whenFor) (N : Nat) (μ : Mem) (v0 : Nat) (v1 : Int32) (hv0 : inL Λ v0 8) (s : Int32) {r : Int32} (hm : lp_X9_whenFor_2 N Λ μ v0 v1 s = some r) : J x 3 Λ (QI x Λ r μ) 2 [(0, .ref v0), (1, .int v1), (2, .int s)] [] (μ) :=
  cw_ind (P := fun s r => J x 3 Λ (QI x Λ r μ) 2 [(0, .ref v0), (1, .int v1), (2, .int s)] [] (μ)) (fun k hkk s r e => tb_X9_whenFor_2 C _ _ _ _ _ _ hkk hv0 e) N s r hm
set_option maxRecDepth 20000 in
set_option maxHeartbeats 4000000 in
theorem tm_X9_whenFor {x : Ctx} {Λ : Lay} (C : Cx x cX9_whenFor 3 (some .int) RX9 Λ rm_X9_whenFor) (N : Nat) (μ : Mem) (v0 : Nat) (v1 : Int32) (hv0 : inL Λ v0 8) {r : Int32} (hm : m_X9_whenFor N Λ μ v0 v1 = some r) : J x 3 Λ (QI x Λ r μ) 0 [(0, .ref v0), (1, .int v1)] [] μ := by
  refine j_iconst C (v := 0) dX9_whenFor_0 rfl ?_
  refine j_istore_n C (lv' := [(2, .int 0), (0, .ref v0), (1, .int v1)]) dX9_whenFor_1 (by decide) rfl ?_
  refine j_sub [1, 2, 0] rfl ?_
  exact tl_X9_whenFor_2 C _ _ _ _ hv0 0 hm
set_option maxRecDepth 20000 in
set_option maxHeartbeats 4000000 in
theorem mc_X9_whenFor (l : Launch) (N : Nat) (Λ : Lay) (μ : Mem) (v0 : Nat) (v1 : Int32) (hv0 : inL Λ v0 8) {r : Int32} (hm : m_X9_whenFor N Λ μ v0 v1 = some r) : MI l yX9_whenFor cX9_whenFor 3 (some .int) rm_X9_whenFor Λ [.ref v0, .int v1] μ r μ := mi_of rfl (Nat.le_of_ble_eq_true rfl) (fun x C _ => tm_X9_whenFor C _ _ _ _ hv0 hm)
abbrev rm_X9_fitsAt : Room := { frames := 2, cells := 0, slots := 0, locals := 43 }
set_option maxRecDepth 20000 in
set_option maxHeartbeats 4000000 in
theorem tj_X9_fitsAt_38 {x : Ctx} {Λ : Lay} (C : Cx x cX9_fitsAt 4 (some .int) RX9 Λ rm_X9_fitsAt) (N : Nat) (μ : Mem) (k7 : Int32 → Option (Int32)) (v0 : Nat) (v1 : Int32) (v2 : Int32) (v3 : Int32) (hk7 : ∀ (s : Int32) (r : Int32), k7 s = some r → J x 4 Λ (QI x Λ r μ) 7 [(0, .ref v0), (1, .int v1), (2, .int v2), (3, .int s)] [] (μ)) (hv0 : inL Λ v0 8) {r : Int32} (hm : jn_X9_fitsAt_38 N Λ μ k7 v0 v1 v2 v3 = some r) : J x 4 Λ (QI x Λ r μ) 38 [(0, .ref v0), (1, .int v1), (2, .int v2), (3, .int v3)] [] μ := by
  obtain ⟨y1, e2, hm⟩ := lt_some hm
  refine j_iinc C 3 (v := y1) (lv' := [(3, .int y1), (0, .ref v0), (1, .int v1), (2, .int v2)]) dX9_fitsAt_38 rfl (by rw [e2]; rfl) (by decide) rfl ?_
  refine j_goto C (tgt := 7) dX9_fitsAt_41 (by decide) ?_
  refine j_sub [1, 2, 3, 0] rfl ?_
  exact hk7 y1 _ hm
set_option maxRecDepth 20000 in
set_option maxHeartbeats 4000000 in
theorem tb_X9_fitsAt_7 {x : Ctx} {Λ : Lay} (C : Cx x cX9_fitsAt 4 (some .int) RX9 Λ rm_X9_fitsAt) (N : Nat) (μ : Mem) (k7 : Int32 → Option (Int32)) (v0 : Nat) (v1 : Int32) (v2 : Int32) (v3 : Int32) (hk7 : ∀ (s : Int32) (r : Int32), k7 s = some r → J x 4 Λ (QI x Λ r μ) 7 [(0, .ref v0), (1, .int v1), (2, .int v2), (3, .int s)] [] (μ)) (hv0 : inL Λ v0 8) {r : Int32} (hm : bd_X9_fitsAt_7 N Λ μ k7 v0 v1 v2 v3 = some r) : J x 4 Λ (QI x Λ r μ) 7 [(0, .ref v0), (1, .int v1), (2, .int v2), (3, .int v3)] [] μ := by
  refine j_iload_n C 3 dX9_fitsAt_7 rfl ?_
  refine j_bipush C (v := 24) dX9_fitsAt_8 rfl ?_
  refine j_icmp_ge C (tgt := 44) dX9_fitsAt_10 (by decide) (fun h1 => ?_) (fun h1 => ?_)
  · replace hm := if_t hm h1
    refine j_iconst C (v := -1) dX9_fitsAt_44 rfl ?_
    obtain rfl := Option.some.inj hm
    exact j_ireti C dX9_fitsAt_45
  · replace hm := if_f hm h1
    refine j_aload_n C 0 dX9_fitsAt_13 rfl ?_
    obtain ⟨q2, h3, hm⟩ := bd_some hm
    refine j_getR C fg_X9_41_8 hv0 (dr_spec h3).1 dX9_fitsAt_14 ?_
    refine j_iload_n C 1 dX9_fitsAt_17 rfl ?_
    obtain ⟨h4, hm⟩ := gd_some hm
    refine j_iald C ((dr_spec h3).2) h4 dX9_fitsAt_18 ?_
    refine j_if_ne C (tgt := 38) dX9_fitsAt_19 (by decide) (fun h5 => ?_) (fun h5 => ?_)
    · replace hm := if_f hm h5
      exact tj_X9_fitsAt_38 C _ _ _ _ _ _ _ hk7 hv0 hm
    · replace hm := if_t hm h5
      refine j_iload_n C 2 dX9_fitsAt_22 rfl ?_
      refine j_iload_n C 3 dX9_fitsAt_23 rfl ?_
      refine j_aload_n C 0 dX9_fitsAt_24 rfl ?_
      obtain ⟨q6, h7, hm⟩ := bd_some hm
      refine j_getR C fg_X9_32_8 hv0 (dr_spec h7).1 dX9_fitsAt_25 ?_
      refine j_iload_n C 1 dX9_fitsAt_28 rfl ?_
      obtain ⟨h8, hm⟩ := gd_some hm
      refine j_iald C ((dr_spec h7).2) h8 dX9_fitsAt_29 ?_
      obtain ⟨r9, h10, hm⟩ := bd_some hm
      refine call_I (run_LN C ln_X9_163 ⟨rfl, rfl, Nat.le_of_ble_eq_true rfl, Nat.le_of_ble_eq_true rfl⟩ (As := [.int v2, .int v3, .int (μ.1 q6 v1.toNatClampNeg)]) rfl rfl (Nat.le_of_ble_eq_true rfl) dX9_fitsAt_30 (mc_X11_isRoom _ _ _ _ _ _ _  h10)) ?_
      refine j_if_eq C (tgt := 38) dX9_fitsAt_33 (by decide) (fun h11 => ?_) (fun h11 => ?_)
      · replace hm := if_t hm h11
        exact tj_X9_fitsAt_38 C _ _ _ _ _ _ _ hk7 hv0 hm
      · replace hm := if_f hm h11
        refine j_iload_n C 3 dX9_fitsAt_36 rfl ?_
        obtain rfl := Option.some.inj hm
        exact j_ireti C dX9_fitsAt_37
set_option maxRecDepth 20000 in
set_option maxHeartbeats 4000000 in
theorem tl_X9_fitsAt_7 {x : Ctx} {Λ : Lay} (C : Cx x cX9_fitsAt 4 (some .int) RX9 Λ rm_X9_fitsAt) (N : Nat) (μ : Mem) (v0 : Nat) (v1 : Int32) (v2 : Int32) (hv0 : inL Λ v0 8) (s : Int32) {r : Int32} (hm : lp_X9_fitsAt_7 N Λ μ v0 v1 v2 s = some r) : J x 4 Λ (QI x Λ r μ) 7 [(0, .ref v0), (1, .int v1), (2, .int v2), (3, .int s)] [] (μ) :=
  cw_ind (P := fun s r => J x 4 Λ (QI x Λ r μ) 7 [(0, .ref v0), (1, .int v1), (2, .int v2), (3, .int s)] [] (μ)) (fun k hkk s r e => tb_X9_fitsAt_7 C _ _ _ _ _ _ _ hkk hv0 e) N s r hm
set_option maxRecDepth 20000 in
set_option maxHeartbeats 4000000 in
theorem tm_X9_fitsAt {x : Ctx} {Λ : Lay} (C : Cx x cX9_fitsAt 4 (some .int) RX9 Λ rm_X9_fitsAt) (N : Nat) (μ : Mem) (v0 : Nat) (v1 : Int32) (hv0 : inL Λ v0 8) {r : Int32} (hm : m_X9_fitsAt N Λ μ v0 v1 = some r) : J x 4 Λ (QI x Λ r μ) 0 [(0, .ref v0), (1, .int v1)] [] μ := by
  refine j_aload_n C 0 dX9_fitsAt_0 rfl ?_
  obtain ⟨r1, h2, hm⟩ := bd_some hm
  refine call_I (run_LV C lk_X9_160 ⟨rfl, rfl, Nat.le_of_ble_eq_true rfl, Nat.le_of_ble_eq_true rfl⟩ (As := []) hv0 rfl rfl (Nat.le_of_ble_eq_true rfl) dX9_fitsAt_1 (mc_X9_takenPlaces _ _ _ _ _ hv0 h2)) ?_
  refine j_istore_n C (lv' := [(2, .int r1), (0, .ref v0), (1, .int v1)]) dX9_fitsAt_4 (by decide) rfl ?_
  refine j_iconst C (v := 0) dX9_fitsAt_5 rfl ?_
  refine j_istore_n C (lv' := [(3, .int 0), (2, .int r1), (0, .ref v0), (1, .int v1)]) dX9_fitsAt_6 (by decide) rfl ?_
  refine j_sub [2, 3, 1, 0] rfl ?_
  exact tl_X9_fitsAt_7 C _ _ _ _ _ hv0 0 hm
set_option maxRecDepth 20000 in
set_option maxHeartbeats 4000000 in
theorem mc_X9_fitsAt (l : Launch) (N : Nat) (Λ : Lay) (μ : Mem) (v0 : Nat) (v1 : Int32) (hv0 : inL Λ v0 8) {r : Int32} (hm : m_X9_fitsAt N Λ μ v0 v1 = some r) : MI l yX9_fitsAt cX9_fitsAt 4 (some .int) rm_X9_fitsAt Λ [.ref v0, .int v1] μ r μ := mi_of rfl (Nat.le_of_ble_eq_true rfl) (fun x C _ => tm_X9_fitsAt C _ _ _ _ hv0 hm)
abbrev rm_X9_shareOf : Room := { frames := 0, cells := 0, slots := 0, locals := 0 }
set_option maxRecDepth 20000 in
set_option maxHeartbeats 4000000 in
theorem tj_X9_shareOf_33 {x : Ctx} {Λ : Lay} (C : Cx x cX9_shareOf 4 (some .int) RX9 Λ rm_X9_shareOf) (N : Nat) (μ : Mem) (k4 : Int32 × Int32 → Option (Int32)) (v0 : Nat) (v1 : Int32) (v3 : Int32) (s0 : Int32) (s1 : Int32) (hk4 : ∀ (s : Int32 × Int32) (r : Int32), k4 s = some r → J x 4 Λ (QI x Λ r μ) 4 [(0, .ref v0), (1, .int v1), (2, .int s.1), (3, .int s.2)] [] (μ)) (hv0 : inL Λ v0 8) {r : Int32} (hm : jn_X9_shareOf_33 N Λ μ k4 v0 v1 v3 s0 s1 = some r) : J x 4 Λ (QI x Λ r μ) 33 [(0, .ref v0), (1, .int v1), (3, .int v3)] [.int s1, .int s0] μ := by
  refine j_iadd C dX9_shareOf_33 ?_
  obtain ⟨y1, e2, hm⟩ := lt_some hm
  refine j_topi e2 ?_
  refine j_istore_n C (lv' := [(2, .int y1), (0, .ref v0), (1, .int v1), (3, .int v3)]) dX9_shareOf_34 (by decide) rfl ?_
  obtain ⟨y3, e4, hm⟩ := lt_some hm
  refine j_iinc C 3 (v := y3) (lv' := [(3, .int y3), (2, .int y1), (0, .ref v0), (1, .int v1)]) dX9_shareOf_35 rfl (by rw [e4]; rfl) (by decide) rfl ?_
  refine j_goto C (tgt := 4) dX9_shareOf_38 (by decide) ?_
  refine j_sub [2, 3, 1, 0] rfl ?_
  exact hk4 (y1, y3) _ hm
set_option maxRecDepth 20000 in
set_option maxHeartbeats 4000000 in
theorem tj_X9_shareOf_70 {x : Ctx} {Λ : Lay} (C : Cx x cX9_shareOf 4 (some .int) RX9 Λ rm_X9_shareOf) (N : Nat) (μ : Mem) (s0 : Int32) {r : Int32} (hm : jn_X9_shareOf_70 N Λ μ s0 = some r) : J x 4 Λ (QI x Λ r μ) 70 [] [.int s0] μ := by
  obtain rfl := Option.some.inj hm
  exact j_ireti C dX9_shareOf_70
set_option maxRecDepth 20000 in
set_option maxHeartbeats 4000000 in
theorem tj_X9_shareOf_69 {x : Ctx} {Λ : Lay} (C : Cx x cX9_shareOf 4 (some .int) RX9 Λ rm_X9_shareOf) (N : Nat) (μ : Mem) {r : Int32} (hm : jn_X9_shareOf_69 N Λ μ = some r) : J x 4 Λ (QI x Λ r μ) 69 [] [] μ := by
  refine j_iconst C (v := 0) dX9_shareOf_69 rfl ?_
  exact tj_X9_shareOf_70 C _ _ _  hm
set_option maxRecDepth 20000 in
set_option maxHeartbeats 4000000 in
theorem tb_X9_shareOf_4 {x : Ctx} {Λ : Lay} (C : Cx x cX9_shareOf 4 (some .int) RX9 Λ rm_X9_shareOf) (N : Nat) (μ : Mem) (k4 : Int32 × Int32 → Option (Int32)) (v0 : Nat) (v1 : Int32) (v2 : Int32) (v3 : Int32) (hk4 : ∀ (s : Int32 × Int32) (r : Int32), k4 s = some r → J x 4 Λ (QI x Λ r μ) 4 [(0, .ref v0), (1, .int v1), (2, .int s.1), (3, .int s.2)] [] (μ)) (hv0 : inL Λ v0 8) {r : Int32} (hm : bd_X9_shareOf_4 N Λ μ k4 v0 v1 v2 v3 = some r) : J x 4 Λ (QI x Λ r μ) 4 [(0, .ref v0), (1, .int v1), (2, .int v2), (3, .int v3)] [] μ := by
  refine j_iload_n C 3 dX9_shareOf_4 rfl ?_
  refine j_aload_n C 0 dX9_shareOf_5 rfl ?_
  refine j_getI C fg_X9_66_8 hv0 dX9_shareOf_6 ?_
  refine j_icmp_ge C (tgt := 41) dX9_shareOf_9 (by decide) (fun h1 => ?_) (fun h1 => ?_)
  · replace hm := if_t hm h1
    refine j_iload_n C 2 dX9_shareOf_41 rfl ?_
    refine j_if_le C (tgt := 69) dX9_shareOf_42 (by decide) (fun h2 => ?_) (fun h2 => ?_)
    · replace hm := if_t hm h2
      refine j_sub [] rfl ?_
      exact tj_X9_shareOf_69 C _ _  hm
    · replace hm := if_f hm h2
      refine j_aload_n C 0 dX9_shareOf_45 rfl ?_
      obtain ⟨q3, h4, hm⟩ := bd_some hm
      refine j_getR C fg_X9_41_8 hv0 (dr_spec h4).1 dX9_shareOf_46 ?_
      refine j_iload_n C 1 dX9_shareOf_49 rfl ?_
      obtain ⟨h5, hm⟩ := gd_some hm
      refine j_iald C ((dr_spec h4).2) h5 dX9_shareOf_50 ?_
      refine j_iconst C (v := 2) dX9_shareOf_51 rfl ?_
      refine j_icmp_eq C (tgt := 69) dX9_shareOf_52 (by decide) (fun h6 => ?_) (fun h6 => ?_)
      · replace hm := if_t hm h6
        refine j_sub [] rfl ?_
        exact tj_X9_shareOf_69 C _ _  hm
      · replace hm := if_f hm h6
        refine j_bipush C (v := 100) dX9_shareOf_55 rfl ?_
        refine j_aload_n C 0 dX9_shareOf_57 rfl ?_
        obtain ⟨q7, h8, hm⟩ := bd_some hm
        refine j_getR C fg_X9_38_8 hv0 (dr_spec h8).1 dX9_shareOf_58 ?_
        refine j_iload_n C 1 dX9_shareOf_61 rfl ?_
        obtain ⟨h9, hm⟩ := gd_some hm
        refine j_iald C ((dr_spec h8).2) h9 dX9_shareOf_62 ?_
        refine j_imul C dX9_shareOf_63 ?_
        refine j_iload_n C 2 dX9_shareOf_64 rfl ?_
        obtain ⟨h10, hm⟩ := gd_some hm
        refine j_idiv C dX9_shareOf_65 (of_decide_eq_true h10) ?_
        refine j_goto C (tgt := 70) dX9_shareOf_66 (by decide) ?_
        refine j_sub [] rfl ?_
        exact tj_X9_shareOf_70 C _ _ _  hm
  · replace hm := if_f hm h1
    refine j_iload_n C 2 dX9_shareOf_12 rfl ?_
    refine j_aload_n C 0 dX9_shareOf_13 rfl ?_
    obtain ⟨q11, h12, hm⟩ := bd_some hm
    refine j_getR C fg_X9_41_8 hv0 (dr_spec h12).1 dX9_shareOf_14 ?_
    refine j_iload_n C 3 dX9_shareOf_17 rfl ?_
    obtain ⟨h13, hm⟩ := gd_some hm
    refine j_iald C ((dr_spec h12).2) h13 dX9_shareOf_18 ?_
    refine j_iconst C (v := 2) dX9_shareOf_19 rfl ?_
    refine j_icmp_ne C (tgt := 27) dX9_shareOf_20 (by decide) (fun h14 => ?_) (fun h14 => ?_)
    · replace hm := if_f hm h14
      refine j_aload_n C 0 dX9_shareOf_27 rfl ?_
      obtain ⟨q15, h16, hm⟩ := bd_some hm
      refine j_getR C fg_X9_38_8 hv0 (dr_spec h16).1 dX9_shareOf_28 ?_
      refine j_iload_n C 3 dX9_shareOf_31 rfl ?_
      obtain ⟨h17, hm⟩ := gd_some hm
      refine j_iald C ((dr_spec h16).2) h17 dX9_shareOf_32 ?_
      refine j_sub [0, 1, 3] rfl ?_
      exact tj_X9_shareOf_33 C _ _ _ _ _ _ _ _ hk4 hv0 hm
    · replace hm := if_t hm h14
      refine j_iconst C (v := 0) dX9_shareOf_23 rfl ?_
      refine j_goto C (tgt := 33) dX9_shareOf_24 (by decide) ?_
      refine j_sub [0, 1, 3] rfl ?_
      exact tj_X9_shareOf_33 C _ _ _ _ _ _ _ _ hk4 hv0 hm
set_option maxRecDepth 20000 in
set_option maxHeartbeats 4000000 in
theorem tl_X9_shareOf_4 {x : Ctx} {Λ : Lay} (C : Cx x cX9_shareOf 4 (some .int) RX9 Λ rm_X9_shareOf) (N : Nat) (μ : Mem) (v0 : Nat) (v1 : Int32) (hv0 : inL Λ v0 8) (s : Int32 × Int32) {r : Int32} (hm : lp_X9_shareOf_4 N Λ μ v0 v1 s = some r) : J x 4 Λ (QI x Λ r μ) 4 [(0, .ref v0), (1, .int v1), (2, .int s.1), (3, .int s.2)] [] (μ) :=
  cw_ind (P := fun s r => J x 4 Λ (QI x Λ r μ) 4 [(0, .ref v0), (1, .int v1), (2, .int s.1), (3, .int s.2)] [] (μ)) (fun k hkk s r e => tb_X9_shareOf_4 C _ _ _ _ _ _ _ hkk hv0 e) N s r hm
set_option maxRecDepth 20000 in
set_option maxHeartbeats 4000000 in
theorem tm_X9_shareOf {x : Ctx} {Λ : Lay} (C : Cx x cX9_shareOf 4 (some .int) RX9 Λ rm_X9_shareOf) (N : Nat) (μ : Mem) (v0 : Nat) (v1 : Int32) (hv0 : inL Λ v0 8) {r : Int32} (hm : m_X9_shareOf N Λ μ v0 v1 = some r) : J x 4 Λ (QI x Λ r μ) 0 [(0, .ref v0), (1, .int v1)] [] μ := by
  refine j_iconst C (v := 0) dX9_shareOf_0 rfl ?_
  refine j_istore_n C (lv' := [(2, .int 0), (0, .ref v0), (1, .int v1)]) dX9_shareOf_1 (by decide) rfl ?_
  refine j_iconst C (v := 0) dX9_shareOf_2 rfl ?_
  refine j_istore_n C (lv' := [(3, .int 0), (2, .int 0), (0, .ref v0), (1, .int v1)]) dX9_shareOf_3 (by decide) rfl ?_
  refine j_sub [2, 3, 1, 0] rfl ?_
  exact tl_X9_shareOf_4 C _ _ _ _ hv0 (0, 0) hm
set_option maxRecDepth 20000 in
set_option maxHeartbeats 4000000 in
theorem mc_X9_shareOf (l : Launch) (N : Nat) (Λ : Lay) (μ : Mem) (v0 : Nat) (v1 : Int32) (hv0 : inL Λ v0 8) {r : Int32} (hm : m_X9_shareOf N Λ μ v0 v1 = some r) : MI l yX9_shareOf cX9_shareOf 4 (some .int) rm_X9_shareOf Λ [.ref v0, .int v1] μ r μ := mi_of rfl (Nat.le_of_ble_eq_true rfl) (fun x C _ => tm_X9_shareOf C _ _ _ _ hv0 hm)
abbrev rm_X9_standing : Room := { frames := 0, cells := 0, slots := 0, locals := 0 }
set_option maxRecDepth 20000 in
set_option maxHeartbeats 4000000 in
theorem tj_X9_standing_30 {x : Ctx} {Λ : Lay} (C : Cx x cX9_standing 4 (some .int) RX9 Λ rm_X9_standing) (N : Nat) (μ : Mem) (k4 : Int32 × Int32 → Option (Int32)) (v0 : Nat) (v1 : Int32) (v3 : Int32) (s0 : Int32) (s1 : Int32) (hk4 : ∀ (s : Int32 × Int32) (r : Int32), k4 s = some r → J x 4 Λ (QI x Λ r μ) 4 [(0, .ref v0), (1, .int v1), (2, .int s.1), (3, .int s.2)] [] (μ)) (hv0 : inL Λ v0 8) {r : Int32} (hm : jn_X9_standing_30 N Λ μ k4 v0 v1 v3 s0 s1 = some r) : J x 4 Λ (QI x Λ r μ) 30 [(0, .ref v0), (1, .int v1), (3, .int v3)] [.int s1, .int s0] μ := by
  refine j_ior C dX9_standing_30 ?_
  obtain ⟨y1, e2, hm⟩ := lt_some hm
  refine j_topi e2 ?_
  refine j_istore_n C (lv' := [(2, .int y1), (0, .ref v0), (1, .int v1), (3, .int v3)]) dX9_standing_31 (by decide) rfl ?_
  obtain ⟨y3, e4, hm⟩ := lt_some hm
  refine j_iinc C 3 (v := y3) (lv' := [(3, .int y3), (2, .int y1), (0, .ref v0), (1, .int v1)]) dX9_standing_32 rfl (by rw [e4]; rfl) (by decide) rfl ?_
  refine j_goto C (tgt := 4) dX9_standing_35 (by decide) ?_
  refine j_sub [2, 3, 1, 0] rfl ?_
  exact hk4 (y1, y3) _ hm
set_option maxRecDepth 20000 in
set_option maxHeartbeats 4000000 in
theorem tb_X9_standing_4 {x : Ctx} {Λ : Lay} (C : Cx x cX9_standing 4 (some .int) RX9 Λ rm_X9_standing) (N : Nat) (μ : Mem) (k4 : Int32 × Int32 → Option (Int32)) (v0 : Nat) (v1 : Int32) (v2 : Int32) (v3 : Int32) (hk4 : ∀ (s : Int32 × Int32) (r : Int32), k4 s = some r → J x 4 Λ (QI x Λ r μ) 4 [(0, .ref v0), (1, .int v1), (2, .int s.1), (3, .int s.2)] [] (μ)) (hv0 : inL Λ v0 8) {r : Int32} (hm : bd_X9_standing_4 N Λ μ k4 v0 v1 v2 v3 = some r) : J x 4 Λ (QI x Λ r μ) 4 [(0, .ref v0), (1, .int v1), (2, .int v2), (3, .int v3)] [] μ := by
  refine j_iload_n C 3 dX9_standing_4 rfl ?_
  refine j_aload_n C 0 dX9_standing_5 rfl ?_
  refine j_getI C fg_X9_66_8 hv0 dX9_standing_6 ?_
  refine j_icmp_ge C (tgt := 38) dX9_standing_9 (by decide) (fun h1 => ?_) (fun h1 => ?_)
  · replace hm := if_t hm h1
    refine j_iload_n C 2 dX9_standing_38 rfl ?_
    obtain rfl := Option.some.inj hm
    exact j_ireti C dX9_standing_39
  · replace hm := if_f hm h1
    refine j_iload_n C 2 dX9_standing_12 rfl ?_
    refine j_aload_n C 0 dX9_standing_13 rfl ?_
    obtain ⟨q2, h3, hm⟩ := bd_some hm
    refine j_getR C fg_X9_41_8 hv0 (dr_spec h3).1 dX9_standing_14 ?_
    refine j_iload_n C 3 dX9_standing_17 rfl ?_
    obtain ⟨h4, hm⟩ := gd_some hm
    refine j_iald C ((dr_spec h3).2) h4 dX9_standing_18 ?_
    refine j_iload_n C 1 dX9_standing_19 rfl ?_
    refine j_icmp_ne C (tgt := 29) dX9_standing_20 (by decide) (fun h5 => ?_) (fun h5 => ?_)
    · replace hm := if_f hm h5
      refine j_iconst C (v := 0) dX9_standing_29 rfl ?_
      refine j_sub [0, 1, 3] rfl ?_
      exact tj_X9_standing_30 C _ _ _ _ _ _ _ _ hk4 hv0 hm
    · replace hm := if_t hm h5
      refine j_iconst C (v := 1) dX9_standing_23 rfl ?_
      refine j_iload_n C 3 dX9_standing_24 rfl ?_
      refine j_ishl C dX9_standing_25 ?_
      refine j_goto C (tgt := 30) dX9_standing_26 (by decide) ?_
      refine j_sub [0, 1, 3] rfl ?_
      exact tj_X9_standing_30 C _ _ _ _ _ _ _ _ hk4 hv0 hm
set_option maxRecDepth 20000 in
set_option maxHeartbeats 4000000 in
theorem tl_X9_standing_4 {x : Ctx} {Λ : Lay} (C : Cx x cX9_standing 4 (some .int) RX9 Λ rm_X9_standing) (N : Nat) (μ : Mem) (v0 : Nat) (v1 : Int32) (hv0 : inL Λ v0 8) (s : Int32 × Int32) {r : Int32} (hm : lp_X9_standing_4 N Λ μ v0 v1 s = some r) : J x 4 Λ (QI x Λ r μ) 4 [(0, .ref v0), (1, .int v1), (2, .int s.1), (3, .int s.2)] [] (μ) :=
  cw_ind (P := fun s r => J x 4 Λ (QI x Λ r μ) 4 [(0, .ref v0), (1, .int v1), (2, .int s.1), (3, .int s.2)] [] (μ)) (fun k hkk s r e => tb_X9_standing_4 C _ _ _ _ _ _ _ hkk hv0 e) N s r hm
set_option maxRecDepth 20000 in
set_option maxHeartbeats 4000000 in
theorem tm_X9_standing {x : Ctx} {Λ : Lay} (C : Cx x cX9_standing 4 (some .int) RX9 Λ rm_X9_standing) (N : Nat) (μ : Mem) (v0 : Nat) (v1 : Int32) (hv0 : inL Λ v0 8) {r : Int32} (hm : m_X9_standing N Λ μ v0 v1 = some r) : J x 4 Λ (QI x Λ r μ) 0 [(0, .ref v0), (1, .int v1)] [] μ := by
  refine j_iconst C (v := 0) dX9_standing_0 rfl ?_
  refine j_istore_n C (lv' := [(2, .int 0), (0, .ref v0), (1, .int v1)]) dX9_standing_1 (by decide) rfl ?_
  refine j_iconst C (v := 0) dX9_standing_2 rfl ?_
  refine j_istore_n C (lv' := [(3, .int 0), (2, .int 0), (0, .ref v0), (1, .int v1)]) dX9_standing_3 (by decide) rfl ?_
  refine j_sub [2, 3, 1, 0] rfl ?_
  exact tl_X9_standing_4 C _ _ _ _ hv0 (0, 0) hm
set_option maxRecDepth 20000 in
set_option maxHeartbeats 4000000 in
theorem mc_X9_standing (l : Launch) (N : Nat) (Λ : Lay) (μ : Mem) (v0 : Nat) (v1 : Int32) (hv0 : inL Λ v0 8) {r : Int32} (hm : m_X9_standing N Λ μ v0 v1 = some r) : MI l yX9_standing cX9_standing 4 (some .int) rm_X9_standing Λ [.ref v0, .int v1] μ r μ := mi_of rfl (Nat.le_of_ble_eq_true rfl) (fun x C _ => tm_X9_standing C _ _ _ _ hv0 hm)
abbrev rm_X9_freePlaces : Room := { frames := 2, cells := 0, slots := 0, locals := 43 }
set_option maxRecDepth 20000 in
set_option maxHeartbeats 4000000 in
theorem tm_X9_freePlaces {x : Ctx} {Λ : Lay} (C : Cx x cX9_freePlaces 1 (some .int) RX9 Λ rm_X9_freePlaces) (N : Nat) (μ : Mem) (v0 : Nat) (hv0 : inL Λ v0 8) {r : Int32} (hm : m_X9_freePlaces N Λ μ v0 = some r) : J x 1 Λ (QI x Λ r μ) 0 [(0, .ref v0)] [] μ := by
  refine j_bipush C (v := 24) dX9_freePlaces_0 rfl ?_
  refine j_aload_n C 0 dX9_freePlaces_2 rfl ?_
  obtain ⟨r1, h2, hm⟩ := bd_some hm
  refine call_I (run_LV C lk_X9_160 ⟨rfl, rfl, Nat.le_of_ble_eq_true rfl, Nat.le_of_ble_eq_true rfl⟩ (As := []) hv0 rfl rfl (Nat.le_of_ble_eq_true rfl) dX9_freePlaces_3 (mc_X9_takenPlaces _ _ _ _ _ hv0 h2)) ?_
  obtain ⟨r3, h4, hm⟩ := bd_some hm
  refine call_I (run_LS C ls_X9_167 ⟨rfl, rfl, Nat.le_of_ble_eq_true rfl, Nat.le_of_ble_eq_true rfl⟩ (As := [.int r1]) rfl rfl (Nat.le_of_ble_eq_true rfl) dX9_freePlaces_6 (mc_XI_bitCount _ _ _ _ _  h4)) ?_
  refine j_isub C dX9_freePlaces_9 ?_
  obtain rfl := Option.some.inj hm
  exact j_ireti C dX9_freePlaces_10
set_option maxRecDepth 20000 in
set_option maxHeartbeats 4000000 in
theorem mc_X9_freePlaces (l : Launch) (N : Nat) (Λ : Lay) (μ : Mem) (v0 : Nat) (hv0 : inL Λ v0 8) {r : Int32} (hm : m_X9_freePlaces N Λ μ v0 = some r) : MI l yX9_freePlaces cX9_freePlaces 1 (some .int) rm_X9_freePlaces Λ [.ref v0] μ r μ := mi_of rfl (Nat.le_of_ble_eq_true rfl) (fun x C _ => tm_X9_freePlaces C _ _ _ hv0 hm)
abbrev rm_X9_shipOn : Room := { frames := 0, cells := 0, slots := 0, locals := 0 }
set_option maxRecDepth 20000 in
set_option maxHeartbeats 4000000 in
theorem tj_X9_shipOn_49 {x : Ctx} {Λ : Lay} (C : Cx x cX9_shipOn 3 (some .int) RX9 Λ rm_X9_shipOn) (N : Nat) (μ : Mem) (k2 : Int32 → Option (Int32)) (v0 : Nat) (v1 : Int32) (v2 : Int32) (hk2 : ∀ (s : Int32) (r : Int32), k2 s = some r → J x 3 Λ (QI x Λ r μ) 2 [(0, .ref v0), (1, .int v1), (2, .int s)] [] (μ)) (hv0 : inL Λ v0 8) {r : Int32} (hm : jn_X9_shipOn_49 N Λ μ k2 v0 v1 v2 = some r) : J x 3 Λ (QI x Λ r μ) 49 [(0, .ref v0), (1, .int v1), (2, .int v2)] [] μ := by
  obtain ⟨y1, e2, hm⟩ := lt_some hm
  refine j_iinc C 2 (v := y1) (lv' := [(2, .int y1), (0, .ref v0), (1, .int v1)]) dX9_shipOn_49 rfl (by rw [e2]; rfl) (by decide) rfl ?_
  refine j_goto C (tgt := 2) dX9_shipOn_52 (by decide) ?_
  refine j_sub [1, 2, 0] rfl ?_
  exact hk2 y1 _ hm
set_option maxRecDepth 20000 in
set_option maxHeartbeats 4000000 in
theorem tb_X9_shipOn_2 {x : Ctx} {Λ : Lay} (C : Cx x cX9_shipOn 3 (some .int) RX9 Λ rm_X9_shipOn) (N : Nat) (μ : Mem) (k2 : Int32 → Option (Int32)) (v0 : Nat) (v1 : Int32) (v2 : Int32) (hk2 : ∀ (s : Int32) (r : Int32), k2 s = some r → J x 3 Λ (QI x Λ r μ) 2 [(0, .ref v0), (1, .int v1), (2, .int s)] [] (μ)) (hv0 : inL Λ v0 8) {r : Int32} (hm : bd_X9_shipOn_2 N Λ μ k2 v0 v1 v2 = some r) : J x 3 Λ (QI x Λ r μ) 2 [(0, .ref v0), (1, .int v1), (2, .int v2)] [] μ := by
  refine j_iload_n C 2 dX9_shipOn_2 rfl ?_
  refine j_aload_n C 0 dX9_shipOn_3 rfl ?_
  refine j_getI C fg_X9_66_8 hv0 dX9_shipOn_4 ?_
  refine j_icmp_ge C (tgt := 55) dX9_shipOn_7 (by decide) (fun h1 => ?_) (fun h1 => ?_)
  · replace hm := if_t hm h1
    refine j_iconst C (v := -1) dX9_shipOn_55 rfl ?_
    obtain rfl := Option.some.inj hm
    exact j_ireti C dX9_shipOn_56
  · replace hm := if_f hm h1
    refine j_aload_n C 0 dX9_shipOn_10 rfl ?_
    obtain ⟨q2, h3, hm⟩ := bd_some hm
    refine j_getR C fg_X9_41_8 hv0 (dr_spec h3).1 dX9_shipOn_11 ?_
    refine j_iload_n C 2 dX9_shipOn_14 rfl ?_
    obtain ⟨h4, hm⟩ := gd_some hm
    refine j_iald C ((dr_spec h3).2) h4 dX9_shipOn_15 ?_
    refine j_iconst C (v := 1) dX9_shipOn_16 rfl ?_
    refine j_icmp_ne C (tgt := 49) dX9_shipOn_17 (by decide) (fun h5 => ?_) (fun h5 => ?_)
    · replace hm := if_f hm h5
      exact tj_X9_shipOn_49 C _ _ _ _ _ _ hk2 hv0 hm
    · replace hm := if_t hm h5
      refine j_iload_n C 1 dX9_shipOn_20 rfl ?_
      refine j_aload_n C 0 dX9_shipOn_21 rfl ?_
      obtain ⟨q6, h7, hm⟩ := bd_some hm
      refine j_getR C fg_X9_44_8 hv0 (dr_spec h7).1 dX9_shipOn_22 ?_
      refine j_iload_n C 2 dX9_shipOn_25 rfl ?_
      obtain ⟨h8, hm⟩ := gd_some hm
      refine j_iald C ((dr_spec h7).2) h8 dX9_shipOn_26 ?_
      refine j_icmp_lt C (tgt := 49) dX9_shipOn_27 (by decide) (fun h9 => ?_) (fun h9 => ?_)
      · replace hm := if_t hm h9
        exact tj_X9_shipOn_49 C _ _ _ _ _ _ hk2 hv0 hm
      · replace hm := if_f hm h9
        refine j_iload_n C 1 dX9_shipOn_30 rfl ?_
        refine j_aload_n C 0 dX9_shipOn_31 rfl ?_
        obtain ⟨q10, h11, hm⟩ := bd_some hm
        refine j_getR C fg_X9_44_8 hv0 (dr_spec h11).1 dX9_shipOn_32 ?_
        refine j_iload_n C 2 dX9_shipOn_35 rfl ?_
        obtain ⟨h12, hm⟩ := gd_some hm
        refine j_iald C ((dr_spec h11).2) h12 dX9_shipOn_36 ?_
        refine j_aload_n C 0 dX9_shipOn_37 rfl ?_
        obtain ⟨q13, h14, hm⟩ := bd_some hm
        refine j_getR C fg_X9_32_8 hv0 (dr_spec h14).1 dX9_shipOn_38 ?_
        refine j_iload_n C 2 dX9_shipOn_41 rfl ?_
        obtain ⟨h15, hm⟩ := gd_some hm
        refine j_iald C ((dr_spec h14).2) h15 dX9_shipOn_42 ?_
        refine j_iadd C dX9_shipOn_43 ?_
        refine j_icmp_ge C (tgt := 49) dX9_shipOn_44 (by decide) (fun h16 => ?_) (fun h16 => ?_)
        · replace hm := if_t hm h16
          exact tj_X9_shipOn_49 C _ _ _ _ _ _ hk2 hv0 hm
        · replace hm := if_f hm h16
          refine j_iload_n C 2 dX9_shipOn_47 rfl ?_
          obtain rfl := Option.some.inj hm
          exact j_ireti C dX9_shipOn_48
set_option maxRecDepth 20000 in
set_option maxHeartbeats 4000000 in
theorem tl_X9_shipOn_2 {x : Ctx} {Λ : Lay} (C : Cx x cX9_shipOn 3 (some .int) RX9 Λ rm_X9_shipOn) (N : Nat) (μ : Mem) (v0 : Nat) (v1 : Int32) (hv0 : inL Λ v0 8) (s : Int32) {r : Int32} (hm : lp_X9_shipOn_2 N Λ μ v0 v1 s = some r) : J x 3 Λ (QI x Λ r μ) 2 [(0, .ref v0), (1, .int v1), (2, .int s)] [] (μ) :=
  cw_ind (P := fun s r => J x 3 Λ (QI x Λ r μ) 2 [(0, .ref v0), (1, .int v1), (2, .int s)] [] (μ)) (fun k hkk s r e => tb_X9_shipOn_2 C _ _ _ _ _ _ hkk hv0 e) N s r hm
set_option maxRecDepth 20000 in
set_option maxHeartbeats 4000000 in
theorem tm_X9_shipOn {x : Ctx} {Λ : Lay} (C : Cx x cX9_shipOn 3 (some .int) RX9 Λ rm_X9_shipOn) (N : Nat) (μ : Mem) (v0 : Nat) (v1 : Int32) (hv0 : inL Λ v0 8) {r : Int32} (hm : m_X9_shipOn N Λ μ v0 v1 = some r) : J x 3 Λ (QI x Λ r μ) 0 [(0, .ref v0), (1, .int v1)] [] μ := by
  refine j_iconst C (v := 0) dX9_shipOn_0 rfl ?_
  refine j_istore_n C (lv' := [(2, .int 0), (0, .ref v0), (1, .int v1)]) dX9_shipOn_1 (by decide) rfl ?_
  refine j_sub [1, 2, 0] rfl ?_
  exact tl_X9_shipOn_2 C _ _ _ _ hv0 0 hm
set_option maxRecDepth 20000 in
set_option maxHeartbeats 4000000 in
theorem mc_X9_shipOn (l : Launch) (N : Nat) (Λ : Lay) (μ : Mem) (v0 : Nat) (v1 : Int32) (hv0 : inL Λ v0 8) {r : Int32} (hm : m_X9_shipOn N Λ μ v0 v1 = some r) : MI l yX9_shipOn cX9_shipOn 3 (some .int) rm_X9_shipOn Λ [.ref v0, .int v1] μ r μ := mi_of rfl (Nat.le_of_ble_eq_true rfl) (fun x C _ => tm_X9_shipOn C _ _ _ _ hv0 hm)
abbrev rm_X9_allWork : Room := { frames := 0, cells := 0, slots := 0, locals := 0 }
set_option maxRecDepth 20000 in
set_option maxHeartbeats 4000000 in
theorem tb_X9_allWork_4 {x : Ctx} {Λ : Lay} (C : Cx x cX9_allWork 3 (some .int) RX9 Λ rm_X9_allWork) (N : Nat) (μ : Mem) (k4 : Int32 × Int32 → Option (Int32)) (v0 : Nat) (v1 : Int32) (v2 : Int32) (hk4 : ∀ (s : Int32 × Int32) (r : Int32), k4 s = some r → J x 3 Λ (QI x Λ r μ) 4 [(0, .ref v0), (1, .int s.1), (2, .int s.2)] [] (μ)) (hv0 : inL Λ v0 8) {r : Int32} (hm : bd_X9_allWork_4 N Λ μ k4 v0 v1 v2 = some r) : J x 3 Λ (QI x Λ r μ) 4 [(0, .ref v0), (1, .int v1), (2, .int v2)] [] μ := by
  refine j_iload_n C 2 dX9_allWork_4 rfl ?_
  refine j_aload_n C 0 dX9_allWork_5 rfl ?_
  refine j_getI C fg_X9_66_8 hv0 dX9_allWork_6 ?_
  refine j_icmp_ge C (tgt := 27) dX9_allWork_9 (by decide) (fun h1 => ?_) (fun h1 => ?_)
  · replace hm := if_t hm h1
    refine j_iload_n C 1 dX9_allWork_27 rfl ?_
    obtain rfl := Option.some.inj hm
    exact j_ireti C dX9_allWork_28
  · replace hm := if_f hm h1
    refine j_iload_n C 1 dX9_allWork_12 rfl ?_
    refine j_aload_n C 0 dX9_allWork_13 rfl ?_
    obtain ⟨q2, h3, hm⟩ := bd_some hm
    refine j_getR C fg_X9_38_8 hv0 (dr_spec h3).1 dX9_allWork_14 ?_
    refine j_iload_n C 2 dX9_allWork_17 rfl ?_
    obtain ⟨h4, hm⟩ := gd_some hm
    refine j_iald C ((dr_spec h3).2) h4 dX9_allWork_18 ?_
    refine j_iadd C dX9_allWork_19 ?_
    obtain ⟨y5, e6, hm⟩ := lt_some hm
    refine j_topi e6 ?_
    refine j_istore_n C (lv' := [(1, .int y5), (0, .ref v0), (2, .int v2)]) dX9_allWork_20 (by decide) rfl ?_
    obtain ⟨y7, e8, hm⟩ := lt_some hm
    refine j_iinc C 2 (v := y7) (lv' := [(2, .int y7), (1, .int y5), (0, .ref v0)]) dX9_allWork_21 rfl (by rw [e8]; rfl) (by decide) rfl ?_
    refine j_goto C (tgt := 4) dX9_allWork_24 (by decide) ?_
    refine j_sub [2, 1, 0] rfl ?_
    exact hk4 (y5, y7) _ hm
set_option maxRecDepth 20000 in
set_option maxHeartbeats 4000000 in
theorem tl_X9_allWork_4 {x : Ctx} {Λ : Lay} (C : Cx x cX9_allWork 3 (some .int) RX9 Λ rm_X9_allWork) (N : Nat) (μ : Mem) (v0 : Nat) (hv0 : inL Λ v0 8) (s : Int32 × Int32) {r : Int32} (hm : lp_X9_allWork_4 N Λ μ v0 s = some r) : J x 3 Λ (QI x Λ r μ) 4 [(0, .ref v0), (1, .int s.1), (2, .int s.2)] [] (μ) :=
  cw_ind (P := fun s r => J x 3 Λ (QI x Λ r μ) 4 [(0, .ref v0), (1, .int s.1), (2, .int s.2)] [] (μ)) (fun k hkk s r e => tb_X9_allWork_4 C _ _ _ _ _ _ hkk hv0 e) N s r hm
set_option maxRecDepth 20000 in
set_option maxHeartbeats 4000000 in
theorem tm_X9_allWork {x : Ctx} {Λ : Lay} (C : Cx x cX9_allWork 3 (some .int) RX9 Λ rm_X9_allWork) (N : Nat) (μ : Mem) (v0 : Nat) (hv0 : inL Λ v0 8) {r : Int32} (hm : m_X9_allWork N Λ μ v0 = some r) : J x 3 Λ (QI x Λ r μ) 0 [(0, .ref v0)] [] μ := by
  refine j_iconst C (v := 0) dX9_allWork_0 rfl ?_
  refine j_istore_n C (lv' := [(1, .int 0), (0, .ref v0)]) dX9_allWork_1 (by decide) rfl ?_
  refine j_iconst C (v := 0) dX9_allWork_2 rfl ?_
  refine j_istore_n C (lv' := [(2, .int 0), (1, .int 0), (0, .ref v0)]) dX9_allWork_3 (by decide) rfl ?_
  refine j_sub [2, 1, 0] rfl ?_
  exact tl_X9_allWork_4 C _ _ _ hv0 (0, 0) hm
set_option maxRecDepth 20000 in
set_option maxHeartbeats 4000000 in
theorem mc_X9_allWork (l : Launch) (N : Nat) (Λ : Lay) (μ : Mem) (v0 : Nat) (hv0 : inL Λ v0 8) {r : Int32} (hm : m_X9_allWork N Λ μ v0 = some r) : MI l yX9_allWork cX9_allWork 3 (some .int) rm_X9_allWork Λ [.ref v0] μ r μ := mi_of rfl (Nat.le_of_ble_eq_true rfl) (fun x C _ => tm_X9_allWork C _ _ _ hv0 hm)
abbrev rm_X9_greatest : Room := { frames := 0, cells := 0, slots := 0, locals := 0 }
set_option maxRecDepth 20000 in
set_option maxHeartbeats 4000000 in
theorem tj_X9_greatest_38 {x : Ctx} {Λ : Lay} (C : Cx x cX9_greatest 4 (some .int) RX9 Λ rm_X9_greatest) (N : Nat) (μ : Mem) (k4 : Int32 × Int32 → Option (Int32)) (v0 : Nat) (v1 : Nat) (v2 : Int32) (v3 : Int32) (hk4 : ∀ (s : Int32 × Int32) (r : Int32), k4 s = some r → J x 4 Λ (QI x Λ r μ) 4 [(0, .ref v0), (1, .ref v1), (2, .int s.1), (3, .int s.2)] [] (μ)) (hv0 : inL Λ v0 8) (hv1 : inL Λ v1 13) {r : Int32} (hm : jn_X9_greatest_38 N Λ μ k4 v0 v1 v2 v3 = some r) : J x 4 Λ (QI x Λ r μ) 38 [(0, .ref v0), (1, .ref v1), (2, .int v2), (3, .int v3)] [] μ := by
  obtain ⟨y1, e2, hm⟩ := lt_some hm
  refine j_iinc C 3 (v := y1) (lv' := [(3, .int y1), (0, .ref v0), (1, .ref v1), (2, .int v2)]) dX9_greatest_38 rfl (by rw [e2]; rfl) (by decide) rfl ?_
  refine j_goto C (tgt := 4) dX9_greatest_41 (by decide) ?_
  refine j_sub [1, 2, 3, 0] rfl ?_
  exact hk4 (v2, y1) _ hm
set_option maxRecDepth 20000 in
set_option maxHeartbeats 4000000 in
theorem tj_X9_greatest_36 {x : Ctx} {Λ : Lay} (C : Cx x cX9_greatest 4 (some .int) RX9 Λ rm_X9_greatest) (N : Nat) (μ : Mem) (k4 : Int32 × Int32 → Option (Int32)) (v0 : Nat) (v1 : Nat) (v3 : Int32) (hk4 : ∀ (s : Int32 × Int32) (r : Int32), k4 s = some r → J x 4 Λ (QI x Λ r μ) 4 [(0, .ref v0), (1, .ref v1), (2, .int s.1), (3, .int s.2)] [] (μ)) (hv0 : inL Λ v0 8) (hv1 : inL Λ v1 13) {r : Int32} (hm : jn_X9_greatest_36 N Λ μ k4 v0 v1 v3 = some r) : J x 4 Λ (QI x Λ r μ) 36 [(0, .ref v0), (1, .ref v1), (3, .int v3)] [] μ := by
  refine j_iload_n C 2 dX9_greatest_36 rfl ?_
  refine j_istore_n C (lv' := [(2, .int v3), (0, .ref v0), (1, .ref v1), (3, .int v3)]) dX9_greatest_37 (by decide) rfl ?_
  refine j_sub [1, 2, 0, 3] rfl ?_
  exact tj_X9_greatest_38 C _ _ _ _ _ _ _ hk4 hv0 hv1 hm
set_option maxRecDepth 20000 in
set_option maxHeartbeats 4000000 in
theorem tb_X9_greatest_4 {x : Ctx} {Λ : Lay} (C : Cx x cX9_greatest 4 (some .int) RX9 Λ rm_X9_greatest) (N : Nat) (μ : Mem) (k4 : Int32 × Int32 → Option (Int32)) (v0 : Nat) (v1 : Nat) (v2 : Int32) (v3 : Int32) (hk4 : ∀ (s : Int32 × Int32) (r : Int32), k4 s = some r → J x 4 Λ (QI x Λ r μ) 4 [(0, .ref v0), (1, .ref v1), (2, .int s.1), (3, .int s.2)] [] (μ)) (hv0 : inL Λ v0 8) (hv1 : inL Λ v1 13) {r : Int32} (hm : bd_X9_greatest_4 N Λ μ k4 v0 v1 v2 v3 = some r) : J x 4 Λ (QI x Λ r μ) 4 [(0, .ref v0), (1, .ref v1), (2, .int v2), (3, .int v3)] [] μ := by
  refine j_iload_n C 3 dX9_greatest_4 rfl ?_
  refine j_aload_n C 0 dX9_greatest_5 rfl ?_
  refine j_getI C fg_X9_66_8 hv0 dX9_greatest_6 ?_
  refine j_icmp_ge C (tgt := 44) dX9_greatest_9 (by decide) (fun h1 => ?_) (fun h1 => ?_)
  · replace hm := if_t hm h1
    refine j_iload_n C 2 dX9_greatest_44 rfl ?_
    obtain rfl := Option.some.inj hm
    exact j_ireti C dX9_greatest_45
  · replace hm := if_f hm h1
    refine j_aload_n C 0 dX9_greatest_12 rfl ?_
    obtain ⟨q2, h3, hm⟩ := bd_some hm
    refine j_getR C fg_X9_41_8 hv0 (dr_spec h3).1 dX9_greatest_13 ?_
    refine j_iload_n C 3 dX9_greatest_16 rfl ?_
    obtain ⟨h4, hm⟩ := gd_some hm
    refine j_iald C ((dr_spec h3).2) h4 dX9_greatest_17 ?_
    refine j_iconst C (v := 2) dX9_greatest_18 rfl ?_
    refine j_icmp_eq C (tgt := 38) dX9_greatest_19 (by decide) (fun h5 => ?_) (fun h5 => ?_)
    · replace hm := if_t hm h5
      exact tj_X9_greatest_38 C _ _ _ _ _ _ _ hk4 hv0 hv1 hm
    · replace hm := if_f hm h5
      refine j_iload_n C 2 dX9_greatest_22 rfl ?_
      refine j_iconst C (v := -1) dX9_greatest_23 rfl ?_
      refine j_icmp_eq C (tgt := 36) dX9_greatest_24 (by decide) (fun h6 => ?_) (fun h6 => ?_)
      · replace hm := if_t hm h6
        refine j_sub [0, 1, 3] rfl ?_
        exact tj_X9_greatest_36 C _ _ _ _ _ _ hk4 hv0 hv1 hm
      · replace hm := if_f hm h6
        refine j_aload_n C 1 dX9_greatest_27 rfl ?_
        refine j_iload_n C 3 dX9_greatest_28 rfl ?_
        obtain ⟨h7, hm⟩ := gd_some hm
        refine j_iald C hv1 h7 dX9_greatest_29 ?_
        refine j_aload_n C 1 dX9_greatest_30 rfl ?_
        refine j_iload_n C 2 dX9_greatest_31 rfl ?_
        obtain ⟨h8, hm⟩ := gd_some hm
        refine j_iald C hv1 h8 dX9_greatest_32 ?_
        refine j_icmp_le C (tgt := 38) dX9_greatest_33 (by decide) (fun h9 => ?_) (fun h9 => ?_)
        · replace hm := if_t hm h9
          exact tj_X9_greatest_38 C _ _ _ _ _ _ _ hk4 hv0 hv1 hm
        · replace hm := if_f hm h9
          refine j_sub [0, 1, 3] rfl ?_
          exact tj_X9_greatest_36 C _ _ _ _ _ _ hk4 hv0 hv1 hm
set_option maxRecDepth 20000 in
set_option maxHeartbeats 4000000 in
theorem tl_X9_greatest_4 {x : Ctx} {Λ : Lay} (C : Cx x cX9_greatest 4 (some .int) RX9 Λ rm_X9_greatest) (N : Nat) (μ : Mem) (v0 : Nat) (v1 : Nat) (hv0 : inL Λ v0 8) (hv1 : inL Λ v1 13) (s : Int32 × Int32) {r : Int32} (hm : lp_X9_greatest_4 N Λ μ v0 v1 s = some r) : J x 4 Λ (QI x Λ r μ) 4 [(0, .ref v0), (1, .ref v1), (2, .int s.1), (3, .int s.2)] [] (μ) :=
  cw_ind (P := fun s r => J x 4 Λ (QI x Λ r μ) 4 [(0, .ref v0), (1, .ref v1), (2, .int s.1), (3, .int s.2)] [] (μ)) (fun k hkk s r e => tb_X9_greatest_4 C _ _ _ _ _ _ _ hkk hv0 hv1 e) N s r hm
set_option maxRecDepth 20000 in
set_option maxHeartbeats 4000000 in
theorem tm_X9_greatest {x : Ctx} {Λ : Lay} (C : Cx x cX9_greatest 4 (some .int) RX9 Λ rm_X9_greatest) (N : Nat) (μ : Mem) (v0 : Nat) (v1 : Nat) (hv0 : inL Λ v0 8) (hv1 : inL Λ v1 13) {r : Int32} (hm : m_X9_greatest N Λ μ v0 v1 = some r) : J x 4 Λ (QI x Λ r μ) 0 [(0, .ref v0), (1, .ref v1)] [] μ := by
  refine j_iconst C (v := -1) dX9_greatest_0 rfl ?_
  refine j_istore_n C (lv' := [(2, .int (-1)), (0, .ref v0), (1, .ref v1)]) dX9_greatest_1 (by decide) rfl ?_
  refine j_iconst C (v := 0) dX9_greatest_2 rfl ?_
  refine j_istore_n C (lv' := [(3, .int 0), (2, .int (-1)), (0, .ref v0), (1, .ref v1)]) dX9_greatest_3 (by decide) rfl ?_
  refine j_sub [2, 3, 1, 0] rfl ?_
  exact tl_X9_greatest_4 C _ _ _ _ hv0 hv1 ((-1), 0) hm
set_option maxRecDepth 20000 in
set_option maxHeartbeats 4000000 in
theorem mc_X9_greatest (l : Launch) (N : Nat) (Λ : Lay) (μ : Mem) (v0 : Nat) (v1 : Nat) (hv0 : inL Λ v0 8) (hv1 : inL Λ v1 13) {r : Int32} (hm : m_X9_greatest N Λ μ v0 v1 = some r) : MI l yX9_greatest cX9_greatest 4 (some .int) rm_X9_greatest Λ [.ref v0, .ref v1] μ r μ := mi_of rfl (Nat.le_of_ble_eq_true rfl) (fun x C _ => tm_X9_greatest C _ _ _ _ hv0 hv1 hm)

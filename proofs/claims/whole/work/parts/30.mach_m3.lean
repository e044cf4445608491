abbrev rm_X12_isBorne : Room := { frames := 5, cells := 0, slots := 0, locals := 112 }
set_option maxRecDepth 20000 in
set_option maxHeartbeats 4000000 in
theorem tj_X12_isBorne_21 {x : Ctx} {Λ : Lay} (C : Cx x cX12_isBorne 2 (some .boolean) RX12 Λ rm_X12_isBorne) (N : Nat) (μ : Mem) (s0 : Int32) {r : Int32} (hm : jn_X12_isBorne_21 N Λ μ s0 = some r) : J x 2 Λ (QI x Λ r μ) 21 [] [.int s0] μ := by
  obtain ⟨h1, hm⟩ := gd_some hm
  obtain rfl := Option.some.inj hm
  exact j_iretz C h1 dX12_isBorne_21
set_option maxRecDepth 20000 in
set_option maxHeartbeats 4000000 in
theorem tj_X12_isBorne_20 {x : Ctx} {Λ : Lay} (C : Cx x cX12_isBorne 2 (some .boolean) RX12 Λ rm_X12_isBorne) (N : Nat) (μ : Mem) {r : Int32} (hm : jn_X12_isBorne_20 N Λ μ = some r) : J x 2 Λ (QI x Λ r μ) 20 [] [] μ := by
  refine j_iconst C (v := 0) dX12_isBorne_20 rfl ?_
  exact tj_X12_isBorne_21 C _ _ _  hm
set_option maxRecDepth 20000 in
set_option maxHeartbeats 4000000 in
theorem tm_X12_isBorne {x : Ctx} {Λ : Lay} (C : Cx x cX12_isBorne 2 (some .boolean) RX12 Λ rm_X12_isBorne) (N : Nat) (μ : Mem) (v0 : Nat) (v1 : Int32) (hv0 : inL Λ v0 11) {r : Int32} (hm : m_X12_isBorne N Λ μ v0 v1 = some r) : J x 2 Λ (QI x Λ r μ) 0 [(0, .ref v0), (1, .int v1)] [] μ := by
  refine j_aload_n C 0 dX12_isBorne_0 rfl ?_
  refine j_iload_n C 1 dX12_isBorne_1 rfl ?_
  obtain ⟨r1, h2, hm⟩ := bd_some hm
  refine call_I (run_LV C lk_X12_88 ⟨rfl, rfl, Nat.le_of_ble_eq_true rfl, Nat.le_of_ble_eq_true rfl⟩ (As := [.int v1]) hv0 rfl rfl (Nat.le_of_ble_eq_true rfl) dX12_isBorne_2 (mc_X12_isDocked _ _ _ _ _ _ hv0 h2)) ?_
  refine j_if_eq C (tgt := 20) dX12_isBorne_5 (by decide) (fun h3 => ?_) (fun h3 => ?_)
  · replace hm := if_t hm h3
    refine j_sub [] rfl ?_
    exact tj_X12_isBorne_20 C _ _  hm
  · replace hm := if_f hm h3
    refine j_aload_n C 0 dX12_isBorne_8 rfl ?_
    refine j_iload_n C 1 dX12_isBorne_9 rfl ?_
    obtain ⟨r4, h5, hm⟩ := bd_some hm
    refine call_I (run_LV C lk_X12_309 ⟨rfl, rfl, Nat.le_of_ble_eq_true rfl, Nat.le_of_ble_eq_true rfl⟩ (As := [.int v1]) hv0 rfl rfl (Nat.le_of_ble_eq_true rfl) dX12_isBorne_10 (mc_X12_wedgesOf _ _ _ _ _ _ hv0 h5)) ?_
    refine j_if_ne C (tgt := 20) dX12_isBorne_13 (by decide) (fun h6 => ?_) (fun h6 => ?_)
    · replace hm := if_f hm h6
      refine j_sub [] rfl ?_
      exact tj_X12_isBorne_20 C _ _  hm
    · replace hm := if_t hm h6
      refine j_iconst C (v := 1) dX12_isBorne_16 rfl ?_
      refine j_goto C (tgt := 21) dX12_isBorne_17 (by decide) ?_
      refine j_sub [] rfl ?_
      exact tj_X12_isBorne_21 C _ _ _  hm
set_option maxRecDepth 20000 in
set_option maxHeartbeats 4000000 in
theorem mc_X12_isBorne (l : Launch) (N : Nat) (Λ : Lay) (μ : Mem) (v0 : Nat) (v1 : Int32) (hv0 : inL Λ v0 11) {r : Int32} (hm : m_X12_isBorne N Λ μ v0 v1 = some r) : MI l yX12_isBorne cX12_isBorne 2 (some .boolean) rm_X12_isBorne Λ [.ref v0, .int v1] μ r μ := mi_of rfl (Nat.le_of_ble_eq_true rfl) (fun x C _ => tm_X12_isBorne C _ _ _ _ hv0 hm)
abbrev rm_X12_isTold : Room := { frames := 1, cells := 0, slots := 0, locals := 60 }
set_option maxRecDepth 20000 in
set_option maxHeartbeats 4000000 in
theorem tb_X12_isTold_5 {x : Ctx} {Λ : Lay} (C : Cx x cX12_isTold 5 none RX12 Λ rm_X12_isTold) (N : Nat) (μ : Mem) (k5 : Int32 × Mem → Option (Mem)) (v0 : Nat) (v1 : Int32) (v2 : Int32) (v3 : Int32) (v4 : Int32) (hk5 : ∀ (s : Int32 × Mem) (r : Mem), k5 s = some r → J x 5 Λ (QV x Λ r) 5 [(0, .ref v0), (1, .int v1), (2, .int v2), (3, .int v3), (4, .int s.1)] [] (s.2)) (hv0 : inL Λ v0 11) {r : Mem} (hm : bd_X12_isTold_5 N Λ μ k5 v0 v1 v2 v3 v4 = some r) : J x 5 Λ (QV x Λ r) 5 [(0, .ref v0), (1, .int v1), (2, .int v2), (3, .int v3), (4, .int v4)] [] μ := by
  refine j_iload C 4 dX12_isTold_5 rfl ?_
  refine j_iconst C (v := 5) dX12_isTold_7 rfl ?_
  refine j_icmp_lt C (tgt := 39) dX12_isTold_8 (by decide) (fun h1 => ?_) (fun h1 => ?_)
  · replace hm := if_t hm h1
    refine j_aload_n C 0 dX12_isTold_39 rfl ?_
    obtain ⟨q2, h3, hm⟩ := bd_some hm
    refine j_getR C fg_X12_13_11 hv0 (dr_spec h3).1 dX12_isTold_40 ?_
    refine j_bipush C (v := 73) dX12_isTold_43 rfl ?_
    refine j_aload_n C 0 dX12_isTold_45 rfl ?_
    obtain ⟨q4, h5, hm⟩ := bd_some hm
    refine j_getR C fg_X12_13_11 hv0 (dr_spec h5).1 dX12_isTold_46 ?_
    refine j_bipush C (v := 9) dX12_isTold_49 rfl ?_
    obtain ⟨h6, hm⟩ := gd_some hm
    refine j_iald C ((dr_spec h5).2) h6 dX12_isTold_51 ?_
    obtain ⟨h7, hm⟩ := gd_some hm
    obtain ⟨μ8, e9, hm⟩ := lt_some hm
    refine j_iast C ((dr_spec h3).2) h7 e9 dX12_isTold_52 ?_
    refine j_aload_n C 0 dX12_isTold_53 rfl ?_
    obtain ⟨q10, h11, hm⟩ := bd_some hm
    refine j_getR C fg_X12_13_11 hv0 (dr_spec h11).1 dX12_isTold_54 ?_
    refine j_bipush C (v := 74) dX12_isTold_57 rfl ?_
    refine j_iload_n C 1 dX12_isTold_59 rfl ?_
    obtain ⟨h12, hm⟩ := gd_some hm
    obtain ⟨μ13, e14, hm⟩ := lt_some hm
    refine j_iast C ((dr_spec h11).2) h12 e14 dX12_isTold_60 ?_
    refine j_aload_n C 0 dX12_isTold_61 rfl ?_
    obtain ⟨q15, h16, hm⟩ := bd_some hm
    refine j_getR C fg_X12_13_11 hv0 (dr_spec h16).1 dX12_isTold_62 ?_
    refine j_bipush C (v := 75) dX12_isTold_65 rfl ?_
    refine j_iload_n C 2 dX12_isTold_67 rfl ?_
    obtain ⟨h17, hm⟩ := gd_some hm
    obtain ⟨μ18, e19, hm⟩ := lt_some hm
    refine j_iast C ((dr_spec h16).2) h17 e19 dX12_isTold_68 ?_
    refine j_aload_n C 0 dX12_isTold_69 rfl ?_
    obtain ⟨q20, h21, hm⟩ := bd_some hm
    refine j_getR C fg_X12_13_11 hv0 (dr_spec h21).1 dX12_isTold_70 ?_
    refine j_bipush C (v := 76) dX12_isTold_73 rfl ?_
    refine j_iload_n C 3 dX12_isTold_75 rfl ?_
    obtain ⟨h22, hm⟩ := gd_some hm
    obtain ⟨μ23, e24, hm⟩ := lt_some hm
    refine j_iast C ((dr_spec h21).2) h22 e24 dX12_isTold_76 ?_
    refine j_aload_n C 0 dX12_isTold_77 rfl ?_
    obtain ⟨q25, h26, hm⟩ := bd_some hm
    refine j_getR C fg_X12_13_11 hv0 (dr_spec h26).1 dX12_isTold_78 ?_
    refine j_bipush C (v := 77) dX12_isTold_81 rfl ?_
    refine j_aload_n C 0 dX12_isTold_83 rfl ?_
    obtain ⟨q27, h28, hm⟩ := bd_some hm
    refine j_getR C fg_X12_13_11 hv0 (dr_spec h28).1 dX12_isTold_84 ?_
    refine j_iconst C (v := 3) dX12_isTold_87 rfl ?_
    obtain ⟨h29, hm⟩ := gd_some hm
    refine j_iald C ((dr_spec h28).2) h29 dX12_isTold_88 ?_
    obtain ⟨h30, hm⟩ := gd_some hm
    obtain ⟨μ31, e32, hm⟩ := lt_some hm
    refine j_iast C ((dr_spec h26).2) h30 e32 dX12_isTold_89 ?_
    refine j_aload_n C 0 dX12_isTold_90 rfl ?_
    obtain ⟨q33, h34, hm⟩ := bd_some hm
    refine j_getR C fg_X12_13_11 hv0 (dr_spec h34).1 dX12_isTold_91 ?_
    refine j_bipush C (v := 11) dX12_isTold_94 rfl ?_
    refine j_bipush C (v := 60) dX12_isTold_96 rfl ?_
    refine j_aload_n C 0 dX12_isTold_98 rfl ?_
    obtain ⟨q35, h36, hm⟩ := bd_some hm
    refine j_getR C fg_X12_13_11 hv0 (dr_spec h36).1 dX12_isTold_99 ?_
    refine j_bipush C (v := 11) dX12_isTold_102 rfl ?_
    obtain ⟨h37, hm⟩ := gd_some hm
    refine j_iald C ((dr_spec h36).2) h37 dX12_isTold_104 ?_
    refine j_iconst C (v := 1) dX12_isTold_105 rfl ?_
    refine j_iadd C dX12_isTold_106 ?_
    refine j_mmin C wk_1928 ⟨Nat.le_of_ble_eq_true rfl, Nat.le_of_ble_eq_true rfl⟩ dX12_isTold_107 ?_
    obtain ⟨h38, hm⟩ := gd_some hm
    obtain ⟨μ39, e40, hm⟩ := lt_some hm
    refine j_iast C ((dr_spec h34).2) h38 e40 dX12_isTold_110 ?_
    obtain rfl := Option.some.inj hm
    exact j_vret C dX12_isTold_111
  · replace hm := if_f hm h1
    refine j_aload_n C 0 dX12_isTold_11 rfl ?_
    obtain ⟨q41, h42, hm⟩ := bd_some hm
    refine j_getR C fg_X12_13_11 hv0 (dr_spec h42).1 dX12_isTold_12 ?_
    refine j_bipush C (v := 73) dX12_isTold_15 rfl ?_
    refine j_iload C 4 dX12_isTold_17 rfl ?_
    refine j_iadd C dX12_isTold_19 ?_
    refine j_aload_n C 0 dX12_isTold_20 rfl ?_
    obtain ⟨q43, h44, hm⟩ := bd_some hm
    refine j_getR C fg_X12_13_11 hv0 (dr_spec h44).1 dX12_isTold_21 ?_
    refine j_bipush C (v := 73) dX12_isTold_24 rfl ?_
    refine j_iload C 4 dX12_isTold_26 rfl ?_
    refine j_iadd C dX12_isTold_28 ?_
    refine j_iconst C (v := 5) dX12_isTold_29 rfl ?_
    refine j_isub C dX12_isTold_30 ?_
    obtain ⟨h45, hm⟩ := gd_some hm
    refine j_iald C ((dr_spec h44).2) h45 dX12_isTold_31 ?_
    obtain ⟨h46, hm⟩ := gd_some hm
    obtain ⟨μ47, e48, hm⟩ := lt_some hm
    refine j_iast C ((dr_spec h42).2) h46 e48 dX12_isTold_32 ?_
    obtain ⟨y49, e50, hm⟩ := lt_some hm
    refine j_iinc C 4 (v := y49) (lv' := [(4, .int y49), (0, .ref v0), (1, .int v1), (2, .int v2), (3, .int v3)]) dX12_isTold_33 rfl (by rw [e50]; rfl) (by decide) rfl ?_
    refine j_goto C (tgt := 5) dX12_isTold_36 (by decide) ?_
    refine j_sub [1, 2, 3, 4, 0] rfl ?_
    exact hk5 (y49, μ47) _ hm
set_option maxRecDepth 20000 in
set_option maxHeartbeats 4000000 in
theorem tl_X12_isTold_5 {x : Ctx} {Λ : Lay} (C : Cx x cX12_isTold 5 none RX12 Λ rm_X12_isTold) (N : Nat) (v0 : Nat) (v1 : Int32) (v2 : Int32) (v3 : Int32) (hv0 : inL Λ v0 11) (s : Int32 × Mem) {r : Mem} (hm : lp_X12_isTold_5 N Λ v0 v1 v2 v3 s = some r) : J x 5 Λ (QV x Λ r) 5 [(0, .ref v0), (1, .int v1), (2, .int v2), (3, .int v3), (4, .int s.1)] [] (s.2) :=
  cw_ind (P := fun s r => J x 5 Λ (QV x Λ r) 5 [(0, .ref v0), (1, .int v1), (2, .int v2), (3, .int v3), (4, .int s.1)] [] (s.2)) (fun k hkk s r e => tb_X12_isTold_5 C _ _ _ _ _ _ _ _ hkk hv0 e) N s r hm
set_option maxRecDepth 20000 in
set_option maxHeartbeats 4000000 in
theorem tm_X12_isTold {x : Ctx} {Λ : Lay} (C : Cx x cX12_isTold 5 none RX12 Λ rm_X12_isTold) (N : Nat) (μ : Mem) (v0 : Nat) (v1 : Int32) (v2 : Int32) (v3 : Int32) (hv0 : inL Λ v0 11) {r : Mem} (hm : m_X12_isTold N Λ μ v0 v1 v2 v3 = some r) : J x 5 Λ (QV x Λ r) 0 [(0, .ref v0), (1, .int v1), (2, .int v2), (3, .int v3)] [] μ := by
  refine j_sipush C (v := 299) dX12_isTold_0 rfl ?_
  refine j_istore C (lv' := [(4, .int 299), (0, .ref v0), (1, .int v1), (2, .int v2), (3, .int v3)]) dX12_isTold_3 (by decide) rfl ?_
  refine j_sub [1, 2, 3, 4, 0] rfl ?_
  exact tl_X12_isTold_5 C _ _ _ _ _ hv0 (299, μ) hm
set_option maxRecDepth 20000 in
set_option maxHeartbeats 4000000 in
theorem mc_X12_isTold (l : Launch) (N : Nat) (Λ : Lay) (μ : Mem) (v0 : Nat) (v1 : Int32) (v2 : Int32) (v3 : Int32) (hv0 : inL Λ v0 11) {r : Mem} (hm : m_X12_isTold N Λ μ v0 v1 v2 v3 = some r) : MV l yX12_isTold cX12_isTold 5 rm_X12_isTold Λ [.ref v0, .int v1, .int v2, .int v3] μ r := mv_of rfl (Nat.le_of_ble_eq_true rfl) (fun x C _ => tm_X12_isTold C _ _ _ _ _ _ hv0 hm)
abbrev rm_X12_someHurt : Room := { frames := 6, cells := 0, slots := 0, locals := 133 }
set_option maxRecDepth 20000 in
set_option maxHeartbeats 4000000 in
theorem tj_X12_someHurt_85 {x : Ctx} {Λ : Lay} (C : Cx x cX12_someHurt 2 none RX12 Λ rm_X12_someHurt) (N : Nat) (μ : Mem) (k2 : Int32 × Mem → Option (Mem)) (v0 : Nat) (v1 : Int32) (hk2 : ∀ (s : Int32 × Mem) (r : Mem), k2 s = some r → J x 2 Λ (QV x Λ r) 2 [(0, .ref v0), (1, .int s.1)] [] (s.2)) (hv0 : inL Λ v0 11) {r : Mem} (hm : jn_X12_someHurt_85 N Λ μ k2 v0 v1 = some r) : J x 2 Λ (QV x Λ r) 85 [(0, .ref v0), (1, .int v1)] [] μ := by
  obtain ⟨y1, e2, hm⟩ := lt_some hm
  refine j_iinc C 1 (v := y1) (lv' := [(1, .int y1), (0, .ref v0)]) dX12_someHurt_85 rfl (by rw [e2]; rfl) (by decide) rfl ?_
  refine j_goto C (tgt := 2) dX12_someHurt_88 (by decide) ?_
  refine j_sub [1, 0] rfl ?_
  exact hk2 (y1, μ) _ hm
set_option maxRecDepth 20000 in
set_option maxHeartbeats 4000000 in
theorem tb_X12_someHurt_2 {x : Ctx} {Λ : Lay} (C : Cx x cX12_someHurt 2 none RX12 Λ rm_X12_someHurt) (N : Nat) (μ : Mem) (k2 : Int32 × Mem → Option (Mem)) (v0 : Nat) (v1 : Int32) (hk2 : ∀ (s : Int32 × Mem) (r : Mem), k2 s = some r → J x 2 Λ (QV x Λ r) 2 [(0, .ref v0), (1, .int s.1)] [] (s.2)) (hv0 : inL Λ v0 11) {r : Mem} (hm : bd_X12_someHurt_2 N Λ μ k2 v0 v1 = some r) : J x 2 Λ (QV x Λ r) 2 [(0, .ref v0), (1, .int v1)] [] μ := by
  refine j_iload_n C 1 dX12_someHurt_2 rfl ?_
  refine j_aload_n C 0 dX12_someHurt_3 rfl ?_
  obtain ⟨r1, h2, hm⟩ := bd_some hm
  refine call_I (run_LV C lk_X12_95 ⟨rfl, rfl, Nat.le_of_ble_eq_true rfl, Nat.le_of_ble_eq_true rfl⟩ (As := []) hv0 rfl rfl (Nat.le_of_ble_eq_true rfl) dX12_someHurt_4 (mc_X12_ships _ _ _ _ _ hv0 h2)) ?_
  refine j_icmp_ge C (tgt := 91) dX12_someHurt_7 (by decide) (fun h3 => ?_) (fun h3 => ?_)
  · replace hm := if_t hm h3
    obtain rfl := Option.some.inj hm
    exact j_vret C dX12_someHurt_91
  · replace hm := if_f hm h3
    refine j_aload_n C 0 dX12_someHurt_10 rfl ?_
    refine j_iload_n C 1 dX12_someHurt_11 rfl ?_
    obtain ⟨r4, h5, hm⟩ := bd_some hm
    refine call_I (run_LV C lk_X12_315 ⟨rfl, rfl, Nat.le_of_ble_eq_true rfl, Nat.le_of_ble_eq_true rfl⟩ (As := [.int v1]) hv0 rfl rfl (Nat.le_of_ble_eq_true rfl) dX12_someHurt_12 (mc_X12_sits _ _ _ _ _ _ hv0 h5)) ?_
    refine j_if_eq C (tgt := 85) dX12_someHurt_15 (by decide) (fun h6 => ?_) (fun h6 => ?_)
    · replace hm := if_t hm h6
      exact tj_X12_someHurt_85 C _ _ _ _ _ hk2 hv0 hm
    · replace hm := if_f hm h6
      refine j_aload_n C 0 dX12_someHurt_18 rfl ?_
      refine j_iload_n C 1 dX12_someHurt_19 rfl ?_
      obtain ⟨r7, h8, hm⟩ := bd_some hm
      refine call_I (run_LV C lk_X12_318 ⟨rfl, rfl, Nat.le_of_ble_eq_true rfl, Nat.le_of_ble_eq_true rfl⟩ (As := [.int v1]) hv0 rfl rfl (Nat.le_of_ble_eq_true rfl) dX12_someHurt_20 (mc_X12_isBorne _ _ _ _ _ _ hv0 h8)) ?_
      refine j_if_ne C (tgt := 85) dX12_someHurt_23 (by decide) (fun h9 => ?_) (fun h9 => ?_)
      · replace hm := if_f hm h9
        exact tj_X12_someHurt_85 C _ _ _ _ _ hk2 hv0 hm
      · replace hm := if_t hm h9
        refine j_aload_n C 0 dX12_someHurt_26 rfl ?_
        refine j_iload_n C 1 dX12_someHurt_27 rfl ?_
        refine j_iconst C (v := 5) dX12_someHurt_28 rfl ?_
        obtain ⟨r10, h11, hm⟩ := bd_some hm
        refine call_I (run_LV C lk_X12_85 ⟨rfl, rfl, Nat.le_of_ble_eq_true rfl, Nat.le_of_ble_eq_true rfl⟩ (As := [.int v1, .int 5]) hv0 rfl rfl (Nat.le_of_ble_eq_true rfl) dX12_someHurt_29 (mc_X12_of _ _ _ _ _ _ _ hv0 h11)) ?_
        refine j_iconst C (v := 1) dX12_someHurt_32 rfl ?_
        refine j_icmp_ne C (tgt := 39) dX12_someHurt_33 (by decide) (fun h12 => ?_) (fun h12 => ?_)
        · replace hm := if_f hm h12
          refine j_aload_n C 0 dX12_someHurt_39 rfl ?_
          obtain ⟨q13, h14, hm⟩ := bd_some hm
          refine j_getR C fg_X12_13_11 hv0 (dr_spec h14).1 dX12_someHurt_40 ?_
          refine j_iload_n C 1 dX12_someHurt_43 rfl ?_
          refine j_iconst C (v := 5) dX12_someHurt_44 rfl ?_
          obtain ⟨r15, h16, hm⟩ := bd_some hm
          refine call_I (run_LS C ls_X12_81 ⟨rfl, rfl, Nat.le_of_ble_eq_true rfl, Nat.le_of_ble_eq_true rfl⟩ (As := [.int v1, .int 5]) rfl rfl (Nat.le_of_ble_eq_true rfl) dX12_someHurt_45 (mc_X12_shipAt _ _ _ _ _ _  h16)) ?_
          refine j_iconst C (v := 1) dX12_someHurt_48 rfl ?_
          obtain ⟨h17, hm⟩ := gd_some hm
          obtain ⟨μ18, e19, hm⟩ := lt_some hm
          refine j_iast C ((dr_spec h14).2) h17 e19 dX12_someHurt_49 ?_
          refine j_aload_n C 0 dX12_someHurt_50 rfl ?_
          obtain ⟨q20, h21, hm⟩ := bd_some hm
          refine j_getR C fg_X12_13_11 hv0 (dr_spec h21).1 dX12_someHurt_51 ?_
          refine j_iload_n C 1 dX12_someHurt_54 rfl ?_
          refine j_iconst C (v := 2) dX12_someHurt_55 rfl ?_
          obtain ⟨r22, h23, hm⟩ := bd_some hm
          refine call_I (run_LS C ls_X12_81 ⟨rfl, rfl, Nat.le_of_ble_eq_true rfl, Nat.le_of_ble_eq_true rfl⟩ (As := [.int v1, .int 2]) rfl rfl (Nat.le_of_ble_eq_true rfl) dX12_someHurt_56 (mc_X12_shipAt _ _ _ _ _ _  h23)) ?_
          refine j_bipush C (v := 99) dX12_someHurt_59 rfl ?_
          refine j_aload_n C 0 dX12_someHurt_61 rfl ?_
          refine j_iload_n C 1 dX12_someHurt_62 rfl ?_
          refine j_iconst C (v := 2) dX12_someHurt_63 rfl ?_
          obtain ⟨r24, h25, hm⟩ := bd_some hm
          refine call_I (run_LV C lk_X12_85 ⟨rfl, rfl, Nat.le_of_ble_eq_true rfl, Nat.le_of_ble_eq_true rfl⟩ (As := [.int v1, .int 2]) hv0 rfl rfl (Nat.le_of_ble_eq_true rfl) dX12_someHurt_64 (mc_X12_of _ _ _ _ _ _ _ hv0 h25)) ?_
          refine j_iconst C (v := 5) dX12_someHurt_67 rfl ?_
          refine j_iadd C dX12_someHurt_68 ?_
          refine j_mmin C wk_1928 ⟨Nat.le_of_ble_eq_true rfl, Nat.le_of_ble_eq_true rfl⟩ dX12_someHurt_69 ?_
          obtain ⟨h26, hm⟩ := gd_some hm
          obtain ⟨μ27, e28, hm⟩ := lt_some hm
          refine j_iast C ((dr_spec h21).2) h26 e28 dX12_someHurt_72 ?_
          refine j_aload_n C 0 dX12_someHurt_73 rfl ?_
          refine j_iload_n C 1 dX12_someHurt_74 rfl ?_
          refine j_iconst C (v := 2) dX12_someHurt_75 rfl ?_
          refine j_aload_n C 0 dX12_someHurt_76 rfl ?_
          refine j_iload_n C 1 dX12_someHurt_77 rfl ?_
          refine j_iconst C (v := 4) dX12_someHurt_78 rfl ?_
          obtain ⟨r29, h30, hm⟩ := bd_some hm
          refine call_I (run_LV C lk_X12_85 ⟨rfl, rfl, Nat.le_of_ble_eq_true rfl, Nat.le_of_ble_eq_true rfl⟩ (As := [.int v1, .int 4]) hv0 rfl rfl (Nat.le_of_ble_eq_true rfl) dX12_someHurt_79 (mc_X12_of _ _ _ _ _ _ _ hv0 h30)) ?_
          obtain ⟨r31, h32, hm⟩ := bd_some hm
          refine call_V (run_LV C lk_X12_321 ⟨rfl, rfl, Nat.le_of_ble_eq_true rfl, Nat.le_of_ble_eq_true rfl⟩ (As := [.int v1, .int 2, .int r29]) hv0 rfl rfl (Nat.le_of_ble_eq_true rfl) dX12_someHurt_82 (mc_X12_isTold _ _ _ _ _ _ _ _ hv0 h32)) ?_
          exact tj_X12_someHurt_85 C _ _ _ _ _ hk2 hv0 hm
        · replace hm := if_t hm h12
          refine j_goto C (tgt := 85) dX12_someHurt_36 (by decide) ?_
          exact tj_X12_someHurt_85 C _ _ _ _ _ hk2 hv0 hm
set_option maxRecDepth 20000 in
set_option maxHeartbeats 4000000 in
theorem tl_X12_someHurt_2 {x : Ctx} {Λ : Lay} (C : Cx x cX12_someHurt 2 none RX12 Λ rm_X12_someHurt) (N : Nat) (v0 : Nat) (hv0 : inL Λ v0 11) (s : Int32 × Mem) {r : Mem} (hm : lp_X12_someHurt_2 N Λ v0 s = some r) : J x 2 Λ (QV x Λ r) 2 [(0, .ref v0), (1, .int s.1)] [] (s.2) :=
  cw_ind (P := fun s r => J x 2 Λ (QV x Λ r) 2 [(0, .ref v0), (1, .int s.1)] [] (s.2)) (fun k hkk s r e => tb_X12_someHurt_2 C _ _ _ _ _ hkk hv0 e) N s r hm
set_option maxRecDepth 20000 in
set_option maxHeartbeats 4000000 in
theorem tm_X12_someHurt {x : Ctx} {Λ : Lay} (C : Cx x cX12_someHurt 2 none RX12 Λ rm_X12_someHurt) (N : Nat) (μ : Mem) (v0 : Nat) (hv0 : inL Λ v0 11) {r : Mem} (hm : m_X12_someHurt N Λ μ v0 = some r) : J x 2 Λ (QV x Λ r) 0 [(0, .ref v0)] [] μ := by
  refine j_iconst C (v := 0) dX12_someHurt_0 rfl ?_
  refine j_istore_n C (lv' := [(1, .int 0), (0, .ref v0)]) dX12_someHurt_1 (by decide) rfl ?_
  refine j_sub [1, 0] rfl ?_
  exact tl_X12_someHurt_2 C _ _ hv0 (0, μ) hm
set_option maxRecDepth 20000 in
set_option maxHeartbeats 4000000 in
theorem mc_X12_someHurt (l : Launch) (N : Nat) (Λ : Lay) (μ : Mem) (v0 : Nat) (hv0 : inL Λ v0 11) {r : Mem} (hm : m_X12_someHurt N Λ μ v0 = some r) : MV l yX12_someHurt cX12_someHurt 2 rm_X12_someHurt Λ [.ref v0] μ r := mv_of rfl (Nat.le_of_ble_eq_true rfl) (fun x C _ => tm_X12_someHurt C _ _ _ hv0 hm)
abbrev rm_X12_allWork : Room := { frames := 4, cells := 0, slots := 0, locals := 85 }
set_option maxRecDepth 20000 in
set_option maxHeartbeats 4000000 in
theorem tj_X12_allWork_98 {x : Ctx} {Λ : Lay} (C : Cx x cX12_allWork 5 (some .int) RX12 Λ rm_X12_allWork) (N : Nat) (μ : Mem) (k12 : Int32 × Int32 × Int32 × Mem → Option (Int32 × Mem)) (v0 : Nat) (v1 : Int32) (v2 : Int32) (v3 : Int32) (hk12 : ∀ (s : Int32 × Int32 × Int32 × Mem) (r : Int32 × Mem), k12 s = some r → J x 5 Λ (QI x Λ r.1 r.2) 12 [(0, .ref v0), (1, .int s.1), (2, .int s.2.1), (3, .int s.2.2.1)] [] (s.2.2.2)) (hv0 : inL Λ v0 11) {r : Int32 × Mem} (hm : jn_X12_allWork_98 N Λ μ k12 v0 v1 v2 v3 = some r) : J x 5 Λ (QI x Λ r.1 r.2) 98 [(0, .ref v0), (1, .int v1), (2, .int v2), (3, .int v3)] [] μ := by
  obtain ⟨y1, e2, hm⟩ := lt_some hm
  refine j_iinc C 3 (v := y1) (lv' := [(3, .int y1), (0, .ref v0), (1, .int v1), (2, .int v2)]) dX12_allWork_98 rfl (by rw [e2]; rfl) (by decide) rfl ?_
  refine j_goto C (tgt := 12) dX12_allWork_101 (by decide) ?_
  refine j_sub [1, 2, 3, 0] rfl ?_
  exact hk12 (v1, v2, y1, μ) _ hm
set_option maxRecDepth 20000 in
set_option maxHeartbeats 4000000 in
theorem tj_X12_allWork_42 {x : Ctx} {Λ : Lay} (C : Cx x cX12_allWork 5 (some .int) RX12 Λ rm_X12_allWork) (N : Nat) (μ : Mem) (k12 : Int32 × Int32 × Int32 × Mem → Option (Int32 × Mem)) (v0 : Nat) (v1 : Int32) (v2 : Int32) (v3 : Int32) (s0 : Int32) (hk12 : ∀ (s : Int32 × Int32 × Int32 × Mem) (r : Int32 × Mem), k12 s = some r → J x 5 Λ (QI x Λ r.1 r.2) 12 [(0, .ref v0), (1, .int s.1), (2, .int s.2.1), (3, .int s.2.2.1)] [] (s.2.2.2)) (hv0 : inL Λ v0 11) {r : Int32 × Mem} (hm : jn_X12_allWork_42 N Λ μ k12 v0 v1 v2 v3 s0 = some r) : J x 5 Λ (QI x Λ r.1 r.2) 42 [(0, .ref v0), (1, .int v1), (2, .int v2), (3, .int v3)] [.int s0] μ := by
  refine j_istore C (lv' := [(4, .int s0), (0, .ref v0), (1, .int v1), (2, .int v2), (3, .int v3)]) dX12_allWork_42 (by decide) rfl ?_
  refine j_iload C 0 dX12_allWork_44 rfl ?_
  refine j_if_ne C (tgt := 52) dX12_allWork_46 (by decide) (fun h1 => ?_) (fun h1 => ?_)
  · replace hm := if_f hm h1
    refine j_iload_n C 2 dX12_allWork_52 rfl ?_
    refine j_iload C 0 dX12_allWork_53 rfl ?_
    refine j_isub C dX12_allWork_55 ?_
    obtain ⟨y2, e3, hm⟩ := lt_some hm
    refine j_topi e3 ?_
    refine j_istore_n C (lv' := [(1, .int y2), (4, .int s0), (0, .ref v0), (2, .int v2), (3, .int v3)]) dX12_allWork_56 (by decide) rfl ?_
    refine j_iload_n C 3 dX12_allWork_57 rfl ?_
    refine j_iload C 1 dX12_allWork_58 rfl ?_
    refine j_iadd C dX12_allWork_60 ?_
    obtain ⟨y4, e5, hm⟩ := lt_some hm
    refine j_topi e5 ?_
    refine j_istore_n C (lv' := [(2, .int y4), (1, .int y2), (4, .int s0), (0, .ref v0), (3, .int v3)]) dX12_allWork_61 (by decide) rfl ?_
    refine j_aload_n C 3 dX12_allWork_62 rfl ?_
    obtain ⟨q6, h7, hm⟩ := bd_some hm
    refine j_getR C fg_X12_13_11 hv0 (dr_spec h7).1 dX12_allWork_63 ?_
    refine j_iload_n C 4 dX12_allWork_66 rfl ?_
    refine j_iconst C (v := 2) dX12_allWork_67 rfl ?_
    obtain ⟨r8, h9, hm⟩ := bd_some hm
    refine call_I (run_LS C ls_X12_81 ⟨rfl, rfl, Nat.le_of_ble_eq_true rfl, Nat.le_of_ble_eq_true rfl⟩ (As := [.int v3, .int 2]) rfl rfl (Nat.le_of_ble_eq_true rfl) dX12_allWork_68 (mc_X12_shipAt _ _ _ _ _ _  h9)) ?_
    refine j_dup2 C dX12_allWork_71 rfl rfl ?_
    obtain ⟨h10, hm⟩ := gd_some hm
    refine j_iald C ((dr_spec h7).2) h10 dX12_allWork_72 ?_
    refine j_iload C 2 dX12_allWork_73 rfl ?_
    refine j_isub C dX12_allWork_75 ?_
    obtain ⟨h11, hm⟩ := gd_some hm
    obtain ⟨μ12, e13, hm⟩ := lt_some hm
    refine j_iast C ((dr_spec h7).2) h11 e13 dX12_allWork_76 ?_
    refine j_aload_n C 3 dX12_allWork_77 rfl ?_
    refine j_iload_n C 4 dX12_allWork_78 rfl ?_
    refine j_iconst C (v := 2) dX12_allWork_79 rfl ?_
    obtain ⟨r14, h15, hm⟩ := bd_some hm
    refine call_I (run_LV C lk_X12_85 ⟨rfl, rfl, Nat.le_of_ble_eq_true rfl, Nat.le_of_ble_eq_true rfl⟩ (As := [.int v3, .int 2]) hv0 rfl rfl (Nat.le_of_ble_eq_true rfl) dX12_allWork_80 (mc_X12_of _ _ _ _ _ _ _ hv0 h15)) ?_
    refine j_if_ne C (tgt := 98) dX12_allWork_83 (by decide) (fun h16 => ?_) (fun h16 => ?_)
    · replace hm := if_f hm h16
      refine j_sub [3, 1, 0, 4] rfl ?_
      exact tj_X12_allWork_98 C _ _ _ _ _ _ _ hk12 hv0 hm
    · replace hm := if_t hm h16
      refine j_aload_n C 3 dX12_allWork_86 rfl ?_
      refine j_iload_n C 4 dX12_allWork_87 rfl ?_
      refine j_iconst C (v := 3) dX12_allWork_88 rfl ?_
      refine j_aload_n C 3 dX12_allWork_89 rfl ?_
      refine j_iload_n C 4 dX12_allWork_90 rfl ?_
      refine j_iconst C (v := 4) dX12_allWork_91 rfl ?_
      obtain ⟨r17, h18, hm⟩ := bd_some hm
      refine call_I (run_LV C lk_X12_85 ⟨rfl, rfl, Nat.le_of_ble_eq_true rfl, Nat.le_of_ble_eq_true rfl⟩ (As := [.int v3, .int 4]) hv0 rfl rfl (Nat.le_of_ble_eq_true rfl) dX12_allWork_92 (mc_X12_of _ _ _ _ _ _ _ hv0 h18)) ?_
      obtain ⟨r19, h20, hm⟩ := bd_some hm
      refine call_V (run_LV C lk_X12_321 ⟨rfl, rfl, Nat.le_of_ble_eq_true rfl, Nat.le_of_ble_eq_true rfl⟩ (As := [.int v3, .int 3, .int r17]) hv0 rfl rfl (Nat.le_of_ble_eq_true rfl) dX12_allWork_95 (mc_X12_isTold _ _ _ _ _ _ _ _ hv0 h20)) ?_
      refine j_sub [3, 1, 0, 4] rfl ?_
      exact tj_X12_allWork_98 C _ _ _ _ _ _ _ hk12 hv0 hm
  · replace hm := if_t hm h1
    refine j_goto C (tgt := 98) dX12_allWork_49 (by decide) ?_
    refine j_sub [1, 2, 3, 4] rfl ?_
    exact tj_X12_allWork_98 C _ _ _ _ _ _ _ hk12 hv0 hm
set_option maxRecDepth 20000 in
set_option maxHeartbeats 4000000 in
theorem tb_X12_allWork_12 {x : Ctx} {Λ : Lay} (C : Cx x cX12_allWork 5 (some .int) RX12 Λ rm_X12_allWork) (N : Nat) (μ : Mem) (k12 : Int32 × Int32 × Int32 × Mem → Option (Int32 × Mem)) (v0 : Nat) (v1 : Int32) (v2 : Int32) (v3 : Int32) (hk12 : ∀ (s : Int32 × Int32 × Int32 × Mem) (r : Int32 × Mem), k12 s = some r → J x 5 Λ (QI x Λ r.1 r.2) 12 [(0, .ref v0), (1, .int s.1), (2, .int s.2.1), (3, .int s.2.2.1)] [] (s.2.2.2)) (hv0 : inL Λ v0 11) {r : Int32 × Mem} (hm : bd_X12_allWork_12 N Λ μ k12 v0 v1 v2 v3 = some r) : J x 5 Λ (QI x Λ r.1 r.2) 12 [(0, .ref v0), (1, .int v1), (2, .int v2), (3, .int v3)] [] μ := by
  refine j_iload_n C 3 dX12_allWork_12 rfl ?_
  refine j_aload_n C 0 dX12_allWork_13 rfl ?_
  obtain ⟨r1, h2, hm⟩ := bd_some hm
  refine call_I (run_LV C lk_X12_95 ⟨rfl, rfl, Nat.le_of_ble_eq_true rfl, Nat.le_of_ble_eq_true rfl⟩ (As := []) hv0 rfl rfl (Nat.le_of_ble_eq_true rfl) dX12_allWork_14 (mc_X12_ships _ _ _ _ _ hv0 h2)) ?_
  refine j_icmp_ge C (tgt := 104) dX12_allWork_17 (by decide) (fun h3 => ?_) (fun h3 => ?_)
  · replace hm := if_t hm h3
    refine j_iload_n C 2 dX12_allWork_104 rfl ?_
    obtain rfl := Option.some.inj hm
    exact j_ireti C dX12_allWork_105
  · replace hm := if_f hm h3
    refine j_aload_n C 0 dX12_allWork_20 rfl ?_
    refine j_iload_n C 3 dX12_allWork_21 rfl ?_
    obtain ⟨r4, h5, hm⟩ := bd_some hm
    refine call_I (run_LV C lk_X12_315 ⟨rfl, rfl, Nat.le_of_ble_eq_true rfl, Nat.le_of_ble_eq_true rfl⟩ (As := [.int v3]) hv0 rfl rfl (Nat.le_of_ble_eq_true rfl) dX12_allWork_22 (mc_X12_sits _ _ _ _ _ _ hv0 h5)) ?_
    refine j_if_eq C (tgt := 41) dX12_allWork_25 (by decide) (fun h6 => ?_) (fun h6 => ?_)
    · replace hm := if_t hm h6
      refine j_iconst C (v := 0) dX12_allWork_41 rfl ?_
      exact tj_X12_allWork_42 C _ _ _ _ _ _ _ _ hk12 hv0 hm
    · replace hm := if_f hm h6
      refine j_iload_n C 1 dX12_allWork_28 rfl ?_
      refine j_aload_n C 0 dX12_allWork_29 rfl ?_
      refine j_iload_n C 3 dX12_allWork_30 rfl ?_
      refine j_iconst C (v := 2) dX12_allWork_31 rfl ?_
      obtain ⟨r7, h8, hm⟩ := bd_some hm
      refine call_I (run_LV C lk_X12_85 ⟨rfl, rfl, Nat.le_of_ble_eq_true rfl, Nat.le_of_ble_eq_true rfl⟩ (As := [.int v3, .int 2]) hv0 rfl rfl (Nat.le_of_ble_eq_true rfl) dX12_allWork_32 (mc_X12_of _ _ _ _ _ _ _ hv0 h8)) ?_
      refine j_mmin C wk_1928 ⟨Nat.le_of_ble_eq_true rfl, Nat.le_of_ble_eq_true rfl⟩ dX12_allWork_35 ?_
      refine j_goto C (tgt := 42) dX12_allWork_38 (by decide) ?_
      exact tj_X12_allWork_42 C _ _ _ _ _ _ _ _ hk12 hv0 hm
set_option maxRecDepth 20000 in
set_option maxHeartbeats 4000000 in
theorem tl_X12_allWork_12 {x : Ctx} {Λ : Lay} (C : Cx x cX12_allWork 5 (some .int) RX12 Λ rm_X12_allWork) (N : Nat) (v0 : Nat) (hv0 : inL Λ v0 11) (s : Int32 × Int32 × Int32 × Mem) {r : Int32 × Mem} (hm : lp_X12_allWork_12 N Λ v0 s = some r) : J x 5 Λ (QI x Λ r.1 r.2) 12 [(0, .ref v0), (1, .int s.1), (2, .int s.2.1), (3, .int s.2.2.1)] [] (s.2.2.2) :=
  cw_ind (P := fun s r => J x 5 Λ (QI x Λ r.1 r.2) 12 [(0, .ref v0), (1, .int s.1), (2, .int s.2.1), (3, .int s.2.2.1)] [] (s.2.2.2)) (fun k hkk s r e => tb_X12_allWork_12 C _ _ _ _ _ _ _ hkk hv0 e) N s r hm
set_option maxRecDepth 20000 in
set_option maxHeartbeats 4000000 in
theorem tm_X12_allWork {x : Ctx} {Λ : Lay} (C : Cx x cX12_allWork 5 (some .int) RX12 Λ rm_X12_allWork) (N : Nat) (μ : Mem) (v0 : Nat) (hv0 : inL Λ v0 11) {r : Int32 × Mem} (hm : m_X12_allWork N Λ μ v0 = some r) : J x 5 Λ (QI x Λ r.1 r.2) 0 [(0, .ref v0)] [] μ := by
  refine j_aload_n C 0 dX12_allWork_0 rfl ?_
  obtain ⟨q1, h2, hm⟩ := bd_some hm
  refine j_getR C fg_X12_13_11 hv0 (dr_spec h2).1 dX12_allWork_1 ?_
  refine j_bipush C (v := 6) dX12_allWork_4 rfl ?_
  obtain ⟨h3, hm⟩ := gd_some hm
  refine j_iald C ((dr_spec h2).2) h3 dX12_allWork_6 ?_
  obtain ⟨y4, e5, hm⟩ := lt_some hm
  refine j_topi e5 ?_
  refine j_istore_n C (lv' := [(1, .int y4), (0, .ref v0)]) dX12_allWork_7 (by decide) rfl ?_
  refine j_iconst C (v := 0) dX12_allWork_8 rfl ?_
  refine j_istore_n C (lv' := [(2, .int 0), (1, .int y4), (0, .ref v0)]) dX12_allWork_9 (by decide) rfl ?_
  refine j_iconst C (v := 0) dX12_allWork_10 rfl ?_
  refine j_istore_n C (lv' := [(3, .int 0), (2, .int 0), (1, .int y4), (0, .ref v0)]) dX12_allWork_11 (by decide) rfl ?_
  refine j_sub [3, 2, 1, 0] rfl ?_
  exact tl_X12_allWork_12 C _ _ hv0 (y4, 0, 0, μ) hm
set_option maxRecDepth 20000 in
set_option maxHeartbeats 4000000 in
theorem mc_X12_allWork (l : Launch) (N : Nat) (Λ : Lay) (μ : Mem) (v0 : Nat) (hv0 : inL Λ v0 11) {r : Int32 × Mem} (hm : m_X12_allWork N Λ μ v0 = some r) : MI l yX12_allWork cX12_allWork 5 (some .int) rm_X12_allWork Λ [.ref v0] μ r.1 r.2 := mi_of rfl (Nat.le_of_ble_eq_true rfl) (fun x C _ => tm_X12_allWork C _ _ _ hv0 hm)
abbrev rm_X12_oneHour : Room := { frames := 7, cells := 0, slots := 0, locals := 161 }
set_option maxRecDepth 20000 in
set_option maxHeartbeats 4000000 in
theorem tj_X12_oneHour_121 {x : Ctx} {Λ : Lay} (C : Cx x cX12_oneHour 2 (some .int) RX12 Λ rm_X12_oneHour) (N : Nat) (μ : Mem) (s0 : Int32) {r : Int32 × Mem} (hm : jn_X12_oneHour_121 N Λ μ s0 = some r) : J x 2 Λ (QI x Λ r.1 r.2) 121 [] [.int s0] μ := by
  obtain rfl := Option.some.inj hm
  exact j_ireti C dX12_oneHour_121
set_option maxRecDepth 20000 in
set_option maxHeartbeats 4000000 in
theorem tj_X12_oneHour_99 {x : Ctx} {Λ : Lay} (C : Cx x cX12_oneHour 2 (some .int) RX12 Λ rm_X12_oneHour) (N : Nat) (μ : Mem) (v0 : Nat) (hv0 : inL Λ v0 11) {r : Int32 × Mem} (hm : jn_X12_oneHour_99 N Λ μ v0 = some r) : J x 2 Λ (QI x Λ r.1 r.2) 99 [(0, .ref v0)] [] μ := by
  refine j_aload_n C 0 dX12_oneHour_99 rfl ?_
  obtain ⟨r1, h2, hm⟩ := bd_some hm
  refine call_V (run_LV C lk_X12_336 ⟨rfl, rfl, Nat.le_of_ble_eq_true rfl, Nat.le_of_ble_eq_true rfl⟩ (As := []) hv0 rfl rfl (Nat.le_of_ble_eq_true rfl) dX12_oneHour_100 (mc_X12_someHurt _ _ _ _ _ hv0 h2)) ?_
  refine j_aload_n C 0 dX12_oneHour_103 rfl ?_
  obtain ⟨q3, h4, hm⟩ := bd_some hm
  refine j_getR C fg_X12_13_11 hv0 (dr_spec h4).1 dX12_oneHour_104 ?_
  refine j_iconst C (v := 3) dX12_oneHour_107 rfl ?_
  obtain ⟨h5, hm⟩ := gd_some hm
  refine j_iald C ((dr_spec h4).2) h5 dX12_oneHour_108 ?_
  refine j_iconst C (v := 2) dX12_oneHour_109 rfl ?_
  refine j_icmp_gt C (tgt := 120) dX12_oneHour_110 (by decide) (fun h6 => ?_) (fun h6 => ?_)
  · replace hm := if_t hm h6
    refine j_iconst C (v := 0) dX12_oneHour_120 rfl ?_
    refine j_sub [] rfl ?_
    exact tj_X12_oneHour_121 C _ _ _  hm
  · replace hm := if_f hm h6
    refine j_aload_n C 0 dX12_oneHour_113 rfl ?_
    obtain ⟨r7, h8, hm⟩ := bd_some hm
    refine call_I (run_LV C lk_X12_339 ⟨rfl, rfl, Nat.le_of_ble_eq_true rfl, Nat.le_of_ble_eq_true rfl⟩ (As := []) hv0 rfl rfl (Nat.le_of_ble_eq_true rfl) dX12_oneHour_114 (mc_X12_allWork _ _ _ _ _ hv0 h8)) ?_
    refine j_goto C (tgt := 121) dX12_oneHour_117 (by decide) ?_
    refine j_sub [] rfl ?_
    exact tj_X12_oneHour_121 C _ _ _  hm
set_option maxRecDepth 20000 in
set_option maxHeartbeats 4000000 in
theorem tj_X12_oneHour_63 {x : Ctx} {Λ : Lay} (C : Cx x cX12_oneHour 2 (some .int) RX12 Λ rm_X12_oneHour) (N : Nat) (μ : Mem) (v0 : Nat) (s0 : Nat) (s1 : Int32) (s2 : Int32) (s3 : Int32) (hv0 : inL Λ v0 11) (hs0 : inL Λ s0 13) {r : Int32 × Mem} (hm : jn_X12_oneHour_63 N Λ μ v0 s0 s1 s2 s3 = some r) : J x 2 Λ (QI x Λ r.1 r.2) 63 [(0, .ref v0)] [.int s3, .int s2, .int s1, .ref s0] μ := by
  refine j_iadd C dX12_oneHour_63 ?_
  obtain ⟨h1, hm⟩ := gd_some hm
  obtain ⟨μ2, e3, hm⟩ := lt_some hm
  refine j_iast C hs0 h1 e3 dX12_oneHour_64 ?_
  refine j_goto C (tgt := 99) dX12_oneHour_65 (by decide) ?_
  exact tj_X12_oneHour_99 C _ _ _ hv0 hm
set_option maxRecDepth 20000 in
set_option maxHeartbeats 4000000 in
theorem tm_X12_oneHour {x : Ctx} {Λ : Lay} (C : Cx x cX12_oneHour 2 (some .int) RX12 Λ rm_X12_oneHour) (N : Nat) (μ : Mem) (v0 : Nat) (v1 : Int32) (hv0 : inL Λ v0 11) {r : Int32 × Mem} (hm : m_X12_oneHour N Λ μ v0 v1 = some r) : J x 2 Λ (QI x Λ r.1 r.2) 0 [(0, .ref v0), (1, .int v1)] [] μ := by
  refine j_aload_n C 0 dX12_oneHour_0 rfl ?_
  obtain ⟨q1, h2, hm⟩ := bd_some hm
  refine j_getR C fg_X12_13_11 hv0 (dr_spec h2).1 dX12_oneHour_1 ?_
  refine j_bipush C (v := 9) dX12_oneHour_4 rfl ?_
  refine j_sipush C (v := 9999) dX12_oneHour_6 rfl ?_
  refine j_aload_n C 0 dX12_oneHour_9 rfl ?_
  obtain ⟨q3, h4, hm⟩ := bd_some hm
  refine j_getR C fg_X12_13_11 hv0 (dr_spec h4).1 dX12_oneHour_10 ?_
  refine j_bipush C (v := 9) dX12_oneHour_13 rfl ?_
  obtain ⟨h5, hm⟩ := gd_some hm
  refine j_iald C ((dr_spec h4).2) h5 dX12_oneHour_15 ?_
  refine j_iconst C (v := 1) dX12_oneHour_16 rfl ?_
  refine j_iadd C dX12_oneHour_17 ?_
  refine j_mmin C wk_1928 ⟨Nat.le_of_ble_eq_true rfl, Nat.le_of_ble_eq_true rfl⟩ dX12_oneHour_18 ?_
  obtain ⟨h6, hm⟩ := gd_some hm
  obtain ⟨μ7, e8, hm⟩ := lt_some hm
  refine j_iast C ((dr_spec h2).2) h6 e8 dX12_oneHour_21 ?_
  refine j_aload_n C 0 dX12_oneHour_22 rfl ?_
  obtain ⟨q9, h10, hm⟩ := bd_some hm
  refine j_getR C fg_X12_13_11 hv0 (dr_spec h10).1 dX12_oneHour_23 ?_
  refine j_iconst C (v := 4) dX12_oneHour_26 rfl ?_
  obtain ⟨h11, hm⟩ := gd_some hm
  refine j_iald C ((dr_spec h10).2) h11 dX12_oneHour_27 ?_
  refine j_iconst C (v := 1) dX12_oneHour_28 rfl ?_
  refine j_icmp_ne C (tgt := 68) dX12_oneHour_29 (by decide) (fun h12 => ?_) (fun h12 => ?_)
  · replace hm := if_f hm h12
    refine j_aload_n C 0 dX12_oneHour_68 rfl ?_
    obtain ⟨q13, h14, hm⟩ := bd_some hm
    refine j_getR C fg_X12_13_11 hv0 (dr_spec h14).1 dX12_oneHour_69 ?_
    refine j_iconst C (v := 3) dX12_oneHour_72 rfl ?_
    refine j_iconst C (v := 0) dX12_oneHour_73 rfl ?_
    refine j_bipush C (v := 40) dX12_oneHour_74 rfl ?_
    refine j_aload_n C 0 dX12_oneHour_76 rfl ?_
    obtain ⟨q15, h16, hm⟩ := bd_some hm
    refine j_getR C fg_X12_13_11 hv0 (dr_spec h16).1 dX12_oneHour_77 ?_
    refine j_iconst C (v := 3) dX12_oneHour_80 rfl ?_
    obtain ⟨h17, hm⟩ := gd_some hm
    refine j_iald C ((dr_spec h16).2) h17 dX12_oneHour_81 ?_
    refine j_aload_n C 0 dX12_oneHour_82 rfl ?_
    obtain ⟨r18, h19, hm⟩ := bd_some hm
    refine call_I (run_LV C lk_X12_327 ⟨rfl, rfl, Nat.le_of_ble_eq_true rfl, Nat.le_of_ble_eq_true rfl⟩ (As := []) hv0 rfl rfl (Nat.le_of_ble_eq_true rfl) dX12_oneHour_83 (mc_X12_leaksNow _ _ _ _ _ hv0 h19)) ?_
    refine j_iadd C dX12_oneHour_86 ?_
    refine j_aload_n C 0 dX12_oneHour_87 rfl ?_
    obtain ⟨r20, h21, hm⟩ := bd_some hm
    refine call_I (run_LV C lk_X12_330 ⟨rfl, rfl, Nat.le_of_ble_eq_true rfl, Nat.le_of_ble_eq_true rfl⟩ (As := []) hv0 rfl rfl (Nat.le_of_ble_eq_true rfl) dX12_oneHour_88 (mc_X12_pullsNow _ _ _ _ _ hv0 h21)) ?_
    refine j_isub C dX12_oneHour_91 ?_
    refine j_mmin C wk_1928 ⟨Nat.le_of_ble_eq_true rfl, Nat.le_of_ble_eq_true rfl⟩ dX12_oneHour_92 ?_
    refine j_mmax C wk_1942 ⟨Nat.le_of_ble_eq_true rfl, Nat.le_of_ble_eq_true rfl⟩ dX12_oneHour_95 ?_
    obtain ⟨h22, hm⟩ := gd_some hm
    obtain ⟨μ23, e24, hm⟩ := lt_some hm
    refine j_iast C ((dr_spec h14).2) h22 e24 dX12_oneHour_98 ?_
    refine j_sub [0] rfl ?_
    exact tj_X12_oneHour_99 C _ _ _ hv0 hm
  · replace hm := if_t hm h12
    refine j_aload_n C 0 dX12_oneHour_32 rfl ?_
    obtain ⟨q25, h26, hm⟩ := bd_some hm
    refine j_getR C fg_X12_13_11 hv0 (dr_spec h26).1 dX12_oneHour_33 ?_
    refine j_iconst C (v := 3) dX12_oneHour_36 rfl ?_
    refine j_aload_n C 0 dX12_oneHour_37 rfl ?_
    refine j_iconst C (v := 0) dX12_oneHour_38 rfl ?_
    obtain ⟨r27, h28, hm⟩ := bd_some hm
    refine call_I (run_LV C lk_X12_288 ⟨rfl, rfl, Nat.le_of_ble_eq_true rfl, Nat.le_of_ble_eq_true rfl⟩ (As := [.int 0]) hv0 rfl rfl (Nat.le_of_ble_eq_true rfl) dX12_oneHour_39 (mc_X12_tideIn _ _ _ _ _ _ hv0 h28)) ?_
    refine j_iload_n C 1 dX12_oneHour_42 rfl ?_
    refine j_if_eq C (tgt := 50) dX12_oneHour_43 (by decide) (fun h29 => ?_) (fun h29 => ?_)
    · replace hm := if_t hm h29
      refine j_aload_n C 0 dX12_oneHour_50 rfl ?_
      refine j_aload_n C 0 dX12_oneHour_51 rfl ?_
      obtain ⟨q30, h31, hm⟩ := bd_some hm
      refine j_getR C fg_X12_13_11 hv0 (dr_spec h31).1 dX12_oneHour_52 ?_
      refine j_bipush C (v := 7) dX12_oneHour_55 rfl ?_
      obtain ⟨h32, hm⟩ := gd_some hm
      refine j_iald C ((dr_spec h31).2) h32 dX12_oneHour_57 ?_
      refine j_iconst C (v := 1) dX12_oneHour_58 rfl ?_
      refine j_iadd C dX12_oneHour_59 ?_
      obtain ⟨r33, h34, hm⟩ := bd_some hm
      refine call_I (run_LV C lk_X12_324 ⟨rfl, rfl, Nat.le_of_ble_eq_true rfl, Nat.le_of_ble_eq_true rfl⟩ (As := [.int ((μ7.1 q30 (7 : Int32).toNatClampNeg) + 1)]) hv0 rfl rfl (Nat.le_of_ble_eq_true rfl) dX12_oneHour_60 (mc_X12_drawn _ _ _ _ _ _ hv0 h34)) ?_
      refine j_sub [0] rfl ?_
      exact tj_X12_oneHour_63 C _ _ _ _ _ _ _ hv0 ((dr_spec h26).2) hm
    · replace hm := if_f hm h29
      refine j_iconst C (v := 0) dX12_oneHour_46 rfl ?_
      refine j_goto C (tgt := 63) dX12_oneHour_47 (by decide) ?_
      refine j_sub [0] rfl ?_
      exact tj_X12_oneHour_63 C _ _ _ _ _ _ _ hv0 ((dr_spec h26).2) hm
set_option maxRecDepth 20000 in
set_option maxHeartbeats 4000000 in
theorem mc_X12_oneHour (l : Launch) (N : Nat) (Λ : Lay) (μ : Mem) (v0 : Nat) (v1 : Int32) (hv0 : inL Λ v0 11) {r : Int32 × Mem} (hm : m_X12_oneHour N Λ μ v0 v1 = some r) : MI l yX12_oneHour cX12_oneHour 2 (some .int) rm_X12_oneHour Λ [.ref v0, .int v1] μ r.1 r.2 := mi_of rfl (Nat.le_of_ble_eq_true rfl) (fun x C _ => tm_X12_oneHour C _ _ _ _ hv0 hm)
abbrev rm_X12_goesOn : Room := { frames := 8, cells := 0, slots := 0, locals := 182 }
set_option maxRecDepth 20000 in
set_option maxHeartbeats 4000000 in
theorem tb_X12_goesOn_5 {x : Ctx} {Λ : Lay} (C : Cx x cX12_goesOn 5 (some .int) RX12 Λ rm_X12_goesOn) (N : Nat) (μ : Mem) (k5 : Int32 × Int32 × Mem → Option (Int32 × Mem)) (v0 : Nat) (v1 : Int32) (v2 : Int32) (v3 : Int32) (v4 : Int32) (hk5 : ∀ (s : Int32 × Int32 × Mem) (r : Int32 × Mem), k5 s = some r → J x 5 Λ (QI x Λ r.1 r.2) 5 [(0, .ref v0), (1, .int v1), (2, .int v2), (3, .int s.1), (4, .int s.2.1)] [] (s.2.2)) (hv0 : inL Λ v0 11) {r : Int32 × Mem} (hm : bd_X12_goesOn_5 N Λ μ k5 v0 v1 v2 v3 v4 = some r) : J x 5 Λ (QI x Λ r.1 r.2) 5 [(0, .ref v0), (1, .int v1), (2, .int v2), (3, .int v3), (4, .int v4)] [] μ := by
  refine j_iload C 4 dX12_goesOn_5 rfl ?_
  refine j_iload_n C 1 dX12_goesOn_7 rfl ?_
  refine j_icmp_ge C (tgt := 25) dX12_goesOn_8 (by decide) (fun h1 => ?_) (fun h1 => ?_)
  · replace hm := if_t hm h1
    refine j_iload_n C 3 dX12_goesOn_25 rfl ?_
    obtain rfl := Option.some.inj hm
    exact j_ireti C dX12_goesOn_26
  · replace hm := if_f hm h1
    refine j_iload_n C 3 dX12_goesOn_11 rfl ?_
    refine j_aload_n C 0 dX12_goesOn_12 rfl ?_
    refine j_iload_n C 2 dX12_goesOn_13 rfl ?_
    obtain ⟨r2, h3, hm⟩ := bd_some hm
    refine call_I (run_LV C lk_X12_342 ⟨rfl, rfl, Nat.le_of_ble_eq_true rfl, Nat.le_of_ble_eq_true rfl⟩ (As := [.int v2]) hv0 rfl rfl (Nat.le_of_ble_eq_true rfl) dX12_goesOn_14 (mc_X12_oneHour _ _ _ _ _ _ hv0 h3)) ?_
    refine j_iadd C dX12_goesOn_17 ?_
    obtain ⟨y4, e5, hm⟩ := lt_some hm
    refine j_topi e5 ?_
    refine j_istore_n C (lv' := [(3, .int y4), (0, .ref v0), (1, .int v1), (2, .int v2), (4, .int v4)]) dX12_goesOn_18 (by decide) rfl ?_
    obtain ⟨y6, e7, hm⟩ := lt_some hm
    refine j_iinc C 4 (v := y6) (lv' := [(4, .int y6), (3, .int y4), (0, .ref v0), (1, .int v1), (2, .int v2)]) dX12_goesOn_19 rfl (by rw [e7]; rfl) (by decide) rfl ?_
    refine j_goto C (tgt := 5) dX12_goesOn_22 (by decide) ?_
    refine j_sub [2, 3, 4, 1, 0] rfl ?_
    exact hk5 (y4, y6, r2.2) _ hm
set_option maxRecDepth 20000 in
set_option maxHeartbeats 4000000 in
theorem tl_X12_goesOn_5 {x : Ctx} {Λ : Lay} (C : Cx x cX12_goesOn 5 (some .int) RX12 Λ rm_X12_goesOn) (N : Nat) (v0 : Nat) (v1 : Int32) (v2 : Int32) (hv0 : inL Λ v0 11) (s : Int32 × Int32 × Mem) {r : Int32 × Mem} (hm : lp_X12_goesOn_5 N Λ v0 v1 v2 s = some r) : J x 5 Λ (QI x Λ r.1 r.2) 5 [(0, .ref v0), (1, .int v1), (2, .int v2), (3, .int s.1), (4, .int s.2.1)] [] (s.2.2) :=
  cw_ind (P := fun s r => J x 5 Λ (QI x Λ r.1 r.2) 5 [(0, .ref v0), (1, .int v1), (2, .int v2), (3, .int s.1), (4, .int s.2.1)] [] (s.2.2)) (fun k hkk s r e => tb_X12_goesOn_5 C _ _ _ _ _ _ _ _ hkk hv0 e) N s r hm
set_option maxRecDepth 20000 in
set_option maxHeartbeats 4000000 in
theorem tm_X12_goesOn {x : Ctx} {Λ : Lay} (C : Cx x cX12_goesOn 5 (some .int) RX12 Λ rm_X12_goesOn) (N : Nat) (μ : Mem) (v0 : Nat) (v1 : Int32) (v2 : Int32) (hv0 : inL Λ v0 11) {r : Int32 × Mem} (hm : m_X12_goesOn N Λ μ v0 v1 v2 = some r) : J x 5 Λ (QI x Λ r.1 r.2) 0 [(0, .ref v0), (1, .int v1), (2, .int v2)] [] μ := by
  refine j_iconst C (v := 0) dX12_goesOn_0 rfl ?_
  refine j_istore_n C (lv' := [(3, .int 0), (0, .ref v0), (1, .int v1), (2, .int v2)]) dX12_goesOn_1 (by decide) rfl ?_
  refine j_iconst C (v := 0) dX12_goesOn_2 rfl ?_
  refine j_istore C (lv' := [(4, .int 0), (3, .int 0), (0, .ref v0), (1, .int v1), (2, .int v2)]) dX12_goesOn_3 (by decide) rfl ?_
  refine j_sub [2, 3, 4, 1, 0] rfl ?_
  exact tl_X12_goesOn_5 C _ _ _ _ hv0 (0, 0, μ) hm
set_option maxRecDepth 20000 in
set_option maxHeartbeats 4000000 in
theorem mc_X12_goesOn (l : Launch) (N : Nat) (Λ : Lay) (μ : Mem) (v0 : Nat) (v1 : Int32) (v2 : Int32) (hv0 : inL Λ v0 11) {r : Int32 × Mem} (hm : m_X12_goesOn N Λ μ v0 v1 v2 = some r) : MI l yX12_goesOn cX12_goesOn 5 (some .int) rm_X12_goesOn Λ [.ref v0, .int v1, .int v2] μ r.1 r.2 := mi_of rfl (Nat.le_of_ble_eq_true rfl) (fun x C _ => tm_X12_goesOn C _ _ _ _ _ hv0 hm)
abbrev rm_X12_whenOf : Room := { frames := 2, cells := 0, slots := 0, locals := 43 }
set_option maxRecDepth 20000 in
set_option maxHeartbeats 4000000 in
theorem tb_X12_whenOf_2 {x : Ctx} {Λ : Lay} (C : Cx x cX12_whenOf 3 (some .int) RX12 Λ rm_X12_whenOf) (N : Nat) (μ : Mem) (k2 : Int32 → Option (Int32)) (v0 : Nat) (v1 : Int32) (v2 : Int32) (hk2 : ∀ (s : Int32) (r : Int32), k2 s = some r → J x 3 Λ (QI x Λ r μ) 2 [(0, .ref v0), (1, .int v1), (2, .int s)] [] (μ)) (hv0 : inL Λ v0 11) {r : Int32} (hm : bd_X12_whenOf_2 N Λ μ k2 v0 v1 v2 = some r) : J x 3 Λ (QI x Λ r μ) 2 [(0, .ref v0), (1, .int v1), (2, .int v2)] [] μ := by
  refine j_iload_n C 2 dX12_whenOf_2 rfl ?_
  refine j_bipush C (v := 12) dX12_whenOf_3 rfl ?_
  refine j_icmp_ge C (tgt := 30) dX12_whenOf_5 (by decide) (fun h1 => ?_) (fun h1 => ?_)
  · replace hm := if_t hm h1
    refine j_iconst C (v := -1) dX12_whenOf_30 rfl ?_
    obtain rfl := Option.some.inj hm
    exact j_ireti C dX12_whenOf_31
  · replace hm := if_f hm h1
    refine j_aload_n C 0 dX12_whenOf_8 rfl ?_
    refine j_iload_n C 2 dX12_whenOf_9 rfl ?_
    obtain ⟨r2, h3, hm⟩ := bd_some hm
    refine call_I (run_LV C lk_X12_288 ⟨rfl, rfl, Nat.le_of_ble_eq_true rfl, Nat.le_of_ble_eq_true rfl⟩ (As := [.int v2]) hv0 rfl rfl (Nat.le_of_ble_eq_true rfl) dX12_whenOf_10 (mc_X12_tideIn _ _ _ _ _ _ hv0 h3)) ?_
    refine j_aload_n C 0 dX12_whenOf_13 rfl ?_
    refine j_iload_n C 1 dX12_whenOf_14 rfl ?_
    refine j_iconst C (v := 1) dX12_whenOf_15 rfl ?_
    obtain ⟨r4, h5, hm⟩ := bd_some hm
    refine call_I (run_LV C lk_X12_85 ⟨rfl, rfl, Nat.le_of_ble_eq_true rfl, Nat.le_of_ble_eq_true rfl⟩ (As := [.int v1, .int 1]) hv0 rfl rfl (Nat.le_of_ble_eq_true rfl) dX12_whenOf_16 (mc_X12_of _ _ _ _ _ _ _ hv0 h5)) ?_
    refine j_icmp_lt C (tgt := 24) dX12_whenOf_19 (by decide) (fun h6 => ?_) (fun h6 => ?_)
    · replace hm := if_t hm h6
      obtain ⟨y7, e8, hm⟩ := lt_some hm
      refine j_iinc C 2 (v := y7) (lv' := [(2, .int y7), (0, .ref v0), (1, .int v1)]) dX12_whenOf_24 rfl (by rw [e8]; rfl) (by decide) rfl ?_
      refine j_goto C (tgt := 2) dX12_whenOf_27 (by decide) ?_
      refine j_sub [1, 2, 0] rfl ?_
      exact hk2 y7 _ hm
    · replace hm := if_f hm h6
      refine j_iload_n C 2 dX12_whenOf_22 rfl ?_
      obtain rfl := Option.some.inj hm
      exact j_ireti C dX12_whenOf_23
set_option maxRecDepth 20000 in
set_option maxHeartbeats 4000000 in
theorem tl_X12_whenOf_2 {x : Ctx} {Λ : Lay} (C : Cx x cX12_whenOf 3 (some .int) RX12 Λ rm_X12_whenOf) (N : Nat) (μ : Mem) (v0 : Nat) (v1 : Int32) (hv0 : inL Λ v0 11) (s : Int32) {r : Int32} (hm : lp_X12_whenOf_2 N Λ μ v0 v1 s = some r) : J x 3 Λ (QI x Λ r μ) 2 [(0, .ref v0), (1, .int v1), (2, .int s)] [] (μ) :=
  cw_ind (P := fun s r => J x 3 Λ (QI x Λ r μ) 2 [(0, .ref v0), (1, .int v1), (2, .int s)] [] (μ)) (fun k hkk s r e => tb_X12_whenOf_2 C _ _ _ _ _ _ hkk hv0 e) N s r hm
set_option maxRecDepth 20000 in
set_option maxHeartbeats 4000000 in
theorem tm_X12_whenOf {x : Ctx} {Λ : Lay} (C : Cx x cX12_whenOf 3 (some .int) RX12 Λ rm_X12_whenOf) (N : Nat) (μ : Mem) (v0 : Nat) (v1 : Int32) (hv0 : inL Λ v0 11) {r : Int32} (hm : m_X12_whenOf N Λ μ v0 v1 = some r) : J x 3 Λ (QI x Λ r μ) 0 [(0, .ref v0), (1, .int v1)] [] μ := by
  refine j_iconst C (v := 0) dX12_whenOf_0 rfl ?_
  refine j_istore_n C (lv' := [(2, .int 0), (0, .ref v0), (1, .int v1)]) dX12_whenOf_1 (by decide) rfl ?_
  refine j_sub [1, 2, 0] rfl ?_
  exact tl_X12_whenOf_2 C _ _ _ _ hv0 0 hm
set_option maxRecDepth 20000 in
set_option maxHeartbeats 4000000 in
theorem mc_X12_whenOf (l : Launch) (N : Nat) (Λ : Lay) (μ : Mem) (v0 : Nat) (v1 : Int32) (hv0 : inL Λ v0 11) {r : Int32} (hm : m_X12_whenOf N Λ μ v0 v1 = some r) : MI l yX12_whenOf cX12_whenOf 3 (some .int) rm_X12_whenOf Λ [.ref v0, .int v1] μ r μ := mi_of rfl (Nat.le_of_ble_eq_true rfl) (fun x C _ => tm_X12_whenOf C _ _ _ _ hv0 hm)
abbrev rm_X12_firstFit : Room := { frames := 5, cells := 0, slots := 0, locals := 107 }
set_option maxRecDepth 20000 in
set_option maxHeartbeats 4000000 in
theorem tj_X12_firstFit_37 {x : Ctx} {Λ : Lay} (C : Cx x cX12_firstFit 5 (some .int) RX12 Λ rm_X12_firstFit) (N : Nat) (μ : Mem) (k11 : Int32 × Int32 → Option (Int32)) (v0 : Nat) (v1 : Int32) (v2 : Int32) (v4 : Int32) (s0 : Int32) (hk11 : ∀ (s : Int32 × Int32) (r : Int32), k11 s = some r → J x 5 Λ (QI x Λ r μ) 11 [(0, .ref v0), (1, .int v1), (2, .int v2), (3, .int s.1), (4, .int s.2)] [] (μ)) (hv0 : inL Λ v0 11) {r : Int32} (hm : jn_X12_firstFit_37 N Λ μ k11 v0 v1 v2 v4 s0 = some r) : J x 5 Λ (QI x Λ r μ) 37 [(0, .ref v0), (1, .int v1), (2, .int v2), (4, .int v4)] [.int s0] μ := by
  refine j_istore_n C (lv' := [(3, .int s0), (0, .ref v0), (1, .int v1), (2, .int v2), (4, .int v4)]) dX12_firstFit_37 (by decide) rfl ?_
  obtain ⟨y1, e2, hm⟩ := lt_some hm
  refine j_iinc C 4 (v := y1) (lv' := [(4, .int y1), (3, .int s0), (0, .ref v0), (1, .int v1), (2, .int v2)]) dX12_firstFit_38 rfl (by rw [e2]; rfl) (by decide) rfl ?_
  refine j_goto C (tgt := 11) dX12_firstFit_41 (by decide) ?_
  refine j_sub [2, 3, 4, 1, 0] rfl ?_
  exact hk11 (s0, y1) _ hm
set_option maxRecDepth 20000 in
set_option maxHeartbeats 4000000 in
theorem tj_X12_firstFit_58 {x : Ctx} {Λ : Lay} (C : Cx x cX12_firstFit 5 (some .int) RX12 Λ rm_X12_firstFit) (N : Nat) (μ : Mem) (s0 : Int32) {r : Int32} (hm : jn_X12_firstFit_58 N Λ μ s0 = some r) : J x 5 Λ (QI x Λ r μ) 58 [] [.int s0] μ := by
  obtain rfl := Option.some.inj hm
  exact j_ireti C dX12_firstFit_58
set_option maxRecDepth 20000 in
set_option maxHeartbeats 4000000 in
theorem tb_X12_firstFit_11 {x : Ctx} {Λ : Lay} (C : Cx x cX12_firstFit 5 (some .int) RX12 Λ rm_X12_firstFit) (N : Nat) (μ : Mem) (k11 : Int32 × Int32 → Option (Int32)) (v0 : Nat) (v1 : Int32) (v2 : Int32) (v3 : Int32) (v4 : Int32) (hk11 : ∀ (s : Int32 × Int32) (r : Int32), k11 s = some r → J x 5 Λ (QI x Λ r μ) 11 [(0, .ref v0), (1, .int v1), (2, .int v2), (3, .int s.1), (4, .int s.2)] [] (μ)) (hv0 : inL Λ v0 11) {r : Int32} (hm : bd_X12_firstFit_11 N Λ μ k11 v0 v1 v2 v3 v4 = some r) : J x 5 Λ (QI x Λ r μ) 11 [(0, .ref v0), (1, .int v1), (2, .int v2), (3, .int v3), (4, .int v4)] [] μ := by
  refine j_iload C 4 dX12_firstFit_11 rfl ?_
  refine j_if_lt C (tgt := 44) dX12_firstFit_13 (by decide) (fun h1 => ?_) (fun h1 => ?_)
  · replace hm := if_t hm h1
    refine j_aload_n C 0 dX12_firstFit_44 rfl ?_
    refine j_iload_n C 1 dX12_firstFit_45 rfl ?_
    refine j_iconst C (v := 3) dX12_firstFit_46 rfl ?_
    obtain ⟨r2, h3, hm⟩ := bd_some hm
    refine call_I (run_LV C lk_X12_85 ⟨rfl, rfl, Nat.le_of_ble_eq_true rfl, Nat.le_of_ble_eq_true rfl⟩ (As := [.int v1, .int 3]) hv0 rfl rfl (Nat.le_of_ble_eq_true rfl) dX12_firstFit_47 (mc_X12_of _ _ _ _ _ _ _ hv0 h3)) ?_
    refine j_if_ne C (tgt := 57) dX12_firstFit_50 (by decide) (fun h4 => ?_) (fun h4 => ?_)
    · replace hm := if_f hm h4
      refine j_iconst C (v := -1) dX12_firstFit_57 rfl ?_
      refine j_sub [] rfl ?_
      exact tj_X12_firstFit_58 C _ _ _  hm
    · replace hm := if_t hm h4
      refine j_iload_n C 3 dX12_firstFit_53 rfl ?_
      refine j_goto C (tgt := 58) dX12_firstFit_54 (by decide) ?_
      refine j_sub [] rfl ?_
      exact tj_X12_firstFit_58 C _ _ _  hm
  · replace hm := if_f hm h1
    refine j_iload_n C 2 dX12_firstFit_16 rfl ?_
    refine j_iload C 4 dX12_firstFit_17 rfl ?_
    refine j_aload_n C 0 dX12_firstFit_19 rfl ?_
    refine j_iload_n C 1 dX12_firstFit_20 rfl ?_
    refine j_iconst C (v := 0) dX12_firstFit_21 rfl ?_
    obtain ⟨r5, h6, hm⟩ := bd_some hm
    refine call_I (run_LV C lk_X12_85 ⟨rfl, rfl, Nat.le_of_ble_eq_true rfl, Nat.le_of_ble_eq_true rfl⟩ (As := [.int v1, .int 0]) hv0 rfl rfl (Nat.le_of_ble_eq_true rfl) dX12_firstFit_22 (mc_X12_of _ _ _ _ _ _ _ hv0 h6)) ?_
    obtain ⟨r7, h8, hm⟩ := bd_some hm
    refine call_I (run_LS C ls_X12_171 ⟨rfl, rfl, Nat.le_of_ble_eq_true rfl, Nat.le_of_ble_eq_true rfl⟩ (As := [.int v2, .int v4, .int r5]) rfl rfl (Nat.le_of_ble_eq_true rfl) dX12_firstFit_25 (mc_X12_fitsIn _ _ _ _ _ _ _  h8)) ?_
    refine j_if_eq C (tgt := 36) dX12_firstFit_28 (by decide) (fun h9 => ?_) (fun h9 => ?_)
    · replace hm := if_t hm h9
      refine j_iload_n C 3 dX12_firstFit_36 rfl ?_
      refine j_sub [0, 1, 2, 4] rfl ?_
      exact tj_X12_firstFit_37 C _ _ _ _ _ _ _ _ hk11 hv0 hm
    · replace hm := if_f hm h9
      refine j_iload C 4 dX12_firstFit_31 rfl ?_
      refine j_goto C (tgt := 37) dX12_firstFit_33 (by decide) ?_
      refine j_sub [0, 1, 2, 4] rfl ?_
      exact tj_X12_firstFit_37 C _ _ _ _ _ _ _ _ hk11 hv0 hm
set_option maxRecDepth 20000 in
set_option maxHeartbeats 4000000 in
theorem tl_X12_firstFit_11 {x : Ctx} {Λ : Lay} (C : Cx x cX12_firstFit 5 (some .int) RX12 Λ rm_X12_firstFit) (N : Nat) (μ : Mem) (v0 : Nat) (v1 : Int32) (v2 : Int32) (hv0 : inL Λ v0 11) (s : Int32 × Int32) {r : Int32} (hm : lp_X12_firstFit_11 N Λ μ v0 v1 v2 s = some r) : J x 5 Λ (QI x Λ r μ) 11 [(0, .ref v0), (1, .int v1), (2, .int v2), (3, .int s.1), (4, .int s.2)] [] (μ) :=
  cw_ind (P := fun s r => J x 5 Λ (QI x Λ r μ) 11 [(0, .ref v0), (1, .int v1), (2, .int v2), (3, .int s.1), (4, .int s.2)] [] (μ)) (fun k hkk s r e => tb_X12_firstFit_11 C _ _ _ _ _ _ _ _ hkk hv0 e) N s r hm
set_option maxRecDepth 20000 in
set_option maxHeartbeats 4000000 in
theorem tm_X12_firstFit {x : Ctx} {Λ : Lay} (C : Cx x cX12_firstFit 5 (some .int) RX12 Λ rm_X12_firstFit) (N : Nat) (μ : Mem) (v0 : Nat) (v1 : Int32) (hv0 : inL Λ v0 11) {r : Int32} (hm : m_X12_firstFit N Λ μ v0 v1 = some r) : J x 5 Λ (QI x Λ r μ) 0 [(0, .ref v0), (1, .int v1)] [] μ := by
  refine j_aload_n C 0 dX12_firstFit_0 rfl ?_
  obtain ⟨r1, h2, hm⟩ := bd_some hm
  refine call_I (run_LV C lk_X12_168 ⟨rfl, rfl, Nat.le_of_ble_eq_true rfl, Nat.le_of_ble_eq_true rfl⟩ (As := []) hv0 rfl rfl (Nat.le_of_ble_eq_true rfl) dX12_firstFit_1 (mc_X12_taken _ _ _ _ _ hv0 h2)) ?_
  refine j_istore_n C (lv' := [(2, .int r1), (0, .ref v0), (1, .int v1)]) dX12_firstFit_4 (by decide) rfl ?_
  refine j_iconst C (v := -1) dX12_firstFit_5 rfl ?_
  refine j_istore_n C (lv' := [(3, .int (-1)), (2, .int r1), (0, .ref v0), (1, .int v1)]) dX12_firstFit_6 (by decide) rfl ?_
  refine j_bipush C (v := 23) dX12_firstFit_7 rfl ?_
  refine j_istore C (lv' := [(4, .int 23), (3, .int (-1)), (2, .int r1), (0, .ref v0), (1, .int v1)]) dX12_firstFit_9 (by decide) rfl ?_
  refine j_sub [3, 4, 2, 1, 0] rfl ?_
  exact tl_X12_firstFit_11 C _ _ _ _ _ hv0 ((-1), 23) hm
set_option maxRecDepth 20000 in
set_option maxHeartbeats 4000000 in
theorem mc_X12_firstFit (l : Launch) (N : Nat) (Λ : Lay) (μ : Mem) (v0 : Nat) (v1 : Int32) (hv0 : inL Λ v0 11) {r : Int32} (hm : m_X12_firstFit N Λ μ v0 v1 = some r) : MI l yX12_firstFit cX12_firstFit 5 (some .int) rm_X12_firstFit Λ [.ref v0, .int v1] μ r μ := mi_of rfl (Nat.le_of_ble_eq_true rfl) (fun x C _ => tm_X12_firstFit C _ _ _ _ hv0 hm)
abbrev rm_X12_workOf : Room := { frames := 2, cells := 0, slots := 0, locals := 43 }
set_option maxRecDepth 20000 in
set_option maxHeartbeats 4000000 in
theorem tj_X12_workOf_37 {x : Ctx} {Λ : Lay} (C : Cx x cX12_workOf 4 (some .int) RX12 Λ rm_X12_workOf) (N : Nat) (μ : Mem) (k4 : Int32 × Int32 → Option (Int32)) (v0 : Nat) (v1 : Int32) (v3 : Int32) (s0 : Int32) (s1 : Int32) (hk4 : ∀ (s : Int32 × Int32) (r : Int32), k4 s = some r → J x 4 Λ (QI x Λ r μ) 4 [(0, .ref v0), (1, .int v1), (2, .int s.1), (3, .int s.2)] [] (μ)) (hv0 : inL Λ v0 11) {r : Int32} (hm : jn_X12_workOf_37 N Λ μ k4 v0 v1 v3 s0 s1 = some r) : J x 4 Λ (QI x Λ r μ) 37 [(0, .ref v0), (1, .int v1), (3, .int v3)] [.int s1, .int s0] μ := by
  refine j_iadd C dX12_workOf_37 ?_
  obtain ⟨y1, e2, hm⟩ := lt_some hm
  refine j_topi e2 ?_
  refine j_istore_n C (lv' := [(2, .int y1), (0, .ref v0), (1, .int v1), (3, .int v3)]) dX12_workOf_38 (by decide) rfl ?_
  obtain ⟨y3, e4, hm⟩ := lt_some hm
  refine j_iinc C 3 (v := y3) (lv' := [(3, .int y3), (2, .int y1), (0, .ref v0), (1, .int v1)]) dX12_workOf_39 rfl (by rw [e4]; rfl) (by decide) rfl ?_
  refine j_goto C (tgt := 4) dX12_workOf_42 (by decide) ?_
  refine j_sub [2, 3, 1, 0] rfl ?_
  exact hk4 (y1, y3) _ hm
set_option maxRecDepth 20000 in
set_option maxHeartbeats 4000000 in
theorem tj_X12_workOf_27 {x : Ctx} {Λ : Lay} (C : Cx x cX12_workOf 4 (some .int) RX12 Λ rm_X12_workOf) (N : Nat) (μ : Mem) (k4 : Int32 × Int32 → Option (Int32)) (v0 : Nat) (v1 : Int32) (v3 : Int32) (s0 : Int32) (hk4 : ∀ (s : Int32 × Int32) (r : Int32), k4 s = some r → J x 4 Λ (QI x Λ r μ) 4 [(0, .ref v0), (1, .int v1), (2, .int s.1), (3, .int s.2)] [] (μ)) (hv0 : inL Λ v0 11) {r : Int32} (hm : jn_X12_workOf_27 N Λ μ k4 v0 v1 v3 s0 = some r) : J x 4 Λ (QI x Λ r μ) 27 [(0, .ref v0), (1, .int v1), (3, .int v3)] [.int s0] μ := by
  refine j_aload_n C 0 dX12_workOf_27 rfl ?_
  refine j_iload_n C 2 dX12_workOf_28 rfl ?_
  refine j_iconst C (v := 2) dX12_workOf_29 rfl ?_
  obtain ⟨r1, h2, hm⟩ := bd_some hm
  refine call_I (run_LV C lk_X12_85 ⟨rfl, rfl, Nat.le_of_ble_eq_true rfl, Nat.le_of_ble_eq_true rfl⟩ (As := [.int v3, .int 2]) hv0 rfl rfl (Nat.le_of_ble_eq_true rfl) dX12_workOf_30 (mc_X12_of _ _ _ _ _ _ _ hv0 h2)) ?_
  refine j_goto C (tgt := 37) dX12_workOf_33 (by decide) ?_
  exact tj_X12_workOf_37 C _ _ _ _ _ _ _ _ hk4 hv0 hm
set_option maxRecDepth 20000 in
set_option maxHeartbeats 4000000 in
theorem tb_X12_workOf_4 {x : Ctx} {Λ : Lay} (C : Cx x cX12_workOf 4 (some .int) RX12 Λ rm_X12_workOf) (N : Nat) (μ : Mem) (k4 : Int32 × Int32 → Option (Int32)) (v0 : Nat) (v1 : Int32) (v2 : Int32) (v3 : Int32) (hk4 : ∀ (s : Int32 × Int32) (r : Int32), k4 s = some r → J x 4 Λ (QI x Λ r μ) 4 [(0, .ref v0), (1, .int v1), (2, .int s.1), (3, .int s.2)] [] (μ)) (hv0 : inL Λ v0 11) {r : Int32} (hm : bd_X12_workOf_4 N Λ μ k4 v0 v1 v2 v3 = some r) : J x 4 Λ (QI x Λ r μ) 4 [(0, .ref v0), (1, .int v1), (2, .int v2), (3, .int v3)] [] μ := by
  refine j_iload_n C 3 dX12_workOf_4 rfl ?_
  refine j_aload_n C 0 dX12_workOf_5 rfl ?_
  obtain ⟨r1, h2, hm⟩ := bd_some hm
  refine call_I (run_LV C lk_X12_95 ⟨rfl, rfl, Nat.le_of_ble_eq_true rfl, Nat.le_of_ble_eq_true rfl⟩ (As := []) hv0 rfl rfl (Nat.le_of_ble_eq_true rfl) dX12_workOf_6 (mc_X12_ships _ _ _ _ _ hv0 h2)) ?_
  refine j_icmp_ge C (tgt := 45) dX12_workOf_9 (by decide) (fun h3 => ?_) (fun h3 => ?_)
  · replace hm := if_t hm h3
    refine j_iload_n C 2 dX12_workOf_45 rfl ?_
    obtain rfl := Option.some.inj hm
    exact j_ireti C dX12_workOf_46
  · replace hm := if_f hm h3
    refine j_iload_n C 2 dX12_workOf_12 rfl ?_
    refine j_iload_n C 1 dX12_workOf_13 rfl ?_
    refine j_if_ne C (tgt := 27) dX12_workOf_14 (by decide) (fun h4 => ?_) (fun h4 => ?_)
    · replace hm := if_f hm h4
      refine j_sub [0, 1, 3] rfl ?_
      exact tj_X12_workOf_27 C _ _ _ _ _ _ _ hk4 hv0 hm
    · replace hm := if_t hm h4
      refine j_aload_n C 0 dX12_workOf_17 rfl ?_
      refine j_iload_n C 3 dX12_workOf_18 rfl ?_
      refine j_iconst C (v := 3) dX12_workOf_19 rfl ?_
      obtain ⟨r5, h6, hm⟩ := bd_some hm
      refine call_I (run_LV C lk_X12_85 ⟨rfl, rfl, Nat.le_of_ble_eq_true rfl, Nat.le_of_ble_eq_true rfl⟩ (As := [.int v3, .int 3]) hv0 rfl rfl (Nat.le_of_ble_eq_true rfl) dX12_workOf_20 (mc_X12_of _ _ _ _ _ _ _ hv0 h6)) ?_
      refine j_iconst C (v := 2) dX12_workOf_23 rfl ?_
      refine j_icmp_eq C (tgt := 36) dX12_workOf_24 (by decide) (fun h7 => ?_) (fun h7 => ?_)
      · replace hm := if_t hm h7
        refine j_iconst C (v := 0) dX12_workOf_36 rfl ?_
        refine j_sub [0, 1, 3] rfl ?_
        exact tj_X12_workOf_37 C _ _ _ _ _ _ _ _ hk4 hv0 hm
      · replace hm := if_f hm h7
        refine j_sub [0, 1, 3] rfl ?_
        exact tj_X12_workOf_27 C _ _ _ _ _ _ _ hk4 hv0 hm
set_option maxRecDepth 20000 in
set_option maxHeartbeats 4000000 in
theorem tl_X12_workOf_4 {x : Ctx} {Λ : Lay} (C : Cx x cX12_workOf 4 (some .int) RX12 Λ rm_X12_workOf) (N : Nat) (μ : Mem) (v0 : Nat) (v1 : Int32) (hv0 : inL Λ v0 11) (s : Int32 × Int32) {r : Int32} (hm : lp_X12_workOf_4 N Λ μ v0 v1 s = some r) : J x 4 Λ (QI x Λ r μ) 4 [(0, .ref v0), (1, .int v1), (2, .int s.1), (3, .int s.2)] [] (μ) :=
  cw_ind (P := fun s r => J x 4 Λ (QI x Λ r μ) 4 [(0, .ref v0), (1, .int v1), (2, .int s.1), (3, .int s.2)] [] (μ)) (fun k hkk s r e => tb_X12_workOf_4 C _ _ _ _ _ _ _ hkk hv0 e) N s r hm
set_option maxRecDepth 20000 in
set_option maxHeartbeats 4000000 in
theorem tm_X12_workOf {x : Ctx} {Λ : Lay} (C : Cx x cX12_workOf 4 (some .int) RX12 Λ rm_X12_workOf) (N : Nat) (μ : Mem) (v0 : Nat) (v1 : Int32) (hv0 : inL Λ v0 11) {r : Int32} (hm : m_X12_workOf N Λ μ v0 v1 = some r) : J x 4 Λ (QI x Λ r μ) 0 [(0, .ref v0), (1, .int v1)] [] μ := by
  refine j_iconst C (v := 0) dX12_workOf_0 rfl ?_
  refine j_istore_n C (lv' := [(2, .int 0), (0, .ref v0), (1, .int v1)]) dX12_workOf_1 (by decide) rfl ?_
  refine j_iconst C (v := 0) dX12_workOf_2 rfl ?_
  refine j_istore_n C (lv' := [(3, .int 0), (2, .int 0), (0, .ref v0), (1, .int v1)]) dX12_workOf_3 (by decide) rfl ?_
  refine j_sub [2, 3, 1, 0] rfl ?_
  exact tl_X12_workOf_4 C _ _ _ _ hv0 (0, 0) hm
set_option maxRecDepth 20000 in
set_option maxHeartbeats 4000000 in
theorem mc_X12_workOf (l : Launch) (N : Nat) (Λ : Lay) (μ : Mem) (v0 : Nat) (v1 : Int32) (hv0 : inL Λ v0 11) {r : Int32} (hm : m_X12_workOf N Λ μ v0 v1 = some r) : MI l yX12_workOf cX12_workOf 4 (some .int) rm_X12_workOf Λ [.ref v0, .int v1] μ r μ := mi_of rfl (Nat.le_of_ble_eq_true rfl) (fun x C _ => tm_X12_workOf C _ _ _ _ hv0 hm)
abbrev rm_X12_ship : Room := { frames := 7, cells := 0, slots := 0, locals := 162 }
set_option maxRecDepth 20000 in
set_option maxHeartbeats 4000000 in
theorem tj_X12_ship_41 {x : Ctx} {Λ : Lay} (C : Cx x cX12_ship 3 (some .int) RX12 Λ rm_X12_ship) (N : Nat) (μ : Mem) {r : Int32 × Mem} (hm : jn_X12_ship_41 N Λ μ = some r) : J x 3 Λ (QI x Λ r.1 r.2) 41 [] [] μ := by
  refine j_iconst C (v := 0) dX12_ship_41 rfl ?_
  obtain rfl := Option.some.inj hm
  exact j_ireti C dX12_ship_42
set_option maxRecDepth 20000 in
set_option maxHeartbeats 4000000 in
theorem tj_X12_ship_115 {x : Ctx} {Λ : Lay} (C : Cx x cX12_ship 3 (some .int) RX12 Λ rm_X12_ship) (N : Nat) (μ : Mem) (s0 : Int32) {r : Int32 × Mem} (hm : jn_X12_ship_115 N Λ μ s0 = some r) : J x 3 Λ (QI x Λ r.1 r.2) 115 [] [.int s0] μ := by
  obtain rfl := Option.some.inj hm
  exact j_ireti C dX12_ship_115
set_option maxRecDepth 20000 in
set_option maxHeartbeats 4000000 in
theorem tj_X12_ship_114 {x : Ctx} {Λ : Lay} (C : Cx x cX12_ship 3 (some .int) RX12 Λ rm_X12_ship) (N : Nat) (μ : Mem) {r : Int32 × Mem} (hm : jn_X12_ship_114 N Λ μ = some r) : J x 3 Λ (QI x Λ r.1 r.2) 114 [] [] μ := by
  refine j_iconst C (v := 0) dX12_ship_114 rfl ?_
  exact tj_X12_ship_115 C _ _ _  hm
set_option maxRecDepth 20000 in
set_option maxHeartbeats 4000000 in
theorem tj_X12_ship_129 {x : Ctx} {Λ : Lay} (C : Cx x cX12_ship 3 (some .int) RX12 Λ rm_X12_ship) (N : Nat) (μ : Mem) (s0 : Int32) {r : Int32 × Mem} (hm : jn_X12_ship_129 N Λ μ s0 = some r) : J x 3 Λ (QI x Λ r.1 r.2) 129 [] [.int s0] μ := by
  obtain rfl := Option.some.inj hm
  exact j_ireti C dX12_ship_129
set_option maxRecDepth 20000 in
set_option maxHeartbeats 4000000 in
theorem tj_X12_ship_147 {x : Ctx} {Λ : Lay} (C : Cx x cX12_ship 3 (some .int) RX12 Λ rm_X12_ship) (N : Nat) (μ : Mem) (s0 : Int32) {r : Int32 × Mem} (hm : jn_X12_ship_147 N Λ μ s0 = some r) : J x 3 Λ (QI x Λ r.1 r.2) 147 [] [.int s0] μ := by
  obtain rfl := Option.some.inj hm
  exact j_ireti C dX12_ship_147
set_option maxRecDepth 20000 in
set_option maxHeartbeats 4000000 in
theorem tj_X12_ship_197 {x : Ctx} {Λ : Lay} (C : Cx x cX12_ship 3 (some .int) RX12 Λ rm_X12_ship) (N : Nat) (μ : Mem) (s0 : Int32) {r : Int32 × Mem} (hm : jn_X12_ship_197 N Λ μ s0 = some r) : J x 3 Λ (QI x Λ r.1 r.2) 197 [] [.int s0] μ := by
  obtain rfl := Option.some.inj hm
  exact j_ireti C dX12_ship_197
set_option maxRecDepth 20000 in
set_option maxHeartbeats 4000000 in
theorem tj_X12_ship_178 {x : Ctx} {Λ : Lay} (C : Cx x cX12_ship 3 (some .int) RX12 Λ rm_X12_ship) (N : Nat) (μ : Mem) {r : Int32 × Mem} (hm : jn_X12_ship_178 N Λ μ = some r) : J x 3 Λ (QI x Λ r.1 r.2) 178 [] [] μ := by
  refine j_iconst C (v := 0) dX12_ship_178 rfl ?_
  refine j_goto C (tgt := 197) dX12_ship_179 (by decide) ?_
  exact tj_X12_ship_197 C _ _ _  hm
set_option maxRecDepth 20000 in
set_option maxHeartbeats 4000000 in
theorem tj_X12_ship_34 {x : Ctx} {Λ : Lay} (C : Cx x cX12_ship 3 (some .int) RX12 Λ rm_X12_ship) (N : Nat) (μ : Mem) (v0 : Nat) (v1 : Int32) (v2 : Int32) (s0 : Nat) (s1 : Int32) (hv0 : inL Λ v0 11) (hs0 : inL Λ s0 11) {r : Int32 × Mem} (hm : jn_X12_ship_34 N Λ μ v0 v1 v2 s0 s1 = some r) : J x 3 Λ (QI x Λ r.1 r.2) 34 [(0, .ref v0), (1, .int v1), (2, .int v2)] [.int s1, .ref s0] μ := by
  refine j_iconst C (v := 2) dX12_ship_34 rfl ?_
  obtain ⟨r1, h2, hm⟩ := bd_some hm
  refine call_I (run_LV C lk_X12_282 ⟨rfl, rfl, Nat.le_of_ble_eq_true rfl, Nat.le_of_ble_eq_true rfl⟩ (As := [.int s1, .int 2]) hs0 rfl rfl (Nat.le_of_ble_eq_true rfl) dX12_ship_35 (mc_X12_throwsIf _ _ _ _ _ _ _ hs0 h2)) ?_
  refine j_if_eq C (tgt := 43) dX12_ship_38 (by decide) (fun h3 => ?_) (fun h3 => ?_)
  · replace hm := if_t hm h3
    refine j_iload_n C 2 dX12_ship_43 rfl ?_
    by_cases h4 : v2 = 6
    · replace hm := if_t hm h4
      refine j_tabI C (tgt := 88) 6 dX12_ship_44 (by rw [h4]; first | done | rfl) (by decide) (by decide) rfl (by decide) ?_
      refine j_aload_n C 0 dX12_ship_88 rfl ?_
      refine j_iload_n C 1 dX12_ship_89 rfl ?_
      obtain ⟨r5, h6, hm⟩ := bd_some hm
      refine call_I (run_LV C lk_X12_348 ⟨rfl, rfl, Nat.le_of_ble_eq_true rfl, Nat.le_of_ble_eq_true rfl⟩ (As := [.int v1]) hv0 rfl rfl (Nat.le_of_ble_eq_true rfl) dX12_ship_90 (mc_X12_feeOf _ _ _ _ _ _ hv0 h6)) ?_
      obtain rfl := Option.some.inj hm
      exact j_ireti C dX12_ship_93
    replace hm := if_f hm h4
    by_cases h7 : v2 = 7
    · replace hm := if_t hm h7
      refine j_tabI C (tgt := 94) 7 dX12_ship_44 (by rw [h7]; first | done | rfl) (by decide) (by decide) rfl (by decide) ?_
      refine j_aload_n C 0 dX12_ship_94 rfl ?_
      refine j_iload_n C 1 dX12_ship_95 rfl ?_
      obtain ⟨r8, h9, hm⟩ := bd_some hm
      refine call_I (run_LV C lk_X12_88 ⟨rfl, rfl, Nat.le_of_ble_eq_true rfl, Nat.le_of_ble_eq_true rfl⟩ (As := [.int v1]) hv0 rfl rfl (Nat.le_of_ble_eq_true rfl) dX12_ship_96 (mc_X12_isDocked _ _ _ _ _ _ hv0 h9)) ?_
      refine j_if_eq C (tgt := 114) dX12_ship_99 (by decide) (fun h10 => ?_) (fun h10 => ?_)
      · replace hm := if_t hm h10
        refine j_sub [] rfl ?_
        exact tj_X12_ship_114 C _ _  hm
      · replace hm := if_f hm h10
        refine j_aload_n C 0 dX12_ship_102 rfl ?_
        refine j_iload_n C 1 dX12_ship_103 rfl ?_
        obtain ⟨r11, h12, hm⟩ := bd_some hm
        refine call_I (run_LV C lk_X12_315 ⟨rfl, rfl, Nat.le_of_ble_eq_true rfl, Nat.le_of_ble_eq_true rfl⟩ (As := [.int v1]) hv0 rfl rfl (Nat.le_of_ble_eq_true rfl) dX12_ship_104 (mc_X12_sits _ _ _ _ _ _ hv0 h12)) ?_
        refine j_if_ne C (tgt := 114) dX12_ship_107 (by decide) (fun h13 => ?_) (fun h13 => ?_)
        · replace hm := if_f hm h13
          refine j_sub [] rfl ?_
          exact tj_X12_ship_114 C _ _  hm
        · replace hm := if_t hm h13
          refine j_iconst C (v := 1) dX12_ship_110 rfl ?_
          refine j_goto C (tgt := 115) dX12_ship_111 (by decide) ?_
          refine j_sub [] rfl ?_
          exact tj_X12_ship_115 C _ _ _  hm
    replace hm := if_f hm h7
    by_cases h14 : v2 = 8
    · replace hm := if_t hm h14
      refine j_tabI C (tgt := 116) 8 dX12_ship_44 (by rw [h14]; first | done | rfl) (by decide) (by decide) rfl (by decide) ?_
      refine j_aload_n C 0 dX12_ship_116 rfl ?_
      refine j_iload_n C 1 dX12_ship_117 rfl ?_
      obtain ⟨r15, h16, hm⟩ := bd_some hm
      refine call_I (run_LV C lk_X12_318 ⟨rfl, rfl, Nat.le_of_ble_eq_true rfl, Nat.le_of_ble_eq_true rfl⟩ (As := [.int v1]) hv0 rfl rfl (Nat.le_of_ble_eq_true rfl) dX12_ship_118 (mc_X12_isBorne _ _ _ _ _ _ hv0 h16)) ?_
      refine j_if_eq C (tgt := 128) dX12_ship_121 (by decide) (fun h17 => ?_) (fun h17 => ?_)
      · replace hm := if_t hm h17
        refine j_iconst C (v := 0) dX12_ship_128 rfl ?_
        refine j_sub [] rfl ?_
        exact tj_X12_ship_129 C _ _ _  hm
      · replace hm := if_f hm h17
        refine j_iconst C (v := 1) dX12_ship_124 rfl ?_
        refine j_goto C (tgt := 129) dX12_ship_125 (by decide) ?_
        refine j_sub [] rfl ?_
        exact tj_X12_ship_129 C _ _ _  hm
    replace hm := if_f hm h14
    by_cases h18 : v2 = 9
    · replace hm := if_t hm h18
      refine j_tabI C (tgt := 130) 9 dX12_ship_44 (by rw [h18]; first | done | rfl) (by decide) (by decide) rfl (by decide) ?_
      refine j_aload_n C 0 dX12_ship_130 rfl ?_
      refine j_iload_n C 1 dX12_ship_131 rfl ?_
      obtain ⟨r19, h20, hm⟩ := bd_some hm
      refine call_I (run_LV C lk_X12_88 ⟨rfl, rfl, Nat.le_of_ble_eq_true rfl, Nat.le_of_ble_eq_true rfl⟩ (As := [.int v1]) hv0 rfl rfl (Nat.le_of_ble_eq_true rfl) dX12_ship_132 (mc_X12_isDocked _ _ _ _ _ _ hv0 h20)) ?_
      refine j_if_eq C (tgt := 146) dX12_ship_135 (by decide) (fun h21 => ?_) (fun h21 => ?_)
      · replace hm := if_t hm h21
        refine j_iconst C (v := -1) dX12_ship_146 rfl ?_
        refine j_sub [] rfl ?_
        exact tj_X12_ship_147 C _ _ _  hm
      · replace hm := if_f hm h21
        refine j_aload_n C 0 dX12_ship_138 rfl ?_
        refine j_iload_n C 1 dX12_ship_139 rfl ?_
        obtain ⟨r22, h23, hm⟩ := bd_some hm
        refine call_I (run_LV C lk_X12_309 ⟨rfl, rfl, Nat.le_of_ble_eq_true rfl, Nat.le_of_ble_eq_true rfl⟩ (As := [.int v1]) hv0 rfl rfl (Nat.le_of_ble_eq_true rfl) dX12_ship_140 (mc_X12_wedgesOf _ _ _ _ _ _ hv0 h23)) ?_
        refine j_goto C (tgt := 147) dX12_ship_143 (by decide) ?_
        refine j_sub [] rfl ?_
        exact tj_X12_ship_147 C _ _ _  hm
    replace hm := if_f hm h18
    by_cases h24 : v2 = 10
    · replace hm := if_t hm h24
      refine j_tabI C (tgt := 148) 10 dX12_ship_44 (by rw [h24]; first | done | rfl) (by decide) (by decide) rfl (by decide) ?_
      refine j_aload_n C 0 dX12_ship_148 rfl ?_
      refine j_iload_n C 1 dX12_ship_149 rfl ?_
      obtain ⟨r25, h26, hm⟩ := bd_some hm
      refine call_I (run_LV C lk_X12_351 ⟨rfl, rfl, Nat.le_of_ble_eq_true rfl, Nat.le_of_ble_eq_true rfl⟩ (As := [.int v1]) hv0 rfl rfl (Nat.le_of_ble_eq_true rfl) dX12_ship_150 (mc_X12_whenOf _ _ _ _ _ _ hv0 h26)) ?_
      obtain rfl := Option.some.inj hm
      exact j_ireti C dX12_ship_153
    replace hm := if_f hm h24
    by_cases h27 : v2 = 11
    · replace hm := if_t hm h27
      refine j_tabI C (tgt := 154) 11 dX12_ship_44 (by rw [h27]; first | done | rfl) (by decide) (by decide) rfl (by decide) ?_
      refine j_aload_n C 0 dX12_ship_154 rfl ?_
      refine j_iload_n C 1 dX12_ship_155 rfl ?_
      obtain ⟨r28, h29, hm⟩ := bd_some hm
      refine call_I (run_LV C lk_X12_354 ⟨rfl, rfl, Nat.le_of_ble_eq_true rfl, Nat.le_of_ble_eq_true rfl⟩ (As := [.int v1]) hv0 rfl rfl (Nat.le_of_ble_eq_true rfl) dX12_ship_156 (mc_X12_firstFit _ _ _ _ _ _ hv0 h29)) ?_
      obtain rfl := Option.some.inj hm
      exact j_ireti C dX12_ship_159
    replace hm := if_f hm h27
    by_cases h30 : v2 = 12
    · replace hm := if_t hm h30
      refine j_tabI C (tgt := 160) 12 dX12_ship_44 (by rw [h30]; first | done | rfl) (by decide) (by decide) rfl (by decide) ?_
      refine j_aload_n C 0 dX12_ship_160 rfl ?_
      refine j_iload_n C 1 dX12_ship_161 rfl ?_
      refine j_iconst C (v := 3) dX12_ship_162 rfl ?_
      obtain ⟨r31, h32, hm⟩ := bd_some hm
      refine call_I (run_LV C lk_X12_85 ⟨rfl, rfl, Nat.le_of_ble_eq_true rfl, Nat.le_of_ble_eq_true rfl⟩ (As := [.int v1, .int 3]) hv0 rfl rfl (Nat.le_of_ble_eq_true rfl) dX12_ship_163 (mc_X12_of _ _ _ _ _ _ _ hv0 h32)) ?_
      refine j_iconst C (v := 2) dX12_ship_166 rfl ?_
      refine j_icmp_eq C (tgt := 178) dX12_ship_167 (by decide) (fun h33 => ?_) (fun h33 => ?_)
      · replace hm := if_t hm h33
        refine j_sub [] rfl ?_
        exact tj_X12_ship_178 C _ _  hm
      · replace hm := if_f hm h33
        refine j_aload_n C 0 dX12_ship_170 rfl ?_
        refine j_iconst C (v := 0) dX12_ship_171 rfl ?_
        obtain ⟨r34, h35, hm⟩ := bd_some hm
        refine call_I (run_LV C lk_X12_357 ⟨rfl, rfl, Nat.le_of_ble_eq_true rfl, Nat.le_of_ble_eq_true rfl⟩ (As := [.int 0]) hv0 rfl rfl (Nat.le_of_ble_eq_true rfl) dX12_ship_172 (mc_X12_workOf _ _ _ _ _ _ hv0 h35)) ?_
        refine j_if_ne C (tgt := 182) dX12_ship_175 (by decide) (fun h36 => ?_) (fun h36 => ?_)
        · replace hm := if_f hm h36
          refine j_bipush C (v := 100) dX12_ship_182 rfl ?_
          refine j_aload_n C 0 dX12_ship_184 rfl ?_
          refine j_iload_n C 1 dX12_ship_185 rfl ?_
          refine j_iconst C (v := 2) dX12_ship_186 rfl ?_
          obtain ⟨r37, h38, hm⟩ := bd_some hm
          refine call_I (run_LV C lk_X12_85 ⟨rfl, rfl, Nat.le_of_ble_eq_true rfl, Nat.le_of_ble_eq_true rfl⟩ (As := [.int v1, .int 2]) hv0 rfl rfl (Nat.le_of_ble_eq_true rfl) dX12_ship_187 (mc_X12_of _ _ _ _ _ _ _ hv0 h38)) ?_
          refine j_imul C dX12_ship_190 ?_
          refine j_aload_n C 0 dX12_ship_191 rfl ?_
          refine j_iconst C (v := 0) dX12_ship_192 rfl ?_
          obtain ⟨r39, h40, hm⟩ := bd_some hm
          refine call_I (run_LV C lk_X12_357 ⟨rfl, rfl, Nat.le_of_ble_eq_true rfl, Nat.le_of_ble_eq_true rfl⟩ (As := [.int 0]) hv0 rfl rfl (Nat.le_of_ble_eq_true rfl) dX12_ship_193 (mc_X12_workOf _ _ _ _ _ _ hv0 h40)) ?_
          obtain ⟨h41, hm⟩ := gd_some hm
          refine j_idiv C dX12_ship_196 (of_decide_eq_true h41) ?_
          refine j_sub [] rfl ?_
          exact tj_X12_ship_197 C _ _ _  hm
        · replace hm := if_t hm h36
          refine j_sub [] rfl ?_
          exact tj_X12_ship_178 C _ _  hm
    replace hm := if_f hm h30
    refine j_tabO C (tgt := 198) dX12_ship_44 (sw_out v2 [6, 7, 8, 9, 10, 11, 12] (by decide +kernel) ?_) (by decide) ?_
    · simp only [List.mem_cons, List.not_mem_nil, or_false, not_or]; exact ⟨h4, h7, h14, h18, h24, h27, h30⟩
    refine j_aload_n C 0 dX12_ship_198 rfl ?_
    refine j_iload_n C 1 dX12_ship_199 rfl ?_
    refine j_iload_n C 2 dX12_ship_200 rfl ?_
    obtain ⟨r42, h43, hm⟩ := bd_some hm
    refine call_I (run_LV C lk_X12_85 ⟨rfl, rfl, Nat.le_of_ble_eq_true rfl, Nat.le_of_ble_eq_true rfl⟩ (As := [.int v1, .int v2]) hv0 rfl rfl (Nat.le_of_ble_eq_true rfl) dX12_ship_201 (mc_X12_of _ _ _ _ _ _ _ hv0 h43)) ?_
    obtain rfl := Option.some.inj hm
    exact j_ireti C dX12_ship_204
  · replace hm := if_f hm h3
    refine j_sub [] rfl ?_
    exact tj_X12_ship_41 C _ _  hm
set_option maxRecDepth 20000 in
set_option maxHeartbeats 4000000 in
theorem tm_X12_ship {x : Ctx} {Λ : Lay} (C : Cx x cX12_ship 3 (some .int) RX12 Λ rm_X12_ship) (N : Nat) (μ : Mem) (v0 : Nat) (v1 : Int32) (v2 : Int32) (hv0 : inL Λ v0 11) {r : Int32 × Mem} (hm : m_X12_ship N Λ μ v0 v1 v2 = some r) : J x 3 Λ (QI x Λ r.1 r.2) 0 [(0, .ref v0), (1, .int v1), (2, .int v2)] [] μ := by
  refine j_aload_n C 0 dX12_ship_0 rfl ?_
  refine j_iconst C (v := 0) dX12_ship_1 rfl ?_
  obtain ⟨μ1, e2, hm⟩ := lt_some hm
  refine j_putI C fp_X12_3_11 hv0 e2 dX12_ship_2 ?_
  refine j_aload_n C 0 dX12_ship_5 rfl ?_
  refine j_aload_n C 0 dX12_ship_6 rfl ?_
  refine j_iload_n C 1 dX12_ship_7 rfl ?_
  obtain ⟨r3, h4, hm⟩ := bd_some hm
  refine call_I (run_LV C lk_X12_345 ⟨rfl, rfl, Nat.le_of_ble_eq_true rfl, Nat.le_of_ble_eq_true rfl⟩ (As := [.int v1]) hv0 rfl rfl (Nat.le_of_ble_eq_true rfl) dX12_ship_8 (mc_X12_noShip _ _ _ _ _ _ hv0 h4)) ?_
  refine j_iconst C (v := 1) dX12_ship_11 rfl ?_
  obtain ⟨r5, h6, hm⟩ := bd_some hm
  refine call_I (run_LV C lk_X12_282 ⟨rfl, rfl, Nat.le_of_ble_eq_true rfl, Nat.le_of_ble_eq_true rfl⟩ (As := [.int r3, .int 1]) hv0 rfl rfl (Nat.le_of_ble_eq_true rfl) dX12_ship_12 (mc_X12_throwsIf _ _ _ _ _ _ _ hv0 h6)) ?_
  refine j_if_ne C (tgt := 41) dX12_ship_15 (by decide) (fun h7 => ?_) (fun h7 => ?_)
  · replace hm := if_f hm h7
    refine j_sub [] rfl ?_
    exact tj_X12_ship_41 C _ _  hm
  · replace hm := if_t hm h7
    refine j_aload_n C 0 dX12_ship_18 rfl ?_
    refine j_iload_n C 2 dX12_ship_19 rfl ?_
    refine j_iconst C (v := 0) dX12_ship_20 rfl ?_
    refine j_bipush C (v := 12) dX12_ship_21 rfl ?_
    obtain ⟨r8, h9, hm⟩ := bd_some hm
    refine call_I (run_LS C ls_X12_103 ⟨rfl, rfl, Nat.le_of_ble_eq_true rfl, Nat.le_of_ble_eq_true rfl⟩ (As := [.int v2, .int 0, .int 12]) rfl rfl (Nat.le_of_ble_eq_true rfl) dX12_ship_23 (mc_X12_in _ _ _ _ _ _ _  h9)) ?_
    refine j_if_ne C (tgt := 33) dX12_ship_26 (by decide) (fun h10 => ?_) (fun h10 => ?_)
    · replace hm := if_f hm h10
      refine j_iconst C (v := 0) dX12_ship_33 rfl ?_
      exact tj_X12_ship_34 C _ _ _ _ _ _ _ hv0 hv0 hm
    · replace hm := if_t hm h10
      refine j_iconst C (v := 1) dX12_ship_29 rfl ?_
      refine j_goto C (tgt := 34) dX12_ship_30 (by decide) ?_
      exact tj_X12_ship_34 C _ _ _ _ _ _ _ hv0 hv0 hm
set_option maxRecDepth 20000 in
set_option maxHeartbeats 4000000 in
theorem mc_X12_ship (l : Launch) (N : Nat) (Λ : Lay) (μ : Mem) (v0 : Nat) (v1 : Int32) (v2 : Int32) (hv0 : inL Λ v0 11) {r : Int32 × Mem} (hm : m_X12_ship N Λ μ v0 v1 v2 = some r) : MI l yX12_ship cX12_ship 3 (some .int) rm_X12_ship Λ [.ref v0, .int v1, .int v2] μ r.1 r.2 := mi_of rfl (Nat.le_of_ble_eq_true rfl) (fun x C _ => tm_X12_ship C _ _ _ _ _ hv0 hm)
abbrev rm_X12_place : Room := { frames := 4, cells := 0, slots := 0, locals := 85 }
set_option maxRecDepth 20000 in
set_option maxHeartbeats 4000000 in
theorem tj_X12_place_39 {x : Ctx} {Λ : Lay} (C : Cx x cX12_place 5 (some .int) RX12 Λ rm_X12_place) (N : Nat) (μ : Mem) {r : Int32 × Mem} (hm : jn_X12_place_39 N Λ μ = some r) : J x 5 Λ (QI x Λ r.1 r.2) 39 [] [] μ := by
  refine j_iconst C (v := 0) dX12_place_39 rfl ?_
  obtain rfl := Option.some.inj hm
  exact j_ireti C dX12_place_40
set_option maxRecDepth 20000 in
set_option maxHeartbeats 4000000 in
theorem tj_X12_place_90 {x : Ctx} {Λ : Lay} (C : Cx x cX12_place 5 (some .int) RX12 Λ rm_X12_place) (N : Nat) (μ : Mem) (k62 : Int32 × Int32 × Mem → Option (Int32 × Mem)) (v0 : Nat) (v1 : Int32) (v4 : Int32) (s0 : Int32) (hk62 : ∀ (s : Int32 × Int32 × Mem) (r : Int32 × Mem), k62 s = some r → J x 5 Λ (QI x Λ r.1 r.2) 62 [(0, .ref v0), (1, .int v1), (3, .int s.1), (4, .int s.2.1)] [] (s.2.2)) (hv0 : inL Λ v0 11) {r : Int32 × Mem} (hm : jn_X12_place_90 N Λ μ k62 v0 v1 v4 s0 = some r) : J x 5 Λ (QI x Λ r.1 r.2) 90 [(0, .ref v0), (1, .int v1), (4, .int v4)] [.int s0] μ := by
  refine j_istore_n C (lv' := [(3, .int s0), (0, .ref v0), (1, .int v1), (4, .int v4)]) dX12_place_90 (by decide) rfl ?_
  obtain ⟨y1, e2, hm⟩ := lt_some hm
  refine j_iinc C 3 (v := y1) (lv' := [(4, .int y1), (3, .int s0), (0, .ref v0), (1, .int v1)]) dX12_place_91 rfl (by rw [e2]; rfl) (by decide) rfl ?_
  refine j_goto C (tgt := 62) dX12_place_94 (by decide) ?_
  refine j_sub [2, 3, 1, 0] rfl ?_
  exact hk62 (s0, y1, μ) _ hm
set_option maxRecDepth 20000 in
set_option maxHeartbeats 4000000 in
theorem tb_X12_place_62 {x : Ctx} {Λ : Lay} (C : Cx x cX12_place 5 (some .int) RX12 Λ rm_X12_place) (N : Nat) (μ : Mem) (k62 : Int32 × Int32 × Mem → Option (Int32 × Mem)) (v0 : Nat) (v1 : Int32) (v3 : Int32) (v4 : Int32) (hk62 : ∀ (s : Int32 × Int32 × Mem) (r : Int32 × Mem), k62 s = some r → J x 5 Λ (QI x Λ r.1 r.2) 62 [(0, .ref v0), (1, .int v1), (3, .int s.1), (4, .int s.2.1)] [] (s.2.2)) (hv0 : inL Λ v0 11) {r : Int32 × Mem} (hm : bd_X12_place_62 N Λ μ k62 v0 v1 v3 v4 = some r) : J x 5 Λ (QI x Λ r.1 r.2) 62 [(0, .ref v0), (1, .int v1), (3, .int v3), (4, .int v4)] [] μ := by
  refine j_iload C 3 dX12_place_62 rfl ?_
  refine j_aload_n C 0 dX12_place_64 rfl ?_
  obtain ⟨r1, h2, hm⟩ := bd_some hm
  refine call_I (run_LV C lk_X12_95 ⟨rfl, rfl, Nat.le_of_ble_eq_true rfl, Nat.le_of_ble_eq_true rfl⟩ (As := []) hv0 rfl rfl (Nat.le_of_ble_eq_true rfl) dX12_place_65 (mc_X12_ships _ _ _ _ _ hv0 h2)) ?_
  refine j_icmp_ge C (tgt := 97) dX12_place_68 (by decide) (fun h3 => ?_) (fun h3 => ?_)
  · replace hm := if_t hm h3
    refine j_iload_n C 2 dX12_place_97 rfl ?_
    obtain rfl := Option.some.inj hm
    exact j_ireti C dX12_place_98
  · replace hm := if_f hm h3
    refine j_aload_n C 0 dX12_place_71 rfl ?_
    refine j_iload C 3 dX12_place_72 rfl ?_
    obtain ⟨r4, h5, hm⟩ := bd_some hm
    refine call_I (run_LV C lk_X12_99 ⟨rfl, rfl, Nat.le_of_ble_eq_true rfl, Nat.le_of_ble_eq_true rfl⟩ (As := [.int v4]) hv0 rfl rfl (Nat.le_of_ble_eq_true rfl) dX12_place_74 (mc_X12_placesOf _ _ _ _ _ _ hv0 h5)) ?_
    refine j_iload_n C 1 dX12_place_77 rfl ?_
    obtain ⟨r6, h7, hm⟩ := bd_some hm
    refine call_I (run_LS C ls_X12_306 ⟨rfl, rfl, Nat.le_of_ble_eq_true rfl, Nat.le_of_ble_eq_true rfl⟩ (As := [.int r4, .int v1]) rfl rfl (Nat.le_of_ble_eq_true rfl) dX12_place_78 (mc_X12_has _ _ _ _ _ _  h7)) ?_
    refine j_if_eq C (tgt := 89) dX12_place_81 (by decide) (fun h8 => ?_) (fun h8 => ?_)
    · replace hm := if_t hm h8
      refine j_iload_n C 2 dX12_place_89 rfl ?_
      refine j_sub [0, 1, 3] rfl ?_
      exact tj_X12_place_90 C _ _ _ _ _ _ _ hk62 hv0 hm
    · replace hm := if_f hm h8
      refine j_iload C 3 dX12_place_84 rfl ?_
      refine j_goto C (tgt := 90) dX12_place_86 (by decide) ?_
      refine j_sub [0, 1, 3] rfl ?_
      exact tj_X12_place_90 C _ _ _ _ _ _ _ hk62 hv0 hm
set_option maxRecDepth 20000 in
set_option maxHeartbeats 4000000 in
theorem tl_X12_place_62 {x : Ctx} {Λ : Lay} (C : Cx x cX12_place 5 (some .int) RX12 Λ rm_X12_place) (N : Nat) (v0 : Nat) (v1 : Int32) (hv0 : inL Λ v0 11) (s : Int32 × Int32 × Mem) {r : Int32 × Mem} (hm : lp_X12_place_62 N Λ v0 v1 s = some r) : J x 5 Λ (QI x Λ r.1 r.2) 62 [(0, .ref v0), (1, .int v1), (3, .int s.1), (4, .int s.2.1)] [] (s.2.2) :=
  cw_ind (P := fun s r => J x 5 Λ (QI x Λ r.1 r.2) 62 [(0, .ref v0), (1, .int v1), (3, .int s.1), (4, .int s.2.1)] [] (s.2.2)) (fun k hkk s r e => tb_X12_place_62 C _ _ _ _ _ _ _ hkk hv0 e) N s r hm
set_option maxRecDepth 20000 in
set_option maxHeartbeats 4000000 in
theorem tj_X12_place_32 {x : Ctx} {Λ : Lay} (C : Cx x cX12_place 5 (some .int) RX12 Λ rm_X12_place) (N : Nat) (μ : Mem) (v0 : Nat) (v1 : Int32) (v2 : Int32) (s0 : Nat) (s1 : Int32) (hv0 : inL Λ v0 11) (hs0 : inL Λ s0 11) {r : Int32 × Mem} (hm : jn_X12_place_32 N Λ μ v0 v1 v2 s0 s1 = some r) : J x 5 Λ (QI x Λ r.1 r.2) 32 [(0, .ref v0), (1, .int v1), (2, .int v2)] [.int s1, .ref s0] μ := by
  refine j_iconst C (v := 2) dX12_place_32 rfl ?_
  obtain ⟨r1, h2, hm⟩ := bd_some hm
  refine call_I (run_LV C lk_X12_282 ⟨rfl, rfl, Nat.le_of_ble_eq_true rfl, Nat.le_of_ble_eq_true rfl⟩ (As := [.int s1, .int 2]) hs0 rfl rfl (Nat.le_of_ble_eq_true rfl) dX12_place_33 (mc_X12_throwsIf _ _ _ _ _ _ _ hs0 h2)) ?_
  refine j_if_eq C (tgt := 41) dX12_place_36 (by decide) (fun h3 => ?_) (fun h3 => ?_)
  · replace hm := if_t hm h3
    refine j_iload_n C 2 dX12_place_41 rfl ?_
    refine j_if_ne C (tgt := 57) dX12_place_42 (by decide) (fun h4 => ?_) (fun h4 => ?_)
    · replace hm := if_f hm h4
      refine j_iconst C (v := -1) dX12_place_57 rfl ?_
      refine j_istore_n C (lv' := [(3, .int (-1)), (0, .ref v0), (1, .int v1), (2, .int v2)]) dX12_place_58 (by decide) rfl ?_
      refine j_iconst C (v := 0) dX12_place_59 rfl ?_
      refine j_istore C (lv' := [(4, .int 0), (3, .int (-1)), (0, .ref v0), (1, .int v1), (2, .int v2)]) dX12_place_60 (by decide) rfl ?_
      refine j_sub [2, 3, 1, 0] rfl ?_
      exact tl_X12_place_62 C _ _ _ hv0 ((-1), 0, r1.2) hm
    · replace hm := if_t hm h4
      refine j_aload_n C 0 dX12_place_45 rfl ?_
      obtain ⟨q5, h6, hm⟩ := bd_some hm
      refine j_getR C fg_X12_13_11 hv0 (dr_spec h6).1 dX12_place_46 ?_
      refine j_bipush C (v := 10) dX12_place_49 rfl ?_
      obtain ⟨h7, hm⟩ := gd_some hm
      refine j_iald C ((dr_spec h6).2) h7 dX12_place_51 ?_
      refine j_iload_n C 1 dX12_place_52 rfl ?_
      refine j_ishr C dX12_place_53 ?_
      refine j_iconst C (v := 1) dX12_place_54 rfl ?_
      refine j_iand C dX12_place_55 ?_
      obtain rfl := Option.some.inj hm
      exact j_ireti C dX12_place_56
  · replace hm := if_f hm h3
    refine j_sub [] rfl ?_
    exact tj_X12_place_39 C _ _  hm
set_option maxRecDepth 20000 in
set_option maxHeartbeats 4000000 in
theorem tm_X12_place {x : Ctx} {Λ : Lay} (C : Cx x cX12_place 5 (some .int) RX12 Λ rm_X12_place) (N : Nat) (μ : Mem) (v0 : Nat) (v1 : Int32) (v2 : Int32) (hv0 : inL Λ v0 11) {r : Int32 × Mem} (hm : m_X12_place N Λ μ v0 v1 v2 = some r) : J x 5 Λ (QI x Λ r.1 r.2) 0 [(0, .ref v0), (1, .int v1), (2, .int v2)] [] μ := by
  refine j_aload_n C 0 dX12_place_0 rfl ?_
  refine j_iconst C (v := 0) dX12_place_1 rfl ?_
  obtain ⟨μ1, e2, hm⟩ := lt_some hm
  refine j_putI C fp_X12_3_11 hv0 e2 dX12_place_2 ?_
  refine j_aload_n C 0 dX12_place_5 rfl ?_
  refine j_iload_n C 1 dX12_place_6 rfl ?_
  obtain ⟨r3, h4, hm⟩ := bd_some hm
  refine call_I (run_LS C ls_X12_360 ⟨rfl, rfl, Nat.le_of_ble_eq_true rfl, Nat.le_of_ble_eq_true rfl⟩ (As := [.int v1]) rfl rfl (Nat.le_of_ble_eq_true rfl) dX12_place_7 (mc_X12_noPlace _ _ _ _ _  h4)) ?_
  refine j_iconst C (v := 1) dX12_place_10 rfl ?_
  obtain ⟨r5, h6, hm⟩ := bd_some hm
  refine call_I (run_LV C lk_X12_282 ⟨rfl, rfl, Nat.le_of_ble_eq_true rfl, Nat.le_of_ble_eq_true rfl⟩ (As := [.int r3, .int 1]) hv0 rfl rfl (Nat.le_of_ble_eq_true rfl) dX12_place_11 (mc_X12_throwsIf _ _ _ _ _ _ _ hv0 h6)) ?_
  refine j_if_ne C (tgt := 39) dX12_place_14 (by decide) (fun h7 => ?_) (fun h7 => ?_)
  · replace hm := if_f hm h7
    refine j_sub [] rfl ?_
    exact tj_X12_place_39 C _ _  hm
  · replace hm := if_t hm h7
    refine j_aload_n C 0 dX12_place_17 rfl ?_
    refine j_iload_n C 2 dX12_place_18 rfl ?_
    refine j_iconst C (v := 0) dX12_place_19 rfl ?_
    refine j_iconst C (v := 1) dX12_place_20 rfl ?_
    obtain ⟨r8, h9, hm⟩ := bd_some hm
    refine call_I (run_LS C ls_X12_103 ⟨rfl, rfl, Nat.le_of_ble_eq_true rfl, Nat.le_of_ble_eq_true rfl⟩ (As := [.int v2, .int 0, .int 1]) rfl rfl (Nat.le_of_ble_eq_true rfl) dX12_place_21 (mc_X12_in _ _ _ _ _ _ _  h9)) ?_
    refine j_if_ne C (tgt := 31) dX12_place_24 (by decide) (fun h10 => ?_) (fun h10 => ?_)
    · replace hm := if_f hm h10
      refine j_iconst C (v := 0) dX12_place_31 rfl ?_
      exact tj_X12_place_32 C _ _ _ _ _ _ _ hv0 hv0 hm
    · replace hm := if_t hm h10
      refine j_iconst C (v := 1) dX12_place_27 rfl ?_
      refine j_goto C (tgt := 32) dX12_place_28 (by decide) ?_
      exact tj_X12_place_32 C _ _ _ _ _ _ _ hv0 hv0 hm
set_option maxRecDepth 20000 in
set_option maxHeartbeats 4000000 in
theorem mc_X12_place (l : Launch) (N : Nat) (Λ : Lay) (μ : Mem) (v0 : Nat) (v1 : Int32) (v2 : Int32) (hv0 : inL Λ v0 11) {r : Int32 × Mem} (hm : m_X12_place N Λ μ v0 v1 v2 = some r) : MI l yX12_place cX12_place 5 (some .int) rm_X12_place Λ [.ref v0, .int v1, .int v2] μ r.1 r.2 := mi_of rfl (Nat.le_of_ble_eq_true rfl) (fun x C _ => tm_X12_place C _ _ _ _ _ hv0 hm)
abbrev rm_X12_tide : Room := { frames := 1, cells := 0, slots := 0, locals := 22 }
set_option maxRecDepth 20000 in
set_option maxHeartbeats 4000000 in
theorem tj_X12_tide_41 {x : Ctx} {Λ : Lay} (C : Cx x cX12_tide 2 (some .int) RX12 Λ rm_X12_tide) (N : Nat) (μ : Mem) (s0 : Int32) {r : Int32 × Mem} (hm : jn_X12_tide_41 N Λ μ s0 = some r) : J x 2 Λ (QI x Λ r.1 r.2) 41 [] [.int s0] μ := by
  obtain rfl := Option.some.inj hm
  exact j_ireti C dX12_tide_41
set_option maxRecDepth 20000 in
set_option maxHeartbeats 4000000 in
theorem tj_X12_tide_21 {x : Ctx} {Λ : Lay} (C : Cx x cX12_tide 2 (some .int) RX12 Λ rm_X12_tide) (N : Nat) (μ : Mem) (v0 : Nat) (v1 : Int32) (s0 : Nat) (s1 : Int32) (hv0 : inL Λ v0 11) (hs0 : inL Λ s0 11) {r : Int32 × Mem} (hm : jn_X12_tide_21 N Λ μ v0 v1 s0 s1 = some r) : J x 2 Λ (QI x Λ r.1 r.2) 21 [(0, .ref v0), (1, .int v1)] [.int s1, .ref s0] μ := by
  refine j_iconst C (v := 1) dX12_tide_21 rfl ?_
  obtain ⟨r1, h2, hm⟩ := bd_some hm
  refine call_I (run_LV C lk_X12_282 ⟨rfl, rfl, Nat.le_of_ble_eq_true rfl, Nat.le_of_ble_eq_true rfl⟩ (As := [.int s1, .int 1]) hs0 rfl rfl (Nat.le_of_ble_eq_true rfl) dX12_tide_22 (mc_X12_throwsIf _ _ _ _ _ _ _ hs0 h2)) ?_
  refine j_if_eq C (tgt := 32) dX12_tide_25 (by decide) (fun h3 => ?_) (fun h3 => ?_)
  · replace hm := if_t hm h3
    refine j_aload_n C 0 dX12_tide_32 rfl ?_
    obtain ⟨q4, h5, hm⟩ := bd_some hm
    refine j_getR C fg_X12_13_11 hv0 (dr_spec h5).1 dX12_tide_33 ?_
    refine j_bipush C (v := 13) dX12_tide_36 rfl ?_
    refine j_iload_n C 1 dX12_tide_38 rfl ?_
    refine j_iadd C dX12_tide_39 ?_
    obtain ⟨h6, hm⟩ := gd_some hm
    refine j_iald C ((dr_spec h5).2) h6 dX12_tide_40 ?_
    refine j_sub [] rfl ?_
    exact tj_X12_tide_41 C _ _ _  hm
  · replace hm := if_f hm h3
    refine j_iconst C (v := 0) dX12_tide_28 rfl ?_
    refine j_goto C (tgt := 41) dX12_tide_29 (by decide) ?_
    refine j_sub [] rfl ?_
    exact tj_X12_tide_41 C _ _ _  hm
set_option maxRecDepth 20000 in
set_option maxHeartbeats 4000000 in
theorem tm_X12_tide {x : Ctx} {Λ : Lay} (C : Cx x cX12_tide 2 (some .int) RX12 Λ rm_X12_tide) (N : Nat) (μ : Mem) (v0 : Nat) (v1 : Int32) (hv0 : inL Λ v0 11) {r : Int32 × Mem} (hm : m_X12_tide N Λ μ v0 v1 = some r) : J x 2 Λ (QI x Λ r.1 r.2) 0 [(0, .ref v0), (1, .int v1)] [] μ := by
  refine j_aload_n C 0 dX12_tide_0 rfl ?_
  refine j_iconst C (v := 0) dX12_tide_1 rfl ?_
  obtain ⟨μ1, e2, hm⟩ := lt_some hm
  refine j_putI C fp_X12_3_11 hv0 e2 dX12_tide_2 ?_
  refine j_aload_n C 0 dX12_tide_5 rfl ?_
  refine j_iload_n C 1 dX12_tide_6 rfl ?_
  refine j_iconst C (v := 0) dX12_tide_7 rfl ?_
  refine j_bipush C (v := 11) dX12_tide_8 rfl ?_
  obtain ⟨r3, h4, hm⟩ := bd_some hm
  refine call_I (run_LS C ls_X12_103 ⟨rfl, rfl, Nat.le_of_ble_eq_true rfl, Nat.le_of_ble_eq_true rfl⟩ (As := [.int v1, .int 0, .int 11]) rfl rfl (Nat.le_of_ble_eq_true rfl) dX12_tide_10 (mc_X12_in _ _ _ _ _ _ _  h4)) ?_
  refine j_if_ne C (tgt := 20) dX12_tide_13 (by decide) (fun h5 => ?_) (fun h5 => ?_)
  · replace hm := if_f hm h5
    refine j_iconst C (v := 0) dX12_tide_20 rfl ?_
    exact tj_X12_tide_21 C _ _ _ _ _ _ hv0 hv0 hm
  · replace hm := if_t hm h5
    refine j_iconst C (v := 1) dX12_tide_16 rfl ?_
    refine j_goto C (tgt := 21) dX12_tide_17 (by decide) ?_
    exact tj_X12_tide_21 C _ _ _ _ _ _ hv0 hv0 hm
set_option maxRecDepth 20000 in
set_option maxHeartbeats 4000000 in
theorem mc_X12_tide (l : Launch) (N : Nat) (Λ : Lay) (μ : Mem) (v0 : Nat) (v1 : Int32) (hv0 : inL Λ v0 11) {r : Int32 × Mem} (hm : m_X12_tide N Λ μ v0 v1 = some r) : MI l yX12_tide cX12_tide 2 (some .int) rm_X12_tide Λ [.ref v0, .int v1] μ r.1 r.2 := mi_of rfl (Nat.le_of_ble_eq_true rfl) (fun x C _ => tm_X12_tide C _ _ _ _ hv0 hm)
abbrev rm_X12_hours : Room := { frames := 9, cells := 0, slots := 0, locals := 206 }
set_option maxRecDepth 20000 in
set_option maxHeartbeats 4000000 in
theorem tj_X12_hours_21 {x : Ctx} {Λ : Lay} (C : Cx x cX12_hours 2 (some .int) RX12 Λ rm_X12_hours) (N : Nat) (μ : Mem) (v0 : Nat) (v1 : Int32) (s0 : Nat) (s1 : Int32) (hv0 : inL Λ v0 11) (hs0 : inL Λ s0 11) {r : Int32 × Mem} (hm : jn_X12_hours_21 N Λ μ v0 v1 s0 s1 = some r) : J x 2 Λ (QI x Λ r.1 r.2) 21 [(0, .ref v0), (1, .int v1)] [.int s1, .ref s0] μ := by
  refine j_iconst C (v := 1) dX12_hours_21 rfl ?_
  obtain ⟨r1, h2, hm⟩ := bd_some hm
  refine call_I (run_LV C lk_X12_282 ⟨rfl, rfl, Nat.le_of_ble_eq_true rfl, Nat.le_of_ble_eq_true rfl⟩ (As := [.int s1, .int 1]) hs0 rfl rfl (Nat.le_of_ble_eq_true rfl) dX12_hours_22 (mc_X12_throwsIf _ _ _ _ _ _ _ hs0 h2)) ?_
  refine j_if_eq C (tgt := 30) dX12_hours_25 (by decide) (fun h3 => ?_) (fun h3 => ?_)
  · replace hm := if_t hm h3
    refine j_aload_n C 0 dX12_hours_30 rfl ?_
    obtain ⟨r4, h5, hm⟩ := bd_some hm
    refine call_V (run_LV C lk_X12_363 ⟨rfl, rfl, Nat.le_of_ble_eq_true rfl, Nat.le_of_ble_eq_true rfl⟩ (As := []) hv0 rfl rfl (Nat.le_of_ble_eq_true rfl) dX12_hours_31 (mc_X12_remembers _ _ _ _ _ hv0 h5)) ?_
    refine j_aload_n C 0 dX12_hours_34 rfl ?_
    refine j_iload_n C 1 dX12_hours_35 rfl ?_
    refine j_iconst C (v := 0) dX12_hours_36 rfl ?_
    obtain ⟨r6, h7, hm⟩ := bd_some hm
    refine call_I (run_LV C lk_X12_366 ⟨rfl, rfl, Nat.le_of_ble_eq_true rfl, Nat.le_of_ble_eq_true rfl⟩ (As := [.int v1, .int 0]) hv0 rfl rfl (Nat.le_of_ble_eq_true rfl) dX12_hours_37 (mc_X12_goesOn _ _ _ _ _ _ _ hv0 h7)) ?_
    obtain rfl := Option.some.inj hm
    exact j_ireti C dX12_hours_40
  · replace hm := if_f hm h3
    refine j_iconst C (v := 0) dX12_hours_28 rfl ?_
    obtain rfl := Option.some.inj hm
    exact j_ireti C dX12_hours_29
set_option maxRecDepth 20000 in
set_option maxHeartbeats 4000000 in
theorem tm_X12_hours {x : Ctx} {Λ : Lay} (C : Cx x cX12_hours 2 (some .int) RX12 Λ rm_X12_hours) (N : Nat) (μ : Mem) (v0 : Nat) (v1 : Int32) (hv0 : inL Λ v0 11) {r : Int32 × Mem} (hm : m_X12_hours N Λ μ v0 v1 = some r) : J x 2 Λ (QI x Λ r.1 r.2) 0 [(0, .ref v0), (1, .int v1)] [] μ := by
  refine j_aload_n C 0 dX12_hours_0 rfl ?_
  refine j_iconst C (v := 0) dX12_hours_1 rfl ?_
  obtain ⟨μ1, e2, hm⟩ := lt_some hm
  refine j_putI C fp_X12_3_11 hv0 e2 dX12_hours_2 ?_
  refine j_aload_n C 0 dX12_hours_5 rfl ?_
  refine j_iload_n C 1 dX12_hours_6 rfl ?_
  refine j_iconst C (v := 1) dX12_hours_7 rfl ?_
  refine j_bipush C (v := 60) dX12_hours_8 rfl ?_
  obtain ⟨r3, h4, hm⟩ := bd_some hm
  refine call_I (run_LS C ls_X12_103 ⟨rfl, rfl, Nat.le_of_ble_eq_true rfl, Nat.le_of_ble_eq_true rfl⟩ (As := [.int v1, .int 1, .int 60]) rfl rfl (Nat.le_of_ble_eq_true rfl) dX12_hours_10 (mc_X12_in _ _ _ _ _ _ _  h4)) ?_
  refine j_if_ne C (tgt := 20) dX12_hours_13 (by decide) (fun h5 => ?_) (fun h5 => ?_)
  · replace hm := if_f hm h5
    refine j_iconst C (v := 0) dX12_hours_20 rfl ?_
    exact tj_X12_hours_21 C _ _ _ _ _ _ hv0 hv0 hm
  · replace hm := if_t hm h5
    refine j_iconst C (v := 1) dX12_hours_16 rfl ?_
    refine j_goto C (tgt := 21) dX12_hours_17 (by decide) ?_
    exact tj_X12_hours_21 C _ _ _ _ _ _ hv0 hv0 hm
set_option maxRecDepth 20000 in
set_option maxHeartbeats 4000000 in
theorem mc_X12_hours (l : Launch) (N : Nat) (Λ : Lay) (μ : Mem) (v0 : Nat) (v1 : Int32) (hv0 : inL Λ v0 11) {r : Int32 × Mem} (hm : m_X12_hours N Λ μ v0 v1 = some r) : MI l yX12_hours cX12_hours 2 (some .int) rm_X12_hours Λ [.ref v0, .int v1] μ r.1 r.2 := mi_of rfl (Nat.le_of_ble_eq_true rfl) (fun x C _ => tm_X12_hours C _ _ _ _ hv0 hm)
abbrev rm_X12_isNow : Room := { frames := 1, cells := 0, slots := 0, locals := 21 }
set_option maxRecDepth 20000 in
set_option maxHeartbeats 4000000 in
theorem tm_X12_isNow {x : Ctx} {Λ : Lay} (C : Cx x cX12_isNow 4 (some .int) RX12 Λ rm_X12_isNow) (N : Nat) (μ : Mem) (v0 : Nat) (v1 : Int32) (v2 : Int32) (hv0 : inL Λ v0 11) {r : Int32 × Mem} (hm : m_X12_isNow N Λ μ v0 v1 v2 = some r) : J x 4 Λ (QI x Λ r.1 r.2) 0 [(0, .ref v0), (1, .int v1), (2, .int v2)] [] μ := by
  refine j_aload_n C 0 dX12_isNow_0 rfl ?_
  obtain ⟨r1, h2, hm⟩ := bd_some hm
  refine call_V (run_LV C lk_X12_363 ⟨rfl, rfl, Nat.le_of_ble_eq_true rfl, Nat.le_of_ble_eq_true rfl⟩ (As := []) hv0 rfl rfl (Nat.le_of_ble_eq_true rfl) dX12_isNow_1 (mc_X12_remembers _ _ _ _ _ hv0 h2)) ?_
  refine j_aload_n C 0 dX12_isNow_4 rfl ?_
  obtain ⟨q3, h4, hm⟩ := bd_some hm
  refine j_getR C fg_X12_13_11 hv0 (dr_spec h4).1 dX12_isNow_5 ?_
  refine j_iload_n C 1 dX12_isNow_8 rfl ?_
  obtain ⟨h5, hm⟩ := gd_some hm
  refine j_iald C ((dr_spec h4).2) h5 dX12_isNow_9 ?_
  obtain ⟨y6, e7, hm⟩ := lt_some hm
  refine j_topi e7 ?_
  refine j_istore_n C (lv' := [(3, .int y6), (0, .ref v0), (1, .int v1), (2, .int v2)]) dX12_isNow_10 (by decide) rfl ?_
  refine j_aload_n C 1 dX12_isNow_11 rfl ?_
  obtain ⟨q8, h9, hm⟩ := bd_some hm
  refine j_getR C fg_X12_13_11 hv0 (dr_spec h9).1 dX12_isNow_12 ?_
  refine j_iload_n C 2 dX12_isNow_15 rfl ?_
  refine j_iload_n C 3 dX12_isNow_16 rfl ?_
  obtain ⟨h10, hm⟩ := gd_some hm
  obtain ⟨μ11, e12, hm⟩ := lt_some hm
  refine j_iast C ((dr_spec h9).2) h10 e12 dX12_isNow_17 ?_
  refine j_iload_n C 0 dX12_isNow_18 rfl ?_
  obtain rfl := Option.some.inj hm
  exact j_ireti C dX12_isNow_19
set_option maxRecDepth 20000 in
set_option maxHeartbeats 4000000 in
theorem mc_X12_isNow (l : Launch) (N : Nat) (Λ : Lay) (μ : Mem) (v0 : Nat) (v1 : Int32) (v2 : Int32) (hv0 : inL Λ v0 11) {r : Int32 × Mem} (hm : m_X12_isNow N Λ μ v0 v1 v2 = some r) : MI l yX12_isNow cX12_isNow 4 (some .int) rm_X12_isNow Λ [.ref v0, .int v1, .int v2] μ r.1 r.2 := mi_of rfl (Nat.le_of_ble_eq_true rfl) (fun x C _ => tm_X12_isNow C _ _ _ _ _ hv0 hm)
abbrev rm_X12_gate : Room := { frames := 2, cells := 0, slots := 0, locals := 80 }
set_option maxRecDepth 20000 in
set_option maxHeartbeats 4000000 in
theorem tj_X12_gate_65 {x : Ctx} {Λ : Lay} (C : Cx x cX12_gate 3 (some .boolean) RX12 Λ rm_X12_gate) (N : Nat) (μ : Mem) (s0 : Int32) {r : Int32 × Mem} (hm : jn_X12_gate_65 N Λ μ s0 = some r) : J x 3 Λ (QI x Λ r.1 r.2) 65 [] [.int s0] μ := by
  obtain ⟨h1, hm⟩ := gd_some hm
  obtain rfl := Option.some.inj hm
  exact j_iretz C h1 dX12_gate_65
set_option maxRecDepth 20000 in
set_option maxHeartbeats 4000000 in
theorem tj_X12_gate_49 {x : Ctx} {Λ : Lay} (C : Cx x cX12_gate 3 (some .boolean) RX12 Λ rm_X12_gate) (N : Nat) (μ : Mem) (v0 : Nat) (s0 : Int32) (hv0 : inL Λ v0 11) {r : Int32 × Mem} (hm : jn_X12_gate_49 N Λ μ v0 s0 = some r) : J x 3 Λ (QI x Λ r.1 r.2) 49 [(0, .ref v0)] [.int s0] μ := by
  refine j_istore_n C (lv' := [(2, .int s0), (0, .ref v0)]) dX12_gate_49 (by decide) rfl ?_
  refine j_aload_n C 1 dX12_gate_50 rfl ?_
  refine j_iconst C (v := 4) dX12_gate_51 rfl ?_
  refine j_iload_n C 0 dX12_gate_52 rfl ?_
  obtain ⟨r1, h2, hm⟩ := bd_some hm
  refine call_I (run_LV C lk_X12_373 ⟨rfl, rfl, Nat.le_of_ble_eq_true rfl, Nat.le_of_ble_eq_true rfl⟩ (As := [.int 4, .int s0]) hv0 rfl rfl (Nat.le_of_ble_eq_true rfl) dX12_gate_53 (mc_X12_isNow _ _ _ _ _ _ _ hv0 h2)) ?_
  refine j_iload_n C 0 dX12_gate_56 rfl ?_
  refine j_icmp_eq C (tgt := 64) dX12_gate_57 (by decide) (fun h3 => ?_) (fun h3 => ?_)
  · replace hm := if_t hm h3
    refine j_iconst C (v := 0) dX12_gate_64 rfl ?_
    refine j_sub [] rfl ?_
    exact tj_X12_gate_65 C _ _ _  hm
  · replace hm := if_f hm h3
    refine j_iconst C (v := 1) dX12_gate_60 rfl ?_
    refine j_goto C (tgt := 65) dX12_gate_61 (by decide) ?_
    refine j_sub [] rfl ?_
    exact tj_X12_gate_65 C _ _ _  hm
set_option maxRecDepth 20000 in
set_option maxHeartbeats 4000000 in
theorem tj_X12_gate_31 {x : Ctx} {Λ : Lay} (C : Cx x cX12_gate 3 (some .boolean) RX12 Λ rm_X12_gate) (N : Nat) (μ : Mem) (v0 : Nat) (v1 : Int32) (s0 : Nat) (s1 : Int32) (hv0 : inL Λ v0 11) (hs0 : inL Λ s0 11) {r : Int32 × Mem} (hm : jn_X12_gate_31 N Λ μ v0 v1 s0 s1 = some r) : J x 3 Λ (QI x Λ r.1 r.2) 31 [(0, .ref v0), (1, .int v1)] [.int s1, .ref s0] μ := by
  refine j_iconst C (v := 1) dX12_gate_31 rfl ?_
  obtain ⟨r1, h2, hm⟩ := bd_some hm
  refine call_I (run_LV C lk_X12_282 ⟨rfl, rfl, Nat.le_of_ble_eq_true rfl, Nat.le_of_ble_eq_true rfl⟩ (As := [.int s1, .int 1]) hs0 rfl rfl (Nat.le_of_ble_eq_true rfl) dX12_gate_32 (mc_X12_throwsIf _ _ _ _ _ _ _ hs0 h2)) ?_
  refine j_if_eq C (tgt := 40) dX12_gate_35 (by decide) (fun h3 => ?_) (fun h3 => ?_)
  · replace hm := if_t hm h3
    refine j_iload_n C 1 dX12_gate_40 rfl ?_
    refine j_if_eq C (tgt := 48) dX12_gate_41 (by decide) (fun h4 => ?_) (fun h4 => ?_)
    · replace hm := if_t hm h4
      refine j_iconst C (v := 0) dX12_gate_48 rfl ?_
      refine j_sub [0] rfl ?_
      exact tj_X12_gate_49 C _ _ _ _ hv0 hm
    · replace hm := if_f hm h4
      refine j_iconst C (v := 1) dX12_gate_44 rfl ?_
      refine j_goto C (tgt := 49) dX12_gate_45 (by decide) ?_
      refine j_sub [0] rfl ?_
      exact tj_X12_gate_49 C _ _ _ _ hv0 hm
  · replace hm := if_f hm h3
    refine j_iconst C (v := 0) dX12_gate_38 rfl ?_
    obtain rfl := Option.some.inj hm
    exact j_iretz C rfl dX12_gate_39
set_option maxRecDepth 20000 in
set_option maxHeartbeats 4000000 in
theorem tj_X12_gate_30 {x : Ctx} {Λ : Lay} (C : Cx x cX12_gate 3 (some .boolean) RX12 Λ rm_X12_gate) (N : Nat) (μ : Mem) (v0 : Nat) (v1 : Int32) (s0 : Nat) (hv0 : inL Λ v0 11) (hs0 : inL Λ s0 11) {r : Int32 × Mem} (hm : jn_X12_gate_30 N Λ μ v0 v1 s0 = some r) : J x 3 Λ (QI x Λ r.1 r.2) 30 [(0, .ref v0), (1, .int v1)] [.ref s0] μ := by
  refine j_iconst C (v := 0) dX12_gate_30 rfl ?_
  exact tj_X12_gate_31 C _ _ _ _ _ _ hv0 hs0 hm
set_option maxRecDepth 20000 in
set_option maxHeartbeats 4000000 in
theorem tm_X12_gate {x : Ctx} {Λ : Lay} (C : Cx x cX12_gate 3 (some .boolean) RX12 Λ rm_X12_gate) (N : Nat) (μ : Mem) (v0 : Nat) (v1 : Int32) (hv0 : inL Λ v0 11) {r : Int32 × Mem} (hm : m_X12_gate N Λ μ v0 v1 = some r) : J x 3 Λ (QI x Λ r.1 r.2) 0 [(0, .ref v0), (1, .int v1)] [] μ := by
  refine j_aload_n C 0 dX12_gate_0 rfl ?_
  refine j_iconst C (v := 0) dX12_gate_1 rfl ?_
  obtain ⟨μ1, e2, hm⟩ := lt_some hm
  refine j_putI C fp_X12_3_11 hv0 e2 dX12_gate_2 ?_
  refine j_aload_n C 0 dX12_gate_5 rfl ?_
  refine j_iload_n C 1 dX12_gate_6 rfl ?_
  refine j_if_eq C (tgt := 30) dX12_gate_7 (by decide) (fun h3 => ?_) (fun h3 => ?_)
  · replace hm := if_t hm h3
    exact tj_X12_gate_30 C _ _ _ _ _ hv0 hv0 hm
  · replace hm := if_f hm h3
    refine j_aload_n C 0 dX12_gate_10 rfl ?_
    obtain ⟨q4, h5, hm⟩ := bd_some hm
    refine j_getR C fg_X12_13_11 hv0 (dr_spec h5).1 dX12_gate_11 ?_
    refine j_iconst C (v := 4) dX12_gate_14 rfl ?_
    obtain ⟨h6, hm⟩ := gd_some hm
    refine j_iald C ((dr_spec h5).2) h6 dX12_gate_15 ?_
    refine j_if_ne C (tgt := 30) dX12_gate_16 (by decide) (fun h7 => ?_) (fun h7 => ?_)
    · replace hm := if_f hm h7
      exact tj_X12_gate_30 C _ _ _ _ _ hv0 hv0 hm
    · replace hm := if_t hm h7
      refine j_aload_n C 0 dX12_gate_19 rfl ?_
      obtain ⟨r8, h9, hm⟩ := bd_some hm
      refine call_I (run_LV C lk_X12_370 ⟨rfl, rfl, Nat.le_of_ble_eq_true rfl, Nat.le_of_ble_eq_true rfl⟩ (As := []) hv0 rfl rfl (Nat.le_of_ble_eq_true rfl) dX12_gate_20 (mc_X12_isEven _ _ _ _ _ hv0 h9)) ?_
      refine j_if_ne C (tgt := 30) dX12_gate_23 (by decide) (fun h10 => ?_) (fun h10 => ?_)
      · replace hm := if_f hm h10
        exact tj_X12_gate_30 C _ _ _ _ _ hv0 hv0 hm
      · replace hm := if_t hm h10
        refine j_iconst C (v := 1) dX12_gate_26 rfl ?_
        refine j_goto C (tgt := 31) dX12_gate_27 (by decide) ?_
        exact tj_X12_gate_31 C _ _ _ _ _ _ hv0 hv0 hm
set_option maxRecDepth 20000 in
set_option maxHeartbeats 4000000 in
theorem mc_X12_gate (l : Launch) (N : Nat) (Λ : Lay) (μ : Mem) (v0 : Nat) (v1 : Int32) (hv0 : inL Λ v0 11) {r : Int32 × Mem} (hm : m_X12_gate N Λ μ v0 v1 = some r) : MI l yX12_gate cX12_gate 3 (some .boolean) rm_X12_gate Λ [.ref v0, .int v1] μ r.1 r.2 := mi_of rfl (Nat.le_of_ble_eq_true rfl) (fun x C _ => tm_X12_gate C _ _ _ _ hv0 hm)
abbrev rm_X12_freePlaces : Room := { frames := 5, cells := 0, slots := 0, locals := 107 }
set_option maxRecDepth 20000 in
set_option maxHeartbeats 4000000 in
theorem tm_X12_freePlaces {x : Ctx} {Λ : Lay} (C : Cx x cX12_freePlaces 1 (some .int) RX12 Λ rm_X12_freePlaces) (N : Nat) (μ : Mem) (v0 : Nat) (hv0 : inL Λ v0 11) {r : Int32} (hm : m_X12_freePlaces N Λ μ v0 = some r) : J x 1 Λ (QI x Λ r μ) 0 [(0, .ref v0)] [] μ := by
  refine j_bipush C (v := 24) dX12_freePlaces_0 rfl ?_
  refine j_aload_n C 0 dX12_freePlaces_2 rfl ?_
  obtain ⟨r1, h2, hm⟩ := bd_some hm
  refine call_I (run_LV C lk_X12_168 ⟨rfl, rfl, Nat.le_of_ble_eq_true rfl, Nat.le_of_ble_eq_true rfl⟩ (As := []) hv0 rfl rfl (Nat.le_of_ble_eq_true rfl) dX12_freePlaces_3 (mc_X12_taken _ _ _ _ _ hv0 h2)) ?_
  obtain ⟨r3, h4, hm⟩ := bd_some hm
  refine call_I (run_LS C ls_X12_376 ⟨rfl, rfl, Nat.le_of_ble_eq_true rfl, Nat.le_of_ble_eq_true rfl⟩ (As := [.int r1]) rfl rfl (Nat.le_of_ble_eq_true rfl) dX12_freePlaces_6 (mc_XI_bitCount _ _ _ _ _  h4)) ?_
  refine j_isub C dX12_freePlaces_9 ?_
  obtain rfl := Option.some.inj hm
  exact j_ireti C dX12_freePlaces_10
set_option maxRecDepth 20000 in
set_option maxHeartbeats 4000000 in
theorem mc_X12_freePlaces (l : Launch) (N : Nat) (Λ : Lay) (μ : Mem) (v0 : Nat) (hv0 : inL Λ v0 11) {r : Int32} (hm : m_X12_freePlaces N Λ μ v0 = some r) : MI l yX12_freePlaces cX12_freePlaces 1 (some .int) rm_X12_freePlaces Λ [.ref v0] μ r μ := mi_of rfl (Nat.le_of_ble_eq_true rfl) (fun x C _ => tm_X12_freePlaces C _ _ _ hv0 hm)
abbrev rm_X12_canEnter : Room := { frames := 5, cells := 0, slots := 0, locals := 107 }
set_option maxRecDepth 20000 in
set_option maxHeartbeats 4000000 in
theorem tj_X12_canEnter_56 {x : Ctx} {Λ : Lay} (C : Cx x cX12_canEnter 3 (some .boolean) RX12 Λ rm_X12_canEnter) (N : Nat) (μ : Mem) (s0 : Int32) {r : Int32} (hm : jn_X12_canEnter_56 N Λ μ s0 = some r) : J x 3 Λ (QI x Λ r μ) 56 [] [.int s0] μ := by
  obtain ⟨h1, hm⟩ := gd_some hm
  obtain rfl := Option.some.inj hm
  exact j_iretz C h1 dX12_canEnter_56
set_option maxRecDepth 20000 in
set_option maxHeartbeats 4000000 in
theorem tj_X12_canEnter_55 {x : Ctx} {Λ : Lay} (C : Cx x cX12_canEnter 3 (some .boolean) RX12 Λ rm_X12_canEnter) (N : Nat) (μ : Mem) {r : Int32} (hm : jn_X12_canEnter_55 N Λ μ = some r) : J x 3 Λ (QI x Λ r μ) 55 [] [] μ := by
  refine j_iconst C (v := 0) dX12_canEnter_55 rfl ?_
  exact tj_X12_canEnter_56 C _ _ _  hm
set_option maxRecDepth 20000 in
set_option maxHeartbeats 4000000 in
theorem tm_X12_canEnter {x : Ctx} {Λ : Lay} (C : Cx x cX12_canEnter 3 (some .boolean) RX12 Λ rm_X12_canEnter) (N : Nat) (μ : Mem) (v0 : Nat) (v1 : Int32) (v2 : Int32) (hv0 : inL Λ v0 11) {r : Int32} (hm : m_X12_canEnter N Λ μ v0 v1 v2 = some r) : J x 3 Λ (QI x Λ r μ) 0 [(0, .ref v0), (1, .int v1), (2, .int v2)] [] μ := by
  refine j_aload_n C 0 dX12_canEnter_0 rfl ?_
  obtain ⟨q1, h2, hm⟩ := bd_some hm
  refine j_getR C fg_X12_13_11 hv0 (dr_spec h2).1 dX12_canEnter_1 ?_
  refine j_iconst C (v := 4) dX12_canEnter_4 rfl ?_
  obtain ⟨h3, hm⟩ := gd_some hm
  refine j_iald C ((dr_spec h2).2) h3 dX12_canEnter_5 ?_
  refine j_iconst C (v := 1) dX12_canEnter_6 rfl ?_
  refine j_icmp_ne C (tgt := 55) dX12_canEnter_7 (by decide) (fun h4 => ?_) (fun h4 => ?_)
  · replace hm := if_f hm h4
    refine j_sub [] rfl ?_
    exact tj_X12_canEnter_55 C _ _  hm
  · replace hm := if_t hm h4
    refine j_aload_n C 0 dX12_canEnter_10 rfl ?_
    refine j_iload_n C 1 dX12_canEnter_11 rfl ?_
    refine j_iconst C (v := 3) dX12_canEnter_12 rfl ?_
    obtain ⟨r5, h6, hm⟩ := bd_some hm
    refine call_I (run_LV C lk_X12_85 ⟨rfl, rfl, Nat.le_of_ble_eq_true rfl, Nat.le_of_ble_eq_true rfl⟩ (As := [.int v1, .int 3]) hv0 rfl rfl (Nat.le_of_ble_eq_true rfl) dX12_canEnter_13 (mc_X12_of _ _ _ _ _ _ _ hv0 h6)) ?_
    refine j_if_ne C (tgt := 55) dX12_canEnter_16 (by decide) (fun h7 => ?_) (fun h7 => ?_)
    · replace hm := if_f hm h7
      refine j_sub [] rfl ?_
      exact tj_X12_canEnter_55 C _ _  hm
    · replace hm := if_t hm h7
      refine j_aload_n C 0 dX12_canEnter_19 rfl ?_
      refine j_iload_n C 1 dX12_canEnter_20 rfl ?_
      refine j_iconst C (v := 1) dX12_canEnter_21 rfl ?_
      obtain ⟨r8, h9, hm⟩ := bd_some hm
      refine call_I (run_LV C lk_X12_85 ⟨rfl, rfl, Nat.le_of_ble_eq_true rfl, Nat.le_of_ble_eq_true rfl⟩ (As := [.int v1, .int 1]) hv0 rfl rfl (Nat.le_of_ble_eq_true rfl) dX12_canEnter_22 (mc_X12_of _ _ _ _ _ _ _ hv0 h9)) ?_
      refine j_aload_n C 0 dX12_canEnter_25 rfl ?_
      obtain ⟨q10, h11, hm⟩ := bd_some hm
      refine j_getR C fg_X12_13_11 hv0 (dr_spec h11).1 dX12_canEnter_26 ?_
      refine j_iconst C (v := 3) dX12_canEnter_29 rfl ?_
      obtain ⟨h12, hm⟩ := gd_some hm
      refine j_iald C ((dr_spec h11).2) h12 dX12_canEnter_30 ?_
      refine j_icmp_gt C (tgt := 55) dX12_canEnter_31 (by decide) (fun h13 => ?_) (fun h13 => ?_)
      · replace hm := if_t hm h13
        refine j_sub [] rfl ?_
        exact tj_X12_canEnter_55 C _ _  hm
      · replace hm := if_f hm h13
        refine j_aload_n C 0 dX12_canEnter_34 rfl ?_
        obtain ⟨r14, h15, hm⟩ := bd_some hm
        refine call_I (run_LV C lk_X12_168 ⟨rfl, rfl, Nat.le_of_ble_eq_true rfl, Nat.le_of_ble_eq_true rfl⟩ (As := []) hv0 rfl rfl (Nat.le_of_ble_eq_true rfl) dX12_canEnter_35 (mc_X12_taken _ _ _ _ _ hv0 h15)) ?_
        refine j_iload_n C 2 dX12_canEnter_38 rfl ?_
        refine j_aload_n C 0 dX12_canEnter_39 rfl ?_
        refine j_iload_n C 1 dX12_canEnter_40 rfl ?_
        refine j_iconst C (v := 0) dX12_canEnter_41 rfl ?_
        obtain ⟨r16, h17, hm⟩ := bd_some hm
        refine call_I (run_LV C lk_X12_85 ⟨rfl, rfl, Nat.le_of_ble_eq_true rfl, Nat.le_of_ble_eq_true rfl⟩ (As := [.int v1, .int 0]) hv0 rfl rfl (Nat.le_of_ble_eq_true rfl) dX12_canEnter_42 (mc_X12_of _ _ _ _ _ _ _ hv0 h17)) ?_
        obtain ⟨r18, h19, hm⟩ := bd_some hm
        refine call_I (run_LS C ls_X12_171 ⟨rfl, rfl, Nat.le_of_ble_eq_true rfl, Nat.le_of_ble_eq_true rfl⟩ (As := [.int r14, .int v2, .int r16]) rfl rfl (Nat.le_of_ble_eq_true rfl) dX12_canEnter_45 (mc_X12_fitsIn _ _ _ _ _ _ _  h19)) ?_
        refine j_if_eq C (tgt := 55) dX12_canEnter_48 (by decide) (fun h20 => ?_) (fun h20 => ?_)
        · replace hm := if_t hm h20
          refine j_sub [] rfl ?_
          exact tj_X12_canEnter_55 C _ _  hm
        · replace hm := if_f hm h20
          refine j_iconst C (v := 1) dX12_canEnter_51 rfl ?_
          refine j_goto C (tgt := 56) dX12_canEnter_52 (by decide) ?_
          refine j_sub [] rfl ?_
          exact tj_X12_canEnter_56 C _ _ _  hm
set_option maxRecDepth 20000 in
set_option maxHeartbeats 4000000 in
theorem mc_X12_canEnter (l : Launch) (N : Nat) (Λ : Lay) (μ : Mem) (v0 : Nat) (v1 : Int32) (v2 : Int32) (hv0 : inL Λ v0 11) {r : Int32} (hm : m_X12_canEnter N Λ μ v0 v1 v2 = some r) : MI l yX12_canEnter cX12_canEnter 3 (some .boolean) rm_X12_canEnter Λ [.ref v0, .int v1, .int v2] μ r μ := mi_of rfl (Nat.le_of_ble_eq_true rfl) (fun x C _ => tm_X12_canEnter C _ _ _ _ _ hv0 hm)
abbrev rm_X12_enter : Room := { frames := 6, cells := 0, slots := 0, locals := 129 }
set_option maxRecDepth 20000 in
set_option maxHeartbeats 4000000 in
theorem tj_X12_enter_55 {x : Ctx} {Λ : Lay} (C : Cx x cX12_enter 3 (some .int) RX12 Λ rm_X12_enter) (N : Nat) (μ : Mem) {r : Int32 × Mem} (hm : jn_X12_enter_55 N Λ μ = some r) : J x 3 Λ (QI x Λ r.1 r.2) 55 [] [] μ := by
  refine j_iconst C (v := 0) dX12_enter_55 rfl ?_
  obtain rfl := Option.some.inj hm
  exact j_ireti C dX12_enter_56
set_option maxRecDepth 20000 in
set_option maxHeartbeats 4000000 in
theorem tj_X12_enter_48 {x : Ctx} {Λ : Lay} (C : Cx x cX12_enter 3 (some .int) RX12 Λ rm_X12_enter) (N : Nat) (μ : Mem) (v0 : Nat) (v1 : Int32) (v2 : Int32) (s0 : Nat) (s1 : Int32) (hv0 : inL Λ v0 11) (hs0 : inL Λ s0 11) {r : Int32 × Mem} (hm : jn_X12_enter_48 N Λ μ v0 v1 v2 s0 s1 = some r) : J x 3 Λ (QI x Λ r.1 r.2) 48 [(0, .ref v0), (1, .int v1), (2, .int v2)] [.int s1, .ref s0] μ := by
  refine j_iconst C (v := 2) dX12_enter_48 rfl ?_
  obtain ⟨r1, h2, hm⟩ := bd_some hm
  refine call_I (run_LV C lk_X12_282 ⟨rfl, rfl, Nat.le_of_ble_eq_true rfl, Nat.le_of_ble_eq_true rfl⟩ (As := [.int s1, .int 2]) hs0 rfl rfl (Nat.le_of_ble_eq_true rfl) dX12_enter_49 (mc_X12_throwsIf _ _ _ _ _ _ _ hs0 h2)) ?_
  refine j_if_eq C (tgt := 57) dX12_enter_52 (by decide) (fun h3 => ?_) (fun h3 => ?_)
  · replace hm := if_t hm h3
    refine j_aload_n C 0 dX12_enter_57 rfl ?_
    obtain ⟨r4, h5, hm⟩ := bd_some hm
    refine call_V (run_LV C lk_X12_363 ⟨rfl, rfl, Nat.le_of_ble_eq_true rfl, Nat.le_of_ble_eq_true rfl⟩ (As := []) hv0 rfl rfl (Nat.le_of_ble_eq_true rfl) dX12_enter_58 (mc_X12_remembers _ _ _ _ _ hv0 h5)) ?_
    refine j_aload_n C 0 dX12_enter_61 rfl ?_
    obtain ⟨q6, h7, hm⟩ := bd_some hm
    refine j_getR C fg_X12_13_11 hv0 (dr_spec h7).1 dX12_enter_62 ?_
    refine j_iload_n C 1 dX12_enter_65 rfl ?_
    refine j_iconst C (v := 3) dX12_enter_66 rfl ?_
    obtain ⟨r8, h9, hm⟩ := bd_some hm
    refine call_I (run_LS C ls_X12_81 ⟨rfl, rfl, Nat.le_of_ble_eq_true rfl, Nat.le_of_ble_eq_true rfl⟩ (As := [.int v1, .int 3]) rfl rfl (Nat.le_of_ble_eq_true rfl) dX12_enter_67 (mc_X12_shipAt _ _ _ _ _ _  h9)) ?_
    refine j_iconst C (v := 1) dX12_enter_70 rfl ?_
    obtain ⟨h10, hm⟩ := gd_some hm
    obtain ⟨μ11, e12, hm⟩ := lt_some hm
    refine j_iast C ((dr_spec h7).2) h10 e12 dX12_enter_71 ?_
    refine j_aload_n C 0 dX12_enter_72 rfl ?_
    obtain ⟨q13, h14, hm⟩ := bd_some hm
    refine j_getR C fg_X12_13_11 hv0 (dr_spec h14).1 dX12_enter_73 ?_
    refine j_iload_n C 1 dX12_enter_76 rfl ?_
    refine j_iconst C (v := 4) dX12_enter_77 rfl ?_
    obtain ⟨r15, h16, hm⟩ := bd_some hm
    refine call_I (run_LS C ls_X12_81 ⟨rfl, rfl, Nat.le_of_ble_eq_true rfl, Nat.le_of_ble_eq_true rfl⟩ (As := [.int v1, .int 4]) rfl rfl (Nat.le_of_ble_eq_true rfl) dX12_enter_78 (mc_X12_shipAt _ _ _ _ _ _  h16)) ?_
    refine j_iload_n C 2 dX12_enter_81 rfl ?_
    obtain ⟨h17, hm⟩ := gd_some hm
    obtain ⟨μ18, e19, hm⟩ := lt_some hm
    refine j_iast C ((dr_spec h14).2) h17 e19 dX12_enter_82 ?_
    refine j_aload_n C 0 dX12_enter_83 rfl ?_
    refine j_iload_n C 1 dX12_enter_84 rfl ?_
    refine j_iconst C (v := 0) dX12_enter_85 rfl ?_
    refine j_iload_n C 2 dX12_enter_86 rfl ?_
    obtain ⟨r20, h21, hm⟩ := bd_some hm
    refine call_V (run_LV C lk_X12_321 ⟨rfl, rfl, Nat.le_of_ble_eq_true rfl, Nat.le_of_ble_eq_true rfl⟩ (As := [.int v1, .int 0, .int v2]) hv0 rfl rfl (Nat.le_of_ble_eq_true rfl) dX12_enter_87 (mc_X12_isTold _ _ _ _ _ _ _ _ hv0 h21)) ?_
    refine j_aload_n C 0 dX12_enter_90 rfl ?_
    obtain ⟨r22, h23, hm⟩ := bd_some hm
    refine call_I (run_LV C lk_X12_384 ⟨rfl, rfl, Nat.le_of_ble_eq_true rfl, Nat.le_of_ble_eq_true rfl⟩ (As := []) hv0 rfl rfl (Nat.le_of_ble_eq_true rfl) dX12_enter_91 (mc_X12_freePlaces _ _ _ _ _ hv0 h23)) ?_
    obtain rfl := Option.some.inj hm
    exact j_ireti C dX12_enter_94
  · replace hm := if_f hm h3
    refine j_sub [] rfl ?_
    exact tj_X12_enter_55 C _ _  hm
set_option maxRecDepth 20000 in
set_option maxHeartbeats 4000000 in
theorem tj_X12_enter_26 {x : Ctx} {Λ : Lay} (C : Cx x cX12_enter 3 (some .int) RX12 Λ rm_X12_enter) (N : Nat) (μ : Mem) (v0 : Nat) (v1 : Int32) (v2 : Int32) (s0 : Nat) (s1 : Int32) (hv0 : inL Λ v0 11) (hs0 : inL Λ s0 11) {r : Int32 × Mem} (hm : jn_X12_enter_26 N Λ μ v0 v1 v2 s0 s1 = some r) : J x 3 Λ (QI x Λ r.1 r.2) 26 [(0, .ref v0), (1, .int v1), (2, .int v2)] [.int s1, .ref s0] μ := by
  refine j_iconst C (v := 1) dX12_enter_26 rfl ?_
  obtain ⟨r1, h2, hm⟩ := bd_some hm
  refine call_I (run_LV C lk_X12_282 ⟨rfl, rfl, Nat.le_of_ble_eq_true rfl, Nat.le_of_ble_eq_true rfl⟩ (As := [.int s1, .int 1]) hs0 rfl rfl (Nat.le_of_ble_eq_true rfl) dX12_enter_27 (mc_X12_throwsIf _ _ _ _ _ _ _ hs0 h2)) ?_
  refine j_if_ne C (tgt := 55) dX12_enter_30 (by decide) (fun h3 => ?_) (fun h3 => ?_)
  · replace hm := if_f hm h3
    refine j_sub [] rfl ?_
    exact tj_X12_enter_55 C _ _  hm
  · replace hm := if_t hm h3
    refine j_aload_n C 0 dX12_enter_33 rfl ?_
    refine j_aload_n C 0 dX12_enter_34 rfl ?_
    refine j_iload_n C 1 dX12_enter_35 rfl ?_
    refine j_iload_n C 2 dX12_enter_36 rfl ?_
    obtain ⟨r4, h5, hm⟩ := bd_some hm
    refine call_I (run_LV C lk_X12_381 ⟨rfl, rfl, Nat.le_of_ble_eq_true rfl, Nat.le_of_ble_eq_true rfl⟩ (As := [.int v1, .int v2]) hv0 rfl rfl (Nat.le_of_ble_eq_true rfl) dX12_enter_37 (mc_X12_canEnter _ _ _ _ _ _ _ hv0 h5)) ?_
    refine j_if_ne C (tgt := 47) dX12_enter_40 (by decide) (fun h6 => ?_) (fun h6 => ?_)
    · replace hm := if_f hm h6
      refine j_iconst C (v := 0) dX12_enter_47 rfl ?_
      exact tj_X12_enter_48 C _ _ _ _ _ _ _ hv0 hv0 hm
    · replace hm := if_t hm h6
      refine j_iconst C (v := 1) dX12_enter_43 rfl ?_
      refine j_goto C (tgt := 48) dX12_enter_44 (by decide) ?_
      exact tj_X12_enter_48 C _ _ _ _ _ _ _ hv0 hv0 hm
set_option maxRecDepth 20000 in
set_option maxHeartbeats 4000000 in
theorem tj_X12_enter_21 {x : Ctx} {Λ : Lay} (C : Cx x cX12_enter 3 (some .int) RX12 Λ rm_X12_enter) (N : Nat) (μ : Mem) (v0 : Nat) (v1 : Int32) (v2 : Int32) (s0 : Nat) (hv0 : inL Λ v0 11) (hs0 : inL Λ s0 11) {r : Int32 × Mem} (hm : jn_X12_enter_21 N Λ μ v0 v1 v2 s0 = some r) : J x 3 Λ (QI x Λ r.1 r.2) 21 [(0, .ref v0), (1, .int v1), (2, .int v2)] [.ref s0] μ := by
  refine j_iconst C (v := 1) dX12_enter_21 rfl ?_
  refine j_goto C (tgt := 26) dX12_enter_22 (by decide) ?_
  exact tj_X12_enter_26 C _ _ _ _ _ _ _ hv0 hs0 hm
set_option maxRecDepth 20000 in
set_option maxHeartbeats 4000000 in
theorem tm_X12_enter {x : Ctx} {Λ : Lay} (C : Cx x cX12_enter 3 (some .int) RX12 Λ rm_X12_enter) (N : Nat) (μ : Mem) (v0 : Nat) (v1 : Int32) (v2 : Int32) (hv0 : inL Λ v0 11) {r : Int32 × Mem} (hm : m_X12_enter N Λ μ v0 v1 v2 = some r) : J x 3 Λ (QI x Λ r.1 r.2) 0 [(0, .ref v0), (1, .int v1), (2, .int v2)] [] μ := by
  refine j_aload_n C 0 dX12_enter_0 rfl ?_
  refine j_iconst C (v := 0) dX12_enter_1 rfl ?_
  obtain ⟨μ1, e2, hm⟩ := lt_some hm
  refine j_putI C fp_X12_3_11 hv0 e2 dX12_enter_2 ?_
  refine j_aload_n C 0 dX12_enter_5 rfl ?_
  refine j_aload_n C 0 dX12_enter_6 rfl ?_
  refine j_iload_n C 1 dX12_enter_7 rfl ?_
  obtain ⟨r3, h4, hm⟩ := bd_some hm
  refine call_I (run_LV C lk_X12_345 ⟨rfl, rfl, Nat.le_of_ble_eq_true rfl, Nat.le_of_ble_eq_true rfl⟩ (As := [.int v1]) hv0 rfl rfl (Nat.le_of_ble_eq_true rfl) dX12_enter_8 (mc_X12_noShip _ _ _ _ _ _ hv0 h4)) ?_
  refine j_if_ne C (tgt := 21) dX12_enter_11 (by decide) (fun h5 => ?_) (fun h5 => ?_)
  · replace hm := if_f hm h5
    exact tj_X12_enter_21 C _ _ _ _ _ _ hv0 hv0 hm
  · replace hm := if_t hm h5
    refine j_iload_n C 2 dX12_enter_14 rfl ?_
    obtain ⟨r6, h7, hm⟩ := bd_some hm
    refine call_I (run_LS C ls_X12_360 ⟨rfl, rfl, Nat.le_of_ble_eq_true rfl, Nat.le_of_ble_eq_true rfl⟩ (As := [.int v2]) rfl rfl (Nat.le_of_ble_eq_true rfl) dX12_enter_15 (mc_X12_noPlace _ _ _ _ _  h7)) ?_
    refine j_if_eq C (tgt := 25) dX12_enter_18 (by decide) (fun h8 => ?_) (fun h8 => ?_)
    · replace hm := if_t hm h8
      refine j_iconst C (v := 0) dX12_enter_25 rfl ?_
      exact tj_X12_enter_26 C _ _ _ _ _ _ _ hv0 hv0 hm
    · replace hm := if_f hm h8
      exact tj_X12_enter_21 C _ _ _ _ _ _ hv0 hv0 hm
set_option maxRecDepth 20000 in
set_option maxHeartbeats 4000000 in
theorem mc_X12_enter (l : Launch) (N : Nat) (Λ : Lay) (μ : Mem) (v0 : Nat) (v1 : Int32) (v2 : Int32) (hv0 : inL Λ v0 11) {r : Int32 × Mem} (hm : m_X12_enter N Λ μ v0 v1 v2 = some r) : MI l yX12_enter cX12_enter 3 (some .int) rm_X12_enter Λ [.ref v0, .int v1, .int v2] μ r.1 r.2 := mi_of rfl (Nat.le_of_ble_eq_true rfl) (fun x C _ => tm_X12_enter C _ _ _ _ _ hv0 hm)
abbrev rm_X12_leave : Room := { frames := 7, cells := 0, slots := 0, locals := 162 }
set_option maxRecDepth 20000 in
set_option maxHeartbeats 4000000 in
theorem tj_X12_leave_56 {x : Ctx} {Λ : Lay} (C : Cx x cX12_leave 3 (some .int) RX12 Λ rm_X12_leave) (N : Nat) (μ : Mem) {r : Int32 × Mem} (hm : jn_X12_leave_56 N Λ μ = some r) : J x 3 Λ (QI x Λ r.1 r.2) 56 [] [] μ := by
  refine j_iconst C (v := 0) dX12_leave_56 rfl ?_
  obtain rfl := Option.some.inj hm
  exact j_ireti C dX12_leave_57
set_option maxRecDepth 20000 in
set_option maxHeartbeats 4000000 in
theorem tj_X12_leave_49 {x : Ctx} {Λ : Lay} (C : Cx x cX12_leave 3 (some .int) RX12 Λ rm_X12_leave) (N : Nat) (μ : Mem) (v0 : Nat) (v1 : Int32) (s0 : Nat) (s1 : Int32) (hv0 : inL Λ v0 11) (hs0 : inL Λ s0 11) {r : Int32 × Mem} (hm : jn_X12_leave_49 N Λ μ v0 v1 s0 s1 = some r) : J x 3 Λ (QI x Λ r.1 r.2) 49 [(0, .ref v0), (1, .int v1)] [.int s1, .ref s0] μ := by
  refine j_iconst C (v := 2) dX12_leave_49 rfl ?_
  obtain ⟨r1, h2, hm⟩ := bd_some hm
  refine call_I (run_LV C lk_X12_282 ⟨rfl, rfl, Nat.le_of_ble_eq_true rfl, Nat.le_of_ble_eq_true rfl⟩ (As := [.int s1, .int 2]) hs0 rfl rfl (Nat.le_of_ble_eq_true rfl) dX12_leave_50 (mc_X12_throwsIf _ _ _ _ _ _ _ hs0 h2)) ?_
  refine j_if_eq C (tgt := 58) dX12_leave_53 (by decide) (fun h3 => ?_) (fun h3 => ?_)
  · replace hm := if_t hm h3
    refine j_aload_n C 0 dX12_leave_58 rfl ?_
    obtain ⟨r4, h5, hm⟩ := bd_some hm
    refine call_V (run_LV C lk_X12_363 ⟨rfl, rfl, Nat.le_of_ble_eq_true rfl, Nat.le_of_ble_eq_true rfl⟩ (As := []) hv0 rfl rfl (Nat.le_of_ble_eq_true rfl) dX12_leave_59 (mc_X12_remembers _ _ _ _ _ hv0 h5)) ?_
    refine j_aload_n C 0 dX12_leave_62 rfl ?_
    refine j_iload_n C 1 dX12_leave_63 rfl ?_
    obtain ⟨r6, h7, hm⟩ := bd_some hm
    refine call_I (run_LV C lk_X12_348 ⟨rfl, rfl, Nat.le_of_ble_eq_true rfl, Nat.le_of_ble_eq_true rfl⟩ (As := [.int v1]) hv0 rfl rfl (Nat.le_of_ble_eq_true rfl) dX12_leave_64 (mc_X12_feeOf _ _ _ _ _ _ hv0 h7)) ?_
    refine j_istore_n C (lv' := [(2, .int r6.1), (0, .ref v0), (1, .int v1)]) dX12_leave_67 (by decide) rfl ?_
    refine j_aload_n C 1 dX12_leave_68 rfl ?_
    refine j_iload_n C 2 dX12_leave_69 rfl ?_
    refine j_iconst C (v := 1) dX12_leave_70 rfl ?_
    refine j_aload_n C 1 dX12_leave_71 rfl ?_
    refine j_iload_n C 2 dX12_leave_72 rfl ?_
    refine j_iconst C (v := 4) dX12_leave_73 rfl ?_
    obtain ⟨r8, h9, hm⟩ := bd_some hm
    refine call_I (run_LV C lk_X12_85 ⟨rfl, rfl, Nat.le_of_ble_eq_true rfl, Nat.le_of_ble_eq_true rfl⟩ (As := [.int v1, .int 4]) hv0 rfl rfl (Nat.le_of_ble_eq_true rfl) dX12_leave_74 (mc_X12_of _ _ _ _ _ _ _ hv0 h9)) ?_
    obtain ⟨r10, h11, hm⟩ := bd_some hm
    refine call_V (run_LV C lk_X12_321 ⟨rfl, rfl, Nat.le_of_ble_eq_true rfl, Nat.le_of_ble_eq_true rfl⟩ (As := [.int v1, .int 1, .int r8]) hv0 rfl rfl (Nat.le_of_ble_eq_true rfl) dX12_leave_77 (mc_X12_isTold _ _ _ _ _ _ _ _ hv0 h11)) ?_
    refine j_aload_n C 1 dX12_leave_80 rfl ?_
    obtain ⟨q12, h13, hm⟩ := bd_some hm
    refine j_getR C fg_X12_13_11 hv0 (dr_spec h13).1 dX12_leave_81 ?_
    refine j_bipush C (v := 8) dX12_leave_84 rfl ?_
    refine j_sipush C (v := 9999) dX12_leave_86 rfl ?_
    refine j_aload_n C 1 dX12_leave_89 rfl ?_
    obtain ⟨q14, h15, hm⟩ := bd_some hm
    refine j_getR C fg_X12_13_11 hv0 (dr_spec h15).1 dX12_leave_90 ?_
    refine j_bipush C (v := 8) dX12_leave_93 rfl ?_
    obtain ⟨h16, hm⟩ := gd_some hm
    refine j_iald C ((dr_spec h15).2) h16 dX12_leave_95 ?_
    refine j_iload_n C 0 dX12_leave_96 rfl ?_
    refine j_iadd C dX12_leave_97 ?_
    refine j_mmin C wk_1928 ⟨Nat.le_of_ble_eq_true rfl, Nat.le_of_ble_eq_true rfl⟩ dX12_leave_98 ?_
    obtain ⟨h17, hm⟩ := gd_some hm
    obtain ⟨μ18, e19, hm⟩ := lt_some hm
    refine j_iast C ((dr_spec h13).2) h17 e19 dX12_leave_101 ?_
    refine j_aload_n C 1 dX12_leave_102 rfl ?_
    obtain ⟨q20, h21, hm⟩ := bd_some hm
    refine j_getR C fg_X12_13_11 hv0 (dr_spec h21).1 dX12_leave_103 ?_
    refine j_iload_n C 2 dX12_leave_106 rfl ?_
    refine j_iconst C (v := 3) dX12_leave_107 rfl ?_
    obtain ⟨r22, h23, hm⟩ := bd_some hm
    refine call_I (run_LS C ls_X12_81 ⟨rfl, rfl, Nat.le_of_ble_eq_true rfl, Nat.le_of_ble_eq_true rfl⟩ (As := [.int v1, .int 3]) rfl rfl (Nat.le_of_ble_eq_true rfl) dX12_leave_108 (mc_X12_shipAt _ _ _ _ _ _  h23)) ?_
    refine j_iconst C (v := 2) dX12_leave_111 rfl ?_
    obtain ⟨h24, hm⟩ := gd_some hm
    obtain ⟨μ25, e26, hm⟩ := lt_some hm
    refine j_iast C ((dr_spec h21).2) h24 e26 dX12_leave_112 ?_
    refine j_aload_n C 1 dX12_leave_113 rfl ?_
    obtain ⟨q27, h28, hm⟩ := bd_some hm
    refine j_getR C fg_X12_13_11 hv0 (dr_spec h28).1 dX12_leave_114 ?_
    refine j_iload_n C 2 dX12_leave_117 rfl ?_
    refine j_iconst C (v := 4) dX12_leave_118 rfl ?_
    obtain ⟨r29, h30, hm⟩ := bd_some hm
    refine call_I (run_LS C ls_X12_81 ⟨rfl, rfl, Nat.le_of_ble_eq_true rfl, Nat.le_of_ble_eq_true rfl⟩ (As := [.int v1, .int 4]) rfl rfl (Nat.le_of_ble_eq_true rfl) dX12_leave_119 (mc_X12_shipAt _ _ _ _ _ _  h30)) ?_
    refine j_iconst C (v := -1) dX12_leave_122 rfl ?_
    obtain ⟨h31, hm⟩ := gd_some hm
    obtain ⟨μ32, e33, hm⟩ := lt_some hm
    refine j_iast C ((dr_spec h28).2) h31 e33 dX12_leave_123 ?_
    refine j_iload_n C 0 dX12_leave_124 rfl ?_
    obtain rfl := Option.some.inj hm
    exact j_ireti C dX12_leave_125
  · replace hm := if_f hm h3
    refine j_sub [] rfl ?_
    exact tj_X12_leave_56 C _ _  hm
set_option maxRecDepth 20000 in
set_option maxHeartbeats 4000000 in
theorem tj_X12_leave_44 {x : Ctx} {Λ : Lay} (C : Cx x cX12_leave 3 (some .int) RX12 Λ rm_X12_leave) (N : Nat) (μ : Mem) (v0 : Nat) (v1 : Int32) (s0 : Nat) (hv0 : inL Λ v0 11) (hs0 : inL Λ s0 11) {r : Int32 × Mem} (hm : jn_X12_leave_44 N Λ μ v0 v1 s0 = some r) : J x 3 Λ (QI x Λ r.1 r.2) 44 [(0, .ref v0), (1, .int v1)] [.ref s0] μ := by
  refine j_iconst C (v := 1) dX12_leave_44 rfl ?_
  refine j_goto C (tgt := 49) dX12_leave_45 (by decide) ?_
  exact tj_X12_leave_49 C _ _ _ _ _ _ hv0 hs0 hm
set_option maxRecDepth 20000 in
set_option maxHeartbeats 4000000 in
theorem tm_X12_leave {x : Ctx} {Λ : Lay} (C : Cx x cX12_leave 3 (some .int) RX12 Λ rm_X12_leave) (N : Nat) (μ : Mem) (v0 : Nat) (v1 : Int32) (hv0 : inL Λ v0 11) {r : Int32 × Mem} (hm : m_X12_leave N Λ μ v0 v1 = some r) : J x 3 Λ (QI x Λ r.1 r.2) 0 [(0, .ref v0), (1, .int v1)] [] μ := by
  refine j_aload_n C 0 dX12_leave_0 rfl ?_
  refine j_iconst C (v := 0) dX12_leave_1 rfl ?_
  obtain ⟨μ1, e2, hm⟩ := lt_some hm
  refine j_putI C fp_X12_3_11 hv0 e2 dX12_leave_2 ?_
  refine j_aload_n C 0 dX12_leave_5 rfl ?_
  refine j_aload_n C 0 dX12_leave_6 rfl ?_
  refine j_iload_n C 1 dX12_leave_7 rfl ?_
  obtain ⟨r3, h4, hm⟩ := bd_some hm
  refine call_I (run_LV C lk_X12_345 ⟨rfl, rfl, Nat.le_of_ble_eq_true rfl, Nat.le_of_ble_eq_true rfl⟩ (As := [.int v1]) hv0 rfl rfl (Nat.le_of_ble_eq_true rfl) dX12_leave_8 (mc_X12_noShip _ _ _ _ _ _ hv0 h4)) ?_
  refine j_iconst C (v := 1) dX12_leave_11 rfl ?_
  obtain ⟨r5, h6, hm⟩ := bd_some hm
  refine call_I (run_LV C lk_X12_282 ⟨rfl, rfl, Nat.le_of_ble_eq_true rfl, Nat.le_of_ble_eq_true rfl⟩ (As := [.int r3, .int 1]) hv0 rfl rfl (Nat.le_of_ble_eq_true rfl) dX12_leave_12 (mc_X12_throwsIf _ _ _ _ _ _ _ hv0 h6)) ?_
  refine j_if_ne C (tgt := 56) dX12_leave_15 (by decide) (fun h7 => ?_) (fun h7 => ?_)
  · replace hm := if_f hm h7
    refine j_sub [] rfl ?_
    exact tj_X12_leave_56 C _ _  hm
  · replace hm := if_t hm h7
    refine j_aload_n C 0 dX12_leave_18 rfl ?_
    refine j_aload_n C 0 dX12_leave_19 rfl ?_
    obtain ⟨q8, h9, hm⟩ := bd_some hm
    refine j_getR C fg_X12_13_11 hv0 (dr_spec h9).1 dX12_leave_20 ?_
    refine j_iconst C (v := 4) dX12_leave_23 rfl ?_
    obtain ⟨h10, hm⟩ := gd_some hm
    refine j_iald C ((dr_spec h9).2) h10 dX12_leave_24 ?_
    refine j_if_eq C (tgt := 44) dX12_leave_25 (by decide) (fun h11 => ?_) (fun h11 => ?_)
    · replace hm := if_t hm h11
      exact tj_X12_leave_44 C _ _ _ _ _ hv0 hv0 hm
    · replace hm := if_f hm h11
      refine j_aload_n C 0 dX12_leave_28 rfl ?_
      refine j_iload_n C 1 dX12_leave_29 rfl ?_
      obtain ⟨r12, h13, hm⟩ := bd_some hm
      refine call_I (run_LV C lk_X12_88 ⟨rfl, rfl, Nat.le_of_ble_eq_true rfl, Nat.le_of_ble_eq_true rfl⟩ (As := [.int v1]) hv0 rfl rfl (Nat.le_of_ble_eq_true rfl) dX12_leave_30 (mc_X12_isDocked _ _ _ _ _ _ hv0 h13)) ?_
      refine j_if_eq C (tgt := 44) dX12_leave_33 (by decide) (fun h14 => ?_) (fun h14 => ?_)
      · replace hm := if_t hm h14
        exact tj_X12_leave_44 C _ _ _ _ _ hv0 hv0 hm
      · replace hm := if_f hm h14
        refine j_aload_n C 0 dX12_leave_36 rfl ?_
        refine j_iload_n C 1 dX12_leave_37 rfl ?_
        obtain ⟨r15, h16, hm⟩ := bd_some hm
        refine call_I (run_LV C lk_X12_315 ⟨rfl, rfl, Nat.le_of_ble_eq_true rfl, Nat.le_of_ble_eq_true rfl⟩ (As := [.int v1]) hv0 rfl rfl (Nat.le_of_ble_eq_true rfl) dX12_leave_38 (mc_X12_sits _ _ _ _ _ _ hv0 h16)) ?_
        refine j_if_eq C (tgt := 48) dX12_leave_41 (by decide) (fun h17 => ?_) (fun h17 => ?_)
        · replace hm := if_t hm h17
          refine j_iconst C (v := 0) dX12_leave_48 rfl ?_
          exact tj_X12_leave_49 C _ _ _ _ _ _ hv0 hv0 hm
        · replace hm := if_f hm h17
          exact tj_X12_leave_44 C _ _ _ _ _ hv0 hv0 hm
set_option maxRecDepth 20000 in
set_option maxHeartbeats 4000000 in
theorem mc_X12_leave (l : Launch) (N : Nat) (Λ : Lay) (μ : Mem) (v0 : Nat) (v1 : Int32) (hv0 : inL Λ v0 11) {r : Int32 × Mem} (hm : m_X12_leave N Λ μ v0 v1 = some r) : MI l yX12_leave cX12_leave 3 (some .int) rm_X12_leave Λ [.ref v0, .int v1] μ r.1 r.2 := mi_of rfl (Nat.le_of_ble_eq_true rfl) (fun x C _ => tm_X12_leave C _ _ _ _ hv0 hm)
abbrev rm_X12_comes : Room := { frames := 2, cells := 0, slots := 0, locals := 45 }
set_option maxRecDepth 20000 in
set_option maxHeartbeats 4000000 in
theorem tj_X12_comes_70 {x : Ctx} {Λ : Lay} (C : Cx x cX12_comes 4 (some .int) RX12 Λ rm_X12_comes) (N : Nat) (μ : Mem) {r : Int32 × Mem} (hm : jn_X12_comes_70 N Λ μ = some r) : J x 4 Λ (QI x Λ r.1 r.2) 70 [] [] μ := by
  refine j_iconst C (v := 0) dX12_comes_70 rfl ?_
  obtain rfl := Option.some.inj hm
  exact j_ireti C dX12_comes_71
set_option maxRecDepth 20000 in
set_option maxHeartbeats 4000000 in
theorem tj_X12_comes_63 {x : Ctx} {Λ : Lay} (C : Cx x cX12_comes 4 (some .int) RX12 Λ rm_X12_comes) (N : Nat) (μ : Mem) (v0 : Nat) (v1 : Int32) (v2 : Int32) (v3 : Int32) (s0 : Nat) (s1 : Int32) (hv0 : inL Λ v0 11) (hs0 : inL Λ s0 11) {r : Int32 × Mem} (hm : jn_X12_comes_63 N Λ μ v0 v1 v2 v3 s0 s1 = some r) : J x 4 Λ (QI x Λ r.1 r.2) 63 [(0, .ref v0), (1, .int v1), (2, .int v2), (3, .int v3)] [.int s1, .ref s0] μ := by
  refine j_iconst C (v := 2) dX12_comes_63 rfl ?_
  obtain ⟨r1, h2, hm⟩ := bd_some hm
  refine call_I (run_LV C lk_X12_282 ⟨rfl, rfl, Nat.le_of_ble_eq_true rfl, Nat.le_of_ble_eq_true rfl⟩ (As := [.int s1, .int 2]) hs0 rfl rfl (Nat.le_of_ble_eq_true rfl) dX12_comes_64 (mc_X12_throwsIf _ _ _ _ _ _ _ hs0 h2)) ?_
  refine j_if_eq C (tgt := 72) dX12_comes_67 (by decide) (fun h3 => ?_) (fun h3 => ?_)
  · replace hm := if_t hm h3
    refine j_aload_n C 0 dX12_comes_72 rfl ?_
    obtain ⟨r4, h5, hm⟩ := bd_some hm
    refine call_V (run_LV C lk_X12_363 ⟨rfl, rfl, Nat.le_of_ble_eq_true rfl, Nat.le_of_ble_eq_true rfl⟩ (As := []) hv0 rfl rfl (Nat.le_of_ble_eq_true rfl) dX12_comes_73 (mc_X12_remembers _ _ _ _ _ hv0 h5)) ?_
    refine j_aload_n C 0 dX12_comes_76 rfl ?_
    refine j_iload_n C 1 dX12_comes_77 rfl ?_
    refine j_iload_n C 2 dX12_comes_78 rfl ?_
    refine j_iload_n C 3 dX12_comes_79 rfl ?_
    obtain ⟨r6, h7, hm⟩ := bd_some hm
    refine call_V (run_LV C lk_X12_162 ⟨rfl, rfl, Nat.le_of_ble_eq_true rfl, Nat.le_of_ble_eq_true rfl⟩ (As := [.int v1, .int v2, .int v3]) hv0 rfl rfl (Nat.le_of_ble_eq_true rfl) dX12_comes_80 (mc_X12_isShip _ _ _ _ _ _ _ _ hv0 h7)) ?_
    refine j_aload_n C 0 dX12_comes_83 rfl ?_
    obtain ⟨r8, h9, hm⟩ := bd_some hm
    refine call_I (run_LV C lk_X12_95 ⟨rfl, rfl, Nat.le_of_ble_eq_true rfl, Nat.le_of_ble_eq_true rfl⟩ (As := []) hv0 rfl rfl (Nat.le_of_ble_eq_true rfl) dX12_comes_84 (mc_X12_ships _ _ _ _ _ hv0 h9)) ?_
    refine j_iconst C (v := 1) dX12_comes_87 rfl ?_
    refine j_isub C dX12_comes_88 ?_
    obtain rfl := Option.some.inj hm
    exact j_ireti C dX12_comes_89
  · replace hm := if_f hm h3
    refine j_sub [] rfl ?_
    exact tj_X12_comes_70 C _ _  hm
set_option maxRecDepth 20000 in
set_option maxHeartbeats 4000000 in
theorem tj_X12_comes_41 {x : Ctx} {Λ : Lay} (C : Cx x cX12_comes 4 (some .int) RX12 Λ rm_X12_comes) (N : Nat) (μ : Mem) (v0 : Nat) (v1 : Int32) (v2 : Int32) (v3 : Int32) (s0 : Nat) (s1 : Int32) (hv0 : inL Λ v0 11) (hs0 : inL Λ s0 11) {r : Int32 × Mem} (hm : jn_X12_comes_41 N Λ μ v0 v1 v2 v3 s0 s1 = some r) : J x 4 Λ (QI x Λ r.1 r.2) 41 [(0, .ref v0), (1, .int v1), (2, .int v2), (3, .int v3)] [.int s1, .ref s0] μ := by
  refine j_iconst C (v := 1) dX12_comes_41 rfl ?_
  obtain ⟨r1, h2, hm⟩ := bd_some hm
  refine call_I (run_LV C lk_X12_282 ⟨rfl, rfl, Nat.le_of_ble_eq_true rfl, Nat.le_of_ble_eq_true rfl⟩ (As := [.int s1, .int 1]) hs0 rfl rfl (Nat.le_of_ble_eq_true rfl) dX12_comes_42 (mc_X12_throwsIf _ _ _ _ _ _ _ hs0 h2)) ?_
  refine j_if_ne C (tgt := 70) dX12_comes_45 (by decide) (fun h3 => ?_) (fun h3 => ?_)
  · replace hm := if_f hm h3
    refine j_sub [] rfl ?_
    exact tj_X12_comes_70 C _ _  hm
  · replace hm := if_t hm h3
    refine j_aload_n C 0 dX12_comes_48 rfl ?_
    refine j_aload_n C 0 dX12_comes_49 rfl ?_
    obtain ⟨r4, h5, hm⟩ := bd_some hm
    refine call_I (run_LV C lk_X12_95 ⟨rfl, rfl, Nat.le_of_ble_eq_true rfl, Nat.le_of_ble_eq_true rfl⟩ (As := []) hv0 rfl rfl (Nat.le_of_ble_eq_true rfl) dX12_comes_50 (mc_X12_ships _ _ _ _ _ hv0 h5)) ?_
    refine j_bipush C (v := 8) dX12_comes_53 rfl ?_
    refine j_icmp_ne C (tgt := 62) dX12_comes_55 (by decide) (fun h6 => ?_) (fun h6 => ?_)
    · replace hm := if_f hm h6
      refine j_iconst C (v := 0) dX12_comes_62 rfl ?_
      exact tj_X12_comes_63 C _ _ _ _ _ _ _ _ hv0 hv0 hm
    · replace hm := if_t hm h6
      refine j_iconst C (v := 1) dX12_comes_58 rfl ?_
      refine j_goto C (tgt := 63) dX12_comes_59 (by decide) ?_
      exact tj_X12_comes_63 C _ _ _ _ _ _ _ _ hv0 hv0 hm
set_option maxRecDepth 20000 in
set_option maxHeartbeats 4000000 in
theorem tj_X12_comes_36 {x : Ctx} {Λ : Lay} (C : Cx x cX12_comes 4 (some .int) RX12 Λ rm_X12_comes) (N : Nat) (μ : Mem) (v0 : Nat) (v1 : Int32) (v2 : Int32) (v3 : Int32) (s0 : Nat) (hv0 : inL Λ v0 11) (hs0 : inL Λ s0 11) {r : Int32 × Mem} (hm : jn_X12_comes_36 N Λ μ v0 v1 v2 v3 s0 = some r) : J x 4 Λ (QI x Λ r.1 r.2) 36 [(0, .ref v0), (1, .int v1), (2, .int v2), (3, .int v3)] [.ref s0] μ := by
  refine j_iconst C (v := 1) dX12_comes_36 rfl ?_
  refine j_goto C (tgt := 41) dX12_comes_37 (by decide) ?_
  exact tj_X12_comes_41 C _ _ _ _ _ _ _ _ hv0 hs0 hm
set_option maxRecDepth 20000 in
set_option maxHeartbeats 4000000 in
theorem tm_X12_comes {x : Ctx} {Λ : Lay} (C : Cx x cX12_comes 4 (some .int) RX12 Λ rm_X12_comes) (N : Nat) (μ : Mem) (v0 : Nat) (v1 : Int32) (v2 : Int32) (v3 : Int32) (hv0 : inL Λ v0 11) {r : Int32 × Mem} (hm : m_X12_comes N Λ μ v0 v1 v2 v3 = some r) : J x 4 Λ (QI x Λ r.1 r.2) 0 [(0, .ref v0), (1, .int v1), (2, .int v2), (3, .int v3)] [] μ := by
  refine j_aload_n C 0 dX12_comes_0 rfl ?_
  refine j_iconst C (v := 0) dX12_comes_1 rfl ?_
  obtain ⟨μ1, e2, hm⟩ := lt_some hm
  refine j_putI C fp_X12_3_11 hv0 e2 dX12_comes_2 ?_
  refine j_aload_n C 0 dX12_comes_5 rfl ?_
  refine j_iload_n C 1 dX12_comes_6 rfl ?_
  refine j_iconst C (v := 1) dX12_comes_7 rfl ?_
  refine j_bipush C (v := 12) dX12_comes_8 rfl ?_
  obtain ⟨r3, h4, hm⟩ := bd_some hm
  refine call_I (run_LS C ls_X12_103 ⟨rfl, rfl, Nat.le_of_ble_eq_true rfl, Nat.le_of_ble_eq_true rfl⟩ (As := [.int v1, .int 1, .int 12]) rfl rfl (Nat.le_of_ble_eq_true rfl) dX12_comes_10 (mc_X12_in _ _ _ _ _ _ _  h4)) ?_
  refine j_if_eq C (tgt := 36) dX12_comes_13 (by decide) (fun h5 => ?_) (fun h5 => ?_)
  · replace hm := if_t hm h5
    exact tj_X12_comes_36 C _ _ _ _ _ _ _ hv0 hv0 hm
  · replace hm := if_f hm h5
    refine j_iload_n C 2 dX12_comes_16 rfl ?_
    refine j_iconst C (v := 1) dX12_comes_17 rfl ?_
    refine j_bipush C (v := 20) dX12_comes_18 rfl ?_
    obtain ⟨r6, h7, hm⟩ := bd_some hm
    refine call_I (run_LS C ls_X12_103 ⟨rfl, rfl, Nat.le_of_ble_eq_true rfl, Nat.le_of_ble_eq_true rfl⟩ (As := [.int v2, .int 1, .int 20]) rfl rfl (Nat.le_of_ble_eq_true rfl) dX12_comes_20 (mc_X12_in _ _ _ _ _ _ _  h7)) ?_
    refine j_if_eq C (tgt := 36) dX12_comes_23 (by decide) (fun h8 => ?_) (fun h8 => ?_)
    · replace hm := if_t hm h8
      exact tj_X12_comes_36 C _ _ _ _ _ _ _ hv0 hv0 hm
    · replace hm := if_f hm h8
      refine j_iload_n C 3 dX12_comes_26 rfl ?_
      refine j_iconst C (v := 0) dX12_comes_27 rfl ?_
      refine j_bipush C (v := 99) dX12_comes_28 rfl ?_
      obtain ⟨r9, h10, hm⟩ := bd_some hm
      refine call_I (run_LS C ls_X12_103 ⟨rfl, rfl, Nat.le_of_ble_eq_true rfl, Nat.le_of_ble_eq_true rfl⟩ (As := [.int v3, .int 0, .int 99]) rfl rfl (Nat.le_of_ble_eq_true rfl) dX12_comes_30 (mc_X12_in _ _ _ _ _ _ _  h10)) ?_
      refine j_if_ne C (tgt := 40) dX12_comes_33 (by decide) (fun h11 => ?_) (fun h11 => ?_)
      · replace hm := if_f hm h11
        refine j_iconst C (v := 0) dX12_comes_40 rfl ?_
        exact tj_X12_comes_41 C _ _ _ _ _ _ _ _ hv0 hv0 hm
      · replace hm := if_t hm h11
        exact tj_X12_comes_36 C _ _ _ _ _ _ _ hv0 hv0 hm
set_option maxRecDepth 20000 in
set_option maxHeartbeats 4000000 in
theorem mc_X12_comes (l : Launch) (N : Nat) (Λ : Lay) (μ : Mem) (v0 : Nat) (v1 : Int32) (v2 : Int32) (v3 : Int32) (hv0 : inL Λ v0 11) {r : Int32 × Mem} (hm : m_X12_comes N Λ μ v0 v1 v2 v3 = some r) : MI l yX12_comes cX12_comes 4 (some .int) rm_X12_comes Λ [.ref v0, .int v1, .int v2, .int v3] μ r.1 r.2 := mi_of rfl (Nat.le_of_ble_eq_true rfl) (fun x C _ => tm_X12_comes C _ _ _ _ _ _ hv0 hm)
abbrev rm_X12_block : Room := { frames := 2, cells := 0, slots := 0, locals := 44 }
set_option maxRecDepth 20000 in
set_option maxHeartbeats 4000000 in
theorem tj_X12_block_61 {x : Ctx} {Λ : Lay} (C : Cx x cX12_block 4 (some .boolean) RX12 Λ rm_X12_block) (N : Nat) (μ : Mem) (s0 : Int32) {r : Int32 × Mem} (hm : jn_X12_block_61 N Λ μ s0 = some r) : J x 4 Λ (QI x Λ r.1 r.2) 61 [] [.int s0] μ := by
  obtain ⟨h1, hm⟩ := gd_some hm
  obtain rfl := Option.some.inj hm
  exact j_iretz C h1 dX12_block_61
set_option maxRecDepth 20000 in
set_option maxHeartbeats 4000000 in
theorem tj_X12_block_43 {x : Ctx} {Λ : Lay} (C : Cx x cX12_block 4 (some .boolean) RX12 Λ rm_X12_block) (N : Nat) (μ : Mem) (v0 : Nat) (s0 : Int32) (s1 : Int32) (hv0 : inL Λ v0 11) {r : Int32 × Mem} (hm : jn_X12_block_43 N Λ μ v0 s0 s1 = some r) : J x 4 Λ (QI x Λ r.1 r.2) 43 [(0, .ref v0)] [.int s1, .int s0] μ := by
  refine j_ior C dX12_block_43 ?_
  obtain ⟨y1, e2, hm⟩ := lt_some hm
  refine j_topi e2 ?_
  refine j_istore_n C (lv' := [(3, .int y1), (0, .ref v0)]) dX12_block_44 (by decide) rfl ?_
  refine j_aload_n C 1 dX12_block_45 rfl ?_
  refine j_bipush C (v := 10) dX12_block_46 rfl ?_
  refine j_iload_n C 0 dX12_block_48 rfl ?_
  obtain ⟨r3, h4, hm⟩ := bd_some hm
  refine call_I (run_LV C lk_X12_373 ⟨rfl, rfl, Nat.le_of_ble_eq_true rfl, Nat.le_of_ble_eq_true rfl⟩ (As := [.int 10, .int y1]) hv0 rfl rfl (Nat.le_of_ble_eq_true rfl) dX12_block_49 (mc_X12_isNow _ _ _ _ _ _ _ hv0 h4)) ?_
  refine j_iload_n C 0 dX12_block_52 rfl ?_
  refine j_icmp_eq C (tgt := 60) dX12_block_53 (by decide) (fun h5 => ?_) (fun h5 => ?_)
  · replace hm := if_t hm h5
    refine j_iconst C (v := 0) dX12_block_60 rfl ?_
    refine j_sub [] rfl ?_
    exact tj_X12_block_61 C _ _ _  hm
  · replace hm := if_f hm h5
    refine j_iconst C (v := 1) dX12_block_56 rfl ?_
    refine j_goto C (tgt := 61) dX12_block_57 (by decide) ?_
    refine j_sub [] rfl ?_
    exact tj_X12_block_61 C _ _ _  hm
set_option maxRecDepth 20000 in
set_option maxHeartbeats 4000000 in
theorem tm_X12_block {x : Ctx} {Λ : Lay} (C : Cx x cX12_block 4 (some .boolean) RX12 Λ rm_X12_block) (N : Nat) (μ : Mem) (v0 : Nat) (v1 : Int32) (v2 : Int32) (hv0 : inL Λ v0 11) {r : Int32 × Mem} (hm : m_X12_block N Λ μ v0 v1 v2 = some r) : J x 4 Λ (QI x Λ r.1 r.2) 0 [(0, .ref v0), (1, .int v1), (2, .int v2)] [] μ := by
  refine j_aload_n C 0 dX12_block_0 rfl ?_
  refine j_iconst C (v := 0) dX12_block_1 rfl ?_
  obtain ⟨μ1, e2, hm⟩ := lt_some hm
  refine j_putI C fp_X12_3_11 hv0 e2 dX12_block_2 ?_
  refine j_aload_n C 0 dX12_block_5 rfl ?_
  refine j_iload_n C 1 dX12_block_6 rfl ?_
  obtain ⟨r3, h4, hm⟩ := bd_some hm
  refine call_I (run_LS C ls_X12_360 ⟨rfl, rfl, Nat.le_of_ble_eq_true rfl, Nat.le_of_ble_eq_true rfl⟩ (As := [.int v1]) rfl rfl (Nat.le_of_ble_eq_true rfl) dX12_block_7 (mc_X12_noPlace _ _ _ _ _  h4)) ?_
  refine j_iconst C (v := 1) dX12_block_10 rfl ?_
  obtain ⟨r5, h6, hm⟩ := bd_some hm
  refine call_I (run_LV C lk_X12_282 ⟨rfl, rfl, Nat.le_of_ble_eq_true rfl, Nat.le_of_ble_eq_true rfl⟩ (As := [.int r3, .int 1]) hv0 rfl rfl (Nat.le_of_ble_eq_true rfl) dX12_block_11 (mc_X12_throwsIf _ _ _ _ _ _ _ hv0 h6)) ?_
  refine j_if_eq C (tgt := 19) dX12_block_14 (by decide) (fun h7 => ?_) (fun h7 => ?_)
  · replace hm := if_t hm h7
    refine j_aload_n C 0 dX12_block_19 rfl ?_
    obtain ⟨q8, h9, hm⟩ := bd_some hm
    refine j_getR C fg_X12_13_11 hv0 (dr_spec h9).1 dX12_block_20 ?_
    refine j_bipush C (v := 10) dX12_block_23 rfl ?_
    obtain ⟨h10, hm⟩ := gd_some hm
    refine j_iald C ((dr_spec h9).2) h10 dX12_block_25 ?_
    refine j_iconst C (v := 1) dX12_block_26 rfl ?_
    refine j_iload_n C 1 dX12_block_27 rfl ?_
    refine j_ishl C dX12_block_28 ?_
    refine j_iconst C (v := -1) dX12_block_29 rfl ?_
    refine j_ixor C dX12_block_30 ?_
    refine j_iand C dX12_block_31 ?_
    refine j_iload_n C 2 dX12_block_32 rfl ?_
    refine j_if_eq C (tgt := 42) dX12_block_33 (by decide) (fun h11 => ?_) (fun h11 => ?_)
    · replace hm := if_t hm h11
      refine j_iconst C (v := 0) dX12_block_42 rfl ?_
      refine j_sub [0] rfl ?_
      exact tj_X12_block_43 C _ _ _ _ _ hv0 hm
    · replace hm := if_f hm h11
      refine j_iconst C (v := 1) dX12_block_36 rfl ?_
      refine j_iload_n C 1 dX12_block_37 rfl ?_
      refine j_ishl C dX12_block_38 ?_
      refine j_goto C (tgt := 43) dX12_block_39 (by decide) ?_
      refine j_sub [0] rfl ?_
      exact tj_X12_block_43 C _ _ _ _ _ hv0 hm
  · replace hm := if_f hm h7
    refine j_iconst C (v := 0) dX12_block_17 rfl ?_
    obtain rfl := Option.some.inj hm
    exact j_iretz C rfl dX12_block_18
set_option maxRecDepth 20000 in
set_option maxHeartbeats 4000000 in
theorem mc_X12_block (l : Launch) (N : Nat) (Λ : Lay) (μ : Mem) (v0 : Nat) (v1 : Int32) (v2 : Int32) (hv0 : inL Λ v0 11) {r : Int32 × Mem} (hm : m_X12_block N Λ μ v0 v1 v2 = some r) : MI l yX12_block cX12_block 4 (some .boolean) rm_X12_block Λ [.ref v0, .int v1, .int v2] μ r.1 r.2 := mi_of rfl (Nat.le_of_ble_eq_true rfl) (fun x C _ => tm_X12_block C _ _ _ _ _ hv0 hm)
abbrev rm_X12_isFigure : Room := { frames := 2, cells := 0, slots := 0, locals := 44 }
set_option maxRecDepth 20000 in
set_option maxHeartbeats 4000000 in
theorem tj_X12_isFigure_38 {x : Ctx} {Λ : Lay} (C : Cx x cX12_isFigure 3 (some .int) RX12 Λ rm_X12_isFigure) (N : Nat) (μ : Mem) (s0 : Int32) {r : Int32 × Mem} (hm : jn_X12_isFigure_38 N Λ μ s0 = some r) : J x 3 Λ (QI x Λ r.1 r.2) 38 [] [.int s0] μ := by
  obtain rfl := Option.some.inj hm
  exact j_ireti C dX12_isFigure_38
set_option maxRecDepth 20000 in
set_option maxHeartbeats 4000000 in
theorem tj_X12_isFigure_21 {x : Ctx} {Λ : Lay} (C : Cx x cX12_isFigure 3 (some .int) RX12 Λ rm_X12_isFigure) (N : Nat) (μ : Mem) (v0 : Nat) (v1 : Int32) (v2 : Int32) (s0 : Nat) (s1 : Int32) (hv0 : inL Λ v0 11) (hs0 : inL Λ s0 11) {r : Int32 × Mem} (hm : jn_X12_isFigure_21 N Λ μ v0 v1 v2 s0 s1 = some r) : J x 3 Λ (QI x Λ r.1 r.2) 21 [(0, .ref v0), (1, .int v1), (2, .int v2)] [.int s1, .ref s0] μ := by
  refine j_iconst C (v := 1) dX12_isFigure_21 rfl ?_
  obtain ⟨r1, h2, hm⟩ := bd_some hm
  refine call_I (run_LV C lk_X12_282 ⟨rfl, rfl, Nat.le_of_ble_eq_true rfl, Nat.le_of_ble_eq_true rfl⟩ (As := [.int s1, .int 1]) hs0 rfl rfl (Nat.le_of_ble_eq_true rfl) dX12_isFigure_22 (mc_X12_throwsIf _ _ _ _ _ _ _ hs0 h2)) ?_
  refine j_if_eq C (tgt := 32) dX12_isFigure_25 (by decide) (fun h3 => ?_) (fun h3 => ?_)
  · replace hm := if_t hm h3
    refine j_aload_n C 0 dX12_isFigure_32 rfl ?_
    refine j_iload_n C 1 dX12_isFigure_33 rfl ?_
    refine j_iload_n C 2 dX12_isFigure_34 rfl ?_
    obtain ⟨r4, h5, hm⟩ := bd_some hm
    refine call_I (run_LV C lk_X12_373 ⟨rfl, rfl, Nat.le_of_ble_eq_true rfl, Nat.le_of_ble_eq_true rfl⟩ (As := [.int v1, .int v2]) hv0 rfl rfl (Nat.le_of_ble_eq_true rfl) dX12_isFigure_35 (mc_X12_isNow _ _ _ _ _ _ _ hv0 h5)) ?_
    refine j_sub [] rfl ?_
    exact tj_X12_isFigure_38 C _ _ _  hm
  · replace hm := if_f hm h3
    refine j_iconst C (v := 0) dX12_isFigure_28 rfl ?_
    refine j_goto C (tgt := 38) dX12_isFigure_29 (by decide) ?_
    refine j_sub [] rfl ?_
    exact tj_X12_isFigure_38 C _ _ _  hm
set_option maxRecDepth 20000 in
set_option maxHeartbeats 4000000 in
theorem tm_X12_isFigure {x : Ctx} {Λ : Lay} (C : Cx x cX12_isFigure 3 (some .int) RX12 Λ rm_X12_isFigure) (N : Nat) (μ : Mem) (v0 : Nat) (v1 : Int32) (v2 : Int32) (hv0 : inL Λ v0 11) {r : Int32 × Mem} (hm : m_X12_isFigure N Λ μ v0 v1 v2 = some r) : J x 3 Λ (QI x Λ r.1 r.2) 0 [(0, .ref v0), (1, .int v1), (2, .int v2)] [] μ := by
  refine j_aload_n C 0 dX12_isFigure_0 rfl ?_
  refine j_iconst C (v := 0) dX12_isFigure_1 rfl ?_
  obtain ⟨μ1, e2, hm⟩ := lt_some hm
  refine j_putI C fp_X12_3_11 hv0 e2 dX12_isFigure_2 ?_
  refine j_aload_n C 0 dX12_isFigure_5 rfl ?_
  refine j_iload_n C 2 dX12_isFigure_6 rfl ?_
  refine j_iconst C (v := 0) dX12_isFigure_7 rfl ?_
  refine j_bipush C (v := 9) dX12_isFigure_8 rfl ?_
  obtain ⟨r3, h4, hm⟩ := bd_some hm
  refine call_I (run_LS C ls_X12_103 ⟨rfl, rfl, Nat.le_of_ble_eq_true rfl, Nat.le_of_ble_eq_true rfl⟩ (As := [.int v2, .int 0, .int 9]) rfl rfl (Nat.le_of_ble_eq_true rfl) dX12_isFigure_10 (mc_X12_in _ _ _ _ _ _ _  h4)) ?_
  refine j_if_ne C (tgt := 20) dX12_isFigure_13 (by decide) (fun h5 => ?_) (fun h5 => ?_)
  · replace hm := if_f hm h5
    refine j_iconst C (v := 0) dX12_isFigure_20 rfl ?_
    exact tj_X12_isFigure_21 C _ _ _ _ _ _ _ hv0 hv0 hm
  · replace hm := if_t hm h5
    refine j_iconst C (v := 1) dX12_isFigure_16 rfl ?_
    refine j_goto C (tgt := 21) dX12_isFigure_17 (by decide) ?_
    exact tj_X12_isFigure_21 C _ _ _ _ _ _ _ hv0 hv0 hm
set_option maxRecDepth 20000 in
set_option maxHeartbeats 4000000 in
theorem mc_X12_isFigure (l : Launch) (N : Nat) (Λ : Lay) (μ : Mem) (v0 : Nat) (v1 : Int32) (v2 : Int32) (hv0 : inL Λ v0 11) {r : Int32 × Mem} (hm : m_X12_isFigure N Λ μ v0 v1 v2 = some r) : MI l yX12_isFigure cX12_isFigure 3 (some .int) rm_X12_isFigure Λ [.ref v0, .int v1, .int v2] μ r.1 r.2 := mi_of rfl (Nat.le_of_ble_eq_true rfl) (fun x C _ => tm_X12_isFigure C _ _ _ _ _ hv0 hm)
abbrev rm_X12_pumps : Room := { frames := 3, cells := 0, slots := 0, locals := 66 }
set_option maxRecDepth 20000 in
set_option maxHeartbeats 4000000 in
theorem tm_X12_pumps {x : Ctx} {Λ : Lay} (C : Cx x cX12_pumps 2 (some .int) RX12 Λ rm_X12_pumps) (N : Nat) (μ : Mem) (v0 : Nat) (v1 : Int32) (hv0 : inL Λ v0 11) {r : Int32 × Mem} (hm : m_X12_pumps N Λ μ v0 v1 = some r) : J x 2 Λ (QI x Λ r.1 r.2) 0 [(0, .ref v0), (1, .int v1)] [] μ := by
  refine j_aload_n C 0 dX12_pumps_0 rfl ?_
  refine j_iconst C (v := 5) dX12_pumps_1 rfl ?_
  refine j_iload_n C 1 dX12_pumps_2 rfl ?_
  obtain ⟨r1, h2, hm⟩ := bd_some hm
  refine call_I (run_LV C lk_X12_387 ⟨rfl, rfl, Nat.le_of_ble_eq_true rfl, Nat.le_of_ble_eq_true rfl⟩ (As := [.int 5, .int v1]) hv0 rfl rfl (Nat.le_of_ble_eq_true rfl) dX12_pumps_3 (mc_X12_isFigure _ _ _ _ _ _ _ hv0 h2)) ?_
  obtain rfl := Option.some.inj hm
  exact j_ireti C dX12_pumps_6
set_option maxRecDepth 20000 in
set_option maxHeartbeats 4000000 in
theorem mc_X12_pumps (l : Launch) (N : Nat) (Λ : Lay) (μ : Mem) (v0 : Nat) (v1 : Int32) (hv0 : inL Λ v0 11) {r : Int32 × Mem} (hm : m_X12_pumps N Λ μ v0 v1 = some r) : MI l yX12_pumps cX12_pumps 2 (some .int) rm_X12_pumps Λ [.ref v0, .int v1] μ r.1 r.2 := mi_of rfl (Nat.le_of_ble_eq_true rfl) (fun x C _ => tm_X12_pumps C _ _ _ _ hv0 hm)
abbrev rm_X12_hands : Room := { frames := 3, cells := 0, slots := 0, locals := 66 }
set_option maxRecDepth 20000 in
set_option maxHeartbeats 4000000 in
theorem tm_X12_hands {x : Ctx} {Λ : Lay} (C : Cx x cX12_hands 2 (some .int) RX12 Λ rm_X12_hands) (N : Nat) (μ : Mem) (v0 : Nat) (v1 : Int32) (hv0 : inL Λ v0 11) {r : Int32 × Mem} (hm : m_X12_hands N Λ μ v0 v1 = some r) : J x 2 Λ (QI x Λ r.1 r.2) 0 [(0, .ref v0), (1, .int v1)] [] μ := by
  refine j_aload_n C 0 dX12_hands_0 rfl ?_
  refine j_bipush C (v := 6) dX12_hands_1 rfl ?_
  refine j_iload_n C 1 dX12_hands_3 rfl ?_
  obtain ⟨r1, h2, hm⟩ := bd_some hm
  refine call_I (run_LV C lk_X12_387 ⟨rfl, rfl, Nat.le_of_ble_eq_true rfl, Nat.le_of_ble_eq_true rfl⟩ (As := [.int 6, .int v1]) hv0 rfl rfl (Nat.le_of_ble_eq_true rfl) dX12_hands_4 (mc_X12_isFigure _ _ _ _ _ _ _ hv0 h2)) ?_
  obtain rfl := Option.some.inj hm
  exact j_ireti C dX12_hands_7
set_option maxRecDepth 20000 in
set_option maxHeartbeats 4000000 in
theorem mc_X12_hands (l : Launch) (N : Nat) (Λ : Lay) (μ : Mem) (v0 : Nat) (v1 : Int32) (hv0 : inL Λ v0 11) {r : Int32 × Mem} (hm : m_X12_hands N Λ μ v0 v1 = some r) : MI l yX12_hands cX12_hands 2 (some .int) rm_X12_hands Λ [.ref v0, .int v1] μ r.1 r.2 := mi_of rfl (Nat.le_of_ble_eq_true rfl) (fun x C _ => tm_X12_hands C _ _ _ _ hv0 hm)
abbrev rm_X12_flow : Room := { frames := 2, cells := 0, slots := 0, locals := 44 }
set_option maxRecDepth 20000 in
set_option maxHeartbeats 4000000 in
theorem tj_X12_flow_64 {x : Ctx} {Λ : Lay} (C : Cx x cX12_flow 3 (some .int) RX12 Λ rm_X12_flow) (N : Nat) (μ : Mem) (s0 : Int32) {r : Int32 × Mem} (hm : jn_X12_flow_64 N Λ μ s0 = some r) : J x 3 Λ (QI x Λ r.1 r.2) 64 [] [.int s0] μ := by
  obtain rfl := Option.some.inj hm
  exact j_ireti C dX12_flow_64
set_option maxRecDepth 20000 in
set_option maxHeartbeats 4000000 in
theorem tj_X12_flow_51 {x : Ctx} {Λ : Lay} (C : Cx x cX12_flow 3 (some .int) RX12 Λ rm_X12_flow) (N : Nat) (μ : Mem) {r : Int32 × Mem} (hm : jn_X12_flow_51 N Λ μ = some r) : J x 3 Λ (QI x Λ r.1 r.2) 51 [] [] μ := by
  refine j_iconst C (v := 0) dX12_flow_51 rfl ?_
  refine j_goto C (tgt := 64) dX12_flow_52 (by decide) ?_
  exact tj_X12_flow_64 C _ _ _  hm
set_option maxRecDepth 20000 in
set_option maxHeartbeats 4000000 in
theorem tj_X12_flow_44 {x : Ctx} {Λ : Lay} (C : Cx x cX12_flow 3 (some .int) RX12 Λ rm_X12_flow) (N : Nat) (μ : Mem) (v0 : Nat) (v1 : Int32) (v2 : Int32) (s0 : Nat) (s1 : Int32) (hv0 : inL Λ v0 11) (hs0 : inL Λ s0 11) {r : Int32 × Mem} (hm : jn_X12_flow_44 N Λ μ v0 v1 v2 s0 s1 = some r) : J x 3 Λ (QI x Λ r.1 r.2) 44 [(0, .ref v0), (1, .int v1), (2, .int v2)] [.int s1, .ref s0] μ := by
  refine j_iconst C (v := 2) dX12_flow_44 rfl ?_
  obtain ⟨r1, h2, hm⟩ := bd_some hm
  refine call_I (run_LV C lk_X12_282 ⟨rfl, rfl, Nat.le_of_ble_eq_true rfl, Nat.le_of_ble_eq_true rfl⟩ (As := [.int s1, .int 2]) hs0 rfl rfl (Nat.le_of_ble_eq_true rfl) dX12_flow_45 (mc_X12_throwsIf _ _ _ _ _ _ _ hs0 h2)) ?_
  refine j_if_eq C (tgt := 55) dX12_flow_48 (by decide) (fun h3 => ?_) (fun h3 => ?_)
  · replace hm := if_t hm h3
    refine j_aload_n C 0 dX12_flow_55 rfl ?_
    refine j_bipush C (v := 13) dX12_flow_56 rfl ?_
    refine j_iload_n C 1 dX12_flow_58 rfl ?_
    refine j_iadd C dX12_flow_59 ?_
    refine j_iload_n C 2 dX12_flow_60 rfl ?_
    obtain ⟨r4, h5, hm⟩ := bd_some hm
    refine call_I (run_LV C lk_X12_373 ⟨rfl, rfl, Nat.le_of_ble_eq_true rfl, Nat.le_of_ble_eq_true rfl⟩ (As := [.int (13 + v1), .int v2]) hv0 rfl rfl (Nat.le_of_ble_eq_true rfl) dX12_flow_61 (mc_X12_isNow _ _ _ _ _ _ _ hv0 h5)) ?_
    refine j_sub [] rfl ?_
    exact tj_X12_flow_64 C _ _ _  hm
  · replace hm := if_f hm h3
    refine j_sub [] rfl ?_
    exact tj_X12_flow_51 C _ _  hm
set_option maxRecDepth 20000 in
set_option maxHeartbeats 4000000 in
theorem tj_X12_flow_21 {x : Ctx} {Λ : Lay} (C : Cx x cX12_flow 3 (some .int) RX12 Λ rm_X12_flow) (N : Nat) (μ : Mem) (v0 : Nat) (v1 : Int32) (v2 : Int32) (s0 : Nat) (s1 : Int32) (hv0 : inL Λ v0 11) (hs0 : inL Λ s0 11) {r : Int32 × Mem} (hm : jn_X12_flow_21 N Λ μ v0 v1 v2 s0 s1 = some r) : J x 3 Λ (QI x Λ r.1 r.2) 21 [(0, .ref v0), (1, .int v1), (2, .int v2)] [.int s1, .ref s0] μ := by
  refine j_iconst C (v := 1) dX12_flow_21 rfl ?_
  obtain ⟨r1, h2, hm⟩ := bd_some hm
  refine call_I (run_LV C lk_X12_282 ⟨rfl, rfl, Nat.le_of_ble_eq_true rfl, Nat.le_of_ble_eq_true rfl⟩ (As := [.int s1, .int 1]) hs0 rfl rfl (Nat.le_of_ble_eq_true rfl) dX12_flow_22 (mc_X12_throwsIf _ _ _ _ _ _ _ hs0 h2)) ?_
  refine j_if_ne C (tgt := 51) dX12_flow_25 (by decide) (fun h3 => ?_) (fun h3 => ?_)
  · replace hm := if_f hm h3
    refine j_sub [] rfl ?_
    exact tj_X12_flow_51 C _ _  hm
  · replace hm := if_t hm h3
    refine j_aload_n C 0 dX12_flow_28 rfl ?_
    refine j_iload_n C 2 dX12_flow_29 rfl ?_
    refine j_iconst C (v := 0) dX12_flow_30 rfl ?_
    refine j_bipush C (v := 30) dX12_flow_31 rfl ?_
    obtain ⟨r4, h5, hm⟩ := bd_some hm
    refine call_I (run_LS C ls_X12_103 ⟨rfl, rfl, Nat.le_of_ble_eq_true rfl, Nat.le_of_ble_eq_true rfl⟩ (As := [.int v2, .int 0, .int 30]) rfl rfl (Nat.le_of_ble_eq_true rfl) dX12_flow_33 (mc_X12_in _ _ _ _ _ _ _  h5)) ?_
    refine j_if_ne C (tgt := 43) dX12_flow_36 (by decide) (fun h6 => ?_) (fun h6 => ?_)
    · replace hm := if_f hm h6
      refine j_iconst C (v := 0) dX12_flow_43 rfl ?_
      exact tj_X12_flow_44 C _ _ _ _ _ _ _ hv0 hv0 hm
    · replace hm := if_t hm h6
      refine j_iconst C (v := 1) dX12_flow_39 rfl ?_
      refine j_goto C (tgt := 44) dX12_flow_40 (by decide) ?_
      exact tj_X12_flow_44 C _ _ _ _ _ _ _ hv0 hv0 hm
set_option maxRecDepth 20000 in
set_option maxHeartbeats 4000000 in
theorem tm_X12_flow {x : Ctx} {Λ : Lay} (C : Cx x cX12_flow 3 (some .int) RX12 Λ rm_X12_flow) (N : Nat) (μ : Mem) (v0 : Nat) (v1 : Int32) (v2 : Int32) (hv0 : inL Λ v0 11) {r : Int32 × Mem} (hm : m_X12_flow N Λ μ v0 v1 v2 = some r) : J x 3 Λ (QI x Λ r.1 r.2) 0 [(0, .ref v0), (1, .int v1), (2, .int v2)] [] μ := by
  refine j_aload_n C 0 dX12_flow_0 rfl ?_
  refine j_iconst C (v := 0) dX12_flow_1 rfl ?_
  obtain ⟨μ1, e2, hm⟩ := lt_some hm
  refine j_putI C fp_X12_3_11 hv0 e2 dX12_flow_2 ?_
  refine j_aload_n C 0 dX12_flow_5 rfl ?_
  refine j_iload_n C 1 dX12_flow_6 rfl ?_
  refine j_iconst C (v := 0) dX12_flow_7 rfl ?_
  refine j_bipush C (v := 11) dX12_flow_8 rfl ?_
  obtain ⟨r3, h4, hm⟩ := bd_some hm
  refine call_I (run_LS C ls_X12_103 ⟨rfl, rfl, Nat.le_of_ble_eq_true rfl, Nat.le_of_ble_eq_true rfl⟩ (As := [.int v1, .int 0, .int 11]) rfl rfl (Nat.le_of_ble_eq_true rfl) dX12_flow_10 (mc_X12_in _ _ _ _ _ _ _  h4)) ?_
  refine j_if_ne C (tgt := 20) dX12_flow_13 (by decide) (fun h5 => ?_) (fun h5 => ?_)
  · replace hm := if_f hm h5
    refine j_iconst C (v := 0) dX12_flow_20 rfl ?_
    exact tj_X12_flow_21 C _ _ _ _ _ _ _ hv0 hv0 hm
  · replace hm := if_t hm h5
    refine j_iconst C (v := 1) dX12_flow_16 rfl ?_
    refine j_goto C (tgt := 21) dX12_flow_17 (by decide) ?_
    exact tj_X12_flow_21 C _ _ _ _ _ _ _ hv0 hv0 hm
set_option maxRecDepth 20000 in
set_option maxHeartbeats 4000000 in
theorem mc_X12_flow (l : Launch) (N : Nat) (Λ : Lay) (μ : Mem) (v0 : Nat) (v1 : Int32) (v2 : Int32) (hv0 : inL Λ v0 11) {r : Int32 × Mem} (hm : m_X12_flow N Λ μ v0 v1 v2 = some r) : MI l yX12_flow cX12_flow 3 (some .int) rm_X12_flow Λ [.ref v0, .int v1, .int v2] μ r.1 r.2 := mi_of rfl (Nat.le_of_ble_eq_true rfl) (fun x C _ => tm_X12_flow C _ _ _ _ _ hv0 hm)
abbrev rm_X12_pulls : Room := { frames := 7, cells := 0, slots := 0, locals := 161 }
set_option maxRecDepth 20000 in
set_option maxHeartbeats 4000000 in
theorem tm_X12_pulls {x : Ctx} {Λ : Lay} (C : Cx x cX12_pulls 1 (some .int) RX12 Λ rm_X12_pulls) (N : Nat) (μ : Mem) (v0 : Nat) (hv0 : inL Λ v0 11) {r : Int32 × Mem} (hm : m_X12_pulls N Λ μ v0 = some r) : J x 1 Λ (QI x Λ r.1 r.2) 0 [(0, .ref v0)] [] μ := by
  refine j_aload_n C 0 dX12_pulls_0 rfl ?_
  refine j_iconst C (v := 0) dX12_pulls_1 rfl ?_
  obtain ⟨μ1, e2, hm⟩ := lt_some hm
  refine j_putI C fp_X12_3_11 hv0 e2 dX12_pulls_2 ?_
  refine j_aload_n C 0 dX12_pulls_5 rfl ?_
  obtain ⟨r3, h4, hm⟩ := bd_some hm
  refine call_I (run_LV C lk_X12_330 ⟨rfl, rfl, Nat.le_of_ble_eq_true rfl, Nat.le_of_ble_eq_true rfl⟩ (As := []) hv0 rfl rfl (Nat.le_of_ble_eq_true rfl) dX12_pulls_6 (mc_X12_pullsNow _ _ _ _ _ hv0 h4)) ?_
  obtain rfl := Option.some.inj hm
  exact j_ireti C dX12_pulls_9
set_option maxRecDepth 20000 in
set_option maxHeartbeats 4000000 in
theorem mc_X12_pulls (l : Launch) (N : Nat) (Λ : Lay) (μ : Mem) (v0 : Nat) (hv0 : inL Λ v0 11) {r : Int32 × Mem} (hm : m_X12_pulls N Λ μ v0 = some r) : MI l yX12_pulls cX12_pulls 1 (some .int) rm_X12_pulls Λ [.ref v0] μ r.1 r.2 := mi_of rfl (Nat.le_of_ble_eq_true rfl) (fun x C _ => tm_X12_pulls C _ _ _ hv0 hm)
abbrev rm_X12_leaks : Room := { frames := 7, cells := 0, slots := 0, locals := 161 }
set_option maxRecDepth 20000 in
set_option maxHeartbeats 4000000 in
theorem tm_X12_leaks {x : Ctx} {Λ : Lay} (C : Cx x cX12_leaks 1 (some .int) RX12 Λ rm_X12_leaks) (N : Nat) (μ : Mem) (v0 : Nat) (hv0 : inL Λ v0 11) {r : Int32 × Mem} (hm : m_X12_leaks N Λ μ v0 = some r) : J x 1 Λ (QI x Λ r.1 r.2) 0 [(0, .ref v0)] [] μ := by
  refine j_aload_n C 0 dX12_leaks_0 rfl ?_
  refine j_iconst C (v := 0) dX12_leaks_1 rfl ?_
  obtain ⟨μ1, e2, hm⟩ := lt_some hm
  refine j_putI C fp_X12_3_11 hv0 e2 dX12_leaks_2 ?_
  refine j_aload_n C 0 dX12_leaks_5 rfl ?_
  obtain ⟨r3, h4, hm⟩ := bd_some hm
  refine call_I (run_LV C lk_X12_327 ⟨rfl, rfl, Nat.le_of_ble_eq_true rfl, Nat.le_of_ble_eq_true rfl⟩ (As := []) hv0 rfl rfl (Nat.le_of_ble_eq_true rfl) dX12_leaks_6 (mc_X12_leaksNow _ _ _ _ _ hv0 h4)) ?_
  obtain rfl := Option.some.inj hm
  exact j_ireti C dX12_leaks_9
set_option maxRecDepth 20000 in
set_option maxHeartbeats 4000000 in
theorem mc_X12_leaks (l : Launch) (N : Nat) (Λ : Lay) (μ : Mem) (v0 : Nat) (hv0 : inL Λ v0 11) {r : Int32 × Mem} (hm : m_X12_leaks N Λ μ v0 = some r) : MI l yX12_leaks cX12_leaks 1 (some .int) rm_X12_leaks Λ [.ref v0] μ r.1 r.2 := mi_of rfl (Nat.le_of_ble_eq_true rfl) (fun x C _ => tm_X12_leaks C _ _ _ hv0 hm)
abbrev rm_X12_even : Room := { frames := 2, cells := 0, slots := 0, locals := 80 }
set_option maxRecDepth 20000 in
set_option maxHeartbeats 4000000 in
theorem tm_X12_even {x : Ctx} {Λ : Lay} (C : Cx x cX12_even 1 (some .boolean) RX12 Λ rm_X12_even) (N : Nat) (μ : Mem) (v0 : Nat) (hv0 : inL Λ v0 11) {r : Int32 × Mem} (hm : m_X12_even N Λ μ v0 = some r) : J x 1 Λ (QI x Λ r.1 r.2) 0 [(0, .ref v0)] [] μ := by
  refine j_aload_n C 0 dX12_even_0 rfl ?_
  refine j_iconst C (v := 0) dX12_even_1 rfl ?_
  obtain ⟨μ1, e2, hm⟩ := lt_some hm
  refine j_putI C fp_X12_3_11 hv0 e2 dX12_even_2 ?_
  refine j_aload_n C 0 dX12_even_5 rfl ?_
  obtain ⟨r3, h4, hm⟩ := bd_some hm
  refine call_I (run_LV C lk_X12_370 ⟨rfl, rfl, Nat.le_of_ble_eq_true rfl, Nat.le_of_ble_eq_true rfl⟩ (As := []) hv0 rfl rfl (Nat.le_of_ble_eq_true rfl) dX12_even_6 (mc_X12_isEven _ _ _ _ _ hv0 h4)) ?_
  obtain ⟨h5, hm⟩ := gd_some hm
  obtain rfl := Option.some.inj hm
  exact j_iretz C h5 dX12_even_9
set_option maxRecDepth 20000 in
set_option maxHeartbeats 4000000 in
theorem mc_X12_even (l : Launch) (N : Nat) (Λ : Lay) (μ : Mem) (v0 : Nat) (hv0 : inL Λ v0 11) {r : Int32 × Mem} (hm : m_X12_even N Λ μ v0 = some r) : MI l yX12_even cX12_even 1 (some .boolean) rm_X12_even Λ [.ref v0] μ r.1 r.2 := mi_of rfl (Nat.le_of_ble_eq_true rfl) (fun x C _ => tm_X12_even C _ _ _ hv0 hm)
abbrev rm_X12_room : Room := { frames := 5, cells := 0, slots := 0, locals := 107 }
set_option maxRecDepth 20000 in
set_option maxHeartbeats 4000000 in
theorem tj_X12_room_40 {x : Ctx} {Λ : Lay} (C : Cx x cX12_room 5 (some .int) RX12 Λ rm_X12_room) (N : Nat) (μ : Mem) (k17 : Int32 × Int32 × Int32 × Mem → Option (Int32 × Mem)) (v1 : Int32) (v2 : Int32) (v4 : Int32) (s0 : Int32) (hk17 : ∀ (s : Int32 × Int32 × Int32 × Mem) (r : Int32 × Mem), k17 s = some r → J x 5 Λ (QI x Λ r.1 r.2) 17 [(1, .int v1), (2, .int s.1), (3, .int s.2.1), (4, .int s.2.2.1)] [] (s.2.2.2)) {r : Int32 × Mem} (hm : jn_X12_room_40 N Λ μ k17 v1 v2 v4 s0 = some r) : J x 5 Λ (QI x Λ r.1 r.2) 40 [(1, .int v1), (2, .int v2), (4, .int v4)] [.int s0] μ := by
  refine j_istore_n C (lv' := [(3, .int s0), (1, .int v1), (2, .int v2), (4, .int v4)]) dX12_room_40 (by decide) rfl ?_
  refine j_iload_n C 2 dX12_room_41 rfl ?_
  refine j_iload_n C 0 dX12_room_42 rfl ?_
  refine j_mmax C wk_1942 ⟨Nat.le_of_ble_eq_true rfl, Nat.le_of_ble_eq_true rfl⟩ dX12_room_43 ?_
  obtain ⟨y1, e2, hm⟩ := lt_some hm
  refine j_topi e2 ?_
  refine j_istore_n C (lv' := [(2, .int y1), (3, .int s0), (1, .int v1), (4, .int v4)]) dX12_room_46 (by decide) rfl ?_
  obtain ⟨y3, e4, hm⟩ := lt_some hm
  refine j_iinc C 3 (v := y3) (lv' := [(4, .int y3), (2, .int y1), (3, .int s0), (1, .int v1)]) dX12_room_47 rfl (by rw [e4]; rfl) (by decide) rfl ?_
  refine j_goto C (tgt := 17) dX12_room_50 (by decide) ?_
  refine j_sub [3, 1, 2, 0] rfl ?_
  exact hk17 (y1, s0, y3, μ) _ hm
set_option maxRecDepth 20000 in
set_option maxHeartbeats 4000000 in
theorem tb_X12_room_17 {x : Ctx} {Λ : Lay} (C : Cx x cX12_room 5 (some .int) RX12 Λ rm_X12_room) (N : Nat) (μ : Mem) (k17 : Int32 × Int32 × Int32 × Mem → Option (Int32 × Mem)) (v1 : Int32) (v2 : Int32) (v3 : Int32) (v4 : Int32) (hk17 : ∀ (s : Int32 × Int32 × Int32 × Mem) (r : Int32 × Mem), k17 s = some r → J x 5 Λ (QI x Λ r.1 r.2) 17 [(1, .int v1), (2, .int s.1), (3, .int s.2.1), (4, .int s.2.2.1)] [] (s.2.2.2)) {r : Int32 × Mem} (hm : bd_X12_room_17 N Λ μ k17 v1 v2 v3 v4 = some r) : J x 5 Λ (QI x Λ r.1 r.2) 17 [(1, .int v1), (2, .int v2), (3, .int v3), (4, .int v4)] [] μ := by
  refine j_iload C 3 dX12_room_17 rfl ?_
  refine j_bipush C (v := 24) dX12_room_19 rfl ?_
  refine j_icmp_ge C (tgt := 53) dX12_room_21 (by decide) (fun h1 => ?_) (fun h1 => ?_)
  · replace hm := if_t hm h1
    refine j_iload_n C 1 dX12_room_53 rfl ?_
    obtain rfl := Option.some.inj hm
    exact j_ireti C dX12_room_54
  · replace hm := if_f hm h1
    refine j_iload_n C 0 dX12_room_24 rfl ?_
    refine j_iload C 3 dX12_room_25 rfl ?_
    obtain ⟨r2, h3, hm⟩ := bd_some hm
    refine call_I (run_LS C ls_X12_306 ⟨rfl, rfl, Nat.le_of_ble_eq_true rfl, Nat.le_of_ble_eq_true rfl⟩ (As := [.int v1, .int v4]) rfl rfl (Nat.le_of_ble_eq_true rfl) dX12_room_27 (mc_X12_has _ _ _ _ _ _  h3)) ?_
    refine j_if_eq C (tgt := 37) dX12_room_30 (by decide) (fun h4 => ?_) (fun h4 => ?_)
    · replace hm := if_t hm h4
      refine j_iload_n C 2 dX12_room_37 rfl ?_
      refine j_iconst C (v := 1) dX12_room_38 rfl ?_
      refine j_iadd C dX12_room_39 ?_
      refine j_sub [0, 1, 3] rfl ?_
      exact tj_X12_room_40 C _ _ _ _ _ _ _ hk17 hm
    · replace hm := if_f hm h4
      refine j_iconst C (v := 0) dX12_room_33 rfl ?_
      refine j_goto C (tgt := 40) dX12_room_34 (by decide) ?_
      refine j_sub [0, 1, 3] rfl ?_
      exact tj_X12_room_40 C _ _ _ _ _ _ _ hk17 hm
set_option maxRecDepth 20000 in
set_option maxHeartbeats 4000000 in
theorem tl_X12_room_17 {x : Ctx} {Λ : Lay} (C : Cx x cX12_room 5 (some .int) RX12 Λ rm_X12_room) (N : Nat) (v1 : Int32) (s : Int32 × Int32 × Int32 × Mem) {r : Int32 × Mem} (hm : lp_X12_room_17 N Λ v1 s = some r) : J x 5 Λ (QI x Λ r.1 r.2) 17 [(1, .int v1), (2, .int s.1), (3, .int s.2.1), (4, .int s.2.2.1)] [] (s.2.2.2) :=
  cw_ind (P := fun s r => J x 5 Λ (QI x Λ r.1 r.2) 17 [(1, .int v1), (2, .int s.1), (3, .int s.2.1), (4, .int s.2.2.1)] [] (s.2.2.2)) (fun k hkk s r e => tb_X12_room_17 C _ _ _ _ _ _ _ hkk e) N s r hm
set_option maxRecDepth 20000 in
set_option maxHeartbeats 4000000 in
theorem tm_X12_room {x : Ctx} {Λ : Lay} (C : Cx x cX12_room 5 (some .int) RX12 Λ rm_X12_room) (N : Nat) (μ : Mem) (v0 : Nat) (hv0 : inL Λ v0 11) {r : Int32 × Mem} (hm : m_X12_room N Λ μ v0 = some r) : J x 5 Λ (QI x Λ r.1 r.2) 0 [(0, .ref v0)] [] μ := by
  refine j_aload_n C 0 dX12_room_0 rfl ?_
  refine j_iconst C (v := 0) dX12_room_1 rfl ?_
  obtain ⟨μ1, e2, hm⟩ := lt_some hm
  refine j_putI C fp_X12_3_11 hv0 e2 dX12_room_2 ?_
  refine j_aload_n C 0 dX12_room_5 rfl ?_
  obtain ⟨r3, h4, hm⟩ := bd_some hm
  refine call_I (run_LV C lk_X12_168 ⟨rfl, rfl, Nat.le_of_ble_eq_true rfl, Nat.le_of_ble_eq_true rfl⟩ (As := []) hv0 rfl rfl (Nat.le_of_ble_eq_true rfl) dX12_room_6 (mc_X12_taken _ _ _ _ _ hv0 h4)) ?_
  refine j_istore_n C (lv' := [(1, .int r3), (0, .ref v0)]) dX12_room_9 (by decide) rfl ?_
  refine j_iconst C (v := 0) dX12_room_10 rfl ?_
  refine j_istore_n C (lv' := [(2, .int 0), (1, .int r3), (0, .ref v0)]) dX12_room_11 (by decide) rfl ?_
  refine j_iconst C (v := 0) dX12_room_12 rfl ?_
  refine j_istore_n C (lv' := [(3, .int 0), (2, .int 0), (1, .int r3), (0, .ref v0)]) dX12_room_13 (by decide) rfl ?_
  refine j_iconst C (v := 0) dX12_room_14 rfl ?_
  refine j_istore C (lv' := [(4, .int 0), (3, .int 0), (2, .int 0), (1, .int r3), (0, .ref v0)]) dX12_room_15 (by decide) rfl ?_
  refine j_sub [3, 2, 1, 0] rfl ?_
  exact tl_X12_room_17 C _ _  (0, 0, 0, μ1) hm
set_option maxRecDepth 20000 in
set_option maxHeartbeats 4000000 in
theorem mc_X12_room (l : Launch) (N : Nat) (Λ : Lay) (μ : Mem) (v0 : Nat) (hv0 : inL Λ v0 11) {r : Int32 × Mem} (hm : m_X12_room N Λ μ v0 = some r) : MI l yX12_room cX12_room 5 (some .int) rm_X12_room Λ [.ref v0] μ r.1 r.2 := mi_of rfl (Nat.le_of_ble_eq_true rfl) (fun x C _ => tm_X12_room C _ _ _ hv0 hm)
abbrev rm_X12_laysMembers : Room := { frames := 1, cells := 0, slots := 0, locals := 21 }
set_option maxRecDepth 20000 in
set_option maxHeartbeats 4000000 in
theorem tj_X12_laysMembers_33 {x : Ctx} {Λ : Lay} (C : Cx x cX12_laysMembers 4 (some .int) RX12 Λ rm_X12_laysMembers) (N : Nat) (μ : Mem) (k4 : Int32 × Int32 × Mem → Option (Int32 × Mem)) (v0 : Nat) (v1 : Int32) (v2 : Int32) (v3 : Int32) (hk4 : ∀ (s : Int32 × Int32 × Mem) (r : Int32 × Mem), k4 s = some r → J x 4 Λ (QI x Λ r.1 r.2) 4 [(0, .ref v0), (1, .int v1), (2, .int s.1), (3, .int s.2.1)] [] (s.2.2)) (hv0 : inL Λ v0 11) {r : Int32 × Mem} (hm : jn_X12_laysMembers_33 N Λ μ k4 v0 v1 v2 v3 = some r) : J x 4 Λ (QI x Λ r.1 r.2) 33 [(0, .ref v0), (1, .int v1), (2, .int v2), (3, .int v3)] [] μ := by
  obtain ⟨y1, e2, hm⟩ := lt_some hm
  refine j_iinc C 3 (v := y1) (lv' := [(3, .int y1), (0, .ref v0), (1, .int v1), (2, .int v2)]) dX12_laysMembers_33 rfl (by rw [e2]; rfl) (by decide) rfl ?_
  refine j_goto C (tgt := 4) dX12_laysMembers_36 (by decide) ?_
  refine j_sub [1, 2, 3, 0] rfl ?_
  exact hk4 (v2, y1, μ) _ hm
set_option maxRecDepth 20000 in
set_option maxHeartbeats 4000000 in
theorem tb_X12_laysMembers_4 {x : Ctx} {Λ : Lay} (C : Cx x cX12_laysMembers 4 (some .int) RX12 Λ rm_X12_laysMembers) (N : Nat) (μ : Mem) (k4 : Int32 × Int32 × Mem → Option (Int32 × Mem)) (v0 : Nat) (v1 : Int32) (v2 : Int32) (v3 : Int32) (hk4 : ∀ (s : Int32 × Int32 × Mem) (r : Int32 × Mem), k4 s = some r → J x 4 Λ (QI x Λ r.1 r.2) 4 [(0, .ref v0), (1, .int v1), (2, .int s.1), (3, .int s.2.1)] [] (s.2.2)) (hv0 : inL Λ v0 11) {r : Int32 × Mem} (hm : bd_X12_laysMembers_4 N Λ μ k4 v0 v1 v2 v3 = some r) : J x 4 Λ (QI x Λ r.1 r.2) 4 [(0, .ref v0), (1, .int v1), (2, .int v2), (3, .int v3)] [] μ := by
  refine j_iload_n C 3 dX12_laysMembers_4 rfl ?_
  refine j_aload_n C 0 dX12_laysMembers_5 rfl ?_
  obtain ⟨r1, h2, hm⟩ := bd_some hm
  refine call_I (run_LV C lk_X12_95 ⟨rfl, rfl, Nat.le_of_ble_eq_true rfl, Nat.le_of_ble_eq_true rfl⟩ (As := []) hv0 rfl rfl (Nat.le_of_ble_eq_true rfl) dX12_laysMembers_6 (mc_X12_ships _ _ _ _ _ hv0 h2)) ?_
  refine j_icmp_ge C (tgt := 39) dX12_laysMembers_9 (by decide) (fun h3 => ?_) (fun h3 => ?_)
  · replace hm := if_t hm h3
    refine j_iload_n C 2 dX12_laysMembers_39 rfl ?_
    obtain rfl := Option.some.inj hm
    exact j_ireti C dX12_laysMembers_40
  · replace hm := if_f hm h3
    refine j_iload_n C 1 dX12_laysMembers_12 rfl ?_
    refine j_iload_n C 3 dX12_laysMembers_13 rfl ?_
    obtain ⟨r4, h5, hm⟩ := bd_some hm
    refine call_I (run_LS C ls_X12_306 ⟨rfl, rfl, Nat.le_of_ble_eq_true rfl, Nat.le_of_ble_eq_true rfl⟩ (As := [.int v1, .int v3]) rfl rfl (Nat.le_of_ble_eq_true rfl) dX12_laysMembers_14 (mc_X12_has _ _ _ _ _ _  h5)) ?_
    refine j_if_ne C (tgt := 23) dX12_laysMembers_17 (by decide) (fun h6 => ?_) (fun h6 => ?_)
    · replace hm := if_f hm h6
      refine j_aload_n C 0 dX12_laysMembers_23 rfl ?_
      obtain ⟨q7, h8, hm⟩ := bd_some hm
      refine j_getR C fg_X12_42_11 hv0 (dr_spec h8).1 dX12_laysMembers_24 ?_
      refine j_iload_n C 2 dX12_laysMembers_27 rfl ?_
      refine j_iload_n C 3 dX12_laysMembers_28 rfl ?_
      obtain ⟨h9, hm⟩ := gd_some hm
      obtain ⟨μ10, e11, hm⟩ := lt_some hm
      refine j_iast C ((dr_spec h8).2) h9 e11 dX12_laysMembers_29 ?_
      obtain ⟨y12, e13, hm⟩ := lt_some hm
      refine j_iinc C 2 (v := y12) (lv' := [(2, .int y12), (0, .ref v0), (1, .int v1), (3, .int v3)]) dX12_laysMembers_30 rfl (by rw [e13]; rfl) (by decide) rfl ?_
      refine j_sub [1, 2, 0, 3] rfl ?_
      exact tj_X12_laysMembers_33 C _ _ _ _ _ _ _ hk4 hv0 hm
    · replace hm := if_t hm h6
      refine j_goto C (tgt := 33) dX12_laysMembers_20 (by decide) ?_
      exact tj_X12_laysMembers_33 C _ _ _ _ _ _ _ hk4 hv0 hm
set_option maxRecDepth 20000 in
set_option maxHeartbeats 4000000 in
theorem tl_X12_laysMembers_4 {x : Ctx} {Λ : Lay} (C : Cx x cX12_laysMembers 4 (some .int) RX12 Λ rm_X12_laysMembers) (N : Nat) (v0 : Nat) (v1 : Int32) (hv0 : inL Λ v0 11) (s : Int32 × Int32 × Mem) {r : Int32 × Mem} (hm : lp_X12_laysMembers_4 N Λ v0 v1 s = some r) : J x 4 Λ (QI x Λ r.1 r.2) 4 [(0, .ref v0), (1, .int v1), (2, .int s.1), (3, .int s.2.1)] [] (s.2.2) :=
  cw_ind (P := fun s r => J x 4 Λ (QI x Λ r.1 r.2) 4 [(0, .ref v0), (1, .int v1), (2, .int s.1), (3, .int s.2.1)] [] (s.2.2)) (fun k hkk s r e => tb_X12_laysMembers_4 C _ _ _ _ _ _ _ hkk hv0 e) N s r hm
set_option maxRecDepth 20000 in
set_option maxHeartbeats 4000000 in
theorem tm_X12_laysMembers {x : Ctx} {Λ : Lay} (C : Cx x cX12_laysMembers 4 (some .int) RX12 Λ rm_X12_laysMembers) (N : Nat) (μ : Mem) (v0 : Nat) (v1 : Int32) (hv0 : inL Λ v0 11) {r : Int32 × Mem} (hm : m_X12_laysMembers N Λ μ v0 v1 = some r) : J x 4 Λ (QI x Λ r.1 r.2) 0 [(0, .ref v0), (1, .int v1)] [] μ := by
  refine j_iconst C (v := 0) dX12_laysMembers_0 rfl ?_
  refine j_istore_n C (lv' := [(2, .int 0), (0, .ref v0), (1, .int v1)]) dX12_laysMembers_1 (by decide) rfl ?_
  refine j_iconst C (v := 0) dX12_laysMembers_2 rfl ?_
  refine j_istore_n C (lv' := [(3, .int 0), (2, .int 0), (0, .ref v0), (1, .int v1)]) dX12_laysMembers_3 (by decide) rfl ?_
  refine j_sub [2, 3, 1, 0] rfl ?_
  exact tl_X12_laysMembers_4 C _ _ _ hv0 (0, 0, μ) hm
set_option maxRecDepth 20000 in
set_option maxHeartbeats 4000000 in
theorem mc_X12_laysMembers (l : Launch) (N : Nat) (Λ : Lay) (μ : Mem) (v0 : Nat) (v1 : Int32) (hv0 : inL Λ v0 11) {r : Int32 × Mem} (hm : m_X12_laysMembers N Λ μ v0 v1 = some r) : MI l yX12_laysMembers cX12_laysMembers 4 (some .int) rm_X12_laysMembers Λ [.ref v0, .int v1] μ r.1 r.2 := mi_of rfl (Nat.le_of_ble_eq_true rfl) (fun x C _ => tm_X12_laysMembers C _ _ _ _ hv0 hm)
abbrev rm_X12_feesOf : Room := { frames := 7, cells := 0, slots := 0, locals := 162 }
set_option maxRecDepth 20000 in
set_option maxHeartbeats 4000000 in
theorem tj_X12_feesOf_30 {x : Ctx} {Λ : Lay} (C : Cx x cX12_feesOf 4 (some .int) RX12 Λ rm_X12_feesOf) (N : Nat) (μ : Mem) (k4 : Int32 × Int32 × Mem → Option (Int32 × Mem)) (v0 : Nat) (v1 : Int32) (v3 : Int32) (s0 : Int32) (s1 : Int32) (hk4 : ∀ (s : Int32 × Int32 × Mem) (r : Int32 × Mem), k4 s = some r → J x 4 Λ (QI x Λ r.1 r.2) 4 [(0, .ref v0), (1, .int v1), (2, .int s.1), (3, .int s.2.1)] [] (s.2.2)) (hv0 : inL Λ v0 11) {r : Int32 × Mem} (hm : jn_X12_feesOf_30 N Λ μ k4 v0 v1 v3 s0 s1 = some r) : J x 4 Λ (QI x Λ r.1 r.2) 30 [(0, .ref v0), (1, .int v1), (3, .int v3)] [.int s1, .int s0] μ := by
  refine j_iadd C dX12_feesOf_30 ?_
  obtain ⟨y1, e2, hm⟩ := lt_some hm
  refine j_topi e2 ?_
  refine j_istore_n C (lv' := [(2, .int y1), (0, .ref v0), (1, .int v1), (3, .int v3)]) dX12_feesOf_31 (by decide) rfl ?_
  obtain ⟨y3, e4, hm⟩ := lt_some hm
  refine j_iinc C 3 (v := y3) (lv' := [(3, .int y3), (2, .int y1), (0, .ref v0), (1, .int v1)]) dX12_feesOf_32 rfl (by rw [e4]; rfl) (by decide) rfl ?_
  refine j_goto C (tgt := 4) dX12_feesOf_35 (by decide) ?_
  refine j_sub [2, 3, 1, 0] rfl ?_
  exact hk4 (y1, y3, μ) _ hm
set_option maxRecDepth 20000 in
set_option maxHeartbeats 4000000 in
theorem tb_X12_feesOf_4 {x : Ctx} {Λ : Lay} (C : Cx x cX12_feesOf 4 (some .int) RX12 Λ rm_X12_feesOf) (N : Nat) (μ : Mem) (k4 : Int32 × Int32 × Mem → Option (Int32 × Mem)) (v0 : Nat) (v1 : Int32) (v2 : Int32) (v3 : Int32) (hk4 : ∀ (s : Int32 × Int32 × Mem) (r : Int32 × Mem), k4 s = some r → J x 4 Λ (QI x Λ r.1 r.2) 4 [(0, .ref v0), (1, .int v1), (2, .int s.1), (3, .int s.2.1)] [] (s.2.2)) (hv0 : inL Λ v0 11) {r : Int32 × Mem} (hm : bd_X12_feesOf_4 N Λ μ k4 v0 v1 v2 v3 = some r) : J x 4 Λ (QI x Λ r.1 r.2) 4 [(0, .ref v0), (1, .int v1), (2, .int v2), (3, .int v3)] [] μ := by
  refine j_iload_n C 3 dX12_feesOf_4 rfl ?_
  refine j_aload_n C 0 dX12_feesOf_5 rfl ?_
  obtain ⟨r1, h2, hm⟩ := bd_some hm
  refine call_I (run_LV C lk_X12_95 ⟨rfl, rfl, Nat.le_of_ble_eq_true rfl, Nat.le_of_ble_eq_true rfl⟩ (As := []) hv0 rfl rfl (Nat.le_of_ble_eq_true rfl) dX12_feesOf_6 (mc_X12_ships _ _ _ _ _ hv0 h2)) ?_
  refine j_icmp_ge C (tgt := 38) dX12_feesOf_9 (by decide) (fun h3 => ?_) (fun h3 => ?_)
  · replace hm := if_t hm h3
    refine j_iload_n C 2 dX12_feesOf_38 rfl ?_
    obtain rfl := Option.some.inj hm
    exact j_ireti C dX12_feesOf_39
  · replace hm := if_f hm h3
    refine j_iload_n C 2 dX12_feesOf_12 rfl ?_
    refine j_iload_n C 1 dX12_feesOf_13 rfl ?_
    refine j_iload_n C 3 dX12_feesOf_14 rfl ?_
    obtain ⟨r4, h5, hm⟩ := bd_some hm
    refine call_I (run_LS C ls_X12_306 ⟨rfl, rfl, Nat.le_of_ble_eq_true rfl, Nat.le_of_ble_eq_true rfl⟩ (As := [.int v1, .int v3]) rfl rfl (Nat.le_of_ble_eq_true rfl) dX12_feesOf_15 (mc_X12_has _ _ _ _ _ _  h5)) ?_
    refine j_if_eq C (tgt := 29) dX12_feesOf_18 (by decide) (fun h6 => ?_) (fun h6 => ?_)
    · replace hm := if_t hm h6
      refine j_iconst C (v := 0) dX12_feesOf_29 rfl ?_
      refine j_sub [0, 1, 3] rfl ?_
      exact tj_X12_feesOf_30 C _ _ _ _ _ _ _ _ hk4 hv0 hm
    · replace hm := if_f hm h6
      refine j_aload_n C 0 dX12_feesOf_21 rfl ?_
      refine j_iload_n C 3 dX12_feesOf_22 rfl ?_
      obtain ⟨r7, h8, hm⟩ := bd_some hm
      refine call_I (run_LV C lk_X12_348 ⟨rfl, rfl, Nat.le_of_ble_eq_true rfl, Nat.le_of_ble_eq_true rfl⟩ (As := [.int v3]) hv0 rfl rfl (Nat.le_of_ble_eq_true rfl) dX12_feesOf_23 (mc_X12_feeOf _ _ _ _ _ _ hv0 h8)) ?_
      refine j_goto C (tgt := 30) dX12_feesOf_26 (by decide) ?_
      refine j_sub [0, 1, 3] rfl ?_
      exact tj_X12_feesOf_30 C _ _ _ _ _ _ _ _ hk4 hv0 hm
set_option maxRecDepth 20000 in
set_option maxHeartbeats 4000000 in
theorem tl_X12_feesOf_4 {x : Ctx} {Λ : Lay} (C : Cx x cX12_feesOf 4 (some .int) RX12 Λ rm_X12_feesOf) (N : Nat) (v0 : Nat) (v1 : Int32) (hv0 : inL Λ v0 11) (s : Int32 × Int32 × Mem) {r : Int32 × Mem} (hm : lp_X12_feesOf_4 N Λ v0 v1 s = some r) : J x 4 Λ (QI x Λ r.1 r.2) 4 [(0, .ref v0), (1, .int v1), (2, .int s.1), (3, .int s.2.1)] [] (s.2.2) :=
  cw_ind (P := fun s r => J x 4 Λ (QI x Λ r.1 r.2) 4 [(0, .ref v0), (1, .int v1), (2, .int s.1), (3, .int s.2.1)] [] (s.2.2)) (fun k hkk s r e => tb_X12_feesOf_4 C _ _ _ _ _ _ _ hkk hv0 e) N s r hm
set_option maxRecDepth 20000 in
set_option maxHeartbeats 4000000 in
theorem tm_X12_feesOf {x : Ctx} {Λ : Lay} (C : Cx x cX12_feesOf 4 (some .int) RX12 Λ rm_X12_feesOf) (N : Nat) (μ : Mem) (v0 : Nat) (v1 : Int32) (hv0 : inL Λ v0 11) {r : Int32 × Mem} (hm : m_X12_feesOf N Λ μ v0 v1 = some r) : J x 4 Λ (QI x Λ r.1 r.2) 0 [(0, .ref v0), (1, .int v1)] [] μ := by
  refine j_iconst C (v := 0) dX12_feesOf_0 rfl ?_
  refine j_istore_n C (lv' := [(2, .int 0), (0, .ref v0), (1, .int v1)]) dX12_feesOf_1 (by decide) rfl ?_
  refine j_iconst C (v := 0) dX12_feesOf_2 rfl ?_
  refine j_istore_n C (lv' := [(3, .int 0), (2, .int 0), (0, .ref v0), (1, .int v1)]) dX12_feesOf_3 (by decide) rfl ?_
  refine j_sub [2, 3, 1, 0] rfl ?_
  exact tl_X12_feesOf_4 C _ _ _ hv0 (0, 0, μ) hm
set_option maxRecDepth 20000 in
set_option maxHeartbeats 4000000 in
theorem mc_X12_feesOf (l : Launch) (N : Nat) (Λ : Lay) (μ : Mem) (v0 : Nat) (v1 : Int32) (hv0 : inL Λ v0 11) {r : Int32 × Mem} (hm : m_X12_feesOf N Λ μ v0 v1 = some r) : MI l yX12_feesOf cX12_feesOf 4 (some .int) rm_X12_feesOf Λ [.ref v0, .int v1] μ r.1 r.2 := mi_of rfl (Nat.le_of_ble_eq_true rfl) (fun x C _ => tm_X12_feesOf C _ _ _ _ hv0 hm)
abbrev rm_X12_mayEnter : Room := { frames := 2, cells := 0, slots := 0, locals := 43 }
set_option maxRecDepth 20000 in
set_option maxHeartbeats 4000000 in
theorem tj_X12_mayEnter_44 {x : Ctx} {Λ : Lay} (C : Cx x cX12_mayEnter 3 (some .int) RX12 Λ rm_X12_mayEnter) (N : Nat) (μ : Mem) (k4 : Int32 × Int32 → Option (Int32)) (v0 : Nat) (v2 : Int32) (s0 : Int32) (s1 : Int32) (hk4 : ∀ (s : Int32 × Int32) (r : Int32), k4 s = some r → J x 3 Λ (QI x Λ r μ) 4 [(0, .ref v0), (1, .int s.1), (2, .int s.2)] [] (μ)) (hv0 : inL Λ v0 11) {r : Int32} (hm : jn_X12_mayEnter_44 N Λ μ k4 v0 v2 s0 s1 = some r) : J x 3 Λ (QI x Λ r μ) 44 [(0, .ref v0), (2, .int v2)] [.int s1, .int s0] μ := by
  refine j_ior C dX12_mayEnter_44 ?_
  obtain ⟨y1, e2, hm⟩ := lt_some hm
  refine j_topi e2 ?_
  refine j_istore_n C (lv' := [(1, .int y1), (0, .ref v0), (2, .int v2)]) dX12_mayEnter_45 (by decide) rfl ?_
  obtain ⟨y3, e4, hm⟩ := lt_some hm
  refine j_iinc C 2 (v := y3) (lv' := [(2, .int y3), (1, .int y1), (0, .ref v0)]) dX12_mayEnter_46 rfl (by rw [e4]; rfl) (by decide) rfl ?_
  refine j_goto C (tgt := 4) dX12_mayEnter_49 (by decide) ?_
  refine j_sub [2, 1, 0] rfl ?_
  exact hk4 (y1, y3) _ hm
set_option maxRecDepth 20000 in
set_option maxHeartbeats 4000000 in
theorem tj_X12_mayEnter_43 {x : Ctx} {Λ : Lay} (C : Cx x cX12_mayEnter 3 (some .int) RX12 Λ rm_X12_mayEnter) (N : Nat) (μ : Mem) (k4 : Int32 × Int32 → Option (Int32)) (v0 : Nat) (v2 : Int32) (s0 : Int32) (hk4 : ∀ (s : Int32 × Int32) (r : Int32), k4 s = some r → J x 3 Λ (QI x Λ r μ) 4 [(0, .ref v0), (1, .int s.1), (2, .int s.2)] [] (μ)) (hv0 : inL Λ v0 11) {r : Int32} (hm : jn_X12_mayEnter_43 N Λ μ k4 v0 v2 s0 = some r) : J x 3 Λ (QI x Λ r μ) 43 [(0, .ref v0), (2, .int v2)] [.int s0] μ := by
  refine j_iconst C (v := 0) dX12_mayEnter_43 rfl ?_
  exact tj_X12_mayEnter_44 C _ _ _ _ _ _ _ hk4 hv0 hm
set_option maxRecDepth 20000 in
set_option maxHeartbeats 4000000 in
theorem tb_X12_mayEnter_4 {x : Ctx} {Λ : Lay} (C : Cx x cX12_mayEnter 3 (some .int) RX12 Λ rm_X12_mayEnter) (N : Nat) (μ : Mem) (k4 : Int32 × Int32 → Option (Int32)) (v0 : Nat) (v1 : Int32) (v2 : Int32) (hk4 : ∀ (s : Int32 × Int32) (r : Int32), k4 s = some r → J x 3 Λ (QI x Λ r μ) 4 [(0, .ref v0), (1, .int s.1), (2, .int s.2)] [] (μ)) (hv0 : inL Λ v0 11) {r : Int32} (hm : bd_X12_mayEnter_4 N Λ μ k4 v0 v1 v2 = some r) : J x 3 Λ (QI x Λ r μ) 4 [(0, .ref v0), (1, .int v1), (2, .int v2)] [] μ := by
  refine j_iload_n C 2 dX12_mayEnter_4 rfl ?_
  refine j_aload_n C 0 dX12_mayEnter_5 rfl ?_
  obtain ⟨r1, h2, hm⟩ := bd_some hm
  refine call_I (run_LV C lk_X12_95 ⟨rfl, rfl, Nat.le_of_ble_eq_true rfl, Nat.le_of_ble_eq_true rfl⟩ (As := []) hv0 rfl rfl (Nat.le_of_ble_eq_true rfl) dX12_mayEnter_6 (mc_X12_ships _ _ _ _ _ hv0 h2)) ?_
  refine j_icmp_ge C (tgt := 52) dX12_mayEnter_9 (by decide) (fun h3 => ?_) (fun h3 => ?_)
  · replace hm := if_t hm h3
    refine j_iload_n C 1 dX12_mayEnter_52 rfl ?_
    obtain rfl := Option.some.inj hm
    exact j_ireti C dX12_mayEnter_53
  · replace hm := if_f hm h3
    refine j_iload_n C 1 dX12_mayEnter_12 rfl ?_
    refine j_aload_n C 0 dX12_mayEnter_13 rfl ?_
    refine j_iload_n C 2 dX12_mayEnter_14 rfl ?_
    refine j_iconst C (v := 3) dX12_mayEnter_15 rfl ?_
    obtain ⟨r4, h5, hm⟩ := bd_some hm
    refine call_I (run_LV C lk_X12_85 ⟨rfl, rfl, Nat.le_of_ble_eq_true rfl, Nat.le_of_ble_eq_true rfl⟩ (As := [.int v2, .int 3]) hv0 rfl rfl (Nat.le_of_ble_eq_true rfl) dX12_mayEnter_16 (mc_X12_of _ _ _ _ _ _ _ hv0 h5)) ?_
    refine j_if_ne C (tgt := 43) dX12_mayEnter_19 (by decide) (fun h6 => ?_) (fun h6 => ?_)
    · replace hm := if_f hm h6
      refine j_sub [0, 2] rfl ?_
      exact tj_X12_mayEnter_43 C _ _ _ _ _ _ hk4 hv0 hm
    · replace hm := if_t hm h6
      refine j_aload_n C 0 dX12_mayEnter_22 rfl ?_
      refine j_iload_n C 2 dX12_mayEnter_23 rfl ?_
      refine j_iconst C (v := 1) dX12_mayEnter_24 rfl ?_
      obtain ⟨r7, h8, hm⟩ := bd_some hm
      refine call_I (run_LV C lk_X12_85 ⟨rfl, rfl, Nat.le_of_ble_eq_true rfl, Nat.le_of_ble_eq_true rfl⟩ (As := [.int v2, .int 1]) hv0 rfl rfl (Nat.le_of_ble_eq_true rfl) dX12_mayEnter_25 (mc_X12_of _ _ _ _ _ _ _ hv0 h8)) ?_
      refine j_aload_n C 0 dX12_mayEnter_28 rfl ?_
      obtain ⟨q9, h10, hm⟩ := bd_some hm
      refine j_getR C fg_X12_13_11 hv0 (dr_spec h10).1 dX12_mayEnter_29 ?_
      refine j_iconst C (v := 3) dX12_mayEnter_32 rfl ?_
      obtain ⟨h11, hm⟩ := gd_some hm
      refine j_iald C ((dr_spec h10).2) h11 dX12_mayEnter_33 ?_
      refine j_icmp_gt C (tgt := 43) dX12_mayEnter_34 (by decide) (fun h12 => ?_) (fun h12 => ?_)
      · replace hm := if_t hm h12
        refine j_sub [0, 2] rfl ?_
        exact tj_X12_mayEnter_43 C _ _ _ _ _ _ hk4 hv0 hm
      · replace hm := if_f hm h12
        refine j_iconst C (v := 1) dX12_mayEnter_37 rfl ?_
        refine j_iload_n C 2 dX12_mayEnter_38 rfl ?_
        refine j_ishl C dX12_mayEnter_39 ?_
        refine j_goto C (tgt := 44) dX12_mayEnter_40 (by decide) ?_
        refine j_sub [0, 2] rfl ?_
        exact tj_X12_mayEnter_44 C _ _ _ _ _ _ _ hk4 hv0 hm
set_option maxRecDepth 20000 in
set_option maxHeartbeats 4000000 in
theorem tl_X12_mayEnter_4 {x : Ctx} {Λ : Lay} (C : Cx x cX12_mayEnter 3 (some .int) RX12 Λ rm_X12_mayEnter) (N : Nat) (μ : Mem) (v0 : Nat) (hv0 : inL Λ v0 11) (s : Int32 × Int32) {r : Int32} (hm : lp_X12_mayEnter_4 N Λ μ v0 s = some r) : J x 3 Λ (QI x Λ r μ) 4 [(0, .ref v0), (1, .int s.1), (2, .int s.2)] [] (μ) :=
  cw_ind (P := fun s r => J x 3 Λ (QI x Λ r μ) 4 [(0, .ref v0), (1, .int s.1), (2, .int s.2)] [] (μ)) (fun k hkk s r e => tb_X12_mayEnter_4 C _ _ _ _ _ _ hkk hv0 e) N s r hm
set_option maxRecDepth 20000 in
set_option maxHeartbeats 4000000 in
theorem tm_X12_mayEnter {x : Ctx} {Λ : Lay} (C : Cx x cX12_mayEnter 3 (some .int) RX12 Λ rm_X12_mayEnter) (N : Nat) (μ : Mem) (v0 : Nat) (hv0 : inL Λ v0 11) {r : Int32} (hm : m_X12_mayEnter N Λ μ v0 = some r) : J x 3 Λ (QI x Λ r μ) 0 [(0, .ref v0)] [] μ := by
  refine j_iconst C (v := 0) dX12_mayEnter_0 rfl ?_
  refine j_istore_n C (lv' := [(1, .int 0), (0, .ref v0)]) dX12_mayEnter_1 (by decide) rfl ?_
  refine j_iconst C (v := 0) dX12_mayEnter_2 rfl ?_
  refine j_istore_n C (lv' := [(2, .int 0), (1, .int 0), (0, .ref v0)]) dX12_mayEnter_3 (by decide) rfl ?_
  refine j_sub [2, 1, 0] rfl ?_
  exact tl_X12_mayEnter_4 C _ _ _ hv0 (0, 0) hm
set_option maxRecDepth 20000 in
set_option maxHeartbeats 4000000 in
theorem mc_X12_mayEnter (l : Launch) (N : Nat) (Λ : Lay) (μ : Mem) (v0 : Nat) (hv0 : inL Λ v0 11) {r : Int32} (hm : m_X12_mayEnter N Λ μ v0 = some r) : MI l yX12_mayEnter cX12_mayEnter 3 (some .int) rm_X12_mayEnter Λ [.ref v0] μ r μ := mi_of rfl (Nat.le_of_ble_eq_true rfl) (fun x C _ => tm_X12_mayEnter C _ _ _ hv0 hm)
abbrev rm_X12_laysRuns : Room := { frames := 5, cells := 0, slots := 0, locals := 107 }
set_option maxRecDepth 20000 in
set_option maxHeartbeats 4000000 in
theorem tj_X12_laysRuns_62 {x : Ctx} {Λ : Lay} (C : Cx x cX12_laysRuns 4 (some .int) RX12 Λ rm_X12_laysRuns) (N : Nat) (μ : Mem) (k9 : Int32 × Int32 × Mem → Option (Int32 × Mem)) (v0 : Nat) (v1 : Int32) (v2 : Int32) (v3 : Int32) (hk9 : ∀ (s : Int32 × Int32 × Mem) (r : Int32 × Mem), k9 s = some r → J x 4 Λ (QI x Λ r.1 r.2) 9 [(0, .ref v0), (1, .int v1), (2, .int s.1), (3, .int s.2.1)] [] (s.2.2)) (hv0 : inL Λ v0 11) {r : Int32 × Mem} (hm : jn_X12_laysRuns_62 N Λ μ k9 v0 v1 v2 v3 = some r) : J x 4 Λ (QI x Λ r.1 r.2) 62 [(0, .ref v0), (1, .int v1), (2, .int v2), (3, .int v3)] [] μ := by
  obtain ⟨y1, e2, hm⟩ := lt_some hm
  refine j_iinc C 3 (v := y1) (lv' := [(3, .int y1), (0, .ref v0), (1, .int v1), (2, .int v2)]) dX12_laysRuns_62 rfl (by rw [e2]; rfl) (by decide) rfl ?_
  refine j_goto C (tgt := 9) dX12_laysRuns_65 (by decide) ?_
  refine j_sub [1, 2, 3, 0] rfl ?_
  exact hk9 (v2, y1, μ) _ hm
set_option maxRecDepth 20000 in
set_option maxHeartbeats 4000000 in
theorem tj_X12_laysRuns_50 {x : Ctx} {Λ : Lay} (C : Cx x cX12_laysRuns 4 (some .int) RX12 Λ rm_X12_laysRuns) (N : Nat) (μ : Mem) (k9 : Int32 × Int32 × Mem → Option (Int32 × Mem)) (v0 : Nat) (v1 : Int32) (v2 : Int32) (v3 : Int32) (hk9 : ∀ (s : Int32 × Int32 × Mem) (r : Int32 × Mem), k9 s = some r → J x 4 Λ (QI x Λ r.1 r.2) 9 [(0, .ref v0), (1, .int v1), (2, .int s.1), (3, .int s.2.1)] [] (s.2.2)) (hv0 : inL Λ v0 11) {r : Int32 × Mem} (hm : jn_X12_laysRuns_50 N Λ μ k9 v0 v1 v2 v3 = some r) : J x 4 Λ (QI x Λ r.1 r.2) 50 [(0, .ref v0), (1, .int v1), (2, .int v2), (3, .int v3)] [] μ := by
  refine j_aload_n C 0 dX12_laysRuns_50 rfl ?_
  obtain ⟨q1, h2, hm⟩ := bd_some hm
  refine j_getR C fg_X12_45_11 hv0 (dr_spec h2).1 dX12_laysRuns_51 ?_
  refine j_iload_n C 2 dX12_laysRuns_54 rfl ?_
  refine j_iconst C (v := 1) dX12_laysRuns_55 rfl ?_
  refine j_isub C dX12_laysRuns_56 ?_
  refine j_dup2 C dX12_laysRuns_57 rfl rfl ?_
  obtain ⟨h3, hm⟩ := gd_some hm
  refine j_iald C ((dr_spec h2).2) h3 dX12_laysRuns_58 ?_
  refine j_iconst C (v := 1) dX12_laysRuns_59 rfl ?_
  refine j_iadd C dX12_laysRuns_60 ?_
  obtain ⟨h4, hm⟩ := gd_some hm
  obtain ⟨μ5, e6, hm⟩ := lt_some hm
  refine j_iast C ((dr_spec h2).2) h4 e6 dX12_laysRuns_61 ?_
  exact tj_X12_laysRuns_62 C _ _ _ _ _ _ _ hk9 hv0 hm
set_option maxRecDepth 20000 in
set_option maxHeartbeats 4000000 in
theorem tj_X12_laysRuns_40 {x : Ctx} {Λ : Lay} (C : Cx x cX12_laysRuns 4 (some .int) RX12 Λ rm_X12_laysRuns) (N : Nat) (μ : Mem) (k9 : Int32 × Int32 × Mem → Option (Int32 × Mem)) (v0 : Nat) (v1 : Int32) (v2 : Int32) (v3 : Int32) (hk9 : ∀ (s : Int32 × Int32 × Mem) (r : Int32 × Mem), k9 s = some r → J x 4 Λ (QI x Λ r.1 r.2) 9 [(0, .ref v0), (1, .int v1), (2, .int s.1), (3, .int s.2.1)] [] (s.2.2)) (hv0 : inL Λ v0 11) {r : Int32 × Mem} (hm : jn_X12_laysRuns_40 N Λ μ k9 v0 v1 v2 v3 = some r) : J x 4 Λ (QI x Λ r.1 r.2) 40 [(0, .ref v0), (1, .int v1), (2, .int v2), (3, .int v3)] [] μ := by
  refine j_aload_n C 0 dX12_laysRuns_40 rfl ?_
  obtain ⟨q1, h2, hm⟩ := bd_some hm
  refine j_getR C fg_X12_45_11 hv0 (dr_spec h2).1 dX12_laysRuns_41 ?_
  refine j_iload_n C 2 dX12_laysRuns_44 rfl ?_
  refine j_iconst C (v := 0) dX12_laysRuns_45 rfl ?_
  obtain ⟨h3, hm⟩ := gd_some hm
  obtain ⟨μ4, e5, hm⟩ := lt_some hm
  refine j_iast C ((dr_spec h2).2) h3 e5 dX12_laysRuns_46 ?_
  obtain ⟨y6, e7, hm⟩ := lt_some hm
  refine j_iinc C 2 (v := y6) (lv' := [(2, .int y6), (0, .ref v0), (1, .int v1), (3, .int v3)]) dX12_laysRuns_47 rfl (by rw [e7]; rfl) (by decide) rfl ?_
  refine j_sub [1, 2, 0, 3] rfl ?_
  exact tj_X12_laysRuns_50 C _ _ _ _ _ _ _ hk9 hv0 hm
set_option maxRecDepth 20000 in
set_option maxHeartbeats 4000000 in
theorem tb_X12_laysRuns_9 {x : Ctx} {Λ : Lay} (C : Cx x cX12_laysRuns 4 (some .int) RX12 Λ rm_X12_laysRuns) (N : Nat) (μ : Mem) (k9 : Int32 × Int32 × Mem → Option (Int32 × Mem)) (v0 : Nat) (v1 : Int32) (v2 : Int32) (v3 : Int32) (hk9 : ∀ (s : Int32 × Int32 × Mem) (r : Int32 × Mem), k9 s = some r → J x 4 Λ (QI x Λ r.1 r.2) 9 [(0, .ref v0), (1, .int v1), (2, .int s.1), (3, .int s.2.1)] [] (s.2.2)) (hv0 : inL Λ v0 11) {r : Int32 × Mem} (hm : bd_X12_laysRuns_9 N Λ μ k9 v0 v1 v2 v3 = some r) : J x 4 Λ (QI x Λ r.1 r.2) 9 [(0, .ref v0), (1, .int v1), (2, .int v2), (3, .int v3)] [] μ := by
  refine j_iload_n C 3 dX12_laysRuns_9 rfl ?_
  refine j_bipush C (v := 24) dX12_laysRuns_10 rfl ?_
  refine j_icmp_ge C (tgt := 68) dX12_laysRuns_12 (by decide) (fun h1 => ?_) (fun h1 => ?_)
  · replace hm := if_t hm h1
    refine j_iload_n C 2 dX12_laysRuns_68 rfl ?_
    obtain rfl := Option.some.inj hm
    exact j_ireti C dX12_laysRuns_69
  · replace hm := if_f hm h1
    refine j_iload_n C 1 dX12_laysRuns_15 rfl ?_
    refine j_iload_n C 3 dX12_laysRuns_16 rfl ?_
    obtain ⟨r2, h3, hm⟩ := bd_some hm
    refine call_I (run_LS C ls_X12_306 ⟨rfl, rfl, Nat.le_of_ble_eq_true rfl, Nat.le_of_ble_eq_true rfl⟩ (As := [.int v1, .int v3]) rfl rfl (Nat.le_of_ble_eq_true rfl) dX12_laysRuns_17 (mc_X12_has _ _ _ _ _ _  h3)) ?_
    refine j_if_eq C (tgt := 26) dX12_laysRuns_20 (by decide) (fun h4 => ?_) (fun h4 => ?_)
    · replace hm := if_t hm h4
      refine j_iload_n C 3 dX12_laysRuns_26 rfl ?_
      refine j_if_eq C (tgt := 40) dX12_laysRuns_27 (by decide) (fun h5 => ?_) (fun h5 => ?_)
      · replace hm := if_t hm h5
        exact tj_X12_laysRuns_40 C _ _ _ _ _ _ _ hk9 hv0 hm
      · replace hm := if_f hm h5
        refine j_iload_n C 1 dX12_laysRuns_30 rfl ?_
        refine j_iload_n C 3 dX12_laysRuns_31 rfl ?_
        refine j_iconst C (v := 1) dX12_laysRuns_32 rfl ?_
        refine j_isub C dX12_laysRuns_33 ?_
        obtain ⟨r6, h7, hm⟩ := bd_some hm
        refine call_I (run_LS C ls_X12_306 ⟨rfl, rfl, Nat.le_of_ble_eq_true rfl, Nat.le_of_ble_eq_true rfl⟩ (As := [.int v1, .int (v3 - 1)]) rfl rfl (Nat.le_of_ble_eq_true rfl) dX12_laysRuns_34 (mc_X12_has _ _ _ _ _ _  h7)) ?_
        refine j_if_eq C (tgt := 50) dX12_laysRuns_37 (by decide) (fun h8 => ?_) (fun h8 => ?_)
        · replace hm := if_t hm h8
          exact tj_X12_laysRuns_50 C _ _ _ _ _ _ _ hk9 hv0 hm
        · replace hm := if_f hm h8
          exact tj_X12_laysRuns_40 C _ _ _ _ _ _ _ hk9 hv0 hm
    · replace hm := if_f hm h4
      refine j_goto C (tgt := 62) dX12_laysRuns_23 (by decide) ?_
      exact tj_X12_laysRuns_62 C _ _ _ _ _ _ _ hk9 hv0 hm
set_option maxRecDepth 20000 in
set_option maxHeartbeats 4000000 in
theorem tl_X12_laysRuns_9 {x : Ctx} {Λ : Lay} (C : Cx x cX12_laysRuns 4 (some .int) RX12 Λ rm_X12_laysRuns) (N : Nat) (v0 : Nat) (v1 : Int32) (hv0 : inL Λ v0 11) (s : Int32 × Int32 × Mem) {r : Int32 × Mem} (hm : lp_X12_laysRuns_9 N Λ v0 v1 s = some r) : J x 4 Λ (QI x Λ r.1 r.2) 9 [(0, .ref v0), (1, .int v1), (2, .int s.1), (3, .int s.2.1)] [] (s.2.2) :=
  cw_ind (P := fun s r => J x 4 Λ (QI x Λ r.1 r.2) 9 [(0, .ref v0), (1, .int v1), (2, .int s.1), (3, .int s.2.1)] [] (s.2.2)) (fun k hkk s r e => tb_X12_laysRuns_9 C _ _ _ _ _ _ _ hkk hv0 e) N s r hm
set_option maxRecDepth 20000 in
set_option maxHeartbeats 4000000 in
theorem tm_X12_laysRuns {x : Ctx} {Λ : Lay} (C : Cx x cX12_laysRuns 4 (some .int) RX12 Λ rm_X12_laysRuns) (N : Nat) (μ : Mem) (v0 : Nat) (hv0 : inL Λ v0 11) {r : Int32 × Mem} (hm : m_X12_laysRuns N Λ μ v0 = some r) : J x 4 Λ (QI x Λ r.1 r.2) 0 [(0, .ref v0)] [] μ := by
  refine j_aload_n C 0 dX12_laysRuns_0 rfl ?_
  obtain ⟨r1, h2, hm⟩ := bd_some hm
  refine call_I (run_LV C lk_X12_168 ⟨rfl, rfl, Nat.le_of_ble_eq_true rfl, Nat.le_of_ble_eq_true rfl⟩ (As := []) hv0 rfl rfl (Nat.le_of_ble_eq_true rfl) dX12_laysRuns_1 (mc_X12_taken _ _ _ _ _ hv0 h2)) ?_
  refine j_istore_n C (lv' := [(1, .int r1), (0, .ref v0)]) dX12_laysRuns_4 (by decide) rfl ?_
  refine j_iconst C (v := 0) dX12_laysRuns_5 rfl ?_
  refine j_istore_n C (lv' := [(2, .int 0), (1, .int r1), (0, .ref v0)]) dX12_laysRuns_6 (by decide) rfl ?_
  refine j_iconst C (v := 0) dX12_laysRuns_7 rfl ?_
  refine j_istore_n C (lv' := [(3, .int 0), (2, .int 0), (1, .int r1), (0, .ref v0)]) dX12_laysRuns_8 (by decide) rfl ?_
  refine j_sub [3, 2, 1, 0] rfl ?_
  exact tl_X12_laysRuns_9 C _ _ _ hv0 (0, 0, μ) hm
set_option maxRecDepth 20000 in
set_option maxHeartbeats 4000000 in
theorem mc_X12_laysRuns (l : Launch) (N : Nat) (Λ : Lay) (μ : Mem) (v0 : Nat) (hv0 : inL Λ v0 11) {r : Int32 × Mem} (hm : m_X12_laysRuns N Λ μ v0 = some r) : MI l yX12_laysRuns cX12_laysRuns 4 (some .int) rm_X12_laysRuns Λ [.ref v0] μ r.1 r.2 := mi_of rfl (Nat.le_of_ble_eq_true rfl) (fun x C _ => tm_X12_laysRuns C _ _ _ hv0 hm)

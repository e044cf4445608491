abbrev rm_X12_bedAt : Room := { frames := 0, cells := 0, slots := 0, locals := 0 }
set_option maxRecDepth 20000 in
set_option maxHeartbeats 4000000 in
theorem tm_X12_bedAt {x : Ctx} {Λ : Lay} (C : Cx x cX12_bedAt 2 (some .int) RX12 Λ rm_X12_bedAt) (N : Nat) (μ : Mem) (v0 : Int32) (v1 : Int32) {r : Int32} (hm : m_X12_bedAt N Λ μ v0 v1 = some r) : J x 2 Λ (QI x Λ r μ) 0 [(0, .int v0), (1, .int v1)] [] μ := by
  refine j_bipush C (v := 25) dX12_bedAt_0 rfl ?_
  refine j_iload_n C 0 dX12_bedAt_2 rfl ?_
  refine j_imul C dX12_bedAt_3 ?_
  refine j_iload_n C 1 dX12_bedAt_4 rfl ?_
  refine j_iadd C dX12_bedAt_5 ?_
  obtain rfl := Option.some.inj hm
  exact j_ireti C dX12_bedAt_6
set_option maxRecDepth 20000 in
set_option maxHeartbeats 4000000 in
theorem mc_X12_bedAt (l : Launch) (N : Nat) (Λ : Lay) (μ : Mem) (v0 : Int32) (v1 : Int32) {r : Int32} (hm : m_X12_bedAt N Λ μ v0 v1 = some r) : MI l yX12_bedAt cX12_bedAt 2 (some .int) rm_X12_bedAt Λ [.int v0, .int v1] μ r μ := mi_of rfl (Nat.le_of_ble_eq_true rfl) (fun x C _ => tm_X12_bedAt C _ _ _ _  hm)
abbrev rm_X12_bedIf : Room := { frames := 5, cells := 0, slots := 0, locals := 107 }
set_option maxRecDepth 20000 in
set_option maxHeartbeats 4000000 in
theorem tj_X12_bedIf_92 {x : Ctx} {Λ : Lay} (C : Cx x cX12_bedIf 5 (some .int) RX12 Λ rm_X12_bedIf) (N : Nat) (μ : Mem) (s0 : Int32) {r : Int32} (hm : jn_X12_bedIf_92 N Λ μ s0 = some r) : J x 5 Λ (QI x Λ r μ) 92 [] [.int s0] μ := by
  obtain rfl := Option.some.inj hm
  exact j_ireti C dX12_bedIf_92
set_option maxRecDepth 20000 in
set_option maxHeartbeats 4000000 in
theorem tj_X12_bedIf_55 {x : Ctx} {Λ : Lay} (C : Cx x cX12_bedIf 5 (some .int) RX12 Λ rm_X12_bedIf) (N : Nat) (μ : Mem) (v0 : Nat) (v1 : Int32) (v3 : Int32) (s0 : Int32) (hv0 : inL Λ v0 11) {r : Int32} (hm : jn_X12_bedIf_55 N Λ μ v0 v1 v3 s0 = some r) : J x 5 Λ (QI x Λ r μ) 55 [(0, .ref v0), (1, .int v1), (3, .int v3)] [.int s0] μ := by
  refine j_istore C (lv' := [(4, .int s0), (0, .ref v0), (1, .int v1), (3, .int v3)]) dX12_bedIf_55 (by decide) rfl ?_
  refine j_iload C 0 dX12_bedIf_57 rfl ?_
  refine j_if_eq C (tgt := 91) dX12_bedIf_59 (by decide) (fun h1 => ?_) (fun h1 => ?_)
  · replace hm := if_t hm h1
    refine j_iconst C (v := -1) dX12_bedIf_91 rfl ?_
    refine j_sub [] rfl ?_
    exact tj_X12_bedIf_92 C _ _ _  hm
  · replace hm := if_f hm h1
    refine j_aload_n C 1 dX12_bedIf_62 rfl ?_
    refine j_iload_n C 2 dX12_bedIf_63 rfl ?_
    refine j_iconst C (v := 0) dX12_bedIf_64 rfl ?_
    obtain ⟨r2, h3, hm⟩ := bd_some hm
    refine call_I (run_LV C lk_X12_85 ⟨rfl, rfl, Nat.le_of_ble_eq_true rfl, Nat.le_of_ble_eq_true rfl⟩ (As := [.int v1, .int 0]) hv0 rfl rfl (Nat.le_of_ble_eq_true rfl) dX12_bedIf_65 (mc_X12_of _ _ _ _ _ _ _ hv0 h3)) ?_
    refine j_aload_n C 1 dX12_bedIf_68 rfl ?_
    obtain ⟨q4, h5, hm⟩ := bd_some hm
    refine j_getR C fg_X12_64_11 hv0 (dr_spec h5).1 dX12_bedIf_69 ?_
    refine j_iload_n C 2 dX12_bedIf_72 rfl ?_
    refine j_iconst C (v := 1) dX12_bedIf_73 rfl ?_
    refine j_iadd C dX12_bedIf_74 ?_
    refine j_iload_n C 3 dX12_bedIf_75 rfl ?_
    refine j_aload_n C 1 dX12_bedIf_76 rfl ?_
    refine j_iload_n C 2 dX12_bedIf_77 rfl ?_
    refine j_iconst C (v := 0) dX12_bedIf_78 rfl ?_
    obtain ⟨r6, h7, hm⟩ := bd_some hm
    refine call_I (run_LV C lk_X12_85 ⟨rfl, rfl, Nat.le_of_ble_eq_true rfl, Nat.le_of_ble_eq_true rfl⟩ (As := [.int v1, .int 0]) hv0 rfl rfl (Nat.le_of_ble_eq_true rfl) dX12_bedIf_79 (mc_X12_of _ _ _ _ _ _ _ hv0 h7)) ?_
    refine j_iadd C dX12_bedIf_82 ?_
    obtain ⟨r8, h9, hm⟩ := bd_some hm
    refine call_I (run_LS C ls_X12_474 ⟨rfl, rfl, Nat.le_of_ble_eq_true rfl, Nat.le_of_ble_eq_true rfl⟩ (As := [.int (v1 + 1), .int (v3 + r6)]) rfl rfl (Nat.le_of_ble_eq_true rfl) dX12_bedIf_83 (mc_X12_bedAt _ _ _ _ _ _  h9)) ?_
    obtain ⟨h10, hm⟩ := gd_some hm
    refine j_iald C ((dr_spec h5).2) h10 dX12_bedIf_86 ?_
    refine j_iadd C dX12_bedIf_87 ?_
    refine j_goto C (tgt := 92) dX12_bedIf_88 (by decide) ?_
    refine j_sub [] rfl ?_
    exact tj_X12_bedIf_92 C _ _ _  hm
set_option maxRecDepth 20000 in
set_option maxHeartbeats 4000000 in
theorem tj_X12_bedIf_54 {x : Ctx} {Λ : Lay} (C : Cx x cX12_bedIf 5 (some .int) RX12 Λ rm_X12_bedIf) (N : Nat) (μ : Mem) (v0 : Nat) (v1 : Int32) (v3 : Int32) (hv0 : inL Λ v0 11) {r : Int32} (hm : jn_X12_bedIf_54 N Λ μ v0 v1 v3 = some r) : J x 5 Λ (QI x Λ r μ) 54 [(0, .ref v0), (1, .int v1), (3, .int v3)] [] μ := by
  refine j_iconst C (v := 0) dX12_bedIf_54 rfl ?_
  exact tj_X12_bedIf_55 C _ _ _ _ _ _ hv0 hm
set_option maxRecDepth 20000 in
set_option maxHeartbeats 4000000 in
theorem tm_X12_bedIf {x : Ctx} {Λ : Lay} (C : Cx x cX12_bedIf 5 (some .int) RX12 Λ rm_X12_bedIf) (N : Nat) (μ : Mem) (v0 : Nat) (v1 : Int32) (v2 : Int32) (v3 : Int32) (hv0 : inL Λ v0 11) {r : Int32} (hm : m_X12_bedIf N Λ μ v0 v1 v2 v3 = some r) : J x 5 Λ (QI x Λ r μ) 0 [(0, .ref v0), (1, .int v1), (2, .int v2), (3, .int v3)] [] μ := by
  refine j_iload_n C 3 dX12_bedIf_0 rfl ?_
  refine j_bipush C (v := 24) dX12_bedIf_1 rfl ?_
  refine j_icmp_ne C (tgt := 19) dX12_bedIf_3 (by decide) (fun h1 => ?_) (fun h1 => ?_)
  · replace hm := if_f hm h1
    refine j_aload_n C 0 dX12_bedIf_19 rfl ?_
    refine j_iload_n C 1 dX12_bedIf_20 rfl ?_
    refine j_iconst C (v := 3) dX12_bedIf_21 rfl ?_
    obtain ⟨r2, h3, hm⟩ := bd_some hm
    refine call_I (run_LV C lk_X12_85 ⟨rfl, rfl, Nat.le_of_ble_eq_true rfl, Nat.le_of_ble_eq_true rfl⟩ (As := [.int v1, .int 3]) hv0 rfl rfl (Nat.le_of_ble_eq_true rfl) dX12_bedIf_22 (mc_X12_of _ _ _ _ _ _ _ hv0 h3)) ?_
    refine j_if_ne C (tgt := 54) dX12_bedIf_25 (by decide) (fun h4 => ?_) (fun h4 => ?_)
    · replace hm := if_f hm h4
      refine j_sub [0, 1, 3] rfl ?_
      exact tj_X12_bedIf_54 C _ _ _ _ _ hv0 hm
    · replace hm := if_t hm h4
      refine j_iload_n C 3 dX12_bedIf_28 rfl ?_
      refine j_iload_n C 2 dX12_bedIf_29 rfl ?_
      refine j_icmp_lt C (tgt := 54) dX12_bedIf_30 (by decide) (fun h5 => ?_) (fun h5 => ?_)
      · replace hm := if_t hm h5
        refine j_sub [0, 1, 3] rfl ?_
        exact tj_X12_bedIf_54 C _ _ _ _ _ hv0 hm
      · replace hm := if_f hm h5
        refine j_aload_n C 0 dX12_bedIf_33 rfl ?_
        obtain ⟨r6, h7, hm⟩ := bd_some hm
        refine call_I (run_LV C lk_X12_168 ⟨rfl, rfl, Nat.le_of_ble_eq_true rfl, Nat.le_of_ble_eq_true rfl⟩ (As := []) hv0 rfl rfl (Nat.le_of_ble_eq_true rfl) dX12_bedIf_34 (mc_X12_taken _ _ _ _ _ hv0 h7)) ?_
        refine j_iload_n C 3 dX12_bedIf_37 rfl ?_
        refine j_aload_n C 0 dX12_bedIf_38 rfl ?_
        refine j_iload_n C 1 dX12_bedIf_39 rfl ?_
        refine j_iconst C (v := 0) dX12_bedIf_40 rfl ?_
        obtain ⟨r8, h9, hm⟩ := bd_some hm
        refine call_I (run_LV C lk_X12_85 ⟨rfl, rfl, Nat.le_of_ble_eq_true rfl, Nat.le_of_ble_eq_true rfl⟩ (As := [.int v1, .int 0]) hv0 rfl rfl (Nat.le_of_ble_eq_true rfl) dX12_bedIf_41 (mc_X12_of _ _ _ _ _ _ _ hv0 h9)) ?_
        obtain ⟨r10, h11, hm⟩ := bd_some hm
        refine call_I (run_LS C ls_X12_171 ⟨rfl, rfl, Nat.le_of_ble_eq_true rfl, Nat.le_of_ble_eq_true rfl⟩ (As := [.int r6, .int v3, .int r8]) rfl rfl (Nat.le_of_ble_eq_true rfl) dX12_bedIf_44 (mc_X12_fitsIn _ _ _ _ _ _ _  h11)) ?_
        refine j_if_eq C (tgt := 54) dX12_bedIf_47 (by decide) (fun h12 => ?_) (fun h12 => ?_)
        · replace hm := if_t hm h12
          refine j_sub [0, 1, 3] rfl ?_
          exact tj_X12_bedIf_54 C _ _ _ _ _ hv0 hm
        · replace hm := if_f hm h12
          refine j_iconst C (v := 1) dX12_bedIf_50 rfl ?_
          refine j_goto C (tgt := 55) dX12_bedIf_51 (by decide) ?_
          refine j_sub [0, 1, 3] rfl ?_
          exact tj_X12_bedIf_55 C _ _ _ _ _ _ hv0 hm
  · replace hm := if_t hm h1
    refine j_aload_n C 0 dX12_bedIf_6 rfl ?_
    obtain ⟨q13, h14, hm⟩ := bd_some hm
    refine j_getR C fg_X12_64_11 hv0 (dr_spec h14).1 dX12_bedIf_7 ?_
    refine j_iload_n C 1 dX12_bedIf_10 rfl ?_
    refine j_iconst C (v := 1) dX12_bedIf_11 rfl ?_
    refine j_iadd C dX12_bedIf_12 ?_
    refine j_iload_n C 2 dX12_bedIf_13 rfl ?_
    obtain ⟨r15, h16, hm⟩ := bd_some hm
    refine call_I (run_LS C ls_X12_474 ⟨rfl, rfl, Nat.le_of_ble_eq_true rfl, Nat.le_of_ble_eq_true rfl⟩ (As := [.int (v1 + 1), .int v2]) rfl rfl (Nat.le_of_ble_eq_true rfl) dX12_bedIf_14 (mc_X12_bedAt _ _ _ _ _ _  h16)) ?_
    obtain ⟨h17, hm⟩ := gd_some hm
    refine j_iald C ((dr_spec h14).2) h17 dX12_bedIf_17 ?_
    obtain rfl := Option.some.inj hm
    exact j_ireti C dX12_bedIf_18
set_option maxRecDepth 20000 in
set_option maxHeartbeats 4000000 in
theorem mc_X12_bedIf (l : Launch) (N : Nat) (Λ : Lay) (μ : Mem) (v0 : Nat) (v1 : Int32) (v2 : Int32) (v3 : Int32) (hv0 : inL Λ v0 11) {r : Int32} (hm : m_X12_bedIf N Λ μ v0 v1 v2 v3 = some r) : MI l yX12_bedIf cX12_bedIf 5 (some .int) rm_X12_bedIf Λ [.ref v0, .int v1, .int v2, .int v3] μ r μ := mi_of rfl (Nat.le_of_ble_eq_true rfl) (fun x C _ => tm_X12_bedIf C _ _ _ _ _ _ hv0 hm)
abbrev rm_X12_beds : Room := { frames := 6, cells := 0, slots := 0, locals := 131 }
set_option maxRecDepth 20000 in
set_option maxHeartbeats 4000000 in
theorem tb_X12_beds_86 {x : Ctx} {Λ : Lay} (C : Cx x cX12_beds 6 (some .int) RX12 Λ rm_X12_beds) (N : Nat) (μ : Mem) (k68 : Int32 × Mem → Option (Int32 × Mem)) (k74 : Int32 × Mem → Option (Int32 × Mem)) (k86 : Int32 × Int32 × Mem → Option (Int32 × Mem)) (v0 : Nat) (v1 : Int32) (v2 : Int32) (v3 : Int32) (v4 : Int32) (v5 : Int32) (hk68 : ∀ (s : Int32 × Mem) (r : Int32 × Mem), k68 s = some r → J x 6 Λ (QI x Λ r.1 r.2) 68 [(0, .ref v0), (1, .int v1), (2, .int s.1)] [] (s.2)) (hk74 : ∀ (s : Int32 × Mem) (r : Int32 × Mem), k74 s = some r → J x 6 Λ (QI x Λ r.1 r.2) 74 [(0, .ref v0), (1, .int v1), (2, .int v2), (3, .int s.1)] [] (s.2)) (hk86 : ∀ (s : Int32 × Int32 × Mem) (r : Int32 × Mem), k86 s = some r → J x 6 Λ (QI x Λ r.1 r.2) 86 [(0, .ref v0), (1, .int v1), (2, .int v2), (3, .int v3), (4, .int s.1), (5, .int s.2.1)] [] (s.2.2)) (hv0 : inL Λ v0 11) {r : Int32 × Mem} (hm : bd_X12_beds_86 N Λ μ k68 k74 k86 v0 v1 v2 v3 v4 v5 = some r) : J x 6 Λ (QI x Λ r.1 r.2) 86 [(0, .ref v0), (1, .int v1), (2, .int v2), (3, .int v3), (4, .int v4), (5, .int v5)] [] μ := by
  refine j_iload C 5 dX12_beds_86 rfl ?_
  refine j_bipush C (v := 24) dX12_beds_88 rfl ?_
  refine j_icmp_gt C (tgt := 114) dX12_beds_90 (by decide) (fun h1 => ?_) (fun h1 => ?_)
  · replace hm := if_t hm h1
    refine j_aload_n C 0 dX12_beds_114 rfl ?_
    obtain ⟨q2, h3, hm⟩ := bd_some hm
    refine j_getR C fg_X12_64_11 hv0 (dr_spec h3).1 dX12_beds_115 ?_
    refine j_iload_n C 2 dX12_beds_118 rfl ?_
    refine j_iload_n C 3 dX12_beds_119 rfl ?_
    obtain ⟨r4, h5, hm⟩ := bd_some hm
    refine call_I (run_LS C ls_X12_474 ⟨rfl, rfl, Nat.le_of_ble_eq_true rfl, Nat.le_of_ble_eq_true rfl⟩ (As := [.int v2, .int v3]) rfl rfl (Nat.le_of_ble_eq_true rfl) dX12_beds_120 (mc_X12_bedAt _ _ _ _ _ _  h5)) ?_
    refine j_iload C 4 dX12_beds_123 rfl ?_
    obtain ⟨h6, hm⟩ := gd_some hm
    obtain ⟨μ7, e8, hm⟩ := lt_some hm
    refine j_iast C ((dr_spec h3).2) h6 e8 dX12_beds_125 ?_
    obtain ⟨y9, e10, hm⟩ := lt_some hm
    refine j_iinc C 3 (v := y9) (lv' := [(3, .int y9), (0, .ref v0), (1, .int v1), (2, .int v2), (4, .int v4), (5, .int v5)]) dX12_beds_126 rfl (by rw [e10]; rfl) (by decide) rfl ?_
    refine j_goto C (tgt := 74) dX12_beds_129 (by decide) ?_
    refine j_sub [1, 2, 3, 0] rfl ?_
    exact hk74 (y9, μ7) _ hm
  · replace hm := if_f hm h1
    refine j_iload C 4 dX12_beds_93 rfl ?_
    refine j_aload_n C 0 dX12_beds_95 rfl ?_
    refine j_iload_n C 2 dX12_beds_96 rfl ?_
    refine j_iload_n C 3 dX12_beds_97 rfl ?_
    refine j_iload C 5 dX12_beds_98 rfl ?_
    obtain ⟨r11, h12, hm⟩ := bd_some hm
    refine call_I (run_LV C lk_X12_477 ⟨rfl, rfl, Nat.le_of_ble_eq_true rfl, Nat.le_of_ble_eq_true rfl⟩ (As := [.int v2, .int v3, .int v5]) hv0 rfl rfl (Nat.le_of_ble_eq_true rfl) dX12_beds_100 (mc_X12_bedIf _ _ _ _ _ _ _ _ hv0 h12)) ?_
    refine j_mmax C wk_1942 ⟨Nat.le_of_ble_eq_true rfl, Nat.le_of_ble_eq_true rfl⟩ dX12_beds_103 ?_
    obtain ⟨y13, e14, hm⟩ := lt_some hm
    refine j_topi e14 ?_
    refine j_istore C (lv' := [(4, .int y13), (0, .ref v0), (1, .int v1), (2, .int v2), (3, .int v3), (5, .int v5)]) dX12_beds_106 (by decide) rfl ?_
    obtain ⟨y15, e16, hm⟩ := lt_some hm
    refine j_iinc C 5 (v := y15) (lv' := [(5, .int y15), (4, .int y13), (0, .ref v0), (1, .int v1), (2, .int v2), (3, .int v3)]) dX12_beds_108 rfl (by rw [e16]; rfl) (by decide) rfl ?_
    refine j_goto C (tgt := 86) dX12_beds_111 (by decide) ?_
    refine j_sub [2, 3, 4, 5, 1, 0] rfl ?_
    exact hk86 (y13, y15, μ) _ hm
set_option maxRecDepth 20000 in
set_option maxHeartbeats 4000000 in
theorem tl_X12_beds_86 {x : Ctx} {Λ : Lay} (C : Cx x cX12_beds 6 (some .int) RX12 Λ rm_X12_beds) (N : Nat) (k68 : Int32 × Mem → Option (Int32 × Mem)) (k74 : Int32 × Mem → Option (Int32 × Mem)) (v0 : Nat) (v1 : Int32) (v2 : Int32) (v3 : Int32) (hk68 : ∀ (s : Int32 × Mem) (r : Int32 × Mem), k68 s = some r → J x 6 Λ (QI x Λ r.1 r.2) 68 [(0, .ref v0), (1, .int v1), (2, .int s.1)] [] (s.2)) (hk74 : ∀ (s : Int32 × Mem) (r : Int32 × Mem), k74 s = some r → J x 6 Λ (QI x Λ r.1 r.2) 74 [(0, .ref v0), (1, .int v1), (2, .int v2), (3, .int s.1)] [] (s.2)) (hv0 : inL Λ v0 11) (s : Int32 × Int32 × Mem) {r : Int32 × Mem} (hm : lp_X12_beds_86 N Λ k68 k74 v0 v1 v2 v3 s = some r) : J x 6 Λ (QI x Λ r.1 r.2) 86 [(0, .ref v0), (1, .int v1), (2, .int v2), (3, .int v3), (4, .int s.1), (5, .int s.2.1)] [] (s.2.2) :=
  cw_ind (P := fun s r => J x 6 Λ (QI x Λ r.1 r.2) 86 [(0, .ref v0), (1, .int v1), (2, .int v2), (3, .int v3), (4, .int s.1), (5, .int s.2.1)] [] (s.2.2)) (fun k hkk s r e => tb_X12_beds_86 C _ _ _ _ _ _ _ _ _ _ _ hk68 hk74 hkk hv0 e) N s r hm
set_option maxRecDepth 20000 in
set_option maxHeartbeats 4000000 in
theorem tb_X12_beds_74 {x : Ctx} {Λ : Lay} (C : Cx x cX12_beds 6 (some .int) RX12 Λ rm_X12_beds) (N : Nat) (μ : Mem) (k68 : Int32 × Mem → Option (Int32 × Mem)) (k74 : Int32 × Mem → Option (Int32 × Mem)) (v0 : Nat) (v1 : Int32) (v2 : Int32) (v3 : Int32) (hk68 : ∀ (s : Int32 × Mem) (r : Int32 × Mem), k68 s = some r → J x 6 Λ (QI x Λ r.1 r.2) 68 [(0, .ref v0), (1, .int v1), (2, .int s.1)] [] (s.2)) (hk74 : ∀ (s : Int32 × Mem) (r : Int32 × Mem), k74 s = some r → J x 6 Λ (QI x Λ r.1 r.2) 74 [(0, .ref v0), (1, .int v1), (2, .int v2), (3, .int s.1)] [] (s.2)) (hv0 : inL Λ v0 11) {r : Int32 × Mem} (hm : bd_X12_beds_74 N Λ μ k68 k74 v0 v1 v2 v3 = some r) : J x 6 Λ (QI x Λ r.1 r.2) 74 [(0, .ref v0), (1, .int v1), (2, .int v2), (3, .int v3)] [] μ := by
  refine j_iload_n C 3 dX12_beds_74 rfl ?_
  refine j_bipush C (v := 24) dX12_beds_75 rfl ?_
  refine j_icmp_gt C (tgt := 132) dX12_beds_77 (by decide) (fun h1 => ?_) (fun h1 => ?_)
  · replace hm := if_t hm h1
    obtain ⟨y2, e3, hm⟩ := lt_some hm
    refine j_iinc C 2 (v := y2) (lv' := [(2, .int y2), (0, .ref v0), (1, .int v1), (3, .int v3)]) dX12_beds_132 rfl (by rw [e3]; rfl) (by decide) rfl ?_
    refine j_goto C (tgt := 68) dX12_beds_135 (by decide) ?_
    refine j_sub [1, 2, 0] rfl ?_
    exact hk68 (y2, μ) _ hm
  · replace hm := if_f hm h1
    refine j_iconst C (v := 0) dX12_beds_80 rfl ?_
    refine j_istore C (lv' := [(4, .int 0), (0, .ref v0), (1, .int v1), (2, .int v2), (3, .int v3)]) dX12_beds_81 (by decide) rfl ?_
    refine j_iconst C (v := 0) dX12_beds_83 rfl ?_
    refine j_istore C (lv' := [(5, .int 0), (4, .int 0), (0, .ref v0), (1, .int v1), (2, .int v2), (3, .int v3)]) dX12_beds_84 (by decide) rfl ?_
    refine j_sub [2, 3, 4, 5, 1, 0] rfl ?_
    exact tl_X12_beds_86 C _ _ _ _ _ _ _ hk68 hk74 hv0 (0, 0, μ) hm
set_option maxRecDepth 20000 in
set_option maxHeartbeats 4000000 in
theorem tl_X12_beds_74 {x : Ctx} {Λ : Lay} (C : Cx x cX12_beds 6 (some .int) RX12 Λ rm_X12_beds) (N : Nat) (k68 : Int32 × Mem → Option (Int32 × Mem)) (v0 : Nat) (v1 : Int32) (v2 : Int32) (hk68 : ∀ (s : Int32 × Mem) (r : Int32 × Mem), k68 s = some r → J x 6 Λ (QI x Λ r.1 r.2) 68 [(0, .ref v0), (1, .int v1), (2, .int s.1)] [] (s.2)) (hv0 : inL Λ v0 11) (s : Int32 × Mem) {r : Int32 × Mem} (hm : lp_X12_beds_74 N Λ k68 v0 v1 v2 s = some r) : J x 6 Λ (QI x Λ r.1 r.2) 74 [(0, .ref v0), (1, .int v1), (2, .int v2), (3, .int s.1)] [] (s.2) :=
  cw_ind (P := fun s r => J x 6 Λ (QI x Λ r.1 r.2) 74 [(0, .ref v0), (1, .int v1), (2, .int v2), (3, .int s.1)] [] (s.2)) (fun k hkk s r e => tb_X12_beds_74 C _ _ _ _ _ _ _ _ hk68 hkk hv0 e) N s r hm
set_option maxRecDepth 20000 in
set_option maxHeartbeats 4000000 in
theorem tj_X12_beds_212 {x : Ctx} {Λ : Lay} (C : Cx x cX12_beds 6 (some .int) RX12 Λ rm_X12_beds) (N : Nat) (μ : Mem) (k157 : Int32 × Int32 × Int32 × Mem → Option (Int32 × Mem)) (v0 : Nat) (v1 : Int32) (v3 : Int32) (v4 : Int32) (s0 : Int32) (hk157 : ∀ (s : Int32 × Int32 × Int32 × Mem) (r : Int32 × Mem), k157 s = some r → J x 6 Λ (QI x Λ r.1 r.2) 157 [(0, .ref v0), (1, .int v1), (2, .int s.1), (3, .int s.2.1), (4, .int s.2.2.1)] [] (s.2.2.2)) (hv0 : inL Λ v0 11) {r : Int32 × Mem} (hm : jn_X12_beds_212 N Λ μ k157 v0 v1 v3 v4 s0 = some r) : J x 6 Λ (QI x Λ r.1 r.2) 212 [(0, .ref v0), (1, .int v1), (3, .int v3), (4, .int v4)] [.int s0] μ := by
  refine j_istore_n C (lv' := [(2, .int s0), (0, .ref v0), (1, .int v1), (3, .int v3), (4, .int v4)]) dX12_beds_212 (by decide) rfl ?_
  obtain ⟨y1, e2, hm⟩ := lt_some hm
  refine j_iinc C 4 (v := y1) (lv' := [(4, .int y1), (2, .int s0), (0, .ref v0), (1, .int v1), (3, .int v3)]) dX12_beds_213 rfl (by rw [e2]; rfl) (by decide) rfl ?_
  refine j_goto C (tgt := 157) dX12_beds_216 (by decide) ?_
  refine j_sub [2, 3, 1, 4, 0] rfl ?_
  exact hk157 (s0, v3, y1, μ) _ hm
set_option maxRecDepth 20000 in
set_option maxHeartbeats 4000000 in
theorem tb_X12_beds_165 {x : Ctx} {Λ : Lay} (C : Cx x cX12_beds 6 (some .int) RX12 Λ rm_X12_beds) (N : Nat) (μ : Mem) (k157 : Int32 × Int32 × Int32 × Mem → Option (Int32 × Mem)) (k165 : Int32 × Mem → Option (Int32 × Mem)) (v0 : Nat) (v1 : Int32) (v2 : Int32) (v3 : Int32) (v4 : Int32) (hk157 : ∀ (s : Int32 × Int32 × Int32 × Mem) (r : Int32 × Mem), k157 s = some r → J x 6 Λ (QI x Λ r.1 r.2) 157 [(0, .ref v0), (1, .int v1), (2, .int s.1), (3, .int s.2.1), (4, .int s.2.2.1)] [] (s.2.2.2)) (hk165 : ∀ (s : Int32 × Mem) (r : Int32 × Mem), k165 s = some r → J x 6 Λ (QI x Λ r.1 r.2) 165 [(0, .ref v0), (1, .int v1), (2, .int v2), (3, .int s.1), (4, .int v4)] [] (s.2)) (hv0 : inL Λ v0 11) {r : Int32 × Mem} (hm : bd_X12_beds_165 N Λ μ k157 k165 v0 v1 v2 v3 v4 = some r) : J x 6 Λ (QI x Λ r.1 r.2) 165 [(0, .ref v0), (1, .int v1), (2, .int v2), (3, .int v3), (4, .int v4)] [] μ := by
  refine j_aload_n C 0 dX12_beds_165 rfl ?_
  refine j_iload C 4 dX12_beds_166 rfl ?_
  refine j_iload_n C 2 dX12_beds_168 rfl ?_
  refine j_iload_n C 3 dX12_beds_169 rfl ?_
  obtain ⟨r1, h2, hm⟩ := bd_some hm
  refine call_I (run_LV C lk_X12_477 ⟨rfl, rfl, Nat.le_of_ble_eq_true rfl, Nat.le_of_ble_eq_true rfl⟩ (As := [.int v4, .int v2, .int v3]) hv0 rfl rfl (Nat.le_of_ble_eq_true rfl) dX12_beds_170 (mc_X12_bedIf _ _ _ _ _ _ _ _ hv0 h2)) ?_
  refine j_aload_n C 0 dX12_beds_173 rfl ?_
  obtain ⟨q3, h4, hm⟩ := bd_some hm
  refine j_getR C fg_X12_64_11 hv0 (dr_spec h4).1 dX12_beds_174 ?_
  refine j_iload C 4 dX12_beds_177 rfl ?_
  refine j_iload_n C 2 dX12_beds_179 rfl ?_
  obtain ⟨r5, h6, hm⟩ := bd_some hm
  refine call_I (run_LS C ls_X12_474 ⟨rfl, rfl, Nat.le_of_ble_eq_true rfl, Nat.le_of_ble_eq_true rfl⟩ (As := [.int v4, .int v2]) rfl rfl (Nat.le_of_ble_eq_true rfl) dX12_beds_180 (mc_X12_bedAt _ _ _ _ _ _  h6)) ?_
  obtain ⟨h7, hm⟩ := gd_some hm
  refine j_iald C ((dr_spec h4).2) h7 dX12_beds_183 ?_
  refine j_icmp_eq C (tgt := 193) dX12_beds_184 (by decide) (fun h8 => ?_) (fun h8 => ?_)
  · replace hm := if_t hm h8
    refine j_iload_n C 3 dX12_beds_193 rfl ?_
    refine j_bipush C (v := 24) dX12_beds_194 rfl ?_
    refine j_icmp_ne C (tgt := 203) dX12_beds_196 (by decide) (fun h9 => ?_) (fun h9 => ?_)
    · replace hm := if_f hm h9
      refine j_iload_n C 3 dX12_beds_203 rfl ?_
      refine j_aload_n C 0 dX12_beds_204 rfl ?_
      refine j_iload C 4 dX12_beds_205 rfl ?_
      refine j_iconst C (v := 0) dX12_beds_207 rfl ?_
      obtain ⟨r10, h11, hm⟩ := bd_some hm
      refine call_I (run_LV C lk_X12_85 ⟨rfl, rfl, Nat.le_of_ble_eq_true rfl, Nat.le_of_ble_eq_true rfl⟩ (As := [.int v4, .int 0]) hv0 rfl rfl (Nat.le_of_ble_eq_true rfl) dX12_beds_208 (mc_X12_of _ _ _ _ _ _ _ hv0 h11)) ?_
      refine j_iadd C dX12_beds_211 ?_
      refine j_sub [0, 1, 3, 4] rfl ?_
      exact tj_X12_beds_212 C _ _ _ _ _ _ _ _ hk157 hv0 hm
    · replace hm := if_t hm h9
      refine j_iload_n C 2 dX12_beds_199 rfl ?_
      refine j_goto C (tgt := 212) dX12_beds_200 (by decide) ?_
      refine j_sub [0, 1, 3, 4] rfl ?_
      exact tj_X12_beds_212 C _ _ _ _ _ _ _ _ hk157 hv0 hm
  · replace hm := if_f hm h8
    obtain ⟨y12, e13, hm⟩ := lt_some hm
    refine j_iinc C 3 (v := y12) (lv' := [(3, .int y12), (0, .ref v0), (1, .int v1), (2, .int v2), (4, .int v4)]) dX12_beds_187 rfl (by rw [e13]; rfl) (by decide) rfl ?_
    refine j_goto C (tgt := 165) dX12_beds_190 (by decide) ?_
    refine j_sub [1, 2, 3, 0, 4] rfl ?_
    exact hk165 (y12, μ) _ hm
set_option maxRecDepth 20000 in
set_option maxHeartbeats 4000000 in
theorem tl_X12_beds_165 {x : Ctx} {Λ : Lay} (C : Cx x cX12_beds 6 (some .int) RX12 Λ rm_X12_beds) (N : Nat) (k157 : Int32 × Int32 × Int32 × Mem → Option (Int32 × Mem)) (v0 : Nat) (v1 : Int32) (v2 : Int32) (v4 : Int32) (hk157 : ∀ (s : Int32 × Int32 × Int32 × Mem) (r : Int32 × Mem), k157 s = some r → J x 6 Λ (QI x Λ r.1 r.2) 157 [(0, .ref v0), (1, .int v1), (2, .int s.1), (3, .int s.2.1), (4, .int s.2.2.1)] [] (s.2.2.2)) (hv0 : inL Λ v0 11) (s : Int32 × Mem) {r : Int32 × Mem} (hm : lp_X12_beds_165 N Λ k157 v0 v1 v2 v4 s = some r) : J x 6 Λ (QI x Λ r.1 r.2) 165 [(0, .ref v0), (1, .int v1), (2, .int v2), (3, .int s.1), (4, .int v4)] [] (s.2) :=
  cw_ind (P := fun s r => J x 6 Λ (QI x Λ r.1 r.2) 165 [(0, .ref v0), (1, .int v1), (2, .int v2), (3, .int s.1), (4, .int v4)] [] (s.2)) (fun k hkk s r e => tb_X12_beds_165 C _ _ _ _ _ _ _ _ _ hk157 hkk hv0 e) N s r hm
set_option maxRecDepth 20000 in
set_option maxHeartbeats 4000000 in
theorem tj_X12_beds_230 {x : Ctx} {Λ : Lay} (C : Cx x cX12_beds 6 (some .int) RX12 Λ rm_X12_beds) (N : Nat) (μ : Mem) (s0 : Int32) {r : Int32 × Mem} (hm : jn_X12_beds_230 N Λ μ s0 = some r) : J x 6 Λ (QI x Λ r.1 r.2) 230 [] [.int s0] μ := by
  obtain rfl := Option.some.inj hm
  exact j_ireti C dX12_beds_230
set_option maxRecDepth 20000 in
set_option maxHeartbeats 4000000 in
theorem tb_X12_beds_157 {x : Ctx} {Λ : Lay} (C : Cx x cX12_beds 6 (some .int) RX12 Λ rm_X12_beds) (N : Nat) (μ : Mem) (k157 : Int32 × Int32 × Int32 × Mem → Option (Int32 × Mem)) (v0 : Nat) (v1 : Int32) (v2 : Int32) (v3 : Int32) (v4 : Int32) (hk157 : ∀ (s : Int32 × Int32 × Int32 × Mem) (r : Int32 × Mem), k157 s = some r → J x 6 Λ (QI x Λ r.1 r.2) 157 [(0, .ref v0), (1, .int v1), (2, .int s.1), (3, .int s.2.1), (4, .int s.2.2.1)] [] (s.2.2.2)) (hv0 : inL Λ v0 11) {r : Int32 × Mem} (hm : bd_X12_beds_157 N Λ μ k157 v0 v1 v2 v3 v4 = some r) : J x 6 Λ (QI x Λ r.1 r.2) 157 [(0, .ref v0), (1, .int v1), (2, .int v2), (3, .int v3), (4, .int v4)] [] μ := by
  refine j_iload C 4 dX12_beds_157 rfl ?_
  refine j_iload_n C 1 dX12_beds_159 rfl ?_
  refine j_icmp_gt C (tgt := 219) dX12_beds_160 (by decide) (fun h1 => ?_) (fun h1 => ?_)
  · replace hm := if_t hm h1
    refine j_iload_n C 3 dX12_beds_219 rfl ?_
    refine j_bipush C (v := 24) dX12_beds_220 rfl ?_
    refine j_icmp_ne C (tgt := 229) dX12_beds_222 (by decide) (fun h2 => ?_) (fun h2 => ?_)
    · replace hm := if_f hm h2
      refine j_iload_n C 3 dX12_beds_229 rfl ?_
      refine j_sub [] rfl ?_
      exact tj_X12_beds_230 C _ _ _  hm
    · replace hm := if_t hm h2
      refine j_iconst C (v := -1) dX12_beds_225 rfl ?_
      refine j_goto C (tgt := 230) dX12_beds_226 (by decide) ?_
      refine j_sub [] rfl ?_
      exact tj_X12_beds_230 C _ _ _  hm
  · replace hm := if_f hm h1
    refine j_iconst C (v := 0) dX12_beds_163 rfl ?_
    refine j_istore_n C (lv' := [(3, .int 0), (0, .ref v0), (1, .int v1), (2, .int v2), (4, .int v4)]) dX12_beds_164 (by decide) rfl ?_
    refine j_sub [1, 2, 3, 0, 4] rfl ?_
    exact tl_X12_beds_165 C _ _ _ _ _ _ hk157 hv0 (0, μ) hm
set_option maxRecDepth 20000 in
set_option maxHeartbeats 4000000 in
theorem tl_X12_beds_157 {x : Ctx} {Λ : Lay} (C : Cx x cX12_beds 6 (some .int) RX12 Λ rm_X12_beds) (N : Nat) (v0 : Nat) (v1 : Int32) (hv0 : inL Λ v0 11) (s : Int32 × Int32 × Int32 × Mem) {r : Int32 × Mem} (hm : lp_X12_beds_157 N Λ v0 v1 s = some r) : J x 6 Λ (QI x Λ r.1 r.2) 157 [(0, .ref v0), (1, .int v1), (2, .int s.1), (3, .int s.2.1), (4, .int s.2.2.1)] [] (s.2.2.2) :=
  cw_ind (P := fun s r => J x 6 Λ (QI x Λ r.1 r.2) 157 [(0, .ref v0), (1, .int v1), (2, .int s.1), (3, .int s.2.1), (4, .int s.2.2.1)] [] (s.2.2.2)) (fun k hkk s r e => tb_X12_beds_157 C _ _ _ _ _ _ _ _ hkk hv0 e) N s r hm
set_option maxRecDepth 20000 in
set_option maxHeartbeats 4000000 in
theorem tb_X12_beds_68 {x : Ctx} {Λ : Lay} (C : Cx x cX12_beds 6 (some .int) RX12 Λ rm_X12_beds) (N : Nat) (μ : Mem) (k68 : Int32 × Mem → Option (Int32 × Mem)) (v0 : Nat) (v1 : Int32) (v2 : Int32) (hk68 : ∀ (s : Int32 × Mem) (r : Int32 × Mem), k68 s = some r → J x 6 Λ (QI x Λ r.1 r.2) 68 [(0, .ref v0), (1, .int v1), (2, .int s.1)] [] (s.2)) (hv0 : inL Λ v0 11) {r : Int32 × Mem} (hm : bd_X12_beds_68 N Λ μ k68 v0 v1 v2 = some r) : J x 6 Λ (QI x Λ r.1 r.2) 68 [(0, .ref v0), (1, .int v1), (2, .int v2)] [] μ := by
  refine j_iload_n C 2 dX12_beds_68 rfl ?_
  refine j_if_lt C (tgt := 138) dX12_beds_69 (by decide) (fun h1 => ?_) (fun h1 => ?_)
  · replace hm := if_t hm h1
    refine j_iload_n C 1 dX12_beds_138 rfl ?_
    refine j_iconst C (v := -1) dX12_beds_139 rfl ?_
    refine j_icmp_ne C (tgt := 150) dX12_beds_140 (by decide) (fun h2 => ?_) (fun h2 => ?_)
    · replace hm := if_f hm h2
      refine j_iconst C (v := 0) dX12_beds_150 rfl ?_
      refine j_istore_n C (lv' := [(2, .int 0), (0, .ref v0), (1, .int v1)]) dX12_beds_151 (by decide) rfl ?_
      refine j_iconst C (v := 0) dX12_beds_152 rfl ?_
      refine j_istore_n C (lv' := [(3, .int 0), (2, .int 0), (0, .ref v0), (1, .int v1)]) dX12_beds_153 (by decide) rfl ?_
      refine j_iconst C (v := 0) dX12_beds_154 rfl ?_
      refine j_istore C (lv' := [(4, .int 0), (3, .int 0), (2, .int 0), (0, .ref v0), (1, .int v1)]) dX12_beds_155 (by decide) rfl ?_
      refine j_sub [3, 4, 2, 1, 0] rfl ?_
      exact tl_X12_beds_157 C _ _ _ hv0 (0, 0, 0, μ) hm
    · replace hm := if_t hm h2
      refine j_aload_n C 0 dX12_beds_143 rfl ?_
      obtain ⟨q3, h4, hm⟩ := bd_some hm
      refine j_getR C fg_X12_64_11 hv0 (dr_spec h4).1 dX12_beds_144 ?_
      refine j_iconst C (v := 0) dX12_beds_147 rfl ?_
      obtain ⟨h5, hm⟩ := gd_some hm
      refine j_iald C ((dr_spec h4).2) h5 dX12_beds_148 ?_
      obtain rfl := Option.some.inj hm
      exact j_ireti C dX12_beds_149
  · replace hm := if_f hm h1
    refine j_iconst C (v := 0) dX12_beds_72 rfl ?_
    refine j_istore_n C (lv' := [(3, .int 0), (0, .ref v0), (1, .int v1), (2, .int v2)]) dX12_beds_73 (by decide) rfl ?_
    refine j_sub [1, 2, 3, 0] rfl ?_
    exact tl_X12_beds_74 C _ _ _ _ _ hk68 hv0 (0, μ) hm
set_option maxRecDepth 20000 in
set_option maxHeartbeats 4000000 in
theorem tl_X12_beds_68 {x : Ctx} {Λ : Lay} (C : Cx x cX12_beds 6 (some .int) RX12 Λ rm_X12_beds) (N : Nat) (v0 : Nat) (v1 : Int32) (hv0 : inL Λ v0 11) (s : Int32 × Mem) {r : Int32 × Mem} (hm : lp_X12_beds_68 N Λ v0 v1 s = some r) : J x 6 Λ (QI x Λ r.1 r.2) 68 [(0, .ref v0), (1, .int v1), (2, .int s.1)] [] (s.2) :=
  cw_ind (P := fun s r => J x 6 Λ (QI x Λ r.1 r.2) 68 [(0, .ref v0), (1, .int v1), (2, .int s.1)] [] (s.2)) (fun k hkk s r e => tb_X12_beds_68 C _ _ _ _ _ _ hkk hv0 e) N s r hm
set_option maxRecDepth 20000 in
set_option maxHeartbeats 4000000 in
theorem tb_X12_beds_35 {x : Ctx} {Λ : Lay} (C : Cx x cX12_beds 6 (some .int) RX12 Λ rm_X12_beds) (N : Nat) (μ : Mem) (k35 : Int32 × Mem → Option (Int32 × Mem)) (v0 : Nat) (v1 : Int32) (v2 : Int32) (hk35 : ∀ (s : Int32 × Mem) (r : Int32 × Mem), k35 s = some r → J x 6 Λ (QI x Λ r.1 r.2) 35 [(0, .ref v0), (1, .int v1), (2, .int s.1)] [] (s.2)) (hv0 : inL Λ v0 11) {r : Int32 × Mem} (hm : bd_X12_beds_35 N Λ μ k35 v0 v1 v2 = some r) : J x 6 Λ (QI x Λ r.1 r.2) 35 [(0, .ref v0), (1, .int v1), (2, .int v2)] [] μ := by
  refine j_iload_n C 2 dX12_beds_35 rfl ?_
  refine j_bipush C (v := 24) dX12_beds_36 rfl ?_
  refine j_icmp_gt C (tgt := 61) dX12_beds_38 (by decide) (fun h1 => ?_) (fun h1 => ?_)
  · replace hm := if_t hm h1
    refine j_aload_n C 0 dX12_beds_61 rfl ?_
    obtain ⟨r2, h3, hm⟩ := bd_some hm
    refine call_I (run_LV C lk_X12_95 ⟨rfl, rfl, Nat.le_of_ble_eq_true rfl, Nat.le_of_ble_eq_true rfl⟩ (As := []) hv0 rfl rfl (Nat.le_of_ble_eq_true rfl) dX12_beds_62 (mc_X12_ships _ _ _ _ _ hv0 h3)) ?_
    refine j_iconst C (v := 1) dX12_beds_65 rfl ?_
    refine j_isub C dX12_beds_66 ?_
    obtain ⟨y4, e5, hm⟩ := lt_some hm
    refine j_topi e5 ?_
    refine j_istore_n C (lv' := [(2, .int y4), (0, .ref v0), (1, .int v1)]) dX12_beds_67 (by decide) rfl ?_
    refine j_sub [1, 2, 0] rfl ?_
    exact tl_X12_beds_68 C _ _ _ hv0 (y4, μ) hm
  · replace hm := if_f hm h1
    refine j_aload_n C 0 dX12_beds_41 rfl ?_
    obtain ⟨q6, h7, hm⟩ := bd_some hm
    refine j_getR C fg_X12_64_11 hv0 (dr_spec h7).1 dX12_beds_42 ?_
    refine j_aload_n C 0 dX12_beds_45 rfl ?_
    obtain ⟨r8, h9, hm⟩ := bd_some hm
    refine call_I (run_LV C lk_X12_95 ⟨rfl, rfl, Nat.le_of_ble_eq_true rfl, Nat.le_of_ble_eq_true rfl⟩ (As := []) hv0 rfl rfl (Nat.le_of_ble_eq_true rfl) dX12_beds_46 (mc_X12_ships _ _ _ _ _ hv0 h9)) ?_
    refine j_iload_n C 2 dX12_beds_49 rfl ?_
    obtain ⟨r10, h11, hm⟩ := bd_some hm
    refine call_I (run_LS C ls_X12_474 ⟨rfl, rfl, Nat.le_of_ble_eq_true rfl, Nat.le_of_ble_eq_true rfl⟩ (As := [.int r8, .int v2]) rfl rfl (Nat.le_of_ble_eq_true rfl) dX12_beds_50 (mc_X12_bedAt _ _ _ _ _ _  h11)) ?_
    refine j_iconst C (v := 0) dX12_beds_53 rfl ?_
    obtain ⟨h12, hm⟩ := gd_some hm
    obtain ⟨μ13, e14, hm⟩ := lt_some hm
    refine j_iast C ((dr_spec h7).2) h12 e14 dX12_beds_54 ?_
    obtain ⟨y15, e16, hm⟩ := lt_some hm
    refine j_iinc C 2 (v := y15) (lv' := [(2, .int y15), (0, .ref v0), (1, .int v1)]) dX12_beds_55 rfl (by rw [e16]; rfl) (by decide) rfl ?_
    refine j_goto C (tgt := 35) dX12_beds_58 (by decide) ?_
    refine j_sub [1, 2, 0] rfl ?_
    exact hk35 (y15, μ13) _ hm
set_option maxRecDepth 20000 in
set_option maxHeartbeats 4000000 in
theorem tl_X12_beds_35 {x : Ctx} {Λ : Lay} (C : Cx x cX12_beds 6 (some .int) RX12 Λ rm_X12_beds) (N : Nat) (v0 : Nat) (v1 : Int32) (hv0 : inL Λ v0 11) (s : Int32 × Mem) {r : Int32 × Mem} (hm : lp_X12_beds_35 N Λ v0 v1 s = some r) : J x 6 Λ (QI x Λ r.1 r.2) 35 [(0, .ref v0), (1, .int v1), (2, .int s.1)] [] (s.2) :=
  cw_ind (P := fun s r => J x 6 Λ (QI x Λ r.1 r.2) 35 [(0, .ref v0), (1, .int v1), (2, .int s.1)] [] (s.2)) (fun k hkk s r e => tb_X12_beds_35 C _ _ _ _ _ _ hkk hv0 e) N s r hm
set_option maxRecDepth 20000 in
set_option maxHeartbeats 4000000 in
theorem tj_X12_beds_24 {x : Ctx} {Λ : Lay} (C : Cx x cX12_beds 6 (some .int) RX12 Λ rm_X12_beds) (N : Nat) (μ : Mem) (v0 : Nat) (v1 : Int32) (s0 : Nat) (s1 : Int32) (hv0 : inL Λ v0 11) (hs0 : inL Λ s0 11) {r : Int32 × Mem} (hm : jn_X12_beds_24 N Λ μ v0 v1 s0 s1 = some r) : J x 6 Λ (QI x Λ r.1 r.2) 24 [(0, .ref v0), (1, .int v1)] [.int s1, .ref s0] μ := by
  refine j_iconst C (v := 1) dX12_beds_24 rfl ?_
  obtain ⟨r1, h2, hm⟩ := bd_some hm
  refine call_I (run_LV C lk_X12_282 ⟨rfl, rfl, Nat.le_of_ble_eq_true rfl, Nat.le_of_ble_eq_true rfl⟩ (As := [.int s1, .int 1]) hs0 rfl rfl (Nat.le_of_ble_eq_true rfl) dX12_beds_25 (mc_X12_throwsIf _ _ _ _ _ _ _ hs0 h2)) ?_
  refine j_if_eq C (tgt := 33) dX12_beds_28 (by decide) (fun h3 => ?_) (fun h3 => ?_)
  · replace hm := if_t hm h3
    refine j_iconst C (v := 0) dX12_beds_33 rfl ?_
    refine j_istore_n C (lv' := [(2, .int 0), (0, .ref v0), (1, .int v1)]) dX12_beds_34 (by decide) rfl ?_
    refine j_sub [1, 2, 0] rfl ?_
    exact tl_X12_beds_35 C _ _ _ hv0 (0, r1.2) hm
  · replace hm := if_f hm h3
    refine j_iconst C (v := 0) dX12_beds_31 rfl ?_
    obtain rfl := Option.some.inj hm
    exact j_ireti C dX12_beds_32
set_option maxRecDepth 20000 in
set_option maxHeartbeats 4000000 in
theorem tj_X12_beds_23 {x : Ctx} {Λ : Lay} (C : Cx x cX12_beds 6 (some .int) RX12 Λ rm_X12_beds) (N : Nat) (μ : Mem) (v0 : Nat) (v1 : Int32) (s0 : Nat) (hv0 : inL Λ v0 11) (hs0 : inL Λ s0 11) {r : Int32 × Mem} (hm : jn_X12_beds_23 N Λ μ v0 v1 s0 = some r) : J x 6 Λ (QI x Λ r.1 r.2) 23 [(0, .ref v0), (1, .int v1)] [.ref s0] μ := by
  refine j_iconst C (v := 0) dX12_beds_23 rfl ?_
  exact tj_X12_beds_24 C _ _ _ _ _ _ hv0 hs0 hm
set_option maxRecDepth 20000 in
set_option maxHeartbeats 4000000 in
theorem tm_X12_beds {x : Ctx} {Λ : Lay} (C : Cx x cX12_beds 6 (some .int) RX12 Λ rm_X12_beds) (N : Nat) (μ : Mem) (v0 : Nat) (v1 : Int32) (hv0 : inL Λ v0 11) {r : Int32 × Mem} (hm : m_X12_beds N Λ μ v0 v1 = some r) : J x 6 Λ (QI x Λ r.1 r.2) 0 [(0, .ref v0), (1, .int v1)] [] μ := by
  refine j_aload_n C 0 dX12_beds_0 rfl ?_
  refine j_iconst C (v := 0) dX12_beds_1 rfl ?_
  obtain ⟨μ1, e2, hm⟩ := lt_some hm
  refine j_putI C fp_X12_3_11 hv0 e2 dX12_beds_2 ?_
  refine j_aload_n C 0 dX12_beds_5 rfl ?_
  refine j_iload_n C 1 dX12_beds_6 rfl ?_
  refine j_iconst C (v := -1) dX12_beds_7 rfl ?_
  refine j_icmp_eq C (tgt := 23) dX12_beds_8 (by decide) (fun h3 => ?_) (fun h3 => ?_)
  · replace hm := if_t hm h3
    exact tj_X12_beds_23 C _ _ _ _ _ hv0 hv0 hm
  · replace hm := if_f hm h3
    refine j_aload_n C 0 dX12_beds_11 rfl ?_
    refine j_iload_n C 1 dX12_beds_12 rfl ?_
    obtain ⟨r4, h5, hm⟩ := bd_some hm
    refine call_I (run_LV C lk_X12_345 ⟨rfl, rfl, Nat.le_of_ble_eq_true rfl, Nat.le_of_ble_eq_true rfl⟩ (As := [.int v1]) hv0 rfl rfl (Nat.le_of_ble_eq_true rfl) dX12_beds_13 (mc_X12_noShip _ _ _ _ _ _ hv0 h5)) ?_
    refine j_if_eq C (tgt := 23) dX12_beds_16 (by decide) (fun h6 => ?_) (fun h6 => ?_)
    · replace hm := if_t hm h6
      exact tj_X12_beds_23 C _ _ _ _ _ hv0 hv0 hm
    · replace hm := if_f hm h6
      refine j_iconst C (v := 1) dX12_beds_19 rfl ?_
      refine j_goto C (tgt := 24) dX12_beds_20 (by decide) ?_
      exact tj_X12_beds_24 C _ _ _ _ _ _ hv0 hv0 hm
set_option maxRecDepth 20000 in
set_option maxHeartbeats 4000000 in
theorem mc_X12_beds (l : Launch) (N : Nat) (Λ : Lay) (μ : Mem) (v0 : Nat) (v1 : Int32) (hv0 : inL Λ v0 11) {r : Int32 × Mem} (hm : m_X12_beds N Λ μ v0 v1 = some r) : MI l yX12_beds cX12_beds 6 (some .int) rm_X12_beds Λ [.ref v0, .int v1] μ r.1 r.2 := mi_of rfl (Nat.le_of_ble_eq_true rfl) (fun x C _ => tm_X12_beds C _ _ _ _ hv0 hm)
abbrev rm_X12_firstOf : Room := { frames := 1, cells := 0, slots := 0, locals := 21 }
set_option maxRecDepth 20000 in
set_option maxHeartbeats 4000000 in
theorem tm_X12_firstOf {x : Ctx} {Λ : Lay} (C : Cx x cX12_firstOf 1 (some .int) RX12 Λ rm_X12_firstOf) (N : Nat) (μ : Mem) (v0 : Int32) {r : Int32} (hm : m_X12_firstOf N Λ μ v0 = some r) : J x 1 Λ (QI x Λ r μ) 0 [(0, .int v0)] [] μ := by
  refine j_iload_n C 0 dX12_firstOf_0 rfl ?_
  obtain ⟨r1, h2, hm⟩ := bd_some hm
  refine call_I (run_LS C ls_X12_480 ⟨rfl, rfl, Nat.le_of_ble_eq_true rfl, Nat.le_of_ble_eq_true rfl⟩ (As := [.int v0]) rfl rfl (Nat.le_of_ble_eq_true rfl) dX12_firstOf_1 (mc_XI_ntz _ _ _ _ _  h2)) ?_
  obtain rfl := Option.some.inj hm
  exact j_ireti C dX12_firstOf_4
set_option maxRecDepth 20000 in
set_option maxHeartbeats 4000000 in
theorem mc_X12_firstOf (l : Launch) (N : Nat) (Λ : Lay) (μ : Mem) (v0 : Int32) {r : Int32} (hm : m_X12_firstOf N Λ μ v0 = some r) : MI l yX12_firstOf cX12_firstOf 1 (some .int) rm_X12_firstOf Λ [.int v0] μ r μ := mi_of rfl (Nat.le_of_ble_eq_true rfl) (fun x C _ => tm_X12_firstOf C _ _ _  hm)
abbrev rm_X12_canPair : Room := { frames := 2, cells := 0, slots := 0, locals := 43 }
set_option maxRecDepth 20000 in
set_option maxHeartbeats 4000000 in
theorem tj_X12_canPair_43 {x : Ctx} {Λ : Lay} (C : Cx x cX12_canPair 3 (some .boolean) RX12 Λ rm_X12_canPair) (N : Nat) (μ : Mem) (s0 : Int32) {r : Int32} (hm : jn_X12_canPair_43 N Λ μ s0 = some r) : J x 3 Λ (QI x Λ r μ) 43 [] [.int s0] μ := by
  obtain ⟨h1, hm⟩ := gd_some hm
  obtain rfl := Option.some.inj hm
  exact j_iretz C h1 dX12_canPair_43
set_option maxRecDepth 20000 in
set_option maxHeartbeats 4000000 in
theorem tj_X12_canPair_42 {x : Ctx} {Λ : Lay} (C : Cx x cX12_canPair 3 (some .boolean) RX12 Λ rm_X12_canPair) (N : Nat) (μ : Mem) {r : Int32} (hm : jn_X12_canPair_42 N Λ μ = some r) : J x 3 Λ (QI x Λ r μ) 42 [] [] μ := by
  refine j_iconst C (v := 0) dX12_canPair_42 rfl ?_
  exact tj_X12_canPair_43 C _ _ _  hm
set_option maxRecDepth 20000 in
set_option maxHeartbeats 4000000 in
theorem tm_X12_canPair {x : Ctx} {Λ : Lay} (C : Cx x cX12_canPair 3 (some .boolean) RX12 Λ rm_X12_canPair) (N : Nat) (μ : Mem) (v0 : Nat) (v1 : Int32) (v2 : Int32) (hv0 : inL Λ v0 11) {r : Int32} (hm : m_X12_canPair N Λ μ v0 v1 v2 = some r) : J x 3 Λ (QI x Λ r μ) 0 [(0, .ref v0), (1, .int v1), (2, .int v2)] [] μ := by
  refine j_aload_n C 0 dX12_canPair_0 rfl ?_
  refine j_iload_n C 1 dX12_canPair_1 rfl ?_
  refine j_iconst C (v := 3) dX12_canPair_2 rfl ?_
  obtain ⟨r1, h2, hm⟩ := bd_some hm
  refine call_I (run_LV C lk_X12_85 ⟨rfl, rfl, Nat.le_of_ble_eq_true rfl, Nat.le_of_ble_eq_true rfl⟩ (As := [.int v1, .int 3]) hv0 rfl rfl (Nat.le_of_ble_eq_true rfl) dX12_canPair_3 (mc_X12_of _ _ _ _ _ _ _ hv0 h2)) ?_
  refine j_iconst C (v := 2) dX12_canPair_6 rfl ?_
  refine j_icmp_eq C (tgt := 42) dX12_canPair_7 (by decide) (fun h3 => ?_) (fun h3 => ?_)
  · replace hm := if_t hm h3
    refine j_sub [] rfl ?_
    exact tj_X12_canPair_42 C _ _  hm
  · replace hm := if_f hm h3
    refine j_aload_n C 0 dX12_canPair_10 rfl ?_
    refine j_iload_n C 2 dX12_canPair_11 rfl ?_
    refine j_iconst C (v := 3) dX12_canPair_12 rfl ?_
    obtain ⟨r4, h5, hm⟩ := bd_some hm
    refine call_I (run_LV C lk_X12_85 ⟨rfl, rfl, Nat.le_of_ble_eq_true rfl, Nat.le_of_ble_eq_true rfl⟩ (As := [.int v2, .int 3]) hv0 rfl rfl (Nat.le_of_ble_eq_true rfl) dX12_canPair_13 (mc_X12_of _ _ _ _ _ _ _ hv0 h5)) ?_
    refine j_iconst C (v := 2) dX12_canPair_16 rfl ?_
    refine j_icmp_eq C (tgt := 42) dX12_canPair_17 (by decide) (fun h6 => ?_) (fun h6 => ?_)
    · replace hm := if_t hm h6
      refine j_sub [] rfl ?_
      exact tj_X12_canPair_42 C _ _  hm
    · replace hm := if_f hm h6
      refine j_aload_n C 0 dX12_canPair_20 rfl ?_
      refine j_iload_n C 1 dX12_canPair_21 rfl ?_
      refine j_iconst C (v := 0) dX12_canPair_22 rfl ?_
      obtain ⟨r7, h8, hm⟩ := bd_some hm
      refine call_I (run_LV C lk_X12_85 ⟨rfl, rfl, Nat.le_of_ble_eq_true rfl, Nat.le_of_ble_eq_true rfl⟩ (As := [.int v1, .int 0]) hv0 rfl rfl (Nat.le_of_ble_eq_true rfl) dX12_canPair_23 (mc_X12_of _ _ _ _ _ _ _ hv0 h8)) ?_
      refine j_aload_n C 0 dX12_canPair_26 rfl ?_
      refine j_iload_n C 2 dX12_canPair_27 rfl ?_
      refine j_iconst C (v := 0) dX12_canPair_28 rfl ?_
      obtain ⟨r9, h10, hm⟩ := bd_some hm
      refine call_I (run_LV C lk_X12_85 ⟨rfl, rfl, Nat.le_of_ble_eq_true rfl, Nat.le_of_ble_eq_true rfl⟩ (As := [.int v2, .int 0]) hv0 rfl rfl (Nat.le_of_ble_eq_true rfl) dX12_canPair_29 (mc_X12_of _ _ _ _ _ _ _ hv0 h10)) ?_
      refine j_iadd C dX12_canPair_32 ?_
      refine j_bipush C (v := 12) dX12_canPair_33 rfl ?_
      refine j_icmp_gt C (tgt := 42) dX12_canPair_35 (by decide) (fun h11 => ?_) (fun h11 => ?_)
      · replace hm := if_t hm h11
        refine j_sub [] rfl ?_
        exact tj_X12_canPair_42 C _ _  hm
      · replace hm := if_f hm h11
        refine j_iconst C (v := 1) dX12_canPair_38 rfl ?_
        refine j_goto C (tgt := 43) dX12_canPair_39 (by decide) ?_
        refine j_sub [] rfl ?_
        exact tj_X12_canPair_43 C _ _ _  hm
set_option maxRecDepth 20000 in
set_option maxHeartbeats 4000000 in
theorem mc_X12_canPair (l : Launch) (N : Nat) (Λ : Lay) (μ : Mem) (v0 : Nat) (v1 : Int32) (v2 : Int32) (hv0 : inL Λ v0 11) {r : Int32} (hm : m_X12_canPair N Λ μ v0 v1 v2 = some r) : MI l yX12_canPair cX12_canPair 3 (some .boolean) rm_X12_canPair Λ [.ref v0, .int v1, .int v2] μ r μ := mi_of rfl (Nat.le_of_ble_eq_true rfl) (fun x C _ => tm_X12_canPair C _ _ _ _ _ hv0 hm)
abbrev rm_X12_pairedBy : Room := { frames := 3, cells := 0, slots := 0, locals := 65 }
set_option maxRecDepth 20000 in
set_option maxHeartbeats 4000000 in
theorem tj_X12_pairedBy_76 {x : Ctx} {Λ : Lay} (C : Cx x cX12_pairedBy 5 (some .int) RX12 Λ rm_X12_pairedBy) (N : Nat) (μ : Mem) (s0 : Int32) {r : Int32} (hm : jn_X12_pairedBy_76 N Λ μ s0 = some r) : J x 5 Λ (QI x Λ r μ) 76 [] [.int s0] μ := by
  obtain rfl := Option.some.inj hm
  exact j_ireti C dX12_pairedBy_76
set_option maxRecDepth 20000 in
set_option maxHeartbeats 4000000 in
theorem tj_X12_pairedBy_75 {x : Ctx} {Λ : Lay} (C : Cx x cX12_pairedBy 5 (some .int) RX12 Λ rm_X12_pairedBy) (N : Nat) (μ : Mem) {r : Int32} (hm : jn_X12_pairedBy_75 N Λ μ = some r) : J x 5 Λ (QI x Λ r μ) 75 [] [] μ := by
  refine j_iconst C (v := -1) dX12_pairedBy_75 rfl ?_
  exact tj_X12_pairedBy_76 C _ _ _  hm
set_option maxRecDepth 20000 in
set_option maxHeartbeats 4000000 in
theorem tm_X12_pairedBy {x : Ctx} {Λ : Lay} (C : Cx x cX12_pairedBy 5 (some .int) RX12 Λ rm_X12_pairedBy) (N : Nat) (μ : Mem) (v0 : Nat) (v1 : Int32) (v2 : Int32) (hv0 : inL Λ v0 11) {r : Int32} (hm : m_X12_pairedBy N Λ μ v0 v1 v2 = some r) : J x 5 Λ (QI x Λ r μ) 0 [(0, .ref v0), (1, .int v1), (2, .int v2)] [] μ := by
  refine j_iload_n C 1 dX12_pairedBy_0 rfl ?_
  obtain ⟨r1, h2, hm⟩ := bd_some hm
  refine call_I (run_LS C ls_X12_482 ⟨rfl, rfl, Nat.le_of_ble_eq_true rfl, Nat.le_of_ble_eq_true rfl⟩ (As := [.int v1]) rfl rfl (Nat.le_of_ble_eq_true rfl) dX12_pairedBy_1 (mc_X12_firstOf _ _ _ _ _  h2)) ?_
  refine j_istore_n C (lv' := [(3, .int r1), (0, .ref v0), (1, .int v1), (2, .int v2)]) dX12_pairedBy_4 (by decide) rfl ?_
  refine j_iload_n C 2 dX12_pairedBy_5 rfl ?_
  refine j_iconst C (v := 1) dX12_pairedBy_6 rfl ?_
  refine j_iload_n C 0 dX12_pairedBy_7 rfl ?_
  refine j_ishl C dX12_pairedBy_8 ?_
  refine j_iconst C (v := -1) dX12_pairedBy_9 rfl ?_
  refine j_ixor C dX12_pairedBy_10 ?_
  refine j_iand C dX12_pairedBy_11 ?_
  obtain ⟨y3, e4, hm⟩ := lt_some hm
  refine j_topi e4 ?_
  refine j_istore C (lv' := [(4, .int y3), (3, .int r1), (0, .ref v0), (1, .int v1), (2, .int v2)]) dX12_pairedBy_12 (by decide) rfl ?_
  refine j_iload_n C 4 dX12_pairedBy_14 rfl ?_
  refine j_iconst C (v := -1) dX12_pairedBy_15 rfl ?_
  refine j_icmp_ne C (tgt := 27) dX12_pairedBy_16 (by decide) (fun h5 => ?_) (fun h5 => ?_)
  · replace hm := if_f hm h5
    refine j_iload C 0 dX12_pairedBy_27 rfl ?_
    refine j_iload_n C 4 dX12_pairedBy_29 rfl ?_
    obtain ⟨r6, h7, hm⟩ := bd_some hm
    refine call_I (run_LS C ls_X12_306 ⟨rfl, rfl, Nat.le_of_ble_eq_true rfl, Nat.le_of_ble_eq_true rfl⟩ (As := [.int y3, .int v2]) rfl rfl (Nat.le_of_ble_eq_true rfl) dX12_pairedBy_30 (mc_X12_has _ _ _ _ _ _  h7)) ?_
    refine j_if_eq C (tgt := 75) dX12_pairedBy_33 (by decide) (fun h8 => ?_) (fun h8 => ?_)
    · replace hm := if_t hm h8
      refine j_sub [] rfl ?_
      exact tj_X12_pairedBy_75 C _ _  hm
    · replace hm := if_f hm h8
      refine j_aload_n C 2 dX12_pairedBy_36 rfl ?_
      refine j_iload_n C 1 dX12_pairedBy_37 rfl ?_
      refine j_iload_n C 4 dX12_pairedBy_38 rfl ?_
      obtain ⟨r9, h10, hm⟩ := bd_some hm
      refine call_I (run_LV C lk_X12_485 ⟨rfl, rfl, Nat.le_of_ble_eq_true rfl, Nat.le_of_ble_eq_true rfl⟩ (As := [.int r1, .int v2]) hv0 rfl rfl (Nat.le_of_ble_eq_true rfl) dX12_pairedBy_39 (mc_X12_canPair _ _ _ _ _ _ _ hv0 h10)) ?_
      refine j_if_eq C (tgt := 75) dX12_pairedBy_42 (by decide) (fun h11 => ?_) (fun h11 => ?_)
      · replace hm := if_t hm h11
        refine j_sub [] rfl ?_
        exact tj_X12_pairedBy_75 C _ _  hm
      · replace hm := if_f hm h11
        refine j_aload_n C 2 dX12_pairedBy_45 rfl ?_
        refine j_iload_n C 1 dX12_pairedBy_46 rfl ?_
        refine j_iconst C (v := 2) dX12_pairedBy_47 rfl ?_
        obtain ⟨r12, h13, hm⟩ := bd_some hm
        refine call_I (run_LV C lk_X12_85 ⟨rfl, rfl, Nat.le_of_ble_eq_true rfl, Nat.le_of_ble_eq_true rfl⟩ (As := [.int r1, .int 2]) hv0 rfl rfl (Nat.le_of_ble_eq_true rfl) dX12_pairedBy_48 (mc_X12_of _ _ _ _ _ _ _ hv0 h13)) ?_
        refine j_aload_n C 2 dX12_pairedBy_51 rfl ?_
        refine j_iload_n C 4 dX12_pairedBy_52 rfl ?_
        refine j_iconst C (v := 2) dX12_pairedBy_53 rfl ?_
        obtain ⟨r14, h15, hm⟩ := bd_some hm
        refine call_I (run_LV C lk_X12_85 ⟨rfl, rfl, Nat.le_of_ble_eq_true rfl, Nat.le_of_ble_eq_true rfl⟩ (As := [.int v2, .int 2]) hv0 rfl rfl (Nat.le_of_ble_eq_true rfl) dX12_pairedBy_54 (mc_X12_of _ _ _ _ _ _ _ hv0 h15)) ?_
        refine j_iadd C dX12_pairedBy_57 ?_
        refine j_aload_n C 2 dX12_pairedBy_58 rfl ?_
        obtain ⟨q16, h17, hm⟩ := bd_some hm
        refine j_getR C fg_X12_67_11 hv0 (dr_spec h17).1 dX12_pairedBy_59 ?_
        refine j_iload C 0 dX12_pairedBy_62 rfl ?_
        refine j_iconst C (v := 1) dX12_pairedBy_64 rfl ?_
        refine j_iload_n C 4 dX12_pairedBy_65 rfl ?_
        refine j_ishl C dX12_pairedBy_66 ?_
        refine j_iconst C (v := -1) dX12_pairedBy_67 rfl ?_
        refine j_ixor C dX12_pairedBy_68 ?_
        refine j_iand C dX12_pairedBy_69 ?_
        obtain ⟨h18, hm⟩ := gd_some hm
        refine j_iald C ((dr_spec h17).2) h18 dX12_pairedBy_70 ?_
        refine j_iadd C dX12_pairedBy_71 ?_
        refine j_goto C (tgt := 76) dX12_pairedBy_72 (by decide) ?_
        refine j_sub [] rfl ?_
        exact tj_X12_pairedBy_76 C _ _ _  hm
  · replace hm := if_t hm h5
    refine j_aload_n C 2 dX12_pairedBy_19 rfl ?_
    obtain ⟨q19, h20, hm⟩ := bd_some hm
    refine j_getR C fg_X12_67_11 hv0 (dr_spec h20).1 dX12_pairedBy_20 ?_
    refine j_iload C 0 dX12_pairedBy_23 rfl ?_
    obtain ⟨h21, hm⟩ := gd_some hm
    refine j_iald C ((dr_spec h20).2) h21 dX12_pairedBy_25 ?_
    obtain rfl := Option.some.inj hm
    exact j_ireti C dX12_pairedBy_26
set_option maxRecDepth 20000 in
set_option maxHeartbeats 4000000 in
theorem mc_X12_pairedBy (l : Launch) (N : Nat) (Λ : Lay) (μ : Mem) (v0 : Nat) (v1 : Int32) (v2 : Int32) (hv0 : inL Λ v0 11) {r : Int32} (hm : m_X12_pairedBy N Λ μ v0 v1 v2 = some r) : MI l yX12_pairedBy cX12_pairedBy 5 (some .int) rm_X12_pairedBy Λ [.ref v0, .int v1, .int v2] μ r μ := mi_of rfl (Nat.le_of_ble_eq_true rfl) (fun x C _ => tm_X12_pairedBy C _ _ _ _ _ hv0 hm)
abbrev rm_X12_laysPairs : Room := { frames := 4, cells := 0, slots := 0, locals := 89 }
set_option maxRecDepth 20000 in
set_option maxHeartbeats 4000000 in
theorem tb_X12_laysPairs_23 {x : Ctx} {Λ : Lay} (C : Cx x cX12_laysPairs 4 none RX12 Λ rm_X12_laysPairs) (N : Nat) (μ : Mem) (k9 : Int32 × Mem → Option (Mem)) (k23 : Int32 × Int32 × Mem → Option (Mem)) (v0 : Nat) (v1 : Int32) (v2 : Int32) (v3 : Int32) (hk9 : ∀ (s : Int32 × Mem) (r : Mem), k9 s = some r → J x 4 Λ (QV x Λ r) 9 [(0, .ref v0), (1, .int s.1)] [] (s.2)) (hk23 : ∀ (s : Int32 × Int32 × Mem) (r : Mem), k23 s = some r → J x 4 Λ (QV x Λ r) 23 [(0, .ref v0), (1, .int v1), (2, .int s.1), (3, .int s.2.1)] [] (s.2.2)) (hv0 : inL Λ v0 11) {r : Mem} (hm : bd_X12_laysPairs_23 N Λ μ k9 k23 v0 v1 v2 v3 = some r) : J x 4 Λ (QV x Λ r) 23 [(0, .ref v0), (1, .int v1), (2, .int v2), (3, .int v3)] [] μ := by
  refine j_iload_n C 3 dX12_laysPairs_23 rfl ?_
  refine j_aload_n C 0 dX12_laysPairs_24 rfl ?_
  obtain ⟨r1, h2, hm⟩ := bd_some hm
  refine call_I (run_LV C lk_X12_95 ⟨rfl, rfl, Nat.le_of_ble_eq_true rfl, Nat.le_of_ble_eq_true rfl⟩ (As := []) hv0 rfl rfl (Nat.le_of_ble_eq_true rfl) dX12_laysPairs_25 (mc_X12_ships _ _ _ _ _ hv0 h2)) ?_
  refine j_icmp_ge C (tgt := 48) dX12_laysPairs_28 (by decide) (fun h3 => ?_) (fun h3 => ?_)
  · replace hm := if_t hm h3
    refine j_aload_n C 0 dX12_laysPairs_48 rfl ?_
    obtain ⟨q4, h5, hm⟩ := bd_some hm
    refine j_getR C fg_X12_67_11 hv0 (dr_spec h5).1 dX12_laysPairs_49 ?_
    refine j_iload_n C 1 dX12_laysPairs_52 rfl ?_
    refine j_iload_n C 2 dX12_laysPairs_53 rfl ?_
    obtain ⟨h6, hm⟩ := gd_some hm
    obtain ⟨μ7, e8, hm⟩ := lt_some hm
    refine j_iast C ((dr_spec h5).2) h6 e8 dX12_laysPairs_54 ?_
    obtain ⟨y9, e10, hm⟩ := lt_some hm
    refine j_iinc C 1 (v := y9) (lv' := [(1, .int y9), (0, .ref v0), (2, .int v2), (3, .int v3)]) dX12_laysPairs_55 rfl (by rw [e10]; rfl) (by decide) rfl ?_
    refine j_goto C (tgt := 9) dX12_laysPairs_58 (by decide) ?_
    refine j_sub [1, 0] rfl ?_
    exact hk9 (y9, μ7) _ hm
  · replace hm := if_f hm h3
    refine j_iload_n C 2 dX12_laysPairs_31 rfl ?_
    refine j_aload_n C 0 dX12_laysPairs_32 rfl ?_
    refine j_iload_n C 1 dX12_laysPairs_33 rfl ?_
    refine j_iload_n C 3 dX12_laysPairs_34 rfl ?_
    obtain ⟨r11, h12, hm⟩ := bd_some hm
    refine call_I (run_LV C lk_X12_488 ⟨rfl, rfl, Nat.le_of_ble_eq_true rfl, Nat.le_of_ble_eq_true rfl⟩ (As := [.int v1, .int v3]) hv0 rfl rfl (Nat.le_of_ble_eq_true rfl) dX12_laysPairs_35 (mc_X12_pairedBy _ _ _ _ _ _ _ hv0 h12)) ?_
    refine j_mmax C wk_1942 ⟨Nat.le_of_ble_eq_true rfl, Nat.le_of_ble_eq_true rfl⟩ dX12_laysPairs_38 ?_
    obtain ⟨y13, e14, hm⟩ := lt_some hm
    refine j_topi e14 ?_
    refine j_istore_n C (lv' := [(2, .int y13), (0, .ref v0), (1, .int v1), (3, .int v3)]) dX12_laysPairs_41 (by decide) rfl ?_
    obtain ⟨y15, e16, hm⟩ := lt_some hm
    refine j_iinc C 3 (v := y15) (lv' := [(3, .int y15), (2, .int y13), (0, .ref v0), (1, .int v1)]) dX12_laysPairs_42 rfl (by rw [e16]; rfl) (by decide) rfl ?_
    refine j_goto C (tgt := 23) dX12_laysPairs_45 (by decide) ?_
    refine j_sub [2, 3, 1, 0] rfl ?_
    exact hk23 (y13, y15, μ) _ hm
set_option maxRecDepth 20000 in
set_option maxHeartbeats 4000000 in
theorem tl_X12_laysPairs_23 {x : Ctx} {Λ : Lay} (C : Cx x cX12_laysPairs 4 none RX12 Λ rm_X12_laysPairs) (N : Nat) (k9 : Int32 × Mem → Option (Mem)) (v0 : Nat) (v1 : Int32) (hk9 : ∀ (s : Int32 × Mem) (r : Mem), k9 s = some r → J x 4 Λ (QV x Λ r) 9 [(0, .ref v0), (1, .int s.1)] [] (s.2)) (hv0 : inL Λ v0 11) (s : Int32 × Int32 × Mem) {r : Mem} (hm : lp_X12_laysPairs_23 N Λ k9 v0 v1 s = some r) : J x 4 Λ (QV x Λ r) 23 [(0, .ref v0), (1, .int v1), (2, .int s.1), (3, .int s.2.1)] [] (s.2.2) :=
  cw_ind (P := fun s r => J x 4 Λ (QV x Λ r) 23 [(0, .ref v0), (1, .int v1), (2, .int s.1), (3, .int s.2.1)] [] (s.2.2)) (fun k hkk s r e => tb_X12_laysPairs_23 C _ _ _ _ _ _ _ _ hk9 hkk hv0 e) N s r hm
set_option maxRecDepth 20000 in
set_option maxHeartbeats 4000000 in
theorem tb_X12_laysPairs_9 {x : Ctx} {Λ : Lay} (C : Cx x cX12_laysPairs 4 none RX12 Λ rm_X12_laysPairs) (N : Nat) (μ : Mem) (k9 : Int32 × Mem → Option (Mem)) (v0 : Nat) (v1 : Int32) (hk9 : ∀ (s : Int32 × Mem) (r : Mem), k9 s = some r → J x 4 Λ (QV x Λ r) 9 [(0, .ref v0), (1, .int s.1)] [] (s.2)) (hv0 : inL Λ v0 11) {r : Mem} (hm : bd_X12_laysPairs_9 N Λ μ k9 v0 v1 = some r) : J x 4 Λ (QV x Λ r) 9 [(0, .ref v0), (1, .int v1)] [] μ := by
  refine j_iload_n C 1 dX12_laysPairs_9 rfl ?_
  refine j_iconst C (v := 1) dX12_laysPairs_10 rfl ?_
  refine j_aload_n C 0 dX12_laysPairs_11 rfl ?_
  obtain ⟨r1, h2, hm⟩ := bd_some hm
  refine call_I (run_LV C lk_X12_95 ⟨rfl, rfl, Nat.le_of_ble_eq_true rfl, Nat.le_of_ble_eq_true rfl⟩ (As := []) hv0 rfl rfl (Nat.le_of_ble_eq_true rfl) dX12_laysPairs_12 (mc_X12_ships _ _ _ _ _ hv0 h2)) ?_
  refine j_ishl C dX12_laysPairs_15 ?_
  refine j_icmp_ge C (tgt := 61) dX12_laysPairs_16 (by decide) (fun h3 => ?_) (fun h3 => ?_)
  · replace hm := if_t hm h3
    obtain rfl := Option.some.inj hm
    exact j_vret C dX12_laysPairs_61
  · replace hm := if_f hm h3
    refine j_iconst C (v := 0) dX12_laysPairs_19 rfl ?_
    refine j_istore_n C (lv' := [(2, .int 0), (0, .ref v0), (1, .int v1)]) dX12_laysPairs_20 (by decide) rfl ?_
    refine j_iconst C (v := -1) dX12_laysPairs_21 rfl ?_
    refine j_istore_n C (lv' := [(3, .int (-1)), (2, .int 0), (0, .ref v0), (1, .int v1)]) dX12_laysPairs_22 (by decide) rfl ?_
    refine j_sub [2, 3, 1, 0] rfl ?_
    exact tl_X12_laysPairs_23 C _ _ _ _ hk9 hv0 (0, (-1), μ) hm
set_option maxRecDepth 20000 in
set_option maxHeartbeats 4000000 in
theorem tl_X12_laysPairs_9 {x : Ctx} {Λ : Lay} (C : Cx x cX12_laysPairs 4 none RX12 Λ rm_X12_laysPairs) (N : Nat) (v0 : Nat) (hv0 : inL Λ v0 11) (s : Int32 × Mem) {r : Mem} (hm : lp_X12_laysPairs_9 N Λ v0 s = some r) : J x 4 Λ (QV x Λ r) 9 [(0, .ref v0), (1, .int s.1)] [] (s.2) :=
  cw_ind (P := fun s r => J x 4 Λ (QV x Λ r) 9 [(0, .ref v0), (1, .int s.1)] [] (s.2)) (fun k hkk s r e => tb_X12_laysPairs_9 C _ _ _ _ _ hkk hv0 e) N s r hm
set_option maxRecDepth 20000 in
set_option maxHeartbeats 4000000 in
theorem tm_X12_laysPairs {x : Ctx} {Λ : Lay} (C : Cx x cX12_laysPairs 4 none RX12 Λ rm_X12_laysPairs) (N : Nat) (μ : Mem) (v0 : Nat) (hv0 : inL Λ v0 11) {r : Mem} (hm : m_X12_laysPairs N Λ μ v0 = some r) : J x 4 Λ (QV x Λ r) 0 [(0, .ref v0)] [] μ := by
  refine j_aload_n C 0 dX12_laysPairs_0 rfl ?_
  obtain ⟨q1, h2, hm⟩ := bd_some hm
  refine j_getR C fg_X12_67_11 hv0 (dr_spec h2).1 dX12_laysPairs_1 ?_
  refine j_iconst C (v := 0) dX12_laysPairs_4 rfl ?_
  refine j_iconst C (v := 0) dX12_laysPairs_5 rfl ?_
  obtain ⟨h3, hm⟩ := gd_some hm
  obtain ⟨μ4, e5, hm⟩ := lt_some hm
  refine j_iast C ((dr_spec h2).2) h3 e5 dX12_laysPairs_6 ?_
  refine j_iconst C (v := 1) dX12_laysPairs_7 rfl ?_
  refine j_istore_n C (lv' := [(1, .int 1), (0, .ref v0)]) dX12_laysPairs_8 (by decide) rfl ?_
  refine j_sub [1, 0] rfl ?_
  exact tl_X12_laysPairs_9 C _ _ hv0 (1, μ4) hm
set_option maxRecDepth 20000 in
set_option maxHeartbeats 4000000 in
theorem mc_X12_laysPairs (l : Launch) (N : Nat) (Λ : Lay) (μ : Mem) (v0 : Nat) (hv0 : inL Λ v0 11) {r : Mem} (hm : m_X12_laysPairs N Λ μ v0 = some r) : MV l yX12_laysPairs cX12_laysPairs 4 rm_X12_laysPairs Λ [.ref v0] μ r := mv_of rfl (Nat.le_of_ble_eq_true rfl) (fun x C _ => tm_X12_laysPairs C _ _ _ hv0 hm)
abbrev rm_X12_pairs : Room := { frames := 5, cells := 0, slots := 0, locals := 112 }
set_option maxRecDepth 20000 in
set_option maxHeartbeats 4000000 in
theorem tj_X12_pairs_159 {x : Ctx} {Λ : Lay} (C : Cx x cX12_pairs 7 (some .int) RX12 Λ rm_X12_pairs) (N : Nat) (μ : Mem) (k63 : Int32 × Int32 × Int32 × Mem → Option (Int32 × Mem)) (v0 : Nat) (v1 : Int32) (v3 : Int32) (v4 : Int32) (s0 : Int32) (hk63 : ∀ (s : Int32 × Int32 × Int32 × Mem) (r : Int32 × Mem), k63 s = some r → J x 7 Λ (QI x Λ r.1 r.2) 63 [(0, .ref v0), (1, .int v1), (2, .int s.1), (3, .int s.2.1), (4, .int s.2.2.1)] [] (s.2.2.2)) (hv0 : inL Λ v0 11) {r : Int32 × Mem} (hm : jn_X12_pairs_159 N Λ μ k63 v0 v1 v3 v4 s0 = some r) : J x 7 Λ (QI x Λ r.1 r.2) 159 [(0, .ref v0), (1, .int v1), (3, .int v3), (4, .int v4)] [.int s0] μ := by
  refine j_istore_n C (lv' := [(2, .int s0), (0, .ref v0), (1, .int v1), (3, .int v3), (4, .int v4)]) dX12_pairs_159 (by decide) rfl ?_
  refine j_goto C (tgt := 63) dX12_pairs_160 (by decide) ?_
  refine j_sub [1, 2, 0, 3, 4] rfl ?_
  exact hk63 (s0, v3, v4, μ) _ hm
set_option maxRecDepth 20000 in
set_option maxHeartbeats 4000000 in
theorem tj_X12_pairs_131 {x : Ctx} {Λ : Lay} (C : Cx x cX12_pairs 7 (some .int) RX12 Λ rm_X12_pairs) (N : Nat) (μ : Mem) (k63 : Int32 × Int32 × Int32 × Mem → Option (Int32 × Mem)) (v0 : Nat) (v1 : Int32) (v2 : Int32) (v4 : Int32) (v5 : Int32) (v6 : Int32) (s0 : Int32) (hk63 : ∀ (s : Int32 × Int32 × Int32 × Mem) (r : Int32 × Mem), k63 s = some r → J x 7 Λ (QI x Λ r.1 r.2) 63 [(0, .ref v0), (1, .int v1), (2, .int s.1), (3, .int s.2.1), (4, .int s.2.2.1)] [] (s.2.2.2)) (hv0 : inL Λ v0 11) {r : Int32 × Mem} (hm : jn_X12_pairs_131 N Λ μ k63 v0 v1 v2 v4 v5 v6 s0 = some r) : J x 7 Λ (QI x Λ r.1 r.2) 131 [(0, .ref v0), (1, .int v1), (2, .int v2), (4, .int v4), (5, .int v5), (6, .int v6)] [.int s0] μ := by
  refine j_istore_n C (lv' := [(3, .int s0), (0, .ref v0), (1, .int v1), (2, .int v2), (4, .int v4), (5, .int v5), (6, .int v6)]) dX12_pairs_131 (by decide) rfl ?_
  refine j_iload_n C 3 dX12_pairs_132 rfl ?_
  refine j_iconst C (v := 1) dX12_pairs_133 rfl ?_
  refine j_iload C 5 dX12_pairs_134 rfl ?_
  refine j_ishl C dX12_pairs_136 ?_
  refine j_iconst C (v := -1) dX12_pairs_137 rfl ?_
  refine j_ixor C dX12_pairs_138 ?_
  refine j_iand C dX12_pairs_139 ?_
  obtain ⟨y1, e2, hm⟩ := lt_some hm
  refine j_topi e2 ?_
  refine j_istore_n C (lv' := [(2, .int y1), (3, .int s0), (0, .ref v0), (1, .int v1), (4, .int v4), (5, .int v5), (6, .int v6)]) dX12_pairs_140 (by decide) rfl ?_
  refine j_iload C 6 dX12_pairs_141 rfl ?_
  refine j_iconst C (v := -1) dX12_pairs_143 rfl ?_
  refine j_icmp_ne C (tgt := 151) dX12_pairs_144 (by decide) (fun h3 => ?_) (fun h3 => ?_)
  · replace hm := if_f hm h3
    refine j_iload_n C 0 dX12_pairs_151 rfl ?_
    refine j_iconst C (v := 1) dX12_pairs_152 rfl ?_
    refine j_iload C 6 dX12_pairs_153 rfl ?_
    refine j_ishl C dX12_pairs_155 ?_
    refine j_iconst C (v := -1) dX12_pairs_156 rfl ?_
    refine j_ixor C dX12_pairs_157 ?_
    refine j_iand C dX12_pairs_158 ?_
    refine j_sub [2, 3, 1, 4] rfl ?_
    exact tj_X12_pairs_159 C _ _ _ _ _ _ _ _ hk63 hv0 hm
  · replace hm := if_t hm h3
    refine j_iload_n C 0 dX12_pairs_147 rfl ?_
    refine j_goto C (tgt := 159) dX12_pairs_148 (by decide) ?_
    refine j_sub [2, 3, 1, 4] rfl ?_
    exact tj_X12_pairs_159 C _ _ _ _ _ _ _ _ hk63 hv0 hm
set_option maxRecDepth 20000 in
set_option maxHeartbeats 4000000 in
theorem tj_X12_pairs_116 {x : Ctx} {Λ : Lay} (C : Cx x cX12_pairs 7 (some .int) RX12 Λ rm_X12_pairs) (N : Nat) (μ : Mem) (k63 : Int32 × Int32 × Int32 × Mem → Option (Int32 × Mem)) (v0 : Nat) (v1 : Int32) (v2 : Int32) (v5 : Int32) (v6 : Int32) (s0 : Int32) (hk63 : ∀ (s : Int32 × Int32 × Int32 × Mem) (r : Int32 × Mem), k63 s = some r → J x 7 Λ (QI x Λ r.1 r.2) 63 [(0, .ref v0), (1, .int v1), (2, .int s.1), (3, .int s.2.1), (4, .int s.2.2.1)] [] (s.2.2.2)) (hv0 : inL Λ v0 11) {r : Int32 × Mem} (hm : jn_X12_pairs_116 N Λ μ k63 v0 v1 v2 v5 v6 s0 = some r) : J x 7 Λ (QI x Λ r.1 r.2) 116 [(0, .ref v0), (1, .int v1), (2, .int v2), (5, .int v5), (6, .int v6)] [.int s0] μ := by
  refine j_istore C (lv' := [(4, .int s0), (0, .ref v0), (1, .int v1), (2, .int v2), (5, .int v5), (6, .int v6)]) dX12_pairs_116 (by decide) rfl ?_
  refine j_iload C 4 dX12_pairs_118 rfl ?_
  refine j_iload_n C 2 dX12_pairs_120 rfl ?_
  refine j_icmp_ne C (tgt := 129) dX12_pairs_121 (by decide) (fun h1 => ?_) (fun h1 => ?_)
  · replace hm := if_f hm h1
    refine j_iload C 4 dX12_pairs_129 rfl ?_
    refine j_sub [1, 2, 3, 0, 4, 5] rfl ?_
    exact tj_X12_pairs_131 C _ _ _ _ _ _ _ _ _ _ hk63 hv0 hm
  · replace hm := if_t hm h1
    refine j_iload C 5 dX12_pairs_124 rfl ?_
    refine j_goto C (tgt := 131) dX12_pairs_126 (by decide) ?_
    refine j_sub [1, 2, 3, 0, 4, 5] rfl ?_
    exact tj_X12_pairs_131 C _ _ _ _ _ _ _ _ _ _ hk63 hv0 hm
set_option maxRecDepth 20000 in
set_option maxHeartbeats 4000000 in
theorem tj_X12_pairs_111 {x : Ctx} {Λ : Lay} (C : Cx x cX12_pairs 7 (some .int) RX12 Λ rm_X12_pairs) (N : Nat) (μ : Mem) (k63 : Int32 × Int32 × Int32 × Mem → Option (Int32 × Mem)) (v0 : Nat) (v1 : Int32) (v2 : Int32) (v5 : Int32) (v6 : Int32) (hk63 : ∀ (s : Int32 × Int32 × Int32 × Mem) (r : Int32 × Mem), k63 s = some r → J x 7 Λ (QI x Λ r.1 r.2) 63 [(0, .ref v0), (1, .int v1), (2, .int s.1), (3, .int s.2.1), (4, .int s.2.2.1)] [] (s.2.2.2)) (hv0 : inL Λ v0 11) {r : Int32 × Mem} (hm : jn_X12_pairs_111 N Λ μ k63 v0 v1 v2 v5 v6 = some r) : J x 7 Λ (QI x Λ r.1 r.2) 111 [(0, .ref v0), (1, .int v1), (2, .int v2), (5, .int v5), (6, .int v6)] [] μ := by
  refine j_iconst C (v := 1) dX12_pairs_111 rfl ?_
  refine j_goto C (tgt := 116) dX12_pairs_112 (by decide) ?_
  exact tj_X12_pairs_116 C _ _ _ _ _ _ _ _ _ hk63 hv0 hm
set_option maxRecDepth 20000 in
set_option maxHeartbeats 4000000 in
theorem tb_X12_pairs_77 {x : Ctx} {Λ : Lay} (C : Cx x cX12_pairs 7 (some .int) RX12 Λ rm_X12_pairs) (N : Nat) (μ : Mem) (k63 : Int32 × Int32 × Int32 × Mem → Option (Int32 × Mem)) (k77 : Int32 × Mem → Option (Int32 × Mem)) (v0 : Nat) (v1 : Int32) (v2 : Int32) (v5 : Int32) (v6 : Int32) (hk63 : ∀ (s : Int32 × Int32 × Int32 × Mem) (r : Int32 × Mem), k63 s = some r → J x 7 Λ (QI x Λ r.1 r.2) 63 [(0, .ref v0), (1, .int v1), (2, .int s.1), (3, .int s.2.1), (4, .int s.2.2.1)] [] (s.2.2.2)) (hk77 : ∀ (s : Int32 × Mem) (r : Int32 × Mem), k77 s = some r → J x 7 Λ (QI x Λ r.1 r.2) 77 [(0, .ref v0), (1, .int v1), (2, .int v2), (5, .int v5), (6, .int s.1)] [] (s.2)) (hv0 : inL Λ v0 11) {r : Int32 × Mem} (hm : bd_X12_pairs_77 N Λ μ k63 k77 v0 v1 v2 v5 v6 = some r) : J x 7 Λ (QI x Λ r.1 r.2) 77 [(0, .ref v0), (1, .int v1), (2, .int v2), (5, .int v5), (6, .int v6)] [] μ := by
  refine j_aload_n C 0 dX12_pairs_77 rfl ?_
  refine j_iload_n C 2 dX12_pairs_78 rfl ?_
  refine j_iload C 4 dX12_pairs_79 rfl ?_
  obtain ⟨r1, h2, hm⟩ := bd_some hm
  refine call_I (run_LV C lk_X12_488 ⟨rfl, rfl, Nat.le_of_ble_eq_true rfl, Nat.le_of_ble_eq_true rfl⟩ (As := [.int v2, .int v6]) hv0 rfl rfl (Nat.le_of_ble_eq_true rfl) dX12_pairs_81 (mc_X12_pairedBy _ _ _ _ _ _ _ hv0 h2)) ?_
  refine j_aload_n C 0 dX12_pairs_84 rfl ?_
  obtain ⟨q3, h4, hm⟩ := bd_some hm
  refine j_getR C fg_X12_67_11 hv0 (dr_spec h4).1 dX12_pairs_85 ?_
  refine j_iload_n C 2 dX12_pairs_88 rfl ?_
  obtain ⟨h5, hm⟩ := gd_some hm
  refine j_iald C ((dr_spec h4).2) h5 dX12_pairs_89 ?_
  refine j_icmp_eq C (tgt := 99) dX12_pairs_90 (by decide) (fun h6 => ?_) (fun h6 => ?_)
  · replace hm := if_t hm h6
    refine j_iload C 3 dX12_pairs_99 rfl ?_
    refine j_iload_n C 1 dX12_pairs_101 rfl ?_
    refine j_icmp_eq C (tgt := 111) dX12_pairs_102 (by decide) (fun h7 => ?_) (fun h7 => ?_)
    · replace hm := if_t hm h7
      exact tj_X12_pairs_111 C _ _ _ _ _ _ _ _ hk63 hv0 hm
    · replace hm := if_f hm h7
      refine j_iload C 4 dX12_pairs_105 rfl ?_
      refine j_iload_n C 1 dX12_pairs_107 rfl ?_
      refine j_icmp_ne C (tgt := 115) dX12_pairs_108 (by decide) (fun h8 => ?_) (fun h8 => ?_)
      · replace hm := if_f hm h8
        refine j_iconst C (v := 0) dX12_pairs_115 rfl ?_
        exact tj_X12_pairs_116 C _ _ _ _ _ _ _ _ _ hk63 hv0 hm
      · replace hm := if_t hm h8
        exact tj_X12_pairs_111 C _ _ _ _ _ _ _ _ hk63 hv0 hm
  · replace hm := if_f hm h6
    obtain ⟨y9, e10, hm⟩ := lt_some hm
    refine j_iinc C 4 (v := y9) (lv' := [(6, .int y9), (0, .ref v0), (1, .int v1), (2, .int v2), (5, .int v5)]) dX12_pairs_93 rfl (by rw [e10]; rfl) (by decide) rfl ?_
    refine j_goto C (tgt := 77) dX12_pairs_96 (by decide) ?_
    refine j_sub [1, 2, 3, 4, 0] rfl ?_
    exact hk77 (y9, μ) _ hm
set_option maxRecDepth 20000 in
set_option maxHeartbeats 4000000 in
theorem tl_X12_pairs_77 {x : Ctx} {Λ : Lay} (C : Cx x cX12_pairs 7 (some .int) RX12 Λ rm_X12_pairs) (N : Nat) (k63 : Int32 × Int32 × Int32 × Mem → Option (Int32 × Mem)) (v0 : Nat) (v1 : Int32) (v2 : Int32) (v5 : Int32) (hk63 : ∀ (s : Int32 × Int32 × Int32 × Mem) (r : Int32 × Mem), k63 s = some r → J x 7 Λ (QI x Λ r.1 r.2) 63 [(0, .ref v0), (1, .int v1), (2, .int s.1), (3, .int s.2.1), (4, .int s.2.2.1)] [] (s.2.2.2)) (hv0 : inL Λ v0 11) (s : Int32 × Mem) {r : Int32 × Mem} (hm : lp_X12_pairs_77 N Λ k63 v0 v1 v2 v5 s = some r) : J x 7 Λ (QI x Λ r.1 r.2) 77 [(0, .ref v0), (1, .int v1), (2, .int v2), (5, .int v5), (6, .int s.1)] [] (s.2) :=
  cw_ind (P := fun s r => J x 7 Λ (QI x Λ r.1 r.2) 77 [(0, .ref v0), (1, .int v1), (2, .int v2), (5, .int v5), (6, .int s.1)] [] (s.2)) (fun k hkk s r e => tb_X12_pairs_77 C _ _ _ _ _ _ _ _ _ hk63 hkk hv0 e) N s r hm
set_option maxRecDepth 20000 in
set_option maxHeartbeats 4000000 in
theorem tb_X12_pairs_63 {x : Ctx} {Λ : Lay} (C : Cx x cX12_pairs 7 (some .int) RX12 Λ rm_X12_pairs) (N : Nat) (μ : Mem) (k63 : Int32 × Int32 × Int32 × Mem → Option (Int32 × Mem)) (v0 : Nat) (v1 : Int32) (v2 : Int32) (v3 : Int32) (v4 : Int32) (hk63 : ∀ (s : Int32 × Int32 × Int32 × Mem) (r : Int32 × Mem), k63 s = some r → J x 7 Λ (QI x Λ r.1 r.2) 63 [(0, .ref v0), (1, .int v1), (2, .int s.1), (3, .int s.2.1), (4, .int s.2.2.1)] [] (s.2.2.2)) (hv0 : inL Λ v0 11) {r : Int32 × Mem} (hm : bd_X12_pairs_63 N Λ μ k63 v0 v1 v2 v3 v4 = some r) : J x 7 Λ (QI x Λ r.1 r.2) 63 [(0, .ref v0), (1, .int v1), (2, .int v2), (3, .int v3), (4, .int v4)] [] μ := by
  refine j_iload C 4 dX12_pairs_63 rfl ?_
  refine j_if_ne C (tgt := 163) dX12_pairs_65 (by decide) (fun h1 => ?_) (fun h1 => ?_)
  · replace hm := if_f hm h1
    refine j_iload_n C 3 dX12_pairs_163 rfl ?_
    obtain rfl := Option.some.inj hm
    exact j_ireti C dX12_pairs_164
  · replace hm := if_t hm h1
    refine j_iload_n C 2 dX12_pairs_68 rfl ?_
    obtain ⟨r2, h3, hm⟩ := bd_some hm
    refine call_I (run_LS C ls_X12_482 ⟨rfl, rfl, Nat.le_of_ble_eq_true rfl, Nat.le_of_ble_eq_true rfl⟩ (As := [.int v2]) rfl rfl (Nat.le_of_ble_eq_true rfl) dX12_pairs_69 (mc_X12_firstOf _ _ _ _ _  h3)) ?_
    refine j_istore C (lv' := [(5, .int r2), (0, .ref v0), (1, .int v1), (2, .int v2), (3, .int v3), (4, .int v4)]) dX12_pairs_72 (by decide) rfl ?_
    refine j_iconst C (v := -1) dX12_pairs_74 rfl ?_
    refine j_istore C (lv' := [(6, .int (-1)), (5, .int r2), (0, .ref v0), (1, .int v1), (2, .int v2), (3, .int v3), (4, .int v4)]) dX12_pairs_75 (by decide) rfl ?_
    refine j_sub [2, 3, 4, 1, 0] rfl ?_
    exact tl_X12_pairs_77 C _ _ _ _ _ _ hk63 hv0 ((-1), μ) hm
set_option maxRecDepth 20000 in
set_option maxHeartbeats 4000000 in
theorem tl_X12_pairs_63 {x : Ctx} {Λ : Lay} (C : Cx x cX12_pairs 7 (some .int) RX12 Λ rm_X12_pairs) (N : Nat) (v0 : Nat) (v1 : Int32) (hv0 : inL Λ v0 11) (s : Int32 × Int32 × Int32 × Mem) {r : Int32 × Mem} (hm : lp_X12_pairs_63 N Λ v0 v1 s = some r) : J x 7 Λ (QI x Λ r.1 r.2) 63 [(0, .ref v0), (1, .int v1), (2, .int s.1), (3, .int s.2.1), (4, .int s.2.2.1)] [] (s.2.2.2) :=
  cw_ind (P := fun s r => J x 7 Λ (QI x Λ r.1 r.2) 63 [(0, .ref v0), (1, .int v1), (2, .int s.1), (3, .int s.2.1), (4, .int s.2.2.1)] [] (s.2.2.2)) (fun k hkk s r e => tb_X12_pairs_63 C _ _ _ _ _ _ _ _ hkk hv0 e) N s r hm
set_option maxRecDepth 20000 in
set_option maxHeartbeats 4000000 in
theorem tj_X12_pairs_24 {x : Ctx} {Λ : Lay} (C : Cx x cX12_pairs 7 (some .int) RX12 Λ rm_X12_pairs) (N : Nat) (μ : Mem) (v0 : Nat) (v1 : Int32) (s0 : Nat) (s1 : Int32) (hv0 : inL Λ v0 11) (hs0 : inL Λ s0 11) {r : Int32 × Mem} (hm : jn_X12_pairs_24 N Λ μ v0 v1 s0 s1 = some r) : J x 7 Λ (QI x Λ r.1 r.2) 24 [(0, .ref v0), (1, .int v1)] [.int s1, .ref s0] μ := by
  refine j_iconst C (v := 1) dX12_pairs_24 rfl ?_
  obtain ⟨r1, h2, hm⟩ := bd_some hm
  refine call_I (run_LV C lk_X12_282 ⟨rfl, rfl, Nat.le_of_ble_eq_true rfl, Nat.le_of_ble_eq_true rfl⟩ (As := [.int s1, .int 1]) hs0 rfl rfl (Nat.le_of_ble_eq_true rfl) dX12_pairs_25 (mc_X12_throwsIf _ _ _ _ _ _ _ hs0 h2)) ?_
  refine j_if_eq C (tgt := 33) dX12_pairs_28 (by decide) (fun h3 => ?_) (fun h3 => ?_)
  · replace hm := if_t hm h3
    refine j_aload_n C 0 dX12_pairs_33 rfl ?_
    obtain ⟨r4, h5, hm⟩ := bd_some hm
    refine call_V (run_LV C lk_X12_491 ⟨rfl, rfl, Nat.le_of_ble_eq_true rfl, Nat.le_of_ble_eq_true rfl⟩ (As := []) hv0 rfl rfl (Nat.le_of_ble_eq_true rfl) dX12_pairs_34 (mc_X12_laysPairs _ _ _ _ _ hv0 h5)) ?_
    refine j_iconst C (v := 1) dX12_pairs_37 rfl ?_
    refine j_aload_n C 0 dX12_pairs_38 rfl ?_
    obtain ⟨r6, h7, hm⟩ := bd_some hm
    refine call_I (run_LV C lk_X12_95 ⟨rfl, rfl, Nat.le_of_ble_eq_true rfl, Nat.le_of_ble_eq_true rfl⟩ (As := []) hv0 rfl rfl (Nat.le_of_ble_eq_true rfl) dX12_pairs_39 (mc_X12_ships _ _ _ _ _ hv0 h7)) ?_
    refine j_ishl C dX12_pairs_42 ?_
    refine j_iconst C (v := 1) dX12_pairs_43 rfl ?_
    refine j_isub C dX12_pairs_44 ?_
    obtain ⟨y8, e9, hm⟩ := lt_some hm
    refine j_topi e9 ?_
    refine j_istore_n C (lv' := [(2, .int y8), (0, .ref v0), (1, .int v1)]) dX12_pairs_45 (by decide) rfl ?_
    refine j_iload_n C 2 dX12_pairs_46 rfl ?_
    refine j_iconst C (v := -1) dX12_pairs_47 rfl ?_
    refine j_icmp_ne C (tgt := 58) dX12_pairs_48 (by decide) (fun h10 => ?_) (fun h10 => ?_)
    · replace hm := if_f hm h10
      refine j_iconst C (v := -1) dX12_pairs_58 rfl ?_
      refine j_istore_n C (lv' := [(3, .int (-1)), (2, .int y8), (0, .ref v0), (1, .int v1)]) dX12_pairs_59 (by decide) rfl ?_
      refine j_iconst C (v := 0) dX12_pairs_60 rfl ?_
      refine j_istore C (lv' := [(4, .int 0), (3, .int (-1)), (2, .int y8), (0, .ref v0), (1, .int v1)]) dX12_pairs_61 (by decide) rfl ?_
      refine j_sub [3, 4, 2, 1, 0] rfl ?_
      exact tl_X12_pairs_63 C _ _ _ hv0 (y8, (-1), 0, r4) hm
    · replace hm := if_t hm h10
      refine j_aload_n C 1 dX12_pairs_51 rfl ?_
      obtain ⟨q11, h12, hm⟩ := bd_some hm
      refine j_getR C fg_X12_67_11 hv0 (dr_spec h12).1 dX12_pairs_52 ?_
      refine j_iload_n C 0 dX12_pairs_55 rfl ?_
      obtain ⟨h13, hm⟩ := gd_some hm
      refine j_iald C ((dr_spec h12).2) h13 dX12_pairs_56 ?_
      obtain rfl := Option.some.inj hm
      exact j_ireti C dX12_pairs_57
  · replace hm := if_f hm h3
    refine j_iconst C (v := 0) dX12_pairs_31 rfl ?_
    obtain rfl := Option.some.inj hm
    exact j_ireti C dX12_pairs_32
set_option maxRecDepth 20000 in
set_option maxHeartbeats 4000000 in
theorem tj_X12_pairs_23 {x : Ctx} {Λ : Lay} (C : Cx x cX12_pairs 7 (some .int) RX12 Λ rm_X12_pairs) (N : Nat) (μ : Mem) (v0 : Nat) (v1 : Int32) (s0 : Nat) (hv0 : inL Λ v0 11) (hs0 : inL Λ s0 11) {r : Int32 × Mem} (hm : jn_X12_pairs_23 N Λ μ v0 v1 s0 = some r) : J x 7 Λ (QI x Λ r.1 r.2) 23 [(0, .ref v0), (1, .int v1)] [.ref s0] μ := by
  refine j_iconst C (v := 0) dX12_pairs_23 rfl ?_
  exact tj_X12_pairs_24 C _ _ _ _ _ _ hv0 hs0 hm
set_option maxRecDepth 20000 in
set_option maxHeartbeats 4000000 in
theorem tm_X12_pairs {x : Ctx} {Λ : Lay} (C : Cx x cX12_pairs 7 (some .int) RX12 Λ rm_X12_pairs) (N : Nat) (μ : Mem) (v0 : Nat) (v1 : Int32) (hv0 : inL Λ v0 11) {r : Int32 × Mem} (hm : m_X12_pairs N Λ μ v0 v1 = some r) : J x 7 Λ (QI x Λ r.1 r.2) 0 [(0, .ref v0), (1, .int v1)] [] μ := by
  refine j_aload_n C 0 dX12_pairs_0 rfl ?_
  refine j_iconst C (v := 0) dX12_pairs_1 rfl ?_
  obtain ⟨μ1, e2, hm⟩ := lt_some hm
  refine j_putI C fp_X12_3_11 hv0 e2 dX12_pairs_2 ?_
  refine j_aload_n C 0 dX12_pairs_5 rfl ?_
  refine j_iload_n C 1 dX12_pairs_6 rfl ?_
  refine j_iconst C (v := -1) dX12_pairs_7 rfl ?_
  refine j_icmp_eq C (tgt := 23) dX12_pairs_8 (by decide) (fun h3 => ?_) (fun h3 => ?_)
  · replace hm := if_t hm h3
    exact tj_X12_pairs_23 C _ _ _ _ _ hv0 hv0 hm
  · replace hm := if_f hm h3
    refine j_aload_n C 0 dX12_pairs_11 rfl ?_
    refine j_iload_n C 1 dX12_pairs_12 rfl ?_
    obtain ⟨r4, h5, hm⟩ := bd_some hm
    refine call_I (run_LV C lk_X12_345 ⟨rfl, rfl, Nat.le_of_ble_eq_true rfl, Nat.le_of_ble_eq_true rfl⟩ (As := [.int v1]) hv0 rfl rfl (Nat.le_of_ble_eq_true rfl) dX12_pairs_13 (mc_X12_noShip _ _ _ _ _ _ hv0 h5)) ?_
    refine j_if_eq C (tgt := 23) dX12_pairs_16 (by decide) (fun h6 => ?_) (fun h6 => ?_)
    · replace hm := if_t hm h6
      exact tj_X12_pairs_23 C _ _ _ _ _ hv0 hv0 hm
    · replace hm := if_f hm h6
      refine j_iconst C (v := 1) dX12_pairs_19 rfl ?_
      refine j_goto C (tgt := 24) dX12_pairs_20 (by decide) ?_
      exact tj_X12_pairs_24 C _ _ _ _ _ _ hv0 hv0 hm
set_option maxRecDepth 20000 in
set_option maxHeartbeats 4000000 in
theorem mc_X12_pairs (l : Launch) (N : Nat) (Λ : Lay) (μ : Mem) (v0 : Nat) (v1 : Int32) (hv0 : inL Λ v0 11) {r : Int32 × Mem} (hm : m_X12_pairs N Λ μ v0 v1 = some r) : MI l yX12_pairs cX12_pairs 7 (some .int) rm_X12_pairs Λ [.ref v0, .int v1] μ r.1 r.2 := mi_of rfl (Nat.le_of_ble_eq_true rfl) (fun x C _ => tm_X12_pairs C _ _ _ _ hv0 hm)
abbrev rm_X12_masterHas : Room := { frames := 2, cells := 0, slots := 0, locals := 43 }
set_option maxRecDepth 20000 in
set_option maxHeartbeats 4000000 in
theorem tj_X12_masterHas_19 {x : Ctx} {Λ : Lay} (C : Cx x cX12_masterHas 4 (some .int) RX12 Λ rm_X12_masterHas) (N : Nat) (μ : Mem) (s0 : Int32) {r : Int32} (hm : jn_X12_masterHas_19 N Λ μ s0 = some r) : J x 4 Λ (QI x Λ r μ) 19 [] [.int s0] μ := by
  obtain rfl := Option.some.inj hm
  exact j_ireti C dX12_masterHas_19
set_option maxRecDepth 20000 in
set_option maxHeartbeats 4000000 in
theorem tj_X12_masterHas_41 {x : Ctx} {Λ : Lay} (C : Cx x cX12_masterHas 4 (some .int) RX12 Λ rm_X12_masterHas) (N : Nat) (μ : Mem) (s0 : Int32) {r : Int32} (hm : jn_X12_masterHas_41 N Λ μ s0 = some r) : J x 4 Λ (QI x Λ r μ) 41 [] [.int s0] μ := by
  obtain rfl := Option.some.inj hm
  exact j_ireti C dX12_masterHas_41
set_option maxRecDepth 20000 in
set_option maxHeartbeats 4000000 in
theorem tm_X12_masterHas {x : Ctx} {Λ : Lay} (C : Cx x cX12_masterHas 4 (some .int) RX12 Λ rm_X12_masterHas) (N : Nat) (μ : Mem) (v0 : Nat) (v1 : Int32) (v2 : Int32) (v3 : Int32) (hv0 : inL Λ v0 11) {r : Int32} (hm : m_X12_masterHas N Λ μ v0 v1 v2 v3 = some r) : J x 4 Λ (QI x Λ r μ) 0 [(0, .ref v0), (1, .int v1), (2, .int v2), (3, .int v3)] [] μ := by
  refine j_iload_n C 2 dX12_masterHas_0 rfl ?_
  refine j_if_ne C (tgt := 20) dX12_masterHas_1 (by decide) (fun h1 => ?_) (fun h1 => ?_)
  · replace hm := if_f hm h1
    refine j_iload_n C 3 dX12_masterHas_20 rfl ?_
    refine j_if_ne C (tgt := 34) dX12_masterHas_21 (by decide) (fun h2 => ?_) (fun h2 => ?_)
    · replace hm := if_f hm h2
      refine j_aload_n C 0 dX12_masterHas_34 rfl ?_
      obtain ⟨q3, h4, hm⟩ := bd_some hm
      refine j_getR C fg_X12_13_11 hv0 (dr_spec h4).1 dX12_masterHas_35 ?_
      refine j_bipush C (v := 6) dX12_masterHas_38 rfl ?_
      obtain ⟨h5, hm⟩ := gd_some hm
      refine j_iald C ((dr_spec h4).2) h5 dX12_masterHas_40 ?_
      refine j_sub [] rfl ?_
      exact tj_X12_masterHas_41 C _ _ _  hm
    · replace hm := if_t hm h2
      refine j_aload_n C 0 dX12_masterHas_24 rfl ?_
      refine j_iload_n C 1 dX12_masterHas_25 rfl ?_
      refine j_iconst C (v := 1) dX12_masterHas_26 rfl ?_
      obtain ⟨r6, h7, hm⟩ := bd_some hm
      refine call_I (run_LV C lk_X12_85 ⟨rfl, rfl, Nat.le_of_ble_eq_true rfl, Nat.le_of_ble_eq_true rfl⟩ (As := [.int v1, .int 1]) hv0 rfl rfl (Nat.le_of_ble_eq_true rfl) dX12_masterHas_27 (mc_X12_of _ _ _ _ _ _ _ hv0 h7)) ?_
      refine j_ineg C dX12_masterHas_30 ?_
      refine j_goto C (tgt := 41) dX12_masterHas_31 (by decide) ?_
      refine j_sub [] rfl ?_
      exact tj_X12_masterHas_41 C _ _ _  hm
  · replace hm := if_t hm h1
    refine j_iload_n C 3 dX12_masterHas_4 rfl ?_
    refine j_if_ne C (tgt := 17) dX12_masterHas_5 (by decide) (fun h8 => ?_) (fun h8 => ?_)
    · replace hm := if_f hm h8
      refine j_bipush C (v := -3) dX12_masterHas_17 rfl ?_
      refine j_sub [] rfl ?_
      exact tj_X12_masterHas_19 C _ _ _  hm
    · replace hm := if_t hm h8
      refine j_aload_n C 0 dX12_masterHas_8 rfl ?_
      refine j_iload_n C 1 dX12_masterHas_9 rfl ?_
      refine j_iconst C (v := 0) dX12_masterHas_10 rfl ?_
      obtain ⟨r9, h10, hm⟩ := bd_some hm
      refine call_I (run_LV C lk_X12_85 ⟨rfl, rfl, Nat.le_of_ble_eq_true rfl, Nat.le_of_ble_eq_true rfl⟩ (As := [.int v1, .int 0]) hv0 rfl rfl (Nat.le_of_ble_eq_true rfl) dX12_masterHas_11 (mc_X12_of _ _ _ _ _ _ _ hv0 h10)) ?_
      refine j_goto C (tgt := 19) dX12_masterHas_14 (by decide) ?_
      refine j_sub [] rfl ?_
      exact tj_X12_masterHas_19 C _ _ _  hm
set_option maxRecDepth 20000 in
set_option maxHeartbeats 4000000 in
theorem mc_X12_masterHas (l : Launch) (N : Nat) (Λ : Lay) (μ : Mem) (v0 : Nat) (v1 : Int32) (v2 : Int32) (v3 : Int32) (hv0 : inL Λ v0 11) {r : Int32} (hm : m_X12_masterHas N Λ μ v0 v1 v2 v3 = some r) : MI l yX12_masterHas cX12_masterHas 4 (some .int) rm_X12_masterHas Λ [.ref v0, .int v1, .int v2, .int v3] μ r μ := mi_of rfl (Nat.le_of_ble_eq_true rfl) (fun x C _ => tm_X12_masterHas C _ _ _ _ _ _ hv0 hm)
abbrev rm_X12_pilotHas : Room := { frames := 0, cells := 0, slots := 0, locals := 0 }
set_option maxRecDepth 20000 in
set_option maxHeartbeats 4000000 in
theorem tj_X12_pilotHas_13 {x : Ctx} {Λ : Lay} (C : Cx x cX12_pilotHas 2 (some .int) RX12 Λ rm_X12_pilotHas) (N : Nat) (μ : Mem) (s0 : Int32) {r : Int32} (hm : jn_X12_pilotHas_13 N Λ μ s0 = some r) : J x 2 Λ (QI x Λ r μ) 13 [] [.int s0] μ := by
  obtain rfl := Option.some.inj hm
  exact j_ireti C dX12_pilotHas_13
set_option maxRecDepth 20000 in
set_option maxHeartbeats 4000000 in
theorem tj_X12_pilotHas_23 {x : Ctx} {Λ : Lay} (C : Cx x cX12_pilotHas 2 (some .int) RX12 Λ rm_X12_pilotHas) (N : Nat) (μ : Mem) (s0 : Int32) {r : Int32} (hm : jn_X12_pilotHas_23 N Λ μ s0 = some r) : J x 2 Λ (QI x Λ r μ) 23 [] [.int s0] μ := by
  obtain rfl := Option.some.inj hm
  exact j_ireti C dX12_pilotHas_23
set_option maxRecDepth 20000 in
set_option maxHeartbeats 4000000 in
theorem tm_X12_pilotHas {x : Ctx} {Λ : Lay} (C : Cx x cX12_pilotHas 2 (some .int) RX12 Λ rm_X12_pilotHas) (N : Nat) (μ : Mem) (v0 : Int32) (v1 : Int32) {r : Int32} (hm : m_X12_pilotHas N Λ μ v0 v1 = some r) : J x 2 Λ (QI x Λ r μ) 0 [(0, .int v0), (1, .int v1)] [] μ := by
  refine j_iload_n C 0 dX12_pilotHas_0 rfl ?_
  refine j_if_ne C (tgt := 14) dX12_pilotHas_1 (by decide) (fun h1 => ?_) (fun h1 => ?_)
  · replace hm := if_f hm h1
    refine j_iload_n C 1 dX12_pilotHas_14 rfl ?_
    refine j_if_ne C (tgt := 22) dX12_pilotHas_15 (by decide) (fun h2 => ?_) (fun h2 => ?_)
    · replace hm := if_f hm h2
      refine j_iconst C (v := 1) dX12_pilotHas_22 rfl ?_
      refine j_sub [] rfl ?_
      exact tj_X12_pilotHas_23 C _ _ _  hm
    · replace hm := if_t hm h2
      refine j_iconst C (v := -1) dX12_pilotHas_18 rfl ?_
      refine j_goto C (tgt := 23) dX12_pilotHas_19 (by decide) ?_
      refine j_sub [] rfl ?_
      exact tj_X12_pilotHas_23 C _ _ _  hm
  · replace hm := if_t hm h1
    refine j_iload_n C 1 dX12_pilotHas_4 rfl ?_
    refine j_if_ne C (tgt := 12) dX12_pilotHas_5 (by decide) (fun h3 => ?_) (fun h3 => ?_)
    · replace hm := if_f hm h3
      refine j_iconst C (v := 1) dX12_pilotHas_12 rfl ?_
      refine j_sub [] rfl ?_
      exact tj_X12_pilotHas_13 C _ _ _  hm
    · replace hm := if_t hm h3
      refine j_iconst C (v := 2) dX12_pilotHas_8 rfl ?_
      refine j_goto C (tgt := 13) dX12_pilotHas_9 (by decide) ?_
      refine j_sub [] rfl ?_
      exact tj_X12_pilotHas_13 C _ _ _  hm
set_option maxRecDepth 20000 in
set_option maxHeartbeats 4000000 in
theorem mc_X12_pilotHas (l : Launch) (N : Nat) (Λ : Lay) (μ : Mem) (v0 : Int32) (v1 : Int32) {r : Int32} (hm : m_X12_pilotHas N Λ μ v0 v1 = some r) : MI l yX12_pilotHas cX12_pilotHas 2 (some .int) rm_X12_pilotHas Λ [.int v0, .int v1] μ r μ := mi_of rfl (Nat.le_of_ble_eq_true rfl) (fun x C _ => tm_X12_pilotHas C _ _ _ _  hm)
abbrev rm_X12_rests : Room := { frames := 3, cells := 0, slots := 0, locals := 66 }
set_option maxRecDepth 20000 in
set_option maxHeartbeats 4000000 in
theorem tj_X12_rests_89 {x : Ctx} {Λ : Lay} (C : Cx x cX12_rests 5 (some .int) RX12 Λ rm_X12_rests) (N : Nat) (μ : Mem) (k24 : Int32 × Int32 × Mem → Option (Int32 × Mem)) (k32 : Int32 × Int32 × Mem → Option (Int32 × Mem)) (v0 : Nat) (v1 : Int32) (v3 : Int32) (v4 : Int32) (s0 : Int32) (s1 : Int32) (hk24 : ∀ (s : Int32 × Int32 × Mem) (r : Int32 × Mem), k24 s = some r → J x 5 Λ (QI x Λ r.1 r.2) 24 [(0, .ref v0), (1, .int v1), (2, .int s.1), (3, .int s.2.1)] [] (s.2.2)) (hk32 : ∀ (s : Int32 × Int32 × Mem) (r : Int32 × Mem), k32 s = some r → J x 5 Λ (QI x Λ r.1 r.2) 32 [(0, .ref v0), (1, .int v1), (2, .int s.1), (3, .int v3), (4, .int s.2.1)] [] (s.2.2)) (hv0 : inL Λ v0 11) {r : Int32 × Mem} (hm : jn_X12_rests_89 N Λ μ k24 k32 v0 v1 v3 v4 s0 s1 = some r) : J x 5 Λ (QI x Λ r.1 r.2) 89 [(0, .ref v0), (1, .int v1), (3, .int v3), (4, .int v4)] [.int s1, .int s0] μ := by
  refine j_ior C dX12_rests_89 ?_
  obtain ⟨y1, e2, hm⟩ := lt_some hm
  refine j_topi e2 ?_
  refine j_istore_n C (lv' := [(2, .int y1), (0, .ref v0), (1, .int v1), (3, .int v3), (4, .int v4)]) dX12_rests_90 (by decide) rfl ?_
  obtain ⟨y3, e4, hm⟩ := lt_some hm
  refine j_iinc C 4 (v := y3) (lv' := [(4, .int y3), (2, .int y1), (0, .ref v0), (1, .int v1), (3, .int v3)]) dX12_rests_91 rfl (by rw [e4]; rfl) (by decide) rfl ?_
  refine j_goto C (tgt := 32) dX12_rests_94 (by decide) ?_
  refine j_sub [2, 3, 1, 4, 0] rfl ?_
  exact hk32 (y1, y3, μ) _ hm
set_option maxRecDepth 20000 in
set_option maxHeartbeats 4000000 in
theorem tj_X12_rests_88 {x : Ctx} {Λ : Lay} (C : Cx x cX12_rests 5 (some .int) RX12 Λ rm_X12_rests) (N : Nat) (μ : Mem) (k24 : Int32 × Int32 × Mem → Option (Int32 × Mem)) (k32 : Int32 × Int32 × Mem → Option (Int32 × Mem)) (v0 : Nat) (v1 : Int32) (v3 : Int32) (v4 : Int32) (s0 : Int32) (hk24 : ∀ (s : Int32 × Int32 × Mem) (r : Int32 × Mem), k24 s = some r → J x 5 Λ (QI x Λ r.1 r.2) 24 [(0, .ref v0), (1, .int v1), (2, .int s.1), (3, .int s.2.1)] [] (s.2.2)) (hk32 : ∀ (s : Int32 × Int32 × Mem) (r : Int32 × Mem), k32 s = some r → J x 5 Λ (QI x Λ r.1 r.2) 32 [(0, .ref v0), (1, .int v1), (2, .int s.1), (3, .int v3), (4, .int s.2.1)] [] (s.2.2)) (hv0 : inL Λ v0 11) {r : Int32 × Mem} (hm : jn_X12_rests_88 N Λ μ k24 k32 v0 v1 v3 v4 s0 = some r) : J x 5 Λ (QI x Λ r.1 r.2) 88 [(0, .ref v0), (1, .int v1), (3, .int v3), (4, .int v4)] [.int s0] μ := by
  refine j_iconst C (v := 0) dX12_rests_88 rfl ?_
  exact tj_X12_rests_89 C _ _ _ _ _ _ _ _ _ _ hk24 hk32 hv0 hm
set_option maxRecDepth 20000 in
set_option maxHeartbeats 4000000 in
theorem tb_X12_rests_32 {x : Ctx} {Λ : Lay} (C : Cx x cX12_rests 5 (some .int) RX12 Λ rm_X12_rests) (N : Nat) (μ : Mem) (k24 : Int32 × Int32 × Mem → Option (Int32 × Mem)) (k32 : Int32 × Int32 × Mem → Option (Int32 × Mem)) (v0 : Nat) (v1 : Int32) (v2 : Int32) (v3 : Int32) (v4 : Int32) (hk24 : ∀ (s : Int32 × Int32 × Mem) (r : Int32 × Mem), k24 s = some r → J x 5 Λ (QI x Λ r.1 r.2) 24 [(0, .ref v0), (1, .int v1), (2, .int s.1), (3, .int s.2.1)] [] (s.2.2)) (hk32 : ∀ (s : Int32 × Int32 × Mem) (r : Int32 × Mem), k32 s = some r → J x 5 Λ (QI x Λ r.1 r.2) 32 [(0, .ref v0), (1, .int v1), (2, .int s.1), (3, .int v3), (4, .int s.2.1)] [] (s.2.2)) (hv0 : inL Λ v0 11) {r : Int32 × Mem} (hm : bd_X12_rests_32 N Λ μ k24 k32 v0 v1 v2 v3 v4 = some r) : J x 5 Λ (QI x Λ r.1 r.2) 32 [(0, .ref v0), (1, .int v1), (2, .int v2), (3, .int v3), (4, .int v4)] [] μ := by
  refine j_iload C 4 dX12_rests_32 rfl ?_
  refine j_iconst C (v := 2) dX12_rests_34 rfl ?_
  refine j_icmp_ge C (tgt := 97) dX12_rests_35 (by decide) (fun h1 => ?_) (fun h1 => ?_)
  · replace hm := if_t hm h1
    obtain ⟨y2, e3, hm⟩ := lt_some hm
    refine j_iinc C 3 (v := y2) (lv' := [(3, .int y2), (0, .ref v0), (1, .int v1), (2, .int v2), (4, .int v4)]) dX12_rests_97 rfl (by rw [e3]; rfl) (by decide) rfl ?_
    refine j_goto C (tgt := 24) dX12_rests_100 (by decide) ?_
    refine j_sub [1, 2, 3, 0] rfl ?_
    exact hk24 (v2, y2, μ) _ hm
  · replace hm := if_f hm h1
    refine j_iload_n C 2 dX12_rests_38 rfl ?_
    refine j_aload_n C 0 dX12_rests_39 rfl ?_
    refine j_iload_n C 1 dX12_rests_40 rfl ?_
    refine j_iload_n C 3 dX12_rests_41 rfl ?_
    refine j_iload C 4 dX12_rests_42 rfl ?_
    obtain ⟨r4, h5, hm⟩ := bd_some hm
    refine call_I (run_LV C lk_X12_494 ⟨rfl, rfl, Nat.le_of_ble_eq_true rfl, Nat.le_of_ble_eq_true rfl⟩ (As := [.int v1, .int v3, .int v4]) hv0 rfl rfl (Nat.le_of_ble_eq_true rfl) dX12_rests_44 (mc_X12_masterHas _ _ _ _ _ _ _ _ hv0 h5)) ?_
    refine j_aload_n C 0 dX12_rests_47 rfl ?_
    refine j_iload_n C 1 dX12_rests_48 rfl ?_
    refine j_iconst C (v := 1) dX12_rests_49 rfl ?_
    refine j_iload_n C 3 dX12_rests_50 rfl ?_
    refine j_isub C dX12_rests_51 ?_
    refine j_iload C 4 dX12_rests_52 rfl ?_
    obtain ⟨r6, h7, hm⟩ := bd_some hm
    refine call_I (run_LV C lk_X12_494 ⟨rfl, rfl, Nat.le_of_ble_eq_true rfl, Nat.le_of_ble_eq_true rfl⟩ (As := [.int v1, .int (1 - v3), .int v4]) hv0 rfl rfl (Nat.le_of_ble_eq_true rfl) dX12_rests_54 (mc_X12_masterHas _ _ _ _ _ _ _ _ hv0 h7)) ?_
    refine j_icmp_lt C (tgt := 88) dX12_rests_57 (by decide) (fun h8 => ?_) (fun h8 => ?_)
    · replace hm := if_t hm h8
      refine j_sub [0, 1, 3, 4] rfl ?_
      exact tj_X12_rests_88 C _ _ _ _ _ _ _ _ _ hk24 hk32 hv0 hm
    · replace hm := if_f hm h8
      refine j_iload_n C 3 dX12_rests_60 rfl ?_
      refine j_iload C 4 dX12_rests_61 rfl ?_
      obtain ⟨r9, h10, hm⟩ := bd_some hm
      refine call_I (run_LS C ls_X12_497 ⟨rfl, rfl, Nat.le_of_ble_eq_true rfl, Nat.le_of_ble_eq_true rfl⟩ (As := [.int v3, .int v4]) rfl rfl (Nat.le_of_ble_eq_true rfl) dX12_rests_63 (mc_X12_pilotHas _ _ _ _ _ _  h10)) ?_
      refine j_iload_n C 3 dX12_rests_66 rfl ?_
      refine j_iconst C (v := 1) dX12_rests_67 rfl ?_
      refine j_iload C 4 dX12_rests_68 rfl ?_
      refine j_isub C dX12_rests_70 ?_
      obtain ⟨r11, h12, hm⟩ := bd_some hm
      refine call_I (run_LS C ls_X12_497 ⟨rfl, rfl, Nat.le_of_ble_eq_true rfl, Nat.le_of_ble_eq_true rfl⟩ (As := [.int v3, .int (1 - v4)]) rfl rfl (Nat.le_of_ble_eq_true rfl) dX12_rests_71 (mc_X12_pilotHas _ _ _ _ _ _  h12)) ?_
      refine j_icmp_lt C (tgt := 88) dX12_rests_74 (by decide) (fun h13 => ?_) (fun h13 => ?_)
      · replace hm := if_t hm h13
        refine j_sub [0, 1, 3, 4] rfl ?_
        exact tj_X12_rests_88 C _ _ _ _ _ _ _ _ _ hk24 hk32 hv0 hm
      · replace hm := if_f hm h13
        refine j_iconst C (v := 1) dX12_rests_77 rfl ?_
        refine j_iconst C (v := 2) dX12_rests_78 rfl ?_
        refine j_iload_n C 3 dX12_rests_79 rfl ?_
        refine j_imul C dX12_rests_80 ?_
        refine j_iload C 4 dX12_rests_81 rfl ?_
        refine j_iadd C dX12_rests_83 ?_
        refine j_ishl C dX12_rests_84 ?_
        refine j_goto C (tgt := 89) dX12_rests_85 (by decide) ?_
        refine j_sub [0, 1, 3, 4] rfl ?_
        exact tj_X12_rests_89 C _ _ _ _ _ _ _ _ _ _ hk24 hk32 hv0 hm
set_option maxRecDepth 20000 in
set_option maxHeartbeats 4000000 in
theorem tl_X12_rests_32 {x : Ctx} {Λ : Lay} (C : Cx x cX12_rests 5 (some .int) RX12 Λ rm_X12_rests) (N : Nat) (k24 : Int32 × Int32 × Mem → Option (Int32 × Mem)) (v0 : Nat) (v1 : Int32) (v3 : Int32) (hk24 : ∀ (s : Int32 × Int32 × Mem) (r : Int32 × Mem), k24 s = some r → J x 5 Λ (QI x Λ r.1 r.2) 24 [(0, .ref v0), (1, .int v1), (2, .int s.1), (3, .int s.2.1)] [] (s.2.2)) (hv0 : inL Λ v0 11) (s : Int32 × Int32 × Mem) {r : Int32 × Mem} (hm : lp_X12_rests_32 N Λ k24 v0 v1 v3 s = some r) : J x 5 Λ (QI x Λ r.1 r.2) 32 [(0, .ref v0), (1, .int v1), (2, .int s.1), (3, .int v3), (4, .int s.2.1)] [] (s.2.2) :=
  cw_ind (P := fun s r => J x 5 Λ (QI x Λ r.1 r.2) 32 [(0, .ref v0), (1, .int v1), (2, .int s.1), (3, .int v3), (4, .int s.2.1)] [] (s.2.2)) (fun k hkk s r e => tb_X12_rests_32 C _ _ _ _ _ _ _ _ _ hk24 hkk hv0 e) N s r hm
set_option maxRecDepth 20000 in
set_option maxHeartbeats 4000000 in
theorem tb_X12_rests_24 {x : Ctx} {Λ : Lay} (C : Cx x cX12_rests 5 (some .int) RX12 Λ rm_X12_rests) (N : Nat) (μ : Mem) (k24 : Int32 × Int32 × Mem → Option (Int32 × Mem)) (v0 : Nat) (v1 : Int32) (v2 : Int32) (v3 : Int32) (hk24 : ∀ (s : Int32 × Int32 × Mem) (r : Int32 × Mem), k24 s = some r → J x 5 Λ (QI x Λ r.1 r.2) 24 [(0, .ref v0), (1, .int v1), (2, .int s.1), (3, .int s.2.1)] [] (s.2.2)) (hv0 : inL Λ v0 11) {r : Int32 × Mem} (hm : bd_X12_rests_24 N Λ μ k24 v0 v1 v2 v3 = some r) : J x 5 Λ (QI x Λ r.1 r.2) 24 [(0, .ref v0), (1, .int v1), (2, .int v2), (3, .int v3)] [] μ := by
  refine j_iload_n C 3 dX12_rests_24 rfl ?_
  refine j_iconst C (v := 2) dX12_rests_25 rfl ?_
  refine j_icmp_ge C (tgt := 103) dX12_rests_26 (by decide) (fun h1 => ?_) (fun h1 => ?_)
  · replace hm := if_t hm h1
    refine j_iload_n C 2 dX12_rests_103 rfl ?_
    obtain rfl := Option.some.inj hm
    exact j_ireti C dX12_rests_104
  · replace hm := if_f hm h1
    refine j_iconst C (v := 0) dX12_rests_29 rfl ?_
    refine j_istore C (lv' := [(4, .int 0), (0, .ref v0), (1, .int v1), (2, .int v2), (3, .int v3)]) dX12_rests_30 (by decide) rfl ?_
    refine j_sub [1, 2, 3, 4, 0] rfl ?_
    exact tl_X12_rests_32 C _ _ _ _ _ hk24 hv0 (v2, 0, μ) hm
set_option maxRecDepth 20000 in
set_option maxHeartbeats 4000000 in
theorem tl_X12_rests_24 {x : Ctx} {Λ : Lay} (C : Cx x cX12_rests 5 (some .int) RX12 Λ rm_X12_rests) (N : Nat) (v0 : Nat) (v1 : Int32) (hv0 : inL Λ v0 11) (s : Int32 × Int32 × Mem) {r : Int32 × Mem} (hm : lp_X12_rests_24 N Λ v0 v1 s = some r) : J x 5 Λ (QI x Λ r.1 r.2) 24 [(0, .ref v0), (1, .int v1), (2, .int s.1), (3, .int s.2.1)] [] (s.2.2) :=
  cw_ind (P := fun s r => J x 5 Λ (QI x Λ r.1 r.2) 24 [(0, .ref v0), (1, .int v1), (2, .int s.1), (3, .int s.2.1)] [] (s.2.2)) (fun k hkk s r e => tb_X12_rests_24 C _ _ _ _ _ _ _ hkk hv0 e) N s r hm
set_option maxRecDepth 20000 in
set_option maxHeartbeats 4000000 in
theorem tm_X12_rests {x : Ctx} {Λ : Lay} (C : Cx x cX12_rests 5 (some .int) RX12 Λ rm_X12_rests) (N : Nat) (μ : Mem) (v0 : Nat) (v1 : Int32) (hv0 : inL Λ v0 11) {r : Int32 × Mem} (hm : m_X12_rests N Λ μ v0 v1 = some r) : J x 5 Λ (QI x Λ r.1 r.2) 0 [(0, .ref v0), (1, .int v1)] [] μ := by
  refine j_aload_n C 0 dX12_rests_0 rfl ?_
  refine j_iconst C (v := 0) dX12_rests_1 rfl ?_
  obtain ⟨μ1, e2, hm⟩ := lt_some hm
  refine j_putI C fp_X12_3_11 hv0 e2 dX12_rests_2 ?_
  refine j_aload_n C 0 dX12_rests_5 rfl ?_
  refine j_aload_n C 0 dX12_rests_6 rfl ?_
  refine j_iload_n C 1 dX12_rests_7 rfl ?_
  obtain ⟨r3, h4, hm⟩ := bd_some hm
  refine call_I (run_LV C lk_X12_345 ⟨rfl, rfl, Nat.le_of_ble_eq_true rfl, Nat.le_of_ble_eq_true rfl⟩ (As := [.int v1]) hv0 rfl rfl (Nat.le_of_ble_eq_true rfl) dX12_rests_8 (mc_X12_noShip _ _ _ _ _ _ hv0 h4)) ?_
  refine j_iconst C (v := 1) dX12_rests_11 rfl ?_
  obtain ⟨r5, h6, hm⟩ := bd_some hm
  refine call_I (run_LV C lk_X12_282 ⟨rfl, rfl, Nat.le_of_ble_eq_true rfl, Nat.le_of_ble_eq_true rfl⟩ (As := [.int r3, .int 1]) hv0 rfl rfl (Nat.le_of_ble_eq_true rfl) dX12_rests_12 (mc_X12_throwsIf _ _ _ _ _ _ _ hv0 h6)) ?_
  refine j_if_eq C (tgt := 20) dX12_rests_15 (by decide) (fun h7 => ?_) (fun h7 => ?_)
  · replace hm := if_t hm h7
    refine j_iconst C (v := 0) dX12_rests_20 rfl ?_
    refine j_istore_n C (lv' := [(2, .int 0), (0, .ref v0), (1, .int v1)]) dX12_rests_21 (by decide) rfl ?_
    refine j_iconst C (v := 0) dX12_rests_22 rfl ?_
    refine j_istore_n C (lv' := [(3, .int 0), (2, .int 0), (0, .ref v0), (1, .int v1)]) dX12_rests_23 (by decide) rfl ?_
    refine j_sub [2, 3, 1, 0] rfl ?_
    exact tl_X12_rests_24 C _ _ _ hv0 (0, 0, r5.2) hm
  · replace hm := if_f hm h7
    refine j_iconst C (v := 0) dX12_rests_18 rfl ?_
    obtain rfl := Option.some.inj hm
    exact j_ireti C dX12_rests_19
set_option maxRecDepth 20000 in
set_option maxHeartbeats 4000000 in
theorem mc_X12_rests (l : Launch) (N : Nat) (Λ : Lay) (μ : Mem) (v0 : Nat) (v1 : Int32) (hv0 : inL Λ v0 11) {r : Int32 × Mem} (hm : m_X12_rests N Λ μ v0 v1 = some r) : MI l yX12_rests cX12_rests 5 (some .int) rm_X12_rests Λ [.ref v0, .int v1] μ r.1 r.2 := mi_of rfl (Nat.le_of_ble_eq_true rfl) (fun x C _ => tm_X12_rests C _ _ _ _ hv0 hm)
abbrev rm_X12_odds : Room := { frames := 1, cells := 0, slots := 0, locals := 22 }
set_option maxRecDepth 20000 in
set_option maxHeartbeats 4000000 in
theorem tj_X12_odds_65 {x : Ctx} {Λ : Lay} (C : Cx x cX12_odds 8 (some .int) RX12 Λ rm_X12_odds) (N : Nat) (μ : Mem) (k43 : Int32 × Mem → Option (Int32 × Mem)) (v0 : Nat) (v1 : Int32) (v2 : Int32) (v3 : Int64) (v5 : Int32) (s0 : Nat) (s1 : Int32) (s2 : Int64) (hk43 : ∀ (s : Int32 × Mem) (r : Int32 × Mem), k43 s = some r → J x 8 Λ (QI x Λ r.1 r.2) 43 [(0, .ref v0), (1, .int v1), (2, .int v2), (3, .long v3), (5, .int s.1)] [] (s.2)) (hv0 : inL Λ v0 11) (hs0 : inL Λ s0 14) {r : Int32 × Mem} (hm : jn_X12_odds_65 N Λ μ k43 v0 v1 v2 v3 v5 s0 s1 s2 = some r) : J x 8 Λ (QI x Λ r.1 r.2) 65 [(0, .ref v0), (1, .int v1), (2, .int v2), (3, .long v3), (5, .int v5)] [.long s2, .int s1, .ref s0] μ := by
  obtain ⟨h1, hm⟩ := gd_some hm
  obtain ⟨μ2, e3, hm⟩ := lt_some hm
  refine j_last C hs0 h1 e3 dX12_odds_65 ?_
  obtain ⟨y4, e5, hm⟩ := lt_some hm
  refine j_iinc C 4 (v := y4) (lv' := [(5, .int y4), (0, .ref v0), (1, .int v1), (2, .int v2), (3, .long v3)]) dX12_odds_66 rfl (by rw [e5]; rfl) (by decide) rfl ?_
  refine j_goto C (tgt := 43) dX12_odds_69 (by decide) ?_
  refine j_sub [1, 2, 3, 4, 0] rfl ?_
  exact hk43 (y4, μ2) _ hm
set_option maxRecDepth 20000 in
set_option maxHeartbeats 4000000 in
theorem tj_X12_odds_124 {x : Ctx} {Λ : Lay} (C : Cx x cX12_odds 8 (some .int) RX12 Λ rm_X12_odds) (N : Nat) (μ : Mem) (k75 : Int64 × Int32 × Mem → Option (Int32 × Mem)) (k84 : Int32 × Mem → Option (Int32 × Mem)) (v0 : Nat) (v1 : Int32) (v2 : Int32) (v3 : Int64) (v5 : Int32) (v6 : Int32) (s0 : Nat) (s1 : Int32) (s2 : Int64) (s3 : Int64) (hk75 : ∀ (s : Int64 × Int32 × Mem) (r : Int32 × Mem), k75 s = some r → J x 8 Λ (QI x Λ r.1 r.2) 75 [(0, .ref v0), (1, .int v1), (2, .int v2), (3, .long s.1), (5, .int s.2.1)] [] (s.2.2)) (hk84 : ∀ (s : Int32 × Mem) (r : Int32 × Mem), k84 s = some r → J x 8 Λ (QI x Λ r.1 r.2) 84 [(0, .ref v0), (1, .int v1), (2, .int v2), (3, .long v3), (5, .int v5), (6, .int s.1)] [] (s.2)) (hv0 : inL Λ v0 11) (hs0 : inL Λ s0 14) {r : Int32 × Mem} (hm : jn_X12_odds_124 N Λ μ k75 k84 v0 v1 v2 v3 v5 v6 s0 s1 s2 s3 = some r) : J x 8 Λ (QI x Λ r.1 r.2) 124 [(0, .ref v0), (1, .int v1), (2, .int v2), (3, .long v3), (5, .int v5), (6, .int v6)] [.long s3, .long s2, .int s1, .ref s0] μ := by
  refine j_ladd C dX12_odds_124 ?_
  obtain ⟨h1, hm⟩ := gd_some hm
  obtain ⟨μ2, e3, hm⟩ := lt_some hm
  refine j_last C hs0 h1 e3 dX12_odds_125 ?_
  obtain ⟨y4, e5, hm⟩ := lt_some hm
  refine j_iinc C 5 (v := y4) (lv' := [(6, .int y4), (0, .ref v0), (1, .int v1), (2, .int v2), (3, .long v3), (5, .int v5)]) dX12_odds_126 rfl (by rw [e5]; rfl) (by decide) rfl ?_
  refine j_goto C (tgt := 84) dX12_odds_129 (by decide) ?_
  refine j_sub [1, 2, 3, 4, 5, 0] rfl ?_
  exact hk84 (y4, μ2) _ hm
set_option maxRecDepth 20000 in
set_option maxHeartbeats 4000000 in
theorem tb_X12_odds_84 {x : Ctx} {Λ : Lay} (C : Cx x cX12_odds 8 (some .int) RX12 Λ rm_X12_odds) (N : Nat) (μ : Mem) (k75 : Int64 × Int32 × Mem → Option (Int32 × Mem)) (k84 : Int32 × Mem → Option (Int32 × Mem)) (v0 : Nat) (v1 : Int32) (v2 : Int32) (v3 : Int64) (v5 : Int32) (v6 : Int32) (hk75 : ∀ (s : Int64 × Int32 × Mem) (r : Int32 × Mem), k75 s = some r → J x 8 Λ (QI x Λ r.1 r.2) 75 [(0, .ref v0), (1, .int v1), (2, .int v2), (3, .long s.1), (5, .int s.2.1)] [] (s.2.2)) (hk84 : ∀ (s : Int32 × Mem) (r : Int32 × Mem), k84 s = some r → J x 8 Λ (QI x Λ r.1 r.2) 84 [(0, .ref v0), (1, .int v1), (2, .int v2), (3, .long v3), (5, .int v5), (6, .int s.1)] [] (s.2)) (hv0 : inL Λ v0 11) {r : Int32 × Mem} (hm : bd_X12_odds_84 N Λ μ k75 k84 v0 v1 v2 v3 v5 v6 = some r) : J x 8 Λ (QI x Λ r.1 r.2) 84 [(0, .ref v0), (1, .int v1), (2, .int v2), (3, .long v3), (5, .int v5), (6, .int v6)] [] μ := by
  refine j_iload C 5 dX12_odds_84 rfl ?_
  refine j_if_lt C (tgt := 132) dX12_odds_86 (by decide) (fun h1 => ?_) (fun h1 => ?_)
  · replace hm := if_t hm h1
    refine j_lload_n C 3 dX12_odds_132 rfl ?_
    refine j_aload_n C 0 dX12_odds_133 rfl ?_
    obtain ⟨q2, h3, hm⟩ := bd_some hm
    refine j_getR C fg_X12_13_11 hv0 (dr_spec h3).1 dX12_odds_134 ?_
    refine j_bipush C (v := 7) dX12_odds_137 rfl ?_
    obtain ⟨h4, hm⟩ := gd_some hm
    refine j_iald C ((dr_spec h3).2) h4 dX12_odds_139 ?_
    refine j_iconst C (v := 1) dX12_odds_140 rfl ?_
    refine j_iadd C dX12_odds_141 ?_
    refine j_i2l C dX12_odds_142 ?_
    refine j_lmul C dX12_odds_143 ?_
    obtain ⟨y5, e6, hm⟩ := lt_some hm
    refine j_topl e6 ?_
    refine j_lstore_n C (lv' := [(3, .long y5), (0, .ref v0), (1, .int v1), (2, .int v2), (5, .int v5), (6, .int v6)]) dX12_odds_144 (by decide) rfl ?_
    obtain ⟨y7, e8, hm⟩ := lt_some hm
    refine j_iinc C 4 (v := y7) (lv' := [(5, .int y7), (3, .long y5), (0, .ref v0), (1, .int v1), (2, .int v2), (6, .int v6)]) dX12_odds_145 rfl (by rw [e8]; rfl) (by decide) rfl ?_
    refine j_goto C (tgt := 75) dX12_odds_148 (by decide) ?_
    refine j_sub [2, 3, 4, 1, 0] rfl ?_
    exact hk75 (y5, y7, μ) _ hm
  · replace hm := if_f hm h1
    refine j_aload_n C 0 dX12_odds_89 rfl ?_
    obtain ⟨q9, h10, hm⟩ := bd_some hm
    refine j_getR C fg_X12_70_11 hv0 (dr_spec h10).1 dX12_odds_90 ?_
    refine j_iload C 5 dX12_odds_93 rfl ?_
    refine j_dup2 C dX12_odds_95 rfl rfl ?_
    obtain ⟨h11, hm⟩ := gd_some hm
    refine j_lald C ((dr_spec h10).2) h11 dX12_odds_96 ?_
    refine j_iload C 5 dX12_odds_97 rfl ?_
    refine j_if_ne C (tgt := 106) dX12_odds_99 (by decide) (fun h12 => ?_) (fun h12 => ?_)
    · replace hm := if_f hm h12
      refine j_aload_n C 0 dX12_odds_106 rfl ?_
      obtain ⟨q13, h14, hm⟩ := bd_some hm
      refine j_getR C fg_X12_70_11 hv0 (dr_spec h14).1 dX12_odds_107 ?_
      refine j_iload C 5 dX12_odds_110 rfl ?_
      refine j_iconst C (v := 1) dX12_odds_112 rfl ?_
      refine j_isub C dX12_odds_113 ?_
      obtain ⟨h15, hm⟩ := gd_some hm
      refine j_lald C ((dr_spec h14).2) h15 dX12_odds_114 ?_
      refine j_aload_n C 0 dX12_odds_115 rfl ?_
      obtain ⟨q16, h17, hm⟩ := bd_some hm
      refine j_getR C fg_X12_13_11 hv0 (dr_spec h17).1 dX12_odds_116 ?_
      refine j_bipush C (v := 7) dX12_odds_119 rfl ?_
      obtain ⟨h18, hm⟩ := gd_some hm
      refine j_iald C ((dr_spec h17).2) h18 dX12_odds_121 ?_
      refine j_i2l C dX12_odds_122 ?_
      refine j_lmul C dX12_odds_123 ?_
      exact tj_X12_odds_124 C _ _ _ _ _ _ _ _ _ _ _ _ _ _ hk75 hk84 hv0 ((dr_spec h10).2) hm
    · replace hm := if_t hm h12
      refine j_lconst C (v := 0) dX12_odds_102 rfl ?_
      refine j_goto C (tgt := 124) dX12_odds_103 (by decide) ?_
      exact tj_X12_odds_124 C _ _ _ _ _ _ _ _ _ _ _ _ _ _ hk75 hk84 hv0 ((dr_spec h10).2) hm
set_option maxRecDepth 20000 in
set_option maxHeartbeats 4000000 in
theorem tl_X12_odds_84 {x : Ctx} {Λ : Lay} (C : Cx x cX12_odds 8 (some .int) RX12 Λ rm_X12_odds) (N : Nat) (k75 : Int64 × Int32 × Mem → Option (Int32 × Mem)) (v0 : Nat) (v1 : Int32) (v2 : Int32) (v3 : Int64) (v5 : Int32) (hk75 : ∀ (s : Int64 × Int32 × Mem) (r : Int32 × Mem), k75 s = some r → J x 8 Λ (QI x Λ r.1 r.2) 75 [(0, .ref v0), (1, .int v1), (2, .int v2), (3, .long s.1), (5, .int s.2.1)] [] (s.2.2)) (hv0 : inL Λ v0 11) (s : Int32 × Mem) {r : Int32 × Mem} (hm : lp_X12_odds_84 N Λ k75 v0 v1 v2 v3 v5 s = some r) : J x 8 Λ (QI x Λ r.1 r.2) 84 [(0, .ref v0), (1, .int v1), (2, .int v2), (3, .long v3), (5, .int v5), (6, .int s.1)] [] (s.2) :=
  cw_ind (P := fun s r => J x 8 Λ (QI x Λ r.1 r.2) 84 [(0, .ref v0), (1, .int v1), (2, .int v2), (3, .long v3), (5, .int v5), (6, .int s.1)] [] (s.2)) (fun k hkk s r e => tb_X12_odds_84 C _ _ _ _ _ _ _ _ _ _ hk75 hkk hv0 e) N s r hm
set_option maxRecDepth 20000 in
set_option maxHeartbeats 4000000 in
theorem tb_X12_odds_157 {x : Ctx} {Λ : Lay} (C : Cx x cX12_odds 8 (some .int) RX12 Λ rm_X12_odds) (N : Nat) (μ : Mem) (k157 : Int64 × Int32 × Mem → Option (Int32 × Mem)) (v0 : Nat) (v3 : Int64) (v5 : Int64) (v7 : Int32) (hk157 : ∀ (s : Int64 × Int32 × Mem) (r : Int32 × Mem), k157 s = some r → J x 8 Λ (QI x Λ r.1 r.2) 157 [(0, .ref v0), (3, .long v3), (5, .long s.1), (7, .int s.2.1)] [] (s.2.2)) (hv0 : inL Λ v0 11) {r : Int32 × Mem} (hm : bd_X12_odds_157 N Λ μ k157 v0 v3 v5 v7 = some r) : J x 8 Λ (QI x Λ r.1 r.2) 157 [(0, .ref v0), (3, .long v3), (5, .long v5), (7, .int v7)] [] μ := by
  refine j_iload C 3 dX12_odds_157 rfl ?_
  refine j_iconst C (v := 5) dX12_odds_159 rfl ?_
  refine j_icmp_gt C (tgt := 181) dX12_odds_160 (by decide) (fun h1 => ?_) (fun h1 => ?_)
  · replace hm := if_t hm h1
    refine j_ldc2 C (v := 10000) wk_2230 dX12_odds_181 ?_
    refine j_lload C 2 dX12_odds_184 rfl ?_
    refine j_lmul C dX12_odds_186 ?_
    refine j_lload_n C 1 dX12_odds_187 rfl ?_
    obtain ⟨h2, hm⟩ := gd_some hm
    refine j_ldiv C dX12_odds_188 (of_decide_eq_true h2) ?_
    refine j_l2i C dX12_odds_189 ?_
    obtain rfl := Option.some.inj hm
    exact j_ireti C dX12_odds_190
  · replace hm := if_f hm h1
    refine j_lload C 2 dX12_odds_163 rfl ?_
    refine j_aload_n C 0 dX12_odds_165 rfl ?_
    obtain ⟨q3, h4, hm⟩ := bd_some hm
    refine j_getR C fg_X12_70_11 hv0 (dr_spec h4).1 dX12_odds_166 ?_
    refine j_iload C 3 dX12_odds_169 rfl ?_
    obtain ⟨h5, hm⟩ := gd_some hm
    refine j_lald C ((dr_spec h4).2) h5 dX12_odds_171 ?_
    refine j_ladd C dX12_odds_172 ?_
    obtain ⟨y6, e7, hm⟩ := lt_some hm
    refine j_topl e7 ?_
    refine j_lstore C (lv' := [(5, .long y6), (0, .ref v0), (3, .long v3), (7, .int v7)]) dX12_odds_173 (by decide) rfl ?_
    obtain ⟨y8, e9, hm⟩ := lt_some hm
    refine j_iinc C 3 (v := y8) (lv' := [(7, .int y8), (5, .long y6), (0, .ref v0), (3, .long v3)]) dX12_odds_175 rfl (by rw [e9]; rfl) (by decide) rfl ?_
    refine j_goto C (tgt := 157) dX12_odds_178 (by decide) ?_
    refine j_sub [2, 3, 1, 0] rfl ?_
    exact hk157 (y6, y8, μ) _ hm
set_option maxRecDepth 20000 in
set_option maxHeartbeats 4000000 in
theorem tl_X12_odds_157 {x : Ctx} {Λ : Lay} (C : Cx x cX12_odds 8 (some .int) RX12 Λ rm_X12_odds) (N : Nat) (v0 : Nat) (v3 : Int64) (hv0 : inL Λ v0 11) (s : Int64 × Int32 × Mem) {r : Int32 × Mem} (hm : lp_X12_odds_157 N Λ v0 v3 s = some r) : J x 8 Λ (QI x Λ r.1 r.2) 157 [(0, .ref v0), (3, .long v3), (5, .long s.1), (7, .int s.2.1)] [] (s.2.2) :=
  cw_ind (P := fun s r => J x 8 Λ (QI x Λ r.1 r.2) 157 [(0, .ref v0), (3, .long v3), (5, .long s.1), (7, .int s.2.1)] [] (s.2.2)) (fun k hkk s r e => tb_X12_odds_157 C _ _ _ _ _ _ _ hkk hv0 e) N s r hm
set_option maxRecDepth 20000 in
set_option maxHeartbeats 4000000 in
theorem tb_X12_odds_75 {x : Ctx} {Λ : Lay} (C : Cx x cX12_odds 8 (some .int) RX12 Λ rm_X12_odds) (N : Nat) (μ : Mem) (k75 : Int64 × Int32 × Mem → Option (Int32 × Mem)) (v0 : Nat) (v1 : Int32) (v2 : Int32) (v3 : Int64) (v5 : Int32) (hk75 : ∀ (s : Int64 × Int32 × Mem) (r : Int32 × Mem), k75 s = some r → J x 8 Λ (QI x Λ r.1 r.2) 75 [(0, .ref v0), (1, .int v1), (2, .int v2), (3, .long s.1), (5, .int s.2.1)] [] (s.2.2)) (hv0 : inL Λ v0 11) {r : Int32 × Mem} (hm : bd_X12_odds_75 N Λ μ k75 v0 v1 v2 v3 v5 = some r) : J x 8 Λ (QI x Λ r.1 r.2) 75 [(0, .ref v0), (1, .int v1), (2, .int v2), (3, .long v3), (5, .int v5)] [] μ := by
  refine j_iload C 4 dX12_odds_75 rfl ?_
  refine j_iload_n C 1 dX12_odds_77 rfl ?_
  refine j_icmp_ge C (tgt := 151) dX12_odds_78 (by decide) (fun h1 => ?_) (fun h1 => ?_)
  · replace hm := if_t hm h1
    refine j_lconst C (v := 0) dX12_odds_151 rfl ?_
    refine j_lstore C (lv' := [(5, .long 0), (0, .ref v0), (1, .int v1), (2, .int v2), (3, .long v3)]) dX12_odds_152 (by decide) rfl ?_
    refine j_iload_n C 3 dX12_odds_154 rfl ?_
    refine j_istore C (lv' := [(7, .int v2), (5, .long 0), (0, .ref v0), (1, .int v1), (2, .int v2), (3, .long v3)]) dX12_odds_155 (by decide) rfl ?_
    refine j_sub [2, 5, 1, 0] rfl ?_
    exact tl_X12_odds_157 C _ _ _ hv0 (0, v2, μ) hm
  · replace hm := if_f hm h1
    refine j_iconst C (v := 5) dX12_odds_81 rfl ?_
    refine j_istore C (lv' := [(6, .int 5), (0, .ref v0), (1, .int v1), (2, .int v2), (3, .long v3), (5, .int v5)]) dX12_odds_82 (by decide) rfl ?_
    refine j_sub [1, 2, 3, 4, 5, 0] rfl ?_
    exact tl_X12_odds_84 C _ _ _ _ _ _ _ hk75 hv0 (5, μ) hm
set_option maxRecDepth 20000 in
set_option maxHeartbeats 4000000 in
theorem tl_X12_odds_75 {x : Ctx} {Λ : Lay} (C : Cx x cX12_odds 8 (some .int) RX12 Λ rm_X12_odds) (N : Nat) (v0 : Nat) (v1 : Int32) (v2 : Int32) (hv0 : inL Λ v0 11) (s : Int64 × Int32 × Mem) {r : Int32 × Mem} (hm : lp_X12_odds_75 N Λ v0 v1 v2 s = some r) : J x 8 Λ (QI x Λ r.1 r.2) 75 [(0, .ref v0), (1, .int v1), (2, .int v2), (3, .long s.1), (5, .int s.2.1)] [] (s.2.2) :=
  cw_ind (P := fun s r => J x 8 Λ (QI x Λ r.1 r.2) 75 [(0, .ref v0), (1, .int v1), (2, .int v2), (3, .long s.1), (5, .int s.2.1)] [] (s.2.2)) (fun k hkk s r e => tb_X12_odds_75 C _ _ _ _ _ _ _ _ hkk hv0 e) N s r hm
set_option maxRecDepth 20000 in
set_option maxHeartbeats 4000000 in
theorem tb_X12_odds_43 {x : Ctx} {Λ : Lay} (C : Cx x cX12_odds 8 (some .int) RX12 Λ rm_X12_odds) (N : Nat) (μ : Mem) (k43 : Int32 × Mem → Option (Int32 × Mem)) (v0 : Nat) (v1 : Int32) (v2 : Int32) (v3 : Int64) (v5 : Int32) (hk43 : ∀ (s : Int32 × Mem) (r : Int32 × Mem), k43 s = some r → J x 8 Λ (QI x Λ r.1 r.2) 43 [(0, .ref v0), (1, .int v1), (2, .int v2), (3, .long v3), (5, .int s.1)] [] (s.2)) (hv0 : inL Λ v0 11) {r : Int32 × Mem} (hm : bd_X12_odds_43 N Λ μ k43 v0 v1 v2 v3 v5 = some r) : J x 8 Λ (QI x Λ r.1 r.2) 43 [(0, .ref v0), (1, .int v1), (2, .int v2), (3, .long v3), (5, .int v5)] [] μ := by
  refine j_iload C 4 dX12_odds_43 rfl ?_
  refine j_iconst C (v := 5) dX12_odds_45 rfl ?_
  refine j_icmp_gt C (tgt := 72) dX12_odds_46 (by decide) (fun h1 => ?_) (fun h1 => ?_)
  · replace hm := if_t hm h1
    refine j_iconst C (v := 0) dX12_odds_72 rfl ?_
    refine j_istore C (lv' := [(5, .int 0), (0, .ref v0), (1, .int v1), (2, .int v2), (3, .long v3)]) dX12_odds_73 (by decide) rfl ?_
    refine j_sub [1, 2, 3, 4, 0] rfl ?_
    exact tl_X12_odds_75 C _ _ _ _ hv0 (v3, 0, μ) hm
  · replace hm := if_f hm h1
    refine j_aload_n C 0 dX12_odds_49 rfl ?_
    obtain ⟨q2, h3, hm⟩ := bd_some hm
    refine j_getR C fg_X12_70_11 hv0 (dr_spec h3).1 dX12_odds_50 ?_
    refine j_iload C 4 dX12_odds_53 rfl ?_
    refine j_iload C 4 dX12_odds_55 rfl ?_
    refine j_if_ne C (tgt := 64) dX12_odds_57 (by decide) (fun h4 => ?_) (fun h4 => ?_)
    · replace hm := if_f hm h4
      refine j_lconst C (v := 0) dX12_odds_64 rfl ?_
      exact tj_X12_odds_65 C _ _ _ _ _ _ _ _ _ _ _ hk43 hv0 ((dr_spec h3).2) hm
    · replace hm := if_t hm h4
      refine j_lconst C (v := 1) dX12_odds_60 rfl ?_
      refine j_goto C (tgt := 65) dX12_odds_61 (by decide) ?_
      exact tj_X12_odds_65 C _ _ _ _ _ _ _ _ _ _ _ hk43 hv0 ((dr_spec h3).2) hm
set_option maxRecDepth 20000 in
set_option maxHeartbeats 4000000 in
theorem tl_X12_odds_43 {x : Ctx} {Λ : Lay} (C : Cx x cX12_odds 8 (some .int) RX12 Λ rm_X12_odds) (N : Nat) (v0 : Nat) (v1 : Int32) (v2 : Int32) (v3 : Int64) (hv0 : inL Λ v0 11) (s : Int32 × Mem) {r : Int32 × Mem} (hm : lp_X12_odds_43 N Λ v0 v1 v2 v3 s = some r) : J x 8 Λ (QI x Λ r.1 r.2) 43 [(0, .ref v0), (1, .int v1), (2, .int v2), (3, .long v3), (5, .int s.1)] [] (s.2) :=
  cw_ind (P := fun s r => J x 8 Λ (QI x Λ r.1 r.2) 43 [(0, .ref v0), (1, .int v1), (2, .int v2), (3, .long v3), (5, .int s.1)] [] (s.2)) (fun k hkk s r e => tb_X12_odds_43 C _ _ _ _ _ _ _ _ hkk hv0 e) N s r hm
set_option maxRecDepth 20000 in
set_option maxHeartbeats 4000000 in
theorem tj_X12_odds_29 {x : Ctx} {Λ : Lay} (C : Cx x cX12_odds 8 (some .int) RX12 Λ rm_X12_odds) (N : Nat) (μ : Mem) (v0 : Nat) (v1 : Int32) (v2 : Int32) (s0 : Nat) (s1 : Int32) (hv0 : inL Λ v0 11) (hs0 : inL Λ s0 11) {r : Int32 × Mem} (hm : jn_X12_odds_29 N Λ μ v0 v1 v2 s0 s1 = some r) : J x 8 Λ (QI x Λ r.1 r.2) 29 [(0, .ref v0), (1, .int v1), (2, .int v2)] [.int s1, .ref s0] μ := by
  refine j_iconst C (v := 1) dX12_odds_29 rfl ?_
  obtain ⟨r1, h2, hm⟩ := bd_some hm
  refine call_I (run_LV C lk_X12_282 ⟨rfl, rfl, Nat.le_of_ble_eq_true rfl, Nat.le_of_ble_eq_true rfl⟩ (As := [.int s1, .int 1]) hs0 rfl rfl (Nat.le_of_ble_eq_true rfl) dX12_odds_30 (mc_X12_throwsIf _ _ _ _ _ _ _ hs0 h2)) ?_
  refine j_if_eq C (tgt := 38) dX12_odds_33 (by decide) (fun h3 => ?_) (fun h3 => ?_)
  · replace hm := if_t hm h3
    refine j_lconst C (v := 1) dX12_odds_38 rfl ?_
    refine j_lstore_n C (lv' := [(3, .long 1), (0, .ref v0), (1, .int v1), (2, .int v2)]) dX12_odds_39 (by decide) rfl ?_
    refine j_iconst C (v := 0) dX12_odds_40 rfl ?_
    refine j_istore C (lv' := [(5, .int 0), (3, .long 1), (0, .ref v0), (1, .int v1), (2, .int v2)]) dX12_odds_41 (by decide) rfl ?_
    refine j_sub [2, 3, 4, 1, 0] rfl ?_
    exact tl_X12_odds_43 C _ _ _ _ _ hv0 (0, r1.2) hm
  · replace hm := if_f hm h3
    refine j_iconst C (v := 0) dX12_odds_36 rfl ?_
    obtain rfl := Option.some.inj hm
    exact j_ireti C dX12_odds_37
set_option maxRecDepth 20000 in
set_option maxHeartbeats 4000000 in
theorem tj_X12_odds_24 {x : Ctx} {Λ : Lay} (C : Cx x cX12_odds 8 (some .int) RX12 Λ rm_X12_odds) (N : Nat) (μ : Mem) (v0 : Nat) (v1 : Int32) (v2 : Int32) (s0 : Nat) (hv0 : inL Λ v0 11) (hs0 : inL Λ s0 11) {r : Int32 × Mem} (hm : jn_X12_odds_24 N Λ μ v0 v1 v2 s0 = some r) : J x 8 Λ (QI x Λ r.1 r.2) 24 [(0, .ref v0), (1, .int v1), (2, .int v2)] [.ref s0] μ := by
  refine j_iconst C (v := 1) dX12_odds_24 rfl ?_
  refine j_goto C (tgt := 29) dX12_odds_25 (by decide) ?_
  exact tj_X12_odds_29 C _ _ _ _ _ _ _ hv0 hs0 hm
set_option maxRecDepth 20000 in
set_option maxHeartbeats 4000000 in
theorem tm_X12_odds {x : Ctx} {Λ : Lay} (C : Cx x cX12_odds 8 (some .int) RX12 Λ rm_X12_odds) (N : Nat) (μ : Mem) (v0 : Nat) (v1 : Int32) (v2 : Int32) (hv0 : inL Λ v0 11) {r : Int32 × Mem} (hm : m_X12_odds N Λ μ v0 v1 v2 = some r) : J x 8 Λ (QI x Λ r.1 r.2) 0 [(0, .ref v0), (1, .int v1), (2, .int v2)] [] μ := by
  refine j_aload_n C 0 dX12_odds_0 rfl ?_
  refine j_iconst C (v := 0) dX12_odds_1 rfl ?_
  obtain ⟨μ1, e2, hm⟩ := lt_some hm
  refine j_putI C fp_X12_3_11 hv0 e2 dX12_odds_2 ?_
  refine j_aload_n C 0 dX12_odds_5 rfl ?_
  refine j_iload_n C 1 dX12_odds_6 rfl ?_
  refine j_iconst C (v := 0) dX12_odds_7 rfl ?_
  refine j_iconst C (v := 5) dX12_odds_8 rfl ?_
  obtain ⟨r3, h4, hm⟩ := bd_some hm
  refine call_I (run_LS C ls_X12_103 ⟨rfl, rfl, Nat.le_of_ble_eq_true rfl, Nat.le_of_ble_eq_true rfl⟩ (As := [.int v1, .int 0, .int 5]) rfl rfl (Nat.le_of_ble_eq_true rfl) dX12_odds_9 (mc_X12_in _ _ _ _ _ _ _  h4)) ?_
  refine j_if_eq C (tgt := 24) dX12_odds_12 (by decide) (fun h5 => ?_) (fun h5 => ?_)
  · replace hm := if_t hm h5
    exact tj_X12_odds_24 C _ _ _ _ _ _ hv0 hv0 hm
  · replace hm := if_f hm h5
    refine j_iload_n C 2 dX12_odds_15 rfl ?_
    refine j_iconst C (v := 0) dX12_odds_16 rfl ?_
    refine j_iconst C (v := 5) dX12_odds_17 rfl ?_
    obtain ⟨r6, h7, hm⟩ := bd_some hm
    refine call_I (run_LS C ls_X12_103 ⟨rfl, rfl, Nat.le_of_ble_eq_true rfl, Nat.le_of_ble_eq_true rfl⟩ (As := [.int v2, .int 0, .int 5]) rfl rfl (Nat.le_of_ble_eq_true rfl) dX12_odds_18 (mc_X12_in _ _ _ _ _ _ _  h7)) ?_
    refine j_if_ne C (tgt := 28) dX12_odds_21 (by decide) (fun h8 => ?_) (fun h8 => ?_)
    · replace hm := if_f hm h8
      refine j_iconst C (v := 0) dX12_odds_28 rfl ?_
      exact tj_X12_odds_29 C _ _ _ _ _ _ _ hv0 hv0 hm
    · replace hm := if_t hm h8
      exact tj_X12_odds_24 C _ _ _ _ _ _ hv0 hv0 hm
set_option maxRecDepth 20000 in
set_option maxHeartbeats 4000000 in
theorem mc_X12_odds (l : Launch) (N : Nat) (Λ : Lay) (μ : Mem) (v0 : Nat) (v1 : Int32) (v2 : Int32) (hv0 : inL Λ v0 11) {r : Int32 × Mem} (hm : m_X12_odds N Λ μ v0 v1 v2 = some r) : MI l yX12_odds cX12_odds 8 (some .int) rm_X12_odds Λ [.ref v0, .int v1, .int v2] μ r.1 r.2 := mi_of rfl (Nat.le_of_ble_eq_true rfl) (fun x C _ => tm_X12_odds C _ _ _ _ _ hv0 hm)
abbrev rm_X12_most : Room := { frames := 2, cells := 0, slots := 0, locals := 43 }
set_option maxRecDepth 20000 in
set_option maxHeartbeats 4000000 in
theorem tj_X12_most_73 {x : Ctx} {Λ : Lay} (C : Cx x cX12_most 4 (some .int) RX12 Λ rm_X12_most) (N : Nat) (μ : Mem) (k33 : Int32 × Int32 × Mem → Option (Int32 × Mem)) (v0 : Nat) (v1 : Int32) (v2 : Int32) (v3 : Int32) (hk33 : ∀ (s : Int32 × Int32 × Mem) (r : Int32 × Mem), k33 s = some r → J x 4 Λ (QI x Λ r.1 r.2) 33 [(0, .ref v0), (1, .int v1), (2, .int s.1), (3, .int s.2.1)] [] (s.2.2)) (hv0 : inL Λ v0 11) {r : Int32 × Mem} (hm : jn_X12_most_73 N Λ μ k33 v0 v1 v2 v3 = some r) : J x 4 Λ (QI x Λ r.1 r.2) 73 [(0, .ref v0), (1, .int v1), (2, .int v2), (3, .int v3)] [] μ := by
  obtain ⟨y1, e2, hm⟩ := lt_some hm
  refine j_iinc C 3 (v := y1) (lv' := [(3, .int y1), (0, .ref v0), (1, .int v1), (2, .int v2)]) dX12_most_73 rfl (by rw [e2]; rfl) (by decide) rfl ?_
  refine j_goto C (tgt := 33) dX12_most_76 (by decide) ?_
  refine j_sub [1, 2, 3, 0] rfl ?_
  exact hk33 (v2, y1, μ) _ hm
set_option maxRecDepth 20000 in
set_option maxHeartbeats 4000000 in
theorem tj_X12_most_71 {x : Ctx} {Λ : Lay} (C : Cx x cX12_most 4 (some .int) RX12 Λ rm_X12_most) (N : Nat) (μ : Mem) (k33 : Int32 × Int32 × Mem → Option (Int32 × Mem)) (v0 : Nat) (v1 : Int32) (v3 : Int32) (hk33 : ∀ (s : Int32 × Int32 × Mem) (r : Int32 × Mem), k33 s = some r → J x 4 Λ (QI x Λ r.1 r.2) 33 [(0, .ref v0), (1, .int v1), (2, .int s.1), (3, .int s.2.1)] [] (s.2.2)) (hv0 : inL Λ v0 11) {r : Int32 × Mem} (hm : jn_X12_most_71 N Λ μ k33 v0 v1 v3 = some r) : J x 4 Λ (QI x Λ r.1 r.2) 71 [(0, .ref v0), (1, .int v1), (3, .int v3)] [] μ := by
  refine j_iload_n C 2 dX12_most_71 rfl ?_
  refine j_istore_n C (lv' := [(2, .int v3), (0, .ref v0), (1, .int v1), (3, .int v3)]) dX12_most_72 (by decide) rfl ?_
  refine j_sub [1, 2, 0, 3] rfl ?_
  exact tj_X12_most_73 C _ _ _ _ _ _ _ hk33 hv0 hm
set_option maxRecDepth 20000 in
set_option maxHeartbeats 4000000 in
theorem tb_X12_most_33 {x : Ctx} {Λ : Lay} (C : Cx x cX12_most 4 (some .int) RX12 Λ rm_X12_most) (N : Nat) (μ : Mem) (k33 : Int32 × Int32 × Mem → Option (Int32 × Mem)) (v0 : Nat) (v1 : Int32) (v2 : Int32) (v3 : Int32) (hk33 : ∀ (s : Int32 × Int32 × Mem) (r : Int32 × Mem), k33 s = some r → J x 4 Λ (QI x Λ r.1 r.2) 33 [(0, .ref v0), (1, .int v1), (2, .int s.1), (3, .int s.2.1)] [] (s.2.2)) (hv0 : inL Λ v0 11) {r : Int32 × Mem} (hm : bd_X12_most_33 N Λ μ k33 v0 v1 v2 v3 = some r) : J x 4 Λ (QI x Λ r.1 r.2) 33 [(0, .ref v0), (1, .int v1), (2, .int v2), (3, .int v3)] [] μ := by
  refine j_iload_n C 3 dX12_most_33 rfl ?_
  refine j_aload_n C 0 dX12_most_34 rfl ?_
  obtain ⟨r1, h2, hm⟩ := bd_some hm
  refine call_I (run_LV C lk_X12_95 ⟨rfl, rfl, Nat.le_of_ble_eq_true rfl, Nat.le_of_ble_eq_true rfl⟩ (As := []) hv0 rfl rfl (Nat.le_of_ble_eq_true rfl) dX12_most_35 (mc_X12_ships _ _ _ _ _ hv0 h2)) ?_
  refine j_icmp_ge C (tgt := 79) dX12_most_38 (by decide) (fun h3 => ?_) (fun h3 => ?_)
  · replace hm := if_t hm h3
    refine j_iload_n C 2 dX12_most_79 rfl ?_
    obtain rfl := Option.some.inj hm
    exact j_ireti C dX12_most_80
  · replace hm := if_f hm h3
    refine j_aload_n C 0 dX12_most_41 rfl ?_
    refine j_iload_n C 3 dX12_most_42 rfl ?_
    refine j_iconst C (v := 3) dX12_most_43 rfl ?_
    obtain ⟨r4, h5, hm⟩ := bd_some hm
    refine call_I (run_LV C lk_X12_85 ⟨rfl, rfl, Nat.le_of_ble_eq_true rfl, Nat.le_of_ble_eq_true rfl⟩ (As := [.int v3, .int 3]) hv0 rfl rfl (Nat.le_of_ble_eq_true rfl) dX12_most_44 (mc_X12_of _ _ _ _ _ _ _ hv0 h5)) ?_
    refine j_iconst C (v := 2) dX12_most_47 rfl ?_
    refine j_icmp_eq C (tgt := 73) dX12_most_48 (by decide) (fun h6 => ?_) (fun h6 => ?_)
    · replace hm := if_t hm h6
      exact tj_X12_most_73 C _ _ _ _ _ _ _ hk33 hv0 hm
    · replace hm := if_f hm h6
      refine j_iload_n C 2 dX12_most_51 rfl ?_
      refine j_iconst C (v := -1) dX12_most_52 rfl ?_
      refine j_icmp_eq C (tgt := 71) dX12_most_53 (by decide) (fun h7 => ?_) (fun h7 => ?_)
      · replace hm := if_t hm h7
        refine j_sub [0, 1, 3] rfl ?_
        exact tj_X12_most_71 C _ _ _ _ _ _ hk33 hv0 hm
      · replace hm := if_f hm h7
        refine j_aload_n C 0 dX12_most_56 rfl ?_
        refine j_iload_n C 3 dX12_most_57 rfl ?_
        refine j_iload_n C 1 dX12_most_58 rfl ?_
        obtain ⟨r8, h9, hm⟩ := bd_some hm
        refine call_I (run_LV C lk_X12_85 ⟨rfl, rfl, Nat.le_of_ble_eq_true rfl, Nat.le_of_ble_eq_true rfl⟩ (As := [.int v3, .int v1]) hv0 rfl rfl (Nat.le_of_ble_eq_true rfl) dX12_most_59 (mc_X12_of _ _ _ _ _ _ _ hv0 h9)) ?_
        refine j_aload_n C 0 dX12_most_62 rfl ?_
        refine j_iload_n C 2 dX12_most_63 rfl ?_
        refine j_iload_n C 1 dX12_most_64 rfl ?_
        obtain ⟨r10, h11, hm⟩ := bd_some hm
        refine call_I (run_LV C lk_X12_85 ⟨rfl, rfl, Nat.le_of_ble_eq_true rfl, Nat.le_of_ble_eq_true rfl⟩ (As := [.int v2, .int v1]) hv0 rfl rfl (Nat.le_of_ble_eq_true rfl) dX12_most_65 (mc_X12_of _ _ _ _ _ _ _ hv0 h11)) ?_
        refine j_icmp_le C (tgt := 73) dX12_most_68 (by decide) (fun h12 => ?_) (fun h12 => ?_)
        · replace hm := if_t hm h12
          exact tj_X12_most_73 C _ _ _ _ _ _ _ hk33 hv0 hm
        · replace hm := if_f hm h12
          refine j_sub [0, 1, 3] rfl ?_
          exact tj_X12_most_71 C _ _ _ _ _ _ hk33 hv0 hm
set_option maxRecDepth 20000 in
set_option maxHeartbeats 4000000 in
theorem tl_X12_most_33 {x : Ctx} {Λ : Lay} (C : Cx x cX12_most 4 (some .int) RX12 Λ rm_X12_most) (N : Nat) (v0 : Nat) (v1 : Int32) (hv0 : inL Λ v0 11) (s : Int32 × Int32 × Mem) {r : Int32 × Mem} (hm : lp_X12_most_33 N Λ v0 v1 s = some r) : J x 4 Λ (QI x Λ r.1 r.2) 33 [(0, .ref v0), (1, .int v1), (2, .int s.1), (3, .int s.2.1)] [] (s.2.2) :=
  cw_ind (P := fun s r => J x 4 Λ (QI x Λ r.1 r.2) 33 [(0, .ref v0), (1, .int v1), (2, .int s.1), (3, .int s.2.1)] [] (s.2.2)) (fun k hkk s r e => tb_X12_most_33 C _ _ _ _ _ _ _ hkk hv0 e) N s r hm
set_option maxRecDepth 20000 in
set_option maxHeartbeats 4000000 in
theorem tj_X12_most_20 {x : Ctx} {Λ : Lay} (C : Cx x cX12_most 4 (some .int) RX12 Λ rm_X12_most) (N : Nat) (μ : Mem) (v0 : Nat) (v1 : Int32) (s0 : Nat) (s1 : Int32) (hv0 : inL Λ v0 11) (hs0 : inL Λ s0 11) {r : Int32 × Mem} (hm : jn_X12_most_20 N Λ μ v0 v1 s0 s1 = some r) : J x 4 Λ (QI x Λ r.1 r.2) 20 [(0, .ref v0), (1, .int v1)] [.int s1, .ref s0] μ := by
  refine j_iconst C (v := 1) dX12_most_20 rfl ?_
  obtain ⟨r1, h2, hm⟩ := bd_some hm
  refine call_I (run_LV C lk_X12_282 ⟨rfl, rfl, Nat.le_of_ble_eq_true rfl, Nat.le_of_ble_eq_true rfl⟩ (As := [.int s1, .int 1]) hs0 rfl rfl (Nat.le_of_ble_eq_true rfl) dX12_most_21 (mc_X12_throwsIf _ _ _ _ _ _ _ hs0 h2)) ?_
  refine j_if_eq C (tgt := 29) dX12_most_24 (by decide) (fun h3 => ?_) (fun h3 => ?_)
  · replace hm := if_t hm h3
    refine j_iconst C (v := -1) dX12_most_29 rfl ?_
    refine j_istore_n C (lv' := [(2, .int (-1)), (0, .ref v0), (1, .int v1)]) dX12_most_30 (by decide) rfl ?_
    refine j_iconst C (v := 0) dX12_most_31 rfl ?_
    refine j_istore_n C (lv' := [(3, .int 0), (2, .int (-1)), (0, .ref v0), (1, .int v1)]) dX12_most_32 (by decide) rfl ?_
    refine j_sub [2, 3, 1, 0] rfl ?_
    exact tl_X12_most_33 C _ _ _ hv0 ((-1), 0, r1.2) hm
  · replace hm := if_f hm h3
    refine j_iconst C (v := 0) dX12_most_27 rfl ?_
    obtain rfl := Option.some.inj hm
    exact j_ireti C dX12_most_28
set_option maxRecDepth 20000 in
set_option maxHeartbeats 4000000 in
theorem tm_X12_most {x : Ctx} {Λ : Lay} (C : Cx x cX12_most 4 (some .int) RX12 Λ rm_X12_most) (N : Nat) (μ : Mem) (v0 : Nat) (v1 : Int32) (hv0 : inL Λ v0 11) {r : Int32 × Mem} (hm : m_X12_most N Λ μ v0 v1 = some r) : J x 4 Λ (QI x Λ r.1 r.2) 0 [(0, .ref v0), (1, .int v1)] [] μ := by
  refine j_aload_n C 0 dX12_most_0 rfl ?_
  refine j_iconst C (v := 0) dX12_most_1 rfl ?_
  obtain ⟨μ1, e2, hm⟩ := lt_some hm
  refine j_putI C fp_X12_3_11 hv0 e2 dX12_most_2 ?_
  refine j_aload_n C 0 dX12_most_5 rfl ?_
  refine j_iload_n C 1 dX12_most_6 rfl ?_
  refine j_iconst C (v := 0) dX12_most_7 rfl ?_
  refine j_iconst C (v := 2) dX12_most_8 rfl ?_
  obtain ⟨r3, h4, hm⟩ := bd_some hm
  refine call_I (run_LS C ls_X12_103 ⟨rfl, rfl, Nat.le_of_ble_eq_true rfl, Nat.le_of_ble_eq_true rfl⟩ (As := [.int v1, .int 0, .int 2]) rfl rfl (Nat.le_of_ble_eq_true rfl) dX12_most_9 (mc_X12_in _ _ _ _ _ _ _  h4)) ?_
  refine j_if_ne C (tgt := 19) dX12_most_12 (by decide) (fun h5 => ?_) (fun h5 => ?_)
  · replace hm := if_f hm h5
    refine j_iconst C (v := 0) dX12_most_19 rfl ?_
    exact tj_X12_most_20 C _ _ _ _ _ _ hv0 hv0 hm
  · replace hm := if_t hm h5
    refine j_iconst C (v := 1) dX12_most_15 rfl ?_
    refine j_goto C (tgt := 20) dX12_most_16 (by decide) ?_
    exact tj_X12_most_20 C _ _ _ _ _ _ hv0 hv0 hm
set_option maxRecDepth 20000 in
set_option maxHeartbeats 4000000 in
theorem mc_X12_most (l : Launch) (N : Nat) (Λ : Lay) (μ : Mem) (v0 : Nat) (v1 : Int32) (hv0 : inL Λ v0 11) {r : Int32 × Mem} (hm : m_X12_most N Λ μ v0 v1 = some r) : MI l yX12_most cX12_most 4 (some .int) rm_X12_most Λ [.ref v0, .int v1] μ r.1 r.2 := mi_of rfl (Nat.le_of_ble_eq_true rfl) (fun x C _ => tm_X12_most C _ _ _ _ hv0 hm)
abbrev rm_X12_allThat : Room := { frames := 2, cells := 0, slots := 0, locals := 43 }
set_option maxRecDepth 20000 in
set_option maxHeartbeats 4000000 in
theorem tj_X12_allThat_39 {x : Ctx} {Λ : Lay} (C : Cx x cX12_allThat 5 (some .int) RX12 Λ rm_X12_allThat) (N : Nat) (μ : Mem) (k10 : Int32 × Int32 × Mem → Option (Int32 × Mem)) (v0 : Nat) (v1 : Int32) (v2 : Int32) (v4 : Int32) (s0 : Int32) (s1 : Int32) (hk10 : ∀ (s : Int32 × Int32 × Mem) (r : Int32 × Mem), k10 s = some r → J x 5 Λ (QI x Λ r.1 r.2) 10 [(0, .ref v0), (1, .int v1), (2, .int v2), (3, .int s.1), (4, .int s.2.1)] [] (s.2.2)) (hv0 : inL Λ v0 11) {r : Int32 × Mem} (hm : jn_X12_allThat_39 N Λ μ k10 v0 v1 v2 v4 s0 s1 = some r) : J x 5 Λ (QI x Λ r.1 r.2) 39 [(0, .ref v0), (1, .int v1), (2, .int v2), (4, .int v4)] [.int s1, .int s0] μ := by
  refine j_ior C dX12_allThat_39 ?_
  obtain ⟨y1, e2, hm⟩ := lt_some hm
  refine j_topi e2 ?_
  refine j_istore_n C (lv' := [(3, .int y1), (0, .ref v0), (1, .int v1), (2, .int v2), (4, .int v4)]) dX12_allThat_40 (by decide) rfl ?_
  obtain ⟨y3, e4, hm⟩ := lt_some hm
  refine j_iinc C 4 (v := y3) (lv' := [(4, .int y3), (3, .int y1), (0, .ref v0), (1, .int v1), (2, .int v2)]) dX12_allThat_41 rfl (by rw [e4]; rfl) (by decide) rfl ?_
  refine j_goto C (tgt := 10) dX12_allThat_44 (by decide) ?_
  refine j_sub [2, 3, 4, 1, 0] rfl ?_
  exact hk10 (y1, y3, μ) _ hm
set_option maxRecDepth 20000 in
set_option maxHeartbeats 4000000 in
theorem tb_X12_allThat_10 {x : Ctx} {Λ : Lay} (C : Cx x cX12_allThat 5 (some .int) RX12 Λ rm_X12_allThat) (N : Nat) (μ : Mem) (k10 : Int32 × Int32 × Mem → Option (Int32 × Mem)) (v0 : Nat) (v1 : Int32) (v2 : Int32) (v3 : Int32) (v4 : Int32) (hk10 : ∀ (s : Int32 × Int32 × Mem) (r : Int32 × Mem), k10 s = some r → J x 5 Λ (QI x Λ r.1 r.2) 10 [(0, .ref v0), (1, .int v1), (2, .int v2), (3, .int s.1), (4, .int s.2.1)] [] (s.2.2)) (hv0 : inL Λ v0 11) {r : Int32 × Mem} (hm : bd_X12_allThat_10 N Λ μ k10 v0 v1 v2 v3 v4 = some r) : J x 5 Λ (QI x Λ r.1 r.2) 10 [(0, .ref v0), (1, .int v1), (2, .int v2), (3, .int v3), (4, .int v4)] [] μ := by
  refine j_iload C 4 dX12_allThat_10 rfl ?_
  refine j_aload_n C 0 dX12_allThat_12 rfl ?_
  obtain ⟨r1, h2, hm⟩ := bd_some hm
  refine call_I (run_LV C lk_X12_95 ⟨rfl, rfl, Nat.le_of_ble_eq_true rfl, Nat.le_of_ble_eq_true rfl⟩ (As := []) hv0 rfl rfl (Nat.le_of_ble_eq_true rfl) dX12_allThat_13 (mc_X12_ships _ _ _ _ _ hv0 h2)) ?_
  refine j_icmp_ge C (tgt := 47) dX12_allThat_16 (by decide) (fun h3 => ?_) (fun h3 => ?_)
  · replace hm := if_t hm h3
    refine j_iload_n C 3 dX12_allThat_47 rfl ?_
    obtain rfl := Option.some.inj hm
    exact j_ireti C dX12_allThat_48
  · replace hm := if_f hm h3
    refine j_iload_n C 3 dX12_allThat_19 rfl ?_
    refine j_aload_n C 0 dX12_allThat_20 rfl ?_
    refine j_iload C 4 dX12_allThat_21 rfl ?_
    refine j_iload_n C 1 dX12_allThat_23 rfl ?_
    obtain ⟨r4, h5, hm⟩ := bd_some hm
    refine call_I (run_LV C lk_X12_85 ⟨rfl, rfl, Nat.le_of_ble_eq_true rfl, Nat.le_of_ble_eq_true rfl⟩ (As := [.int v4, .int v1]) hv0 rfl rfl (Nat.le_of_ble_eq_true rfl) dX12_allThat_24 (mc_X12_of _ _ _ _ _ _ _ hv0 h5)) ?_
    refine j_iload_n C 2 dX12_allThat_27 rfl ?_
    refine j_icmp_ne C (tgt := 38) dX12_allThat_28 (by decide) (fun h6 => ?_) (fun h6 => ?_)
    · replace hm := if_f hm h6
      refine j_iconst C (v := 0) dX12_allThat_38 rfl ?_
      refine j_sub [0, 1, 2, 4] rfl ?_
      exact tj_X12_allThat_39 C _ _ _ _ _ _ _ _ _ hk10 hv0 hm
    · replace hm := if_t hm h6
      refine j_iconst C (v := 1) dX12_allThat_31 rfl ?_
      refine j_iload C 4 dX12_allThat_32 rfl ?_
      refine j_ishl C dX12_allThat_34 ?_
      refine j_goto C (tgt := 39) dX12_allThat_35 (by decide) ?_
      refine j_sub [0, 1, 2, 4] rfl ?_
      exact tj_X12_allThat_39 C _ _ _ _ _ _ _ _ _ hk10 hv0 hm
set_option maxRecDepth 20000 in
set_option maxHeartbeats 4000000 in
theorem tl_X12_allThat_10 {x : Ctx} {Λ : Lay} (C : Cx x cX12_allThat 5 (some .int) RX12 Λ rm_X12_allThat) (N : Nat) (v0 : Nat) (v1 : Int32) (v2 : Int32) (hv0 : inL Λ v0 11) (s : Int32 × Int32 × Mem) {r : Int32 × Mem} (hm : lp_X12_allThat_10 N Λ v0 v1 v2 s = some r) : J x 5 Λ (QI x Λ r.1 r.2) 10 [(0, .ref v0), (1, .int v1), (2, .int v2), (3, .int s.1), (4, .int s.2.1)] [] (s.2.2) :=
  cw_ind (P := fun s r => J x 5 Λ (QI x Λ r.1 r.2) 10 [(0, .ref v0), (1, .int v1), (2, .int v2), (3, .int s.1), (4, .int s.2.1)] [] (s.2.2)) (fun k hkk s r e => tb_X12_allThat_10 C _ _ _ _ _ _ _ _ hkk hv0 e) N s r hm
set_option maxRecDepth 20000 in
set_option maxHeartbeats 4000000 in
theorem tm_X12_allThat {x : Ctx} {Λ : Lay} (C : Cx x cX12_allThat 5 (some .int) RX12 Λ rm_X12_allThat) (N : Nat) (μ : Mem) (v0 : Nat) (v1 : Int32) (v2 : Int32) (hv0 : inL Λ v0 11) {r : Int32 × Mem} (hm : m_X12_allThat N Λ μ v0 v1 v2 = some r) : J x 5 Λ (QI x Λ r.1 r.2) 0 [(0, .ref v0), (1, .int v1), (2, .int v2)] [] μ := by
  refine j_aload_n C 0 dX12_allThat_0 rfl ?_
  refine j_iconst C (v := 0) dX12_allThat_1 rfl ?_
  obtain ⟨μ1, e2, hm⟩ := lt_some hm
  refine j_putI C fp_X12_3_11 hv0 e2 dX12_allThat_2 ?_
  refine j_iconst C (v := 0) dX12_allThat_5 rfl ?_
  refine j_istore_n C (lv' := [(3, .int 0), (0, .ref v0), (1, .int v1), (2, .int v2)]) dX12_allThat_6 (by decide) rfl ?_
  refine j_iconst C (v := 0) dX12_allThat_7 rfl ?_
  refine j_istore C (lv' := [(4, .int 0), (3, .int 0), (0, .ref v0), (1, .int v1), (2, .int v2)]) dX12_allThat_8 (by decide) rfl ?_
  refine j_sub [2, 3, 4, 1, 0] rfl ?_
  exact tl_X12_allThat_10 C _ _ _ _ hv0 (0, 0, μ1) hm
set_option maxRecDepth 20000 in
set_option maxHeartbeats 4000000 in
theorem mc_X12_allThat (l : Launch) (N : Nat) (Λ : Lay) (μ : Mem) (v0 : Nat) (v1 : Int32) (v2 : Int32) (hv0 : inL Λ v0 11) {r : Int32 × Mem} (hm : m_X12_allThat N Λ μ v0 v1 v2 = some r) : MI l yX12_allThat cX12_allThat 5 (some .int) rm_X12_allThat Λ [.ref v0, .int v1, .int v2] μ r.1 r.2 := mi_of rfl (Nat.le_of_ble_eq_true rfl) (fun x C _ => tm_X12_allThat C _ _ _ _ _ hv0 hm)
abbrev rm_X12_waiting : Room := { frames := 3, cells := 0, slots := 0, locals := 67 }
set_option maxRecDepth 20000 in
set_option maxHeartbeats 4000000 in
theorem tm_X12_waiting {x : Ctx} {Λ : Lay} (C : Cx x cX12_waiting 1 (some .int) RX12 Λ rm_X12_waiting) (N : Nat) (μ : Mem) (v0 : Nat) (hv0 : inL Λ v0 11) {r : Int32 × Mem} (hm : m_X12_waiting N Λ μ v0 = some r) : J x 1 Λ (QI x Λ r.1 r.2) 0 [(0, .ref v0)] [] μ := by
  refine j_aload_n C 0 dX12_waiting_0 rfl ?_
  refine j_iconst C (v := 3) dX12_waiting_1 rfl ?_
  refine j_iconst C (v := 0) dX12_waiting_2 rfl ?_
  obtain ⟨r1, h2, hm⟩ := bd_some hm
  refine call_I (run_LV C lk_X12_502 ⟨rfl, rfl, Nat.le_of_ble_eq_true rfl, Nat.le_of_ble_eq_true rfl⟩ (As := [.int 3, .int 0]) hv0 rfl rfl (Nat.le_of_ble_eq_true rfl) dX12_waiting_3 (mc_X12_allThat _ _ _ _ _ _ _ hv0 h2)) ?_
  obtain rfl := Option.some.inj hm
  exact j_ireti C dX12_waiting_6
set_option maxRecDepth 20000 in
set_option maxHeartbeats 4000000 in
theorem mc_X12_waiting (l : Launch) (N : Nat) (Λ : Lay) (μ : Mem) (v0 : Nat) (hv0 : inL Λ v0 11) {r : Int32 × Mem} (hm : m_X12_waiting N Λ μ v0 = some r) : MI l yX12_waiting cX12_waiting 1 (some .int) rm_X12_waiting Λ [.ref v0] μ r.1 r.2 := mi_of rfl (Nat.le_of_ble_eq_true rfl) (fun x C _ => tm_X12_waiting C _ _ _ hv0 hm)
abbrev rm_X12_docked : Room := { frames := 3, cells := 0, slots := 0, locals := 67 }
set_option maxRecDepth 20000 in
set_option maxHeartbeats 4000000 in
theorem tm_X12_docked {x : Ctx} {Λ : Lay} (C : Cx x cX12_docked 1 (some .int) RX12 Λ rm_X12_docked) (N : Nat) (μ : Mem) (v0 : Nat) (hv0 : inL Λ v0 11) {r : Int32 × Mem} (hm : m_X12_docked N Λ μ v0 = some r) : J x 1 Λ (QI x Λ r.1 r.2) 0 [(0, .ref v0)] [] μ := by
  refine j_aload_n C 0 dX12_docked_0 rfl ?_
  refine j_iconst C (v := 3) dX12_docked_1 rfl ?_
  refine j_iconst C (v := 1) dX12_docked_2 rfl ?_
  obtain ⟨r1, h2, hm⟩ := bd_some hm
  refine call_I (run_LV C lk_X12_502 ⟨rfl, rfl, Nat.le_of_ble_eq_true rfl, Nat.le_of_ble_eq_true rfl⟩ (As := [.int 3, .int 1]) hv0 rfl rfl (Nat.le_of_ble_eq_true rfl) dX12_docked_3 (mc_X12_allThat _ _ _ _ _ _ _ hv0 h2)) ?_
  obtain rfl := Option.some.inj hm
  exact j_ireti C dX12_docked_6
set_option maxRecDepth 20000 in
set_option maxHeartbeats 4000000 in
theorem mc_X12_docked (l : Launch) (N : Nat) (Λ : Lay) (μ : Mem) (v0 : Nat) (hv0 : inL Λ v0 11) {r : Int32 × Mem} (hm : m_X12_docked N Λ μ v0 = some r) : MI l yX12_docked cX12_docked 1 (some .int) rm_X12_docked Λ [.ref v0] μ r.1 r.2 := mi_of rfl (Nat.le_of_ble_eq_true rfl) (fun x C _ => tm_X12_docked C _ _ _ hv0 hm)
abbrev rm_X12_gone : Room := { frames := 3, cells := 0, slots := 0, locals := 67 }
set_option maxRecDepth 20000 in
set_option maxHeartbeats 4000000 in
theorem tm_X12_gone {x : Ctx} {Λ : Lay} (C : Cx x cX12_gone 1 (some .int) RX12 Λ rm_X12_gone) (N : Nat) (μ : Mem) (v0 : Nat) (hv0 : inL Λ v0 11) {r : Int32 × Mem} (hm : m_X12_gone N Λ μ v0 = some r) : J x 1 Λ (QI x Λ r.1 r.2) 0 [(0, .ref v0)] [] μ := by
  refine j_aload_n C 0 dX12_gone_0 rfl ?_
  refine j_iconst C (v := 3) dX12_gone_1 rfl ?_
  refine j_iconst C (v := 2) dX12_gone_2 rfl ?_
  obtain ⟨r1, h2, hm⟩ := bd_some hm
  refine call_I (run_LV C lk_X12_502 ⟨rfl, rfl, Nat.le_of_ble_eq_true rfl, Nat.le_of_ble_eq_true rfl⟩ (As := [.int 3, .int 2]) hv0 rfl rfl (Nat.le_of_ble_eq_true rfl) dX12_gone_3 (mc_X12_allThat _ _ _ _ _ _ _ hv0 h2)) ?_
  obtain rfl := Option.some.inj hm
  exact j_ireti C dX12_gone_6
set_option maxRecDepth 20000 in
set_option maxHeartbeats 4000000 in
theorem mc_X12_gone (l : Launch) (N : Nat) (Λ : Lay) (μ : Mem) (v0 : Nat) (hv0 : inL Λ v0 11) {r : Int32 × Mem} (hm : m_X12_gone N Λ μ v0 = some r) : MI l yX12_gone cX12_gone 1 (some .int) rm_X12_gone Λ [.ref v0] μ r.1 r.2 := mi_of rfl (Nat.le_of_ble_eq_true rfl) (fun x C _ => tm_X12_gone C _ _ _ hv0 hm)
abbrev rm_X12_hurt : Room := { frames := 3, cells := 0, slots := 0, locals := 67 }
set_option maxRecDepth 20000 in
set_option maxHeartbeats 4000000 in
theorem tm_X12_hurt {x : Ctx} {Λ : Lay} (C : Cx x cX12_hurt 1 (some .int) RX12 Λ rm_X12_hurt) (N : Nat) (μ : Mem) (v0 : Nat) (hv0 : inL Λ v0 11) {r : Int32 × Mem} (hm : m_X12_hurt N Λ μ v0 = some r) : J x 1 Λ (QI x Λ r.1 r.2) 0 [(0, .ref v0)] [] μ := by
  refine j_aload_n C 0 dX12_hurt_0 rfl ?_
  refine j_iconst C (v := 5) dX12_hurt_1 rfl ?_
  refine j_iconst C (v := 1) dX12_hurt_2 rfl ?_
  obtain ⟨r1, h2, hm⟩ := bd_some hm
  refine call_I (run_LV C lk_X12_502 ⟨rfl, rfl, Nat.le_of_ble_eq_true rfl, Nat.le_of_ble_eq_true rfl⟩ (As := [.int 5, .int 1]) hv0 rfl rfl (Nat.le_of_ble_eq_true rfl) dX12_hurt_3 (mc_X12_allThat _ _ _ _ _ _ _ hv0 h2)) ?_
  obtain rfl := Option.some.inj hm
  exact j_ireti C dX12_hurt_6
set_option maxRecDepth 20000 in
set_option maxHeartbeats 4000000 in
theorem mc_X12_hurt (l : Launch) (N : Nat) (Λ : Lay) (μ : Mem) (v0 : Nat) (hv0 : inL Λ v0 11) {r : Int32 × Mem} (hm : m_X12_hurt N Λ μ v0 = some r) : MI l yX12_hurt cX12_hurt 1 (some .int) rm_X12_hurt Λ [.ref v0] μ r.1 r.2 := mi_of rfl (Nat.le_of_ble_eq_true rfl) (fun x C _ => tm_X12_hurt C _ _ _ hv0 hm)
abbrev rm_X12_twins : Room := { frames := 2, cells := 0, slots := 0, locals := 43 }
set_option maxRecDepth 20000 in
set_option maxHeartbeats 4000000 in
theorem tj_X12_twins_60 {x : Ctx} {Λ : Lay} (C : Cx x cX12_twins 4 (some .int) RX12 Λ rm_X12_twins) (N : Nat) (μ : Mem) (k9 : Int32 × Int32 × Mem → Option (Int32 × Mem)) (k19 : Int32 × Int32 × Mem → Option (Int32 × Mem)) (v0 : Nat) (v2 : Int32) (v3 : Int32) (s0 : Int32) (s1 : Int32) (hk9 : ∀ (s : Int32 × Int32 × Mem) (r : Int32 × Mem), k9 s = some r → J x 4 Λ (QI x Λ r.1 r.2) 9 [(0, .ref v0), (1, .int s.1), (2, .int s.2.1)] [] (s.2.2)) (hk19 : ∀ (s : Int32 × Int32 × Mem) (r : Int32 × Mem), k19 s = some r → J x 4 Λ (QI x Λ r.1 r.2) 19 [(0, .ref v0), (1, .int s.1), (2, .int v2), (3, .int s.2.1)] [] (s.2.2)) (hv0 : inL Λ v0 11) {r : Int32 × Mem} (hm : jn_X12_twins_60 N Λ μ k9 k19 v0 v2 v3 s0 s1 = some r) : J x 4 Λ (QI x Λ r.1 r.2) 60 [(0, .ref v0), (2, .int v2), (3, .int v3)] [.int s1, .int s0] μ := by
  refine j_iadd C dX12_twins_60 ?_
  obtain ⟨y1, e2, hm⟩ := lt_some hm
  refine j_topi e2 ?_
  refine j_istore_n C (lv' := [(1, .int y1), (0, .ref v0), (2, .int v2), (3, .int v3)]) dX12_twins_61 (by decide) rfl ?_
  obtain ⟨y3, e4, hm⟩ := lt_some hm
  refine j_iinc C 3 (v := y3) (lv' := [(3, .int y3), (1, .int y1), (0, .ref v0), (2, .int v2)]) dX12_twins_62 rfl (by rw [e4]; rfl) (by decide) rfl ?_
  refine j_goto C (tgt := 19) dX12_twins_65 (by decide) ?_
  refine j_sub [2, 1, 3, 0] rfl ?_
  exact hk19 (y1, y3, μ) _ hm
set_option maxRecDepth 20000 in
set_option maxHeartbeats 4000000 in
theorem tj_X12_twins_59 {x : Ctx} {Λ : Lay} (C : Cx x cX12_twins 4 (some .int) RX12 Λ rm_X12_twins) (N : Nat) (μ : Mem) (k9 : Int32 × Int32 × Mem → Option (Int32 × Mem)) (k19 : Int32 × Int32 × Mem → Option (Int32 × Mem)) (v0 : Nat) (v2 : Int32) (v3 : Int32) (s0 : Int32) (hk9 : ∀ (s : Int32 × Int32 × Mem) (r : Int32 × Mem), k9 s = some r → J x 4 Λ (QI x Λ r.1 r.2) 9 [(0, .ref v0), (1, .int s.1), (2, .int s.2.1)] [] (s.2.2)) (hk19 : ∀ (s : Int32 × Int32 × Mem) (r : Int32 × Mem), k19 s = some r → J x 4 Λ (QI x Λ r.1 r.2) 19 [(0, .ref v0), (1, .int s.1), (2, .int v2), (3, .int s.2.1)] [] (s.2.2)) (hv0 : inL Λ v0 11) {r : Int32 × Mem} (hm : jn_X12_twins_59 N Λ μ k9 k19 v0 v2 v3 s0 = some r) : J x 4 Λ (QI x Λ r.1 r.2) 59 [(0, .ref v0), (2, .int v2), (3, .int v3)] [.int s0] μ := by
  refine j_iconst C (v := 0) dX12_twins_59 rfl ?_
  exact tj_X12_twins_60 C _ _ _ _ _ _ _ _ _ hk9 hk19 hv0 hm
set_option maxRecDepth 20000 in
set_option maxHeartbeats 4000000 in
theorem tb_X12_twins_19 {x : Ctx} {Λ : Lay} (C : Cx x cX12_twins 4 (some .int) RX12 Λ rm_X12_twins) (N : Nat) (μ : Mem) (k9 : Int32 × Int32 × Mem → Option (Int32 × Mem)) (k19 : Int32 × Int32 × Mem → Option (Int32 × Mem)) (v0 : Nat) (v1 : Int32) (v2 : Int32) (v3 : Int32) (hk9 : ∀ (s : Int32 × Int32 × Mem) (r : Int32 × Mem), k9 s = some r → J x 4 Λ (QI x Λ r.1 r.2) 9 [(0, .ref v0), (1, .int s.1), (2, .int s.2.1)] [] (s.2.2)) (hk19 : ∀ (s : Int32 × Int32 × Mem) (r : Int32 × Mem), k19 s = some r → J x 4 Λ (QI x Λ r.1 r.2) 19 [(0, .ref v0), (1, .int s.1), (2, .int v2), (3, .int s.2.1)] [] (s.2.2)) (hv0 : inL Λ v0 11) {r : Int32 × Mem} (hm : bd_X12_twins_19 N Λ μ k9 k19 v0 v1 v2 v3 = some r) : J x 4 Λ (QI x Λ r.1 r.2) 19 [(0, .ref v0), (1, .int v1), (2, .int v2), (3, .int v3)] [] μ := by
  refine j_iload_n C 3 dX12_twins_19 rfl ?_
  refine j_iload_n C 2 dX12_twins_20 rfl ?_
  refine j_icmp_ge C (tgt := 68) dX12_twins_21 (by decide) (fun h1 => ?_) (fun h1 => ?_)
  · replace hm := if_t hm h1
    obtain ⟨y2, e3, hm⟩ := lt_some hm
    refine j_iinc C 2 (v := y2) (lv' := [(2, .int y2), (0, .ref v0), (1, .int v1), (3, .int v3)]) dX12_twins_68 rfl (by rw [e3]; rfl) (by decide) rfl ?_
    refine j_goto C (tgt := 9) dX12_twins_71 (by decide) ?_
    refine j_sub [1, 2, 0] rfl ?_
    exact hk9 (v1, y2, μ) _ hm
  · replace hm := if_f hm h1
    refine j_iload_n C 1 dX12_twins_24 rfl ?_
    refine j_aload_n C 0 dX12_twins_25 rfl ?_
    refine j_iload_n C 2 dX12_twins_26 rfl ?_
    refine j_iconst C (v := 0) dX12_twins_27 rfl ?_
    obtain ⟨r4, h5, hm⟩ := bd_some hm
    refine call_I (run_LV C lk_X12_85 ⟨rfl, rfl, Nat.le_of_ble_eq_true rfl, Nat.le_of_ble_eq_true rfl⟩ (As := [.int v2, .int 0]) hv0 rfl rfl (Nat.le_of_ble_eq_true rfl) dX12_twins_28 (mc_X12_of _ _ _ _ _ _ _ hv0 h5)) ?_
    refine j_aload_n C 0 dX12_twins_31 rfl ?_
    refine j_iload_n C 3 dX12_twins_32 rfl ?_
    refine j_iconst C (v := 0) dX12_twins_33 rfl ?_
    obtain ⟨r6, h7, hm⟩ := bd_some hm
    refine call_I (run_LV C lk_X12_85 ⟨rfl, rfl, Nat.le_of_ble_eq_true rfl, Nat.le_of_ble_eq_true rfl⟩ (As := [.int v3, .int 0]) hv0 rfl rfl (Nat.le_of_ble_eq_true rfl) dX12_twins_34 (mc_X12_of _ _ _ _ _ _ _ hv0 h7)) ?_
    refine j_icmp_ne C (tgt := 59) dX12_twins_37 (by decide) (fun h8 => ?_) (fun h8 => ?_)
    · replace hm := if_f hm h8
      refine j_sub [0, 2, 3] rfl ?_
      exact tj_X12_twins_59 C _ _ _ _ _ _ _ _ hk9 hk19 hv0 hm
    · replace hm := if_t hm h8
      refine j_aload_n C 0 dX12_twins_40 rfl ?_
      refine j_iload_n C 2 dX12_twins_41 rfl ?_
      refine j_iconst C (v := 1) dX12_twins_42 rfl ?_
      obtain ⟨r9, h10, hm⟩ := bd_some hm
      refine call_I (run_LV C lk_X12_85 ⟨rfl, rfl, Nat.le_of_ble_eq_true rfl, Nat.le_of_ble_eq_true rfl⟩ (As := [.int v2, .int 1]) hv0 rfl rfl (Nat.le_of_ble_eq_true rfl) dX12_twins_43 (mc_X12_of _ _ _ _ _ _ _ hv0 h10)) ?_
      refine j_aload_n C 0 dX12_twins_46 rfl ?_
      refine j_iload_n C 3 dX12_twins_47 rfl ?_
      refine j_iconst C (v := 1) dX12_twins_48 rfl ?_
      obtain ⟨r11, h12, hm⟩ := bd_some hm
      refine call_I (run_LV C lk_X12_85 ⟨rfl, rfl, Nat.le_of_ble_eq_true rfl, Nat.le_of_ble_eq_true rfl⟩ (As := [.int v3, .int 1]) hv0 rfl rfl (Nat.le_of_ble_eq_true rfl) dX12_twins_49 (mc_X12_of _ _ _ _ _ _ _ hv0 h12)) ?_
      refine j_icmp_ne C (tgt := 59) dX12_twins_52 (by decide) (fun h13 => ?_) (fun h13 => ?_)
      · replace hm := if_f hm h13
        refine j_sub [0, 2, 3] rfl ?_
        exact tj_X12_twins_59 C _ _ _ _ _ _ _ _ hk9 hk19 hv0 hm
      · replace hm := if_t hm h13
        refine j_iconst C (v := 1) dX12_twins_55 rfl ?_
        refine j_goto C (tgt := 60) dX12_twins_56 (by decide) ?_
        refine j_sub [0, 2, 3] rfl ?_
        exact tj_X12_twins_60 C _ _ _ _ _ _ _ _ _ hk9 hk19 hv0 hm
set_option maxRecDepth 20000 in
set_option maxHeartbeats 4000000 in
theorem tl_X12_twins_19 {x : Ctx} {Λ : Lay} (C : Cx x cX12_twins 4 (some .int) RX12 Λ rm_X12_twins) (N : Nat) (k9 : Int32 × Int32 × Mem → Option (Int32 × Mem)) (v0 : Nat) (v2 : Int32) (hk9 : ∀ (s : Int32 × Int32 × Mem) (r : Int32 × Mem), k9 s = some r → J x 4 Λ (QI x Λ r.1 r.2) 9 [(0, .ref v0), (1, .int s.1), (2, .int s.2.1)] [] (s.2.2)) (hv0 : inL Λ v0 11) (s : Int32 × Int32 × Mem) {r : Int32 × Mem} (hm : lp_X12_twins_19 N Λ k9 v0 v2 s = some r) : J x 4 Λ (QI x Λ r.1 r.2) 19 [(0, .ref v0), (1, .int s.1), (2, .int v2), (3, .int s.2.1)] [] (s.2.2) :=
  cw_ind (P := fun s r => J x 4 Λ (QI x Λ r.1 r.2) 19 [(0, .ref v0), (1, .int s.1), (2, .int v2), (3, .int s.2.1)] [] (s.2.2)) (fun k hkk s r e => tb_X12_twins_19 C _ _ _ _ _ _ _ _ hk9 hkk hv0 e) N s r hm
set_option maxRecDepth 20000 in
set_option maxHeartbeats 4000000 in
theorem tb_X12_twins_9 {x : Ctx} {Λ : Lay} (C : Cx x cX12_twins 4 (some .int) RX12 Λ rm_X12_twins) (N : Nat) (μ : Mem) (k9 : Int32 × Int32 × Mem → Option (Int32 × Mem)) (v0 : Nat) (v1 : Int32) (v2 : Int32) (hk9 : ∀ (s : Int32 × Int32 × Mem) (r : Int32 × Mem), k9 s = some r → J x 4 Λ (QI x Λ r.1 r.2) 9 [(0, .ref v0), (1, .int s.1), (2, .int s.2.1)] [] (s.2.2)) (hv0 : inL Λ v0 11) {r : Int32 × Mem} (hm : bd_X12_twins_9 N Λ μ k9 v0 v1 v2 = some r) : J x 4 Λ (QI x Λ r.1 r.2) 9 [(0, .ref v0), (1, .int v1), (2, .int v2)] [] μ := by
  refine j_iload_n C 2 dX12_twins_9 rfl ?_
  refine j_aload_n C 0 dX12_twins_10 rfl ?_
  obtain ⟨r1, h2, hm⟩ := bd_some hm
  refine call_I (run_LV C lk_X12_95 ⟨rfl, rfl, Nat.le_of_ble_eq_true rfl, Nat.le_of_ble_eq_true rfl⟩ (As := []) hv0 rfl rfl (Nat.le_of_ble_eq_true rfl) dX12_twins_11 (mc_X12_ships _ _ _ _ _ hv0 h2)) ?_
  refine j_icmp_ge C (tgt := 74) dX12_twins_14 (by decide) (fun h3 => ?_) (fun h3 => ?_)
  · replace hm := if_t hm h3
    refine j_iload_n C 1 dX12_twins_74 rfl ?_
    obtain rfl := Option.some.inj hm
    exact j_ireti C dX12_twins_75
  · replace hm := if_f hm h3
    refine j_iconst C (v := 0) dX12_twins_17 rfl ?_
    refine j_istore_n C (lv' := [(3, .int 0), (0, .ref v0), (1, .int v1), (2, .int v2)]) dX12_twins_18 (by decide) rfl ?_
    refine j_sub [1, 2, 3, 0] rfl ?_
    exact tl_X12_twins_19 C _ _ _ _ hk9 hv0 (v1, 0, μ) hm
set_option maxRecDepth 20000 in
set_option maxHeartbeats 4000000 in
theorem tl_X12_twins_9 {x : Ctx} {Λ : Lay} (C : Cx x cX12_twins 4 (some .int) RX12 Λ rm_X12_twins) (N : Nat) (v0 : Nat) (hv0 : inL Λ v0 11) (s : Int32 × Int32 × Mem) {r : Int32 × Mem} (hm : lp_X12_twins_9 N Λ v0 s = some r) : J x 4 Λ (QI x Λ r.1 r.2) 9 [(0, .ref v0), (1, .int s.1), (2, .int s.2.1)] [] (s.2.2) :=
  cw_ind (P := fun s r => J x 4 Λ (QI x Λ r.1 r.2) 9 [(0, .ref v0), (1, .int s.1), (2, .int s.2.1)] [] (s.2.2)) (fun k hkk s r e => tb_X12_twins_9 C _ _ _ _ _ _ hkk hv0 e) N s r hm
set_option maxRecDepth 20000 in
set_option maxHeartbeats 4000000 in
theorem tm_X12_twins {x : Ctx} {Λ : Lay} (C : Cx x cX12_twins 4 (some .int) RX12 Λ rm_X12_twins) (N : Nat) (μ : Mem) (v0 : Nat) (hv0 : inL Λ v0 11) {r : Int32 × Mem} (hm : m_X12_twins N Λ μ v0 = some r) : J x 4 Λ (QI x Λ r.1 r.2) 0 [(0, .ref v0)] [] μ := by
  refine j_aload_n C 0 dX12_twins_0 rfl ?_
  refine j_iconst C (v := 0) dX12_twins_1 rfl ?_
  obtain ⟨μ1, e2, hm⟩ := lt_some hm
  refine j_putI C fp_X12_3_11 hv0 e2 dX12_twins_2 ?_
  refine j_iconst C (v := 0) dX12_twins_5 rfl ?_
  refine j_istore_n C (lv' := [(1, .int 0), (0, .ref v0)]) dX12_twins_6 (by decide) rfl ?_
  refine j_iconst C (v := 0) dX12_twins_7 rfl ?_
  refine j_istore_n C (lv' := [(2, .int 0), (1, .int 0), (0, .ref v0)]) dX12_twins_8 (by decide) rfl ?_
  refine j_sub [2, 1, 0] rfl ?_
  exact tl_X12_twins_9 C _ _ hv0 (0, 0, μ1) hm
set_option maxRecDepth 20000 in
set_option maxHeartbeats 4000000 in
theorem mc_X12_twins (l : Launch) (N : Nat) (Λ : Lay) (μ : Mem) (v0 : Nat) (hv0 : inL Λ v0 11) {r : Int32 × Mem} (hm : m_X12_twins N Λ μ v0 = some r) : MI l yX12_twins cX12_twins 4 (some .int) rm_X12_twins Λ [.ref v0] μ r.1 r.2 := mi_of rfl (Nat.le_of_ble_eq_true rfl) (fun x C _ => tm_X12_twins C _ _ _ hv0 hm)
abbrev rm_X12_water : Room := { frames := 0, cells := 0, slots := 0, locals := 0 }
set_option maxRecDepth 20000 in
set_option maxHeartbeats 4000000 in
theorem tj_X12_water_74 {x : Ctx} {Λ : Lay} (C : Cx x cX12_water 4 (some .int) RX12 Λ rm_X12_water) (N : Nat) (μ : Mem) (k9 : Int32 × Int32 × Mem → Option (Int32 × Mem)) (v0 : Nat) (v1 : Int32) (v3 : Int32) (s0 : Int32) (hk9 : ∀ (s : Int32 × Int32 × Mem) (r : Int32 × Mem), k9 s = some r → J x 4 Λ (QI x Λ r.1 r.2) 9 [(0, .ref v0), (1, .int v1), (2, .int s.1), (3, .int s.2.1)] [] (s.2.2)) (hv0 : inL Λ v0 11) {r : Int32 × Mem} (hm : jn_X12_water_74 N Λ μ k9 v0 v1 v3 s0 = some r) : J x 4 Λ (QI x Λ r.1 r.2) 74 [(0, .ref v0), (1, .int v1), (3, .int v3)] [.int s0] μ := by
  refine j_istore_n C (lv' := [(2, .int s0), (0, .ref v0), (1, .int v1), (3, .int v3)]) dX12_water_74 (by decide) rfl ?_
  obtain ⟨y1, e2, hm⟩ := lt_some hm
  refine j_iinc C 3 (v := y1) (lv' := [(3, .int y1), (2, .int s0), (0, .ref v0), (1, .int v1)]) dX12_water_75 rfl (by rw [e2]; rfl) (by decide) rfl ?_
  refine j_goto C (tgt := 9) dX12_water_78 (by decide) ?_
  refine j_sub [2, 3, 1, 0] rfl ?_
  exact hk9 (s0, y1, μ) _ hm
set_option maxRecDepth 20000 in
set_option maxHeartbeats 4000000 in
theorem tb_X12_water_9 {x : Ctx} {Λ : Lay} (C : Cx x cX12_water 4 (some .int) RX12 Λ rm_X12_water) (N : Nat) (μ : Mem) (k9 : Int32 × Int32 × Mem → Option (Int32 × Mem)) (v0 : Nat) (v1 : Int32) (v2 : Int32) (v3 : Int32) (hk9 : ∀ (s : Int32 × Int32 × Mem) (r : Int32 × Mem), k9 s = some r → J x 4 Λ (QI x Λ r.1 r.2) 9 [(0, .ref v0), (1, .int v1), (2, .int s.1), (3, .int s.2.1)] [] (s.2.2)) (hv0 : inL Λ v0 11) {r : Int32 × Mem} (hm : bd_X12_water_9 N Λ μ k9 v0 v1 v2 v3 = some r) : J x 4 Λ (QI x Λ r.1 r.2) 9 [(0, .ref v0), (1, .int v1), (2, .int v2), (3, .int v3)] [] μ := by
  refine j_iload_n C 3 dX12_water_9 rfl ?_
  refine j_bipush C (v := 12) dX12_water_10 rfl ?_
  refine j_icmp_ge C (tgt := 81) dX12_water_12 (by decide) (fun h1 => ?_) (fun h1 => ?_)
  · replace hm := if_t hm h1
    refine j_iload_n C 2 dX12_water_81 rfl ?_
    obtain rfl := Option.some.inj hm
    exact j_ireti C dX12_water_82
  · replace hm := if_f hm h1
    refine j_iload_n C 1 dX12_water_15 rfl ?_
    refine j_if_eq C (tgt := 48) dX12_water_16 (by decide) (fun h2 => ?_) (fun h2 => ?_)
    · replace hm := if_t hm h2
      refine j_aload_n C 0 dX12_water_48 rfl ?_
      obtain ⟨q3, h4, hm⟩ := bd_some hm
      refine j_getR C fg_X12_13_11 hv0 (dr_spec h4).1 dX12_water_49 ?_
      refine j_bipush C (v := 13) dX12_water_52 rfl ?_
      refine j_iload_n C 3 dX12_water_54 rfl ?_
      refine j_iadd C dX12_water_55 ?_
      obtain ⟨h5, hm⟩ := gd_some hm
      refine j_iald C ((dr_spec h4).2) h5 dX12_water_56 ?_
      refine j_aload_n C 0 dX12_water_57 rfl ?_
      obtain ⟨q6, h7, hm⟩ := bd_some hm
      refine j_getR C fg_X12_13_11 hv0 (dr_spec h7).1 dX12_water_58 ?_
      refine j_bipush C (v := 13) dX12_water_61 rfl ?_
      refine j_iload_n C 2 dX12_water_63 rfl ?_
      refine j_iadd C dX12_water_64 ?_
      obtain ⟨h8, hm⟩ := gd_some hm
      refine j_iald C ((dr_spec h7).2) h8 dX12_water_65 ?_
      refine j_icmp_ge C (tgt := 73) dX12_water_66 (by decide) (fun h9 => ?_) (fun h9 => ?_)
      · replace hm := if_t hm h9
        refine j_iload_n C 2 dX12_water_73 rfl ?_
        refine j_sub [0, 1, 3] rfl ?_
        exact tj_X12_water_74 C _ _ _ _ _ _ _ hk9 hv0 hm
      · replace hm := if_f hm h9
        refine j_iload_n C 3 dX12_water_69 rfl ?_
        refine j_goto C (tgt := 74) dX12_water_70 (by decide) ?_
        refine j_sub [0, 1, 3] rfl ?_
        exact tj_X12_water_74 C _ _ _ _ _ _ _ hk9 hv0 hm
    · replace hm := if_f hm h2
      refine j_aload_n C 0 dX12_water_19 rfl ?_
      obtain ⟨q10, h11, hm⟩ := bd_some hm
      refine j_getR C fg_X12_13_11 hv0 (dr_spec h11).1 dX12_water_20 ?_
      refine j_bipush C (v := 13) dX12_water_23 rfl ?_
      refine j_iload_n C 3 dX12_water_25 rfl ?_
      refine j_iadd C dX12_water_26 ?_
      obtain ⟨h12, hm⟩ := gd_some hm
      refine j_iald C ((dr_spec h11).2) h12 dX12_water_27 ?_
      refine j_aload_n C 0 dX12_water_28 rfl ?_
      obtain ⟨q13, h14, hm⟩ := bd_some hm
      refine j_getR C fg_X12_13_11 hv0 (dr_spec h14).1 dX12_water_29 ?_
      refine j_bipush C (v := 13) dX12_water_32 rfl ?_
      refine j_iload_n C 2 dX12_water_34 rfl ?_
      refine j_iadd C dX12_water_35 ?_
      obtain ⟨h15, hm⟩ := gd_some hm
      refine j_iald C ((dr_spec h14).2) h15 dX12_water_36 ?_
      refine j_icmp_le C (tgt := 44) dX12_water_37 (by decide) (fun h16 => ?_) (fun h16 => ?_)
      · replace hm := if_t hm h16
        refine j_iload_n C 2 dX12_water_44 rfl ?_
        refine j_goto C (tgt := 74) dX12_water_45 (by decide) ?_
        refine j_sub [0, 1, 3] rfl ?_
        exact tj_X12_water_74 C _ _ _ _ _ _ _ hk9 hv0 hm
      · replace hm := if_f hm h16
        refine j_iload_n C 3 dX12_water_40 rfl ?_
        refine j_goto C (tgt := 74) dX12_water_41 (by decide) ?_
        refine j_sub [0, 1, 3] rfl ?_
        exact tj_X12_water_74 C _ _ _ _ _ _ _ hk9 hv0 hm
set_option maxRecDepth 20000 in
set_option maxHeartbeats 4000000 in
theorem tl_X12_water_9 {x : Ctx} {Λ : Lay} (C : Cx x cX12_water 4 (some .int) RX12 Λ rm_X12_water) (N : Nat) (v0 : Nat) (v1 : Int32) (hv0 : inL Λ v0 11) (s : Int32 × Int32 × Mem) {r : Int32 × Mem} (hm : lp_X12_water_9 N Λ v0 v1 s = some r) : J x 4 Λ (QI x Λ r.1 r.2) 9 [(0, .ref v0), (1, .int v1), (2, .int s.1), (3, .int s.2.1)] [] (s.2.2) :=
  cw_ind (P := fun s r => J x 4 Λ (QI x Λ r.1 r.2) 9 [(0, .ref v0), (1, .int v1), (2, .int s.1), (3, .int s.2.1)] [] (s.2.2)) (fun k hkk s r e => tb_X12_water_9 C _ _ _ _ _ _ _ hkk hv0 e) N s r hm
set_option maxRecDepth 20000 in
set_option maxHeartbeats 4000000 in
theorem tm_X12_water {x : Ctx} {Λ : Lay} (C : Cx x cX12_water 4 (some .int) RX12 Λ rm_X12_water) (N : Nat) (μ : Mem) (v0 : Nat) (v1 : Int32) (hv0 : inL Λ v0 11) {r : Int32 × Mem} (hm : m_X12_water N Λ μ v0 v1 = some r) : J x 4 Λ (QI x Λ r.1 r.2) 0 [(0, .ref v0), (1, .int v1)] [] μ := by
  refine j_aload_n C 0 dX12_water_0 rfl ?_
  refine j_iconst C (v := 0) dX12_water_1 rfl ?_
  obtain ⟨μ1, e2, hm⟩ := lt_some hm
  refine j_putI C fp_X12_3_11 hv0 e2 dX12_water_2 ?_
  refine j_iconst C (v := 0) dX12_water_5 rfl ?_
  refine j_istore_n C (lv' := [(2, .int 0), (0, .ref v0), (1, .int v1)]) dX12_water_6 (by decide) rfl ?_
  refine j_iconst C (v := 1) dX12_water_7 rfl ?_
  refine j_istore_n C (lv' := [(3, .int 1), (2, .int 0), (0, .ref v0), (1, .int v1)]) dX12_water_8 (by decide) rfl ?_
  refine j_sub [2, 3, 1, 0] rfl ?_
  exact tl_X12_water_9 C _ _ _ hv0 (0, 1, μ1) hm
set_option maxRecDepth 20000 in
set_option maxHeartbeats 4000000 in
theorem mc_X12_water (l : Launch) (N : Nat) (Λ : Lay) (μ : Mem) (v0 : Nat) (v1 : Int32) (hv0 : inL Λ v0 11) {r : Int32 × Mem} (hm : m_X12_water N Λ μ v0 v1 = some r) : MI l yX12_water cX12_water 4 (some .int) rm_X12_water Λ [.ref v0, .int v1] μ r.1 r.2 := mi_of rfl (Nat.le_of_ble_eq_true rfl) (fun x C _ => tm_X12_water C _ _ _ _ hv0 hm)
abbrev rm_X12_noHours : Room := { frames := 1, cells := 0, slots := 0, locals := 22 }
set_option maxRecDepth 20000 in
set_option maxHeartbeats 4000000 in
theorem tj_X12_noHours_15 {x : Ctx} {Λ : Lay} (C : Cx x cX12_noHours 1 (some .boolean) RX12 Λ rm_X12_noHours) (N : Nat) (μ : Mem) (s0 : Int32) {r : Int32} (hm : jn_X12_noHours_15 N Λ μ s0 = some r) : J x 1 Λ (QI x Λ r μ) 15 [] [.int s0] μ := by
  obtain ⟨h1, hm⟩ := gd_some hm
  obtain rfl := Option.some.inj hm
  exact j_iretz C h1 dX12_noHours_15
set_option maxRecDepth 20000 in
set_option maxHeartbeats 4000000 in
theorem tm_X12_noHours {x : Ctx} {Λ : Lay} (C : Cx x cX12_noHours 1 (some .boolean) RX12 Λ rm_X12_noHours) (N : Nat) (μ : Mem) (v0 : Int32) {r : Int32} (hm : m_X12_noHours N Λ μ v0 = some r) : J x 1 Λ (QI x Λ r μ) 0 [(0, .int v0)] [] μ := by
  refine j_iload_n C 0 dX12_noHours_0 rfl ?_
  refine j_iconst C (v := 0) dX12_noHours_1 rfl ?_
  refine j_bipush C (v := 60) dX12_noHours_2 rfl ?_
  obtain ⟨r1, h2, hm⟩ := bd_some hm
  refine call_I (run_LS C ls_X12_103 ⟨rfl, rfl, Nat.le_of_ble_eq_true rfl, Nat.le_of_ble_eq_true rfl⟩ (As := [.int v0, .int 0, .int 60]) rfl rfl (Nat.le_of_ble_eq_true rfl) dX12_noHours_4 (mc_X12_in _ _ _ _ _ _ _  h2)) ?_
  refine j_if_ne C (tgt := 14) dX12_noHours_7 (by decide) (fun h3 => ?_) (fun h3 => ?_)
  · replace hm := if_f hm h3
    refine j_iconst C (v := 0) dX12_noHours_14 rfl ?_
    refine j_sub [] rfl ?_
    exact tj_X12_noHours_15 C _ _ _  hm
  · replace hm := if_t hm h3
    refine j_iconst C (v := 1) dX12_noHours_10 rfl ?_
    refine j_goto C (tgt := 15) dX12_noHours_11 (by decide) ?_
    refine j_sub [] rfl ?_
    exact tj_X12_noHours_15 C _ _ _  hm
set_option maxRecDepth 20000 in
set_option maxHeartbeats 4000000 in
theorem mc_X12_noHours (l : Launch) (N : Nat) (Λ : Lay) (μ : Mem) (v0 : Int32) {r : Int32} (hm : m_X12_noHours N Λ μ v0 = some r) : MI l yX12_noHours cX12_noHours 1 (some .boolean) rm_X12_noHours Λ [.int v0] μ r μ := mi_of rfl (Nat.le_of_ble_eq_true rfl) (fun x C _ => tm_X12_noHours C _ _ _  hm)
abbrev rm_X12_levelOrWork : Room := { frames := 9, cells := 0, slots := 0, locals := 206 }
set_option maxRecDepth 20000 in
set_option maxHeartbeats 4000000 in
theorem tj_X12_levelOrWork_29 {x : Ctx} {Λ : Lay} (C : Cx x cX12_levelOrWork 5 (some .int) RX12 Λ rm_X12_levelOrWork) (N : Nat) (μ : Mem) (v0 : Nat) (s0 : Int32) (hv0 : inL Λ v0 11) {r : Int32 × Mem} (hm : jn_X12_levelOrWork_29 N Λ μ v0 s0 = some r) : J x 5 Λ (QI x Λ r.1 r.2) 29 [(0, .ref v0)] [.int s0] μ := by
  refine j_istore C (lv' := [(4, .int s0), (0, .ref v0)]) dX12_levelOrWork_29 (by decide) rfl ?_
  refine j_aload_n C 1 dX12_levelOrWork_31 rfl ?_
  obtain ⟨r1, h2, hm⟩ := bd_some hm
  refine call_V (run_LV C lk_X12_417 ⟨rfl, rfl, Nat.le_of_ble_eq_true rfl, Nat.le_of_ble_eq_true rfl⟩ (As := []) hv0 rfl rfl (Nat.le_of_ble_eq_true rfl) dX12_levelOrWork_32 (mc_X12_bringsBack _ _ _ _ _ hv0 h2)) ?_
  refine j_iload C 0 dX12_levelOrWork_35 rfl ?_
  obtain rfl := Option.some.inj hm
  exact j_ireti C dX12_levelOrWork_37
set_option maxRecDepth 20000 in
set_option maxHeartbeats 4000000 in
theorem tm_X12_levelOrWork {x : Ctx} {Λ : Lay} (C : Cx x cX12_levelOrWork 5 (some .int) RX12 Λ rm_X12_levelOrWork) (N : Nat) (μ : Mem) (v0 : Nat) (v1 : Int32) (v2 : Int32) (v3 : Int32) (hv0 : inL Λ v0 11) {r : Int32 × Mem} (hm : m_X12_levelOrWork N Λ μ v0 v1 v2 v3 = some r) : J x 5 Λ (QI x Λ r.1 r.2) 0 [(0, .ref v0), (1, .int v1), (2, .int v2), (3, .int v3)] [] μ := by
  refine j_aload_n C 0 dX12_levelOrWork_0 rfl ?_
  obtain ⟨r1, h2, hm⟩ := bd_some hm
  refine call_V (run_LV C lk_X12_411 ⟨rfl, rfl, Nat.le_of_ble_eq_true rfl, Nat.le_of_ble_eq_true rfl⟩ (As := []) hv0 rfl rfl (Nat.le_of_ble_eq_true rfl) dX12_levelOrWork_1 (mc_X12_keepsAll _ _ _ _ _ hv0 h2)) ?_
  refine j_aload_n C 0 dX12_levelOrWork_4 rfl ?_
  refine j_iload_n C 1 dX12_levelOrWork_5 rfl ?_
  refine j_iload_n C 3 dX12_levelOrWork_6 rfl ?_
  obtain ⟨r3, h4, hm⟩ := bd_some hm
  refine call_I (run_LV C lk_X12_366 ⟨rfl, rfl, Nat.le_of_ble_eq_true rfl, Nat.le_of_ble_eq_true rfl⟩ (As := [.int v1, .int v3]) hv0 rfl rfl (Nat.le_of_ble_eq_true rfl) dX12_levelOrWork_7 (mc_X12_goesOn _ _ _ _ _ _ _ hv0 h4)) ?_
  refine j_pop C dX12_levelOrWork_10 rfl ?_
  refine j_iload_n C 2 dX12_levelOrWork_11 rfl ?_
  refine j_if_eq C (tgt := 23) dX12_levelOrWork_12 (by decide) (fun h5 => ?_) (fun h5 => ?_)
  · replace hm := if_t hm h5
    refine j_aload_n C 0 dX12_levelOrWork_23 rfl ?_
    obtain ⟨q6, h7, hm⟩ := bd_some hm
    refine j_getR C fg_X12_13_11 hv0 (dr_spec h7).1 dX12_levelOrWork_24 ?_
    refine j_iconst C (v := 3) dX12_levelOrWork_27 rfl ?_
    obtain ⟨h8, hm⟩ := gd_some hm
    refine j_iald C ((dr_spec h7).2) h8 dX12_levelOrWork_28 ?_
    refine j_sub [0] rfl ?_
    exact tj_X12_levelOrWork_29 C _ _ _ _ hv0 hm
  · replace hm := if_f hm h5
    refine j_aload_n C 0 dX12_levelOrWork_15 rfl ?_
    refine j_iconst C (v := 1) dX12_levelOrWork_16 rfl ?_
    obtain ⟨r9, h10, hm⟩ := bd_some hm
    refine call_I (run_LV C lk_X12_357 ⟨rfl, rfl, Nat.le_of_ble_eq_true rfl, Nat.le_of_ble_eq_true rfl⟩ (As := [.int 1]) hv0 rfl rfl (Nat.le_of_ble_eq_true rfl) dX12_levelOrWork_17 (mc_X12_workOf _ _ _ _ _ _ hv0 h10)) ?_
    refine j_goto C (tgt := 29) dX12_levelOrWork_20 (by decide) ?_
    refine j_sub [0] rfl ?_
    exact tj_X12_levelOrWork_29 C _ _ _ _ hv0 hm
set_option maxRecDepth 20000 in
set_option maxHeartbeats 4000000 in
theorem mc_X12_levelOrWork (l : Launch) (N : Nat) (Λ : Lay) (μ : Mem) (v0 : Nat) (v1 : Int32) (v2 : Int32) (v3 : Int32) (hv0 : inL Λ v0 11) {r : Int32 × Mem} (hm : m_X12_levelOrWork N Λ μ v0 v1 v2 v3 = some r) : MI l yX12_levelOrWork cX12_levelOrWork 5 (some .int) rm_X12_levelOrWork Λ [.ref v0, .int v1, .int v2, .int v3] μ r.1 r.2 := mi_of rfl (Nat.le_of_ble_eq_true rfl) (fun x C _ => tm_X12_levelOrWork C _ _ _ _ _ _ hv0 hm)
abbrev rm_X12_ahead : Room := { frames := 10, cells := 0, slots := 0, locals := 230 }
set_option maxRecDepth 20000 in
set_option maxHeartbeats 4000000 in
theorem tj_X12_ahead_28 {x : Ctx} {Λ : Lay} (C : Cx x cX12_ahead 3 (some .int) RX12 Λ rm_X12_ahead) (N : Nat) (μ : Mem) (s0 : Int32) {r : Int32 × Mem} (hm : jn_X12_ahead_28 N Λ μ s0 = some r) : J x 3 Λ (QI x Λ r.1 r.2) 28 [] [.int s0] μ := by
  obtain rfl := Option.some.inj hm
  exact j_ireti C dX12_ahead_28
set_option maxRecDepth 20000 in
set_option maxHeartbeats 4000000 in
theorem tm_X12_ahead {x : Ctx} {Λ : Lay} (C : Cx x cX12_ahead 3 (some .int) RX12 Λ rm_X12_ahead) (N : Nat) (μ : Mem) (v0 : Nat) (v1 : Int32) (v2 : Int32) (hv0 : inL Λ v0 11) {r : Int32 × Mem} (hm : m_X12_ahead N Λ μ v0 v1 v2 = some r) : J x 3 Λ (QI x Λ r.1 r.2) 0 [(0, .ref v0), (1, .int v1), (2, .int v2)] [] μ := by
  refine j_aload_n C 0 dX12_ahead_0 rfl ?_
  refine j_iconst C (v := 0) dX12_ahead_1 rfl ?_
  obtain ⟨μ1, e2, hm⟩ := lt_some hm
  refine j_putI C fp_X12_3_11 hv0 e2 dX12_ahead_2 ?_
  refine j_aload_n C 0 dX12_ahead_5 rfl ?_
  refine j_iload_n C 1 dX12_ahead_6 rfl ?_
  obtain ⟨r3, h4, hm⟩ := bd_some hm
  refine call_I (run_LS C ls_X12_505 ⟨rfl, rfl, Nat.le_of_ble_eq_true rfl, Nat.le_of_ble_eq_true rfl⟩ (As := [.int v1]) rfl rfl (Nat.le_of_ble_eq_true rfl) dX12_ahead_7 (mc_X12_noHours _ _ _ _ _  h4)) ?_
  refine j_iconst C (v := 1) dX12_ahead_10 rfl ?_
  obtain ⟨r5, h6, hm⟩ := bd_some hm
  refine call_I (run_LV C lk_X12_282 ⟨rfl, rfl, Nat.le_of_ble_eq_true rfl, Nat.le_of_ble_eq_true rfl⟩ (As := [.int r3, .int 1]) hv0 rfl rfl (Nat.le_of_ble_eq_true rfl) dX12_ahead_11 (mc_X12_throwsIf _ _ _ _ _ _ _ hv0 h6)) ?_
  refine j_if_eq C (tgt := 21) dX12_ahead_14 (by decide) (fun h7 => ?_) (fun h7 => ?_)
  · replace hm := if_t hm h7
    refine j_aload_n C 0 dX12_ahead_21 rfl ?_
    refine j_iload_n C 1 dX12_ahead_22 rfl ?_
    refine j_iload_n C 2 dX12_ahead_23 rfl ?_
    refine j_iconst C (v := 1) dX12_ahead_24 rfl ?_
    obtain ⟨r8, h9, hm⟩ := bd_some hm
    refine call_I (run_LV C lk_X12_508 ⟨rfl, rfl, Nat.le_of_ble_eq_true rfl, Nat.le_of_ble_eq_true rfl⟩ (As := [.int v1, .int v2, .int 1]) hv0 rfl rfl (Nat.le_of_ble_eq_true rfl) dX12_ahead_25 (mc_X12_levelOrWork _ _ _ _ _ _ _ _ hv0 h9)) ?_
    refine j_sub [] rfl ?_
    exact tj_X12_ahead_28 C _ _ _  hm
  · replace hm := if_f hm h7
    refine j_iconst C (v := 0) dX12_ahead_17 rfl ?_
    refine j_goto C (tgt := 28) dX12_ahead_18 (by decide) ?_
    refine j_sub [] rfl ?_
    exact tj_X12_ahead_28 C _ _ _  hm
set_option maxRecDepth 20000 in
set_option maxHeartbeats 4000000 in
theorem mc_X12_ahead (l : Launch) (N : Nat) (Λ : Lay) (μ : Mem) (v0 : Nat) (v1 : Int32) (v2 : Int32) (hv0 : inL Λ v0 11) {r : Int32 × Mem} (hm : m_X12_ahead N Λ μ v0 v1 v2 = some r) : MI l yX12_ahead cX12_ahead 3 (some .int) rm_X12_ahead Λ [.ref v0, .int v1, .int v2] μ r.1 r.2 := mi_of rfl (Nat.le_of_ble_eq_true rfl) (fun x C _ => tm_X12_ahead C _ _ _ _ _ hv0 hm)
abbrev rm_X12_trial : Room := { frames := 10, cells := 0, slots := 0, locals := 230 }
set_option maxRecDepth 20000 in
set_option maxHeartbeats 4000000 in
theorem tj_X12_trial_28 {x : Ctx} {Λ : Lay} (C : Cx x cX12_trial 3 (some .int) RX12 Λ rm_X12_trial) (N : Nat) (μ : Mem) (s0 : Int32) {r : Int32 × Mem} (hm : jn_X12_trial_28 N Λ μ s0 = some r) : J x 3 Λ (QI x Λ r.1 r.2) 28 [] [.int s0] μ := by
  obtain rfl := Option.some.inj hm
  exact j_ireti C dX12_trial_28
set_option maxRecDepth 20000 in
set_option maxHeartbeats 4000000 in
theorem tm_X12_trial {x : Ctx} {Λ : Lay} (C : Cx x cX12_trial 3 (some .int) RX12 Λ rm_X12_trial) (N : Nat) (μ : Mem) (v0 : Nat) (v1 : Int32) (v2 : Int32) (hv0 : inL Λ v0 11) {r : Int32 × Mem} (hm : m_X12_trial N Λ μ v0 v1 v2 = some r) : J x 3 Λ (QI x Λ r.1 r.2) 0 [(0, .ref v0), (1, .int v1), (2, .int v2)] [] μ := by
  refine j_aload_n C 0 dX12_trial_0 rfl ?_
  refine j_iconst C (v := 0) dX12_trial_1 rfl ?_
  obtain ⟨μ1, e2, hm⟩ := lt_some hm
  refine j_putI C fp_X12_3_11 hv0 e2 dX12_trial_2 ?_
  refine j_aload_n C 0 dX12_trial_5 rfl ?_
  refine j_iload_n C 1 dX12_trial_6 rfl ?_
  obtain ⟨r3, h4, hm⟩ := bd_some hm
  refine call_I (run_LS C ls_X12_505 ⟨rfl, rfl, Nat.le_of_ble_eq_true rfl, Nat.le_of_ble_eq_true rfl⟩ (As := [.int v1]) rfl rfl (Nat.le_of_ble_eq_true rfl) dX12_trial_7 (mc_X12_noHours _ _ _ _ _  h4)) ?_
  refine j_iconst C (v := 1) dX12_trial_10 rfl ?_
  obtain ⟨r5, h6, hm⟩ := bd_some hm
  refine call_I (run_LV C lk_X12_282 ⟨rfl, rfl, Nat.le_of_ble_eq_true rfl, Nat.le_of_ble_eq_true rfl⟩ (As := [.int r3, .int 1]) hv0 rfl rfl (Nat.le_of_ble_eq_true rfl) dX12_trial_11 (mc_X12_throwsIf _ _ _ _ _ _ _ hv0 h6)) ?_
  refine j_if_eq C (tgt := 21) dX12_trial_14 (by decide) (fun h7 => ?_) (fun h7 => ?_)
  · replace hm := if_t hm h7
    refine j_aload_n C 0 dX12_trial_21 rfl ?_
    refine j_iload_n C 1 dX12_trial_22 rfl ?_
    refine j_iload_n C 2 dX12_trial_23 rfl ?_
    refine j_iconst C (v := 0) dX12_trial_24 rfl ?_
    obtain ⟨r8, h9, hm⟩ := bd_some hm
    refine call_I (run_LV C lk_X12_508 ⟨rfl, rfl, Nat.le_of_ble_eq_true rfl, Nat.le_of_ble_eq_true rfl⟩ (As := [.int v1, .int v2, .int 0]) hv0 rfl rfl (Nat.le_of_ble_eq_true rfl) dX12_trial_25 (mc_X12_levelOrWork _ _ _ _ _ _ _ _ hv0 h9)) ?_
    refine j_sub [] rfl ?_
    exact tj_X12_trial_28 C _ _ _  hm
  · replace hm := if_f hm h7
    refine j_iconst C (v := 0) dX12_trial_17 rfl ?_
    refine j_goto C (tgt := 28) dX12_trial_18 (by decide) ?_
    refine j_sub [] rfl ?_
    exact tj_X12_trial_28 C _ _ _  hm
set_option maxRecDepth 20000 in
set_option maxHeartbeats 4000000 in
theorem mc_X12_trial (l : Launch) (N : Nat) (Λ : Lay) (μ : Mem) (v0 : Nat) (v1 : Int32) (v2 : Int32) (hv0 : inL Λ v0 11) {r : Int32 × Mem} (hm : m_X12_trial N Λ μ v0 v1 v2 = some r) : MI l yX12_trial cX12_trial 3 (some .int) rm_X12_trial Λ [.ref v0, .int v1, .int v2] μ r.1 r.2 := mi_of rfl (Nat.le_of_ble_eq_true rfl) (fun x C _ => tm_X12_trial C _ _ _ _ _ hv0 hm)
abbrev rm_X12_span : Room := { frames := 9, cells := 0, slots := 0, locals := 206 }
set_option maxRecDepth 20000 in
set_option maxHeartbeats 4000000 in
theorem tj_X12_span_91 {x : Ctx} {Λ : Lay} (C : Cx x cX12_span 6 (some .int) RX12 Λ rm_X12_span) (N : Nat) (μ : Mem) (k28 : Int32 × Int32 × Mem → Option (Int32 × Mem)) (v0 : Nat) (v1 : Int32) (v2 : Int32) (v4 : Int32) (s0 : Int32) (hk28 : ∀ (s : Int32 × Int32 × Mem) (r : Int32 × Mem), k28 s = some r → J x 6 Λ (QI x Λ r.1 r.2) 28 [(0, .ref v0), (1, .int v1), (2, .int v2), (3, .int s.1), (4, .int s.2.1)] [] (s.2.2)) (hv0 : inL Λ v0 11) {r : Int32 × Mem} (hm : jn_X12_span_91 N Λ μ k28 v0 v1 v2 v4 s0 = some r) : J x 6 Λ (QI x Λ r.1 r.2) 91 [(0, .ref v0), (1, .int v1), (2, .int v2), (4, .int v4)] [.int s0] μ := by
  refine j_istore_n C (lv' := [(3, .int s0), (0, .ref v0), (1, .int v1), (2, .int v2), (4, .int v4)]) dX12_span_91 (by decide) rfl ?_
  obtain ⟨y1, e2, hm⟩ := lt_some hm
  refine j_iinc C 4 (v := y1) (lv' := [(4, .int y1), (3, .int s0), (0, .ref v0), (1, .int v1), (2, .int v2)]) dX12_span_92 rfl (by rw [e2]; rfl) (by decide) rfl ?_
  refine j_goto C (tgt := 28) dX12_span_95 (by decide) ?_
  refine j_sub [2, 3, 4, 1, 0] rfl ?_
  exact hk28 (s0, y1, μ) _ hm
set_option maxRecDepth 20000 in
set_option maxHeartbeats 4000000 in
theorem tb_X12_span_28 {x : Ctx} {Λ : Lay} (C : Cx x cX12_span 6 (some .int) RX12 Λ rm_X12_span) (N : Nat) (μ : Mem) (k28 : Int32 × Int32 × Mem → Option (Int32 × Mem)) (v0 : Nat) (v1 : Int32) (v2 : Int32) (v3 : Int32) (v4 : Int32) (hk28 : ∀ (s : Int32 × Int32 × Mem) (r : Int32 × Mem), k28 s = some r → J x 6 Λ (QI x Λ r.1 r.2) 28 [(0, .ref v0), (1, .int v1), (2, .int v2), (3, .int s.1), (4, .int s.2.1)] [] (s.2.2)) (hv0 : inL Λ v0 11) {r : Int32 × Mem} (hm : bd_X12_span_28 N Λ μ k28 v0 v1 v2 v3 v4 = some r) : J x 6 Λ (QI x Λ r.1 r.2) 28 [(0, .ref v0), (1, .int v1), (2, .int v2), (3, .int v3), (4, .int v4)] [] μ := by
  refine j_iload C 4 dX12_span_28 rfl ?_
  refine j_bipush C (v := 6) dX12_span_30 rfl ?_
  refine j_icmp_gt C (tgt := 98) dX12_span_32 (by decide) (fun h1 => ?_) (fun h1 => ?_)
  · replace hm := if_t hm h1
    refine j_iload_n C 3 dX12_span_98 rfl ?_
    obtain rfl := Option.some.inj hm
    exact j_ireti C dX12_span_99
  · replace hm := if_f hm h1
    refine j_aload_n C 0 dX12_span_35 rfl ?_
    obtain ⟨q2, h3, hm⟩ := bd_some hm
    refine j_getR C fg_X12_13_11 hv0 (dr_spec h3).1 dX12_span_36 ?_
    refine j_bipush C (v := 12) dX12_span_39 rfl ?_
    refine j_iload C 4 dX12_span_41 rfl ?_
    obtain ⟨h4, hm⟩ := gd_some hm
    obtain ⟨μ5, e6, hm⟩ := lt_some hm
    refine j_iast C ((dr_spec h3).2) h4 e6 dX12_span_43 ?_
    refine j_aload_n C 0 dX12_span_44 rfl ?_
    refine j_iload_n C 1 dX12_span_45 rfl ?_
    refine j_iconst C (v := 0) dX12_span_46 rfl ?_
    obtain ⟨r7, h8, hm⟩ := bd_some hm
    refine call_I (run_LV C lk_X12_366 ⟨rfl, rfl, Nat.le_of_ble_eq_true rfl, Nat.le_of_ble_eq_true rfl⟩ (As := [.int v1, .int 0]) hv0 rfl rfl (Nat.le_of_ble_eq_true rfl) dX12_span_47 (mc_X12_goesOn _ _ _ _ _ _ _ hv0 h8)) ?_
    refine j_pop C dX12_span_50 rfl ?_
    refine j_aload_n C 0 dX12_span_51 rfl ?_
    obtain ⟨q9, h10, hm⟩ := bd_some hm
    refine j_getR C fg_X12_13_11 hv0 (dr_spec h10).1 dX12_span_52 ?_
    refine j_iconst C (v := 3) dX12_span_55 rfl ?_
    obtain ⟨h11, hm⟩ := gd_some hm
    refine j_iald C ((dr_spec h10).2) h11 dX12_span_56 ?_
    obtain ⟨y12, e13, hm⟩ := lt_some hm
    refine j_topi e13 ?_
    refine j_istore C (lv' := [(5, .int y12), (0, .ref v0), (1, .int v1), (2, .int v2), (3, .int v3), (4, .int v4)]) dX12_span_57 (by decide) rfl ?_
    refine j_aload_n C 1 dX12_span_59 rfl ?_
    obtain ⟨r14, h15, hm⟩ := bd_some hm
    refine call_V (run_LV C lk_X12_417 ⟨rfl, rfl, Nat.le_of_ble_eq_true rfl, Nat.le_of_ble_eq_true rfl⟩ (As := []) hv0 rfl rfl (Nat.le_of_ble_eq_true rfl) dX12_span_60 (mc_X12_bringsBack _ _ _ _ _ hv0 h15)) ?_
    refine j_iload_n C 4 dX12_span_63 rfl ?_
    refine j_if_ge C (tgt := 72) dX12_span_64 (by decide) (fun h16 => ?_) (fun h16 => ?_)
    · replace hm := if_t hm h16
      refine j_iload_n C 3 dX12_span_72 rfl ?_
      refine j_if_eq C (tgt := 85) dX12_span_73 (by decide) (fun h17 => ?_) (fun h17 => ?_)
      · replace hm := if_t hm h17
        refine j_iload_n C 4 dX12_span_85 rfl ?_
        refine j_iload C 0 dX12_span_86 rfl ?_
        refine j_mmin C wk_1928 ⟨Nat.le_of_ble_eq_true rfl, Nat.le_of_ble_eq_true rfl⟩ dX12_span_88 ?_
        refine j_sub [1, 2, 3, 5] rfl ?_
        exact tj_X12_span_91 C _ _ _ _ _ _ _ _ hk28 hv0 hm
      · replace hm := if_f hm h17
        refine j_iload_n C 4 dX12_span_76 rfl ?_
        refine j_iload C 0 dX12_span_77 rfl ?_
        refine j_mmax C wk_1942 ⟨Nat.le_of_ble_eq_true rfl, Nat.le_of_ble_eq_true rfl⟩ dX12_span_79 ?_
        refine j_goto C (tgt := 91) dX12_span_82 (by decide) ?_
        refine j_sub [1, 2, 3, 5] rfl ?_
        exact tj_X12_span_91 C _ _ _ _ _ _ _ _ hk28 hv0 hm
    · replace hm := if_f hm h16
      refine j_iload C 0 dX12_span_67 rfl ?_
      refine j_goto C (tgt := 91) dX12_span_69 (by decide) ?_
      refine j_sub [1, 2, 3, 5] rfl ?_
      exact tj_X12_span_91 C _ _ _ _ _ _ _ _ hk28 hv0 hm
set_option maxRecDepth 20000 in
set_option maxHeartbeats 4000000 in
theorem tl_X12_span_28 {x : Ctx} {Λ : Lay} (C : Cx x cX12_span 6 (some .int) RX12 Λ rm_X12_span) (N : Nat) (v0 : Nat) (v1 : Int32) (v2 : Int32) (hv0 : inL Λ v0 11) (s : Int32 × Int32 × Mem) {r : Int32 × Mem} (hm : lp_X12_span_28 N Λ v0 v1 v2 s = some r) : J x 6 Λ (QI x Λ r.1 r.2) 28 [(0, .ref v0), (1, .int v1), (2, .int v2), (3, .int s.1), (4, .int s.2.1)] [] (s.2.2) :=
  cw_ind (P := fun s r => J x 6 Λ (QI x Λ r.1 r.2) 28 [(0, .ref v0), (1, .int v1), (2, .int v2), (3, .int s.1), (4, .int s.2.1)] [] (s.2.2)) (fun k hkk s r e => tb_X12_span_28 C _ _ _ _ _ _ _ _ hkk hv0 e) N s r hm
set_option maxRecDepth 20000 in
set_option maxHeartbeats 4000000 in
theorem tm_X12_span {x : Ctx} {Λ : Lay} (C : Cx x cX12_span 6 (some .int) RX12 Λ rm_X12_span) (N : Nat) (μ : Mem) (v0 : Nat) (v1 : Int32) (v2 : Int32) (hv0 : inL Λ v0 11) {r : Int32 × Mem} (hm : m_X12_span N Λ μ v0 v1 v2 = some r) : J x 6 Λ (QI x Λ r.1 r.2) 0 [(0, .ref v0), (1, .int v1), (2, .int v2)] [] μ := by
  refine j_aload_n C 0 dX12_span_0 rfl ?_
  refine j_iconst C (v := 0) dX12_span_1 rfl ?_
  obtain ⟨μ1, e2, hm⟩ := lt_some hm
  refine j_putI C fp_X12_3_11 hv0 e2 dX12_span_2 ?_
  refine j_aload_n C 0 dX12_span_5 rfl ?_
  refine j_iload_n C 1 dX12_span_6 rfl ?_
  obtain ⟨r3, h4, hm⟩ := bd_some hm
  refine call_I (run_LS C ls_X12_505 ⟨rfl, rfl, Nat.le_of_ble_eq_true rfl, Nat.le_of_ble_eq_true rfl⟩ (As := [.int v1]) rfl rfl (Nat.le_of_ble_eq_true rfl) dX12_span_7 (mc_X12_noHours _ _ _ _ _  h4)) ?_
  refine j_iconst C (v := 1) dX12_span_10 rfl ?_
  obtain ⟨r5, h6, hm⟩ := bd_some hm
  refine call_I (run_LV C lk_X12_282 ⟨rfl, rfl, Nat.le_of_ble_eq_true rfl, Nat.le_of_ble_eq_true rfl⟩ (As := [.int r3, .int 1]) hv0 rfl rfl (Nat.le_of_ble_eq_true rfl) dX12_span_11 (mc_X12_throwsIf _ _ _ _ _ _ _ hv0 h6)) ?_
  refine j_if_eq C (tgt := 19) dX12_span_14 (by decide) (fun h7 => ?_) (fun h7 => ?_)
  · replace hm := if_t hm h7
    refine j_aload_n C 0 dX12_span_19 rfl ?_
    obtain ⟨r8, h9, hm⟩ := bd_some hm
    refine call_V (run_LV C lk_X12_411 ⟨rfl, rfl, Nat.le_of_ble_eq_true rfl, Nat.le_of_ble_eq_true rfl⟩ (As := []) hv0 rfl rfl (Nat.le_of_ble_eq_true rfl) dX12_span_20 (mc_X12_keepsAll _ _ _ _ _ hv0 h9)) ?_
    refine j_iconst C (v := -1) dX12_span_23 rfl ?_
    refine j_istore_n C (lv' := [(3, .int (-1)), (0, .ref v0), (1, .int v1), (2, .int v2)]) dX12_span_24 (by decide) rfl ?_
    refine j_iconst C (v := 1) dX12_span_25 rfl ?_
    refine j_istore C (lv' := [(4, .int 1), (3, .int (-1)), (0, .ref v0), (1, .int v1), (2, .int v2)]) dX12_span_26 (by decide) rfl ?_
    refine j_sub [2, 3, 4, 1, 0] rfl ?_
    exact tl_X12_span_28 C _ _ _ _ hv0 ((-1), 1, r8) hm
  · replace hm := if_f hm h7
    refine j_iconst C (v := 0) dX12_span_17 rfl ?_
    obtain rfl := Option.some.inj hm
    exact j_ireti C dX12_span_18
set_option maxRecDepth 20000 in
set_option maxHeartbeats 4000000 in
theorem mc_X12_span (l : Launch) (N : Nat) (Λ : Lay) (μ : Mem) (v0 : Nat) (v1 : Int32) (v2 : Int32) (hv0 : inL Λ v0 11) {r : Int32 × Mem} (hm : m_X12_span N Λ μ v0 v1 v2 = some r) : MI l yX12_span cX12_span 6 (some .int) rm_X12_span Λ [.ref v0, .int v1, .int v2] μ r.1 r.2 := mi_of rfl (Nat.le_of_ble_eq_true rfl) (fun x C _ => tm_X12_span C _ _ _ _ _ hv0 hm)
abbrev rm_X12_ofLog : Room := { frames := 0, cells := 0, slots := 0, locals := 0 }
set_option maxRecDepth 20000 in
set_option maxHeartbeats 4000000 in
theorem tm_X12_ofLog {x : Ctx} {Λ : Lay} (C : Cx x cX12_ofLog 3 (some .int) RX12 Λ rm_X12_ofLog) (N : Nat) (μ : Mem) (v0 : Nat) (v1 : Int32) (v2 : Int32) (hv0 : inL Λ v0 11) {r : Int32} (hm : m_X12_ofLog N Λ μ v0 v1 v2 = some r) : J x 3 Λ (QI x Λ r μ) 0 [(0, .ref v0), (1, .int v1), (2, .int v2)] [] μ := by
  refine j_aload_n C 0 dX12_ofLog_0 rfl ?_
  obtain ⟨q1, h2, hm⟩ := bd_some hm
  refine j_getR C fg_X12_13_11 hv0 (dr_spec h2).1 dX12_ofLog_1 ?_
  refine j_bipush C (v := 73) dX12_ofLog_4 rfl ?_
  refine j_iconst C (v := 5) dX12_ofLog_6 rfl ?_
  refine j_iload_n C 1 dX12_ofLog_7 rfl ?_
  refine j_imul C dX12_ofLog_8 ?_
  refine j_iadd C dX12_ofLog_9 ?_
  refine j_iload_n C 2 dX12_ofLog_10 rfl ?_
  refine j_iadd C dX12_ofLog_11 ?_
  obtain ⟨h3, hm⟩ := gd_some hm
  refine j_iald C ((dr_spec h2).2) h3 dX12_ofLog_12 ?_
  obtain rfl := Option.some.inj hm
  exact j_ireti C dX12_ofLog_13
set_option maxRecDepth 20000 in
set_option maxHeartbeats 4000000 in
theorem mc_X12_ofLog (l : Launch) (N : Nat) (Λ : Lay) (μ : Mem) (v0 : Nat) (v1 : Int32) (v2 : Int32) (hv0 : inL Λ v0 11) {r : Int32} (hm : m_X12_ofLog N Λ μ v0 v1 v2 = some r) : MI l yX12_ofLog cX12_ofLog 3 (some .int) rm_X12_ofLog Λ [.ref v0, .int v1, .int v2] μ r μ := mi_of rfl (Nat.le_of_ble_eq_true rfl) (fun x C _ => tm_X12_ofLog C _ _ _ _ _ hv0 hm)
abbrev rm_X12_led : Room := { frames := 2, cells := 0, slots := 0, locals := 43 }
set_option maxRecDepth 20000 in
set_option maxHeartbeats 4000000 in
theorem tj_X12_led_67 {x : Ctx} {Λ : Lay} (C : Cx x cX12_led 6 (some .int) RX12 Λ rm_X12_led) (N : Nat) (μ : Mem) (k36 : Int32 × Int32 × Int32 × Mem → Option (Int32 × Mem)) (v0 : Nat) (v1 : Int32) (v2 : Int32) (v3 : Int32) (v4 : Int32) (v5 : Int32) (hk36 : ∀ (s : Int32 × Int32 × Int32 × Mem) (r : Int32 × Mem), k36 s = some r → J x 6 Λ (QI x Λ r.1 r.2) 36 [(0, .ref v0), (1, .int v1), (2, .int v2), (3, .int s.1), (4, .int s.2.1), (5, .int s.2.2.1)] [] (s.2.2.2)) (hv0 : inL Λ v0 11) {r : Int32 × Mem} (hm : jn_X12_led_67 N Λ μ k36 v0 v1 v2 v3 v4 v5 = some r) : J x 6 Λ (QI x Λ r.1 r.2) 67 [(0, .ref v0), (1, .int v1), (2, .int v2), (3, .int v3), (4, .int v4), (5, .int v5)] [] μ := by
  obtain ⟨y1, e2, hm⟩ := lt_some hm
  refine j_iinc C 5 (v := y1) (lv' := [(5, .int y1), (0, .ref v0), (1, .int v1), (2, .int v2), (3, .int v3), (4, .int v4)]) dX12_led_67 rfl (by rw [e2]; rfl) (by decide) rfl ?_
  refine j_goto C (tgt := 36) dX12_led_70 (by decide) ?_
  refine j_sub [1, 2, 3, 4, 5, 0] rfl ?_
  exact hk36 (v3, v4, y1, μ) _ hm
set_option maxRecDepth 20000 in
set_option maxHeartbeats 4000000 in
theorem tj_X12_led_83 {x : Ctx} {Λ : Lay} (C : Cx x cX12_led 6 (some .int) RX12 Λ rm_X12_led) (N : Nat) (μ : Mem) (s0 : Int32) {r : Int32 × Mem} (hm : jn_X12_led_83 N Λ μ s0 = some r) : J x 6 Λ (QI x Λ r.1 r.2) 83 [] [.int s0] μ := by
  obtain rfl := Option.some.inj hm
  exact j_ireti C dX12_led_83
set_option maxRecDepth 20000 in
set_option maxHeartbeats 4000000 in
theorem tb_X12_led_36 {x : Ctx} {Λ : Lay} (C : Cx x cX12_led 6 (some .int) RX12 Λ rm_X12_led) (N : Nat) (μ : Mem) (k36 : Int32 × Int32 × Int32 × Mem → Option (Int32 × Mem)) (v0 : Nat) (v1 : Int32) (v2 : Int32) (v3 : Int32) (v4 : Int32) (v5 : Int32) (hk36 : ∀ (s : Int32 × Int32 × Int32 × Mem) (r : Int32 × Mem), k36 s = some r → J x 6 Λ (QI x Λ r.1 r.2) 36 [(0, .ref v0), (1, .int v1), (2, .int v2), (3, .int s.1), (4, .int s.2.1), (5, .int s.2.2.1)] [] (s.2.2.2)) (hv0 : inL Λ v0 11) {r : Int32 × Mem} (hm : bd_X12_led_36 N Λ μ k36 v0 v1 v2 v3 v4 v5 = some r) : J x 6 Λ (QI x Λ r.1 r.2) 36 [(0, .ref v0), (1, .int v1), (2, .int v2), (3, .int v3), (4, .int v4), (5, .int v5)] [] μ := by
  refine j_iload C 5 dX12_led_36 rfl ?_
  refine j_if_lt C (tgt := 73) dX12_led_38 (by decide) (fun h1 => ?_) (fun h1 => ?_)
  · replace hm := if_t hm h1
    refine j_iload_n C 2 dX12_led_73 rfl ?_
    refine j_if_eq C (tgt := 82) dX12_led_74 (by decide) (fun h2 => ?_) (fun h2 => ?_)
    · replace hm := if_t hm h2
      refine j_iload_n C 3 dX12_led_82 rfl ?_
      refine j_sub [] rfl ?_
      exact tj_X12_led_83 C _ _ _  hm
    · replace hm := if_f hm h2
      refine j_iload C 4 dX12_led_77 rfl ?_
      refine j_goto C (tgt := 83) dX12_led_79 (by decide) ?_
      refine j_sub [] rfl ?_
      exact tj_X12_led_83 C _ _ _  hm
  · replace hm := if_f hm h1
    refine j_aload_n C 0 dX12_led_41 rfl ?_
    refine j_iload C 5 dX12_led_42 rfl ?_
    refine j_iconst C (v := 1) dX12_led_44 rfl ?_
    obtain ⟨r3, h4, hm⟩ := bd_some hm
    refine call_I (run_LV C lk_X12_512 ⟨rfl, rfl, Nat.le_of_ble_eq_true rfl, Nat.le_of_ble_eq_true rfl⟩ (As := [.int v5, .int 1]) hv0 rfl rfl (Nat.le_of_ble_eq_true rfl) dX12_led_45 (mc_X12_ofLog _ _ _ _ _ _ _ hv0 h4)) ?_
    refine j_iload_n C 1 dX12_led_48 rfl ?_
    refine j_icmp_eq C (tgt := 55) dX12_led_49 (by decide) (fun h5 => ?_) (fun h5 => ?_)
    · replace hm := if_t hm h5
      obtain ⟨y6, e7, hm⟩ := lt_some hm
      refine j_iinc C 3 (v := y6) (lv' := [(3, .int y6), (0, .ref v0), (1, .int v1), (2, .int v2), (4, .int v4), (5, .int v5)]) dX12_led_55 rfl (by rw [e7]; rfl) (by decide) rfl ?_
      refine j_aload_n C 1 dX12_led_58 rfl ?_
      refine j_iload C 5 dX12_led_59 rfl ?_
      refine j_iconst C (v := 0) dX12_led_61 rfl ?_
      obtain ⟨r8, h9, hm⟩ := bd_some hm
      refine call_I (run_LV C lk_X12_512 ⟨rfl, rfl, Nat.le_of_ble_eq_true rfl, Nat.le_of_ble_eq_true rfl⟩ (As := [.int v5, .int 0]) hv0 rfl rfl (Nat.le_of_ble_eq_true rfl) dX12_led_62 (mc_X12_ofLog _ _ _ _ _ _ _ hv0 h9)) ?_
      refine j_istore C (lv' := [(4, .int r8), (3, .int y6), (0, .ref v0), (1, .int v1), (2, .int v2), (5, .int v5)]) dX12_led_65 (by decide) rfl ?_
      refine j_sub [2, 3, 4, 1, 0, 5] rfl ?_
      exact tj_X12_led_67 C _ _ _ _ _ _ _ _ _ hk36 hv0 hm
    · replace hm := if_f hm h5
      refine j_goto C (tgt := 67) dX12_led_52 (by decide) ?_
      exact tj_X12_led_67 C _ _ _ _ _ _ _ _ _ hk36 hv0 hm
set_option maxRecDepth 20000 in
set_option maxHeartbeats 4000000 in
theorem tl_X12_led_36 {x : Ctx} {Λ : Lay} (C : Cx x cX12_led 6 (some .int) RX12 Λ rm_X12_led) (N : Nat) (v0 : Nat) (v1 : Int32) (v2 : Int32) (hv0 : inL Λ v0 11) (s : Int32 × Int32 × Int32 × Mem) {r : Int32 × Mem} (hm : lp_X12_led_36 N Λ v0 v1 v2 s = some r) : J x 6 Λ (QI x Λ r.1 r.2) 36 [(0, .ref v0), (1, .int v1), (2, .int v2), (3, .int s.1), (4, .int s.2.1), (5, .int s.2.2.1)] [] (s.2.2.2) :=
  cw_ind (P := fun s r => J x 6 Λ (QI x Λ r.1 r.2) 36 [(0, .ref v0), (1, .int v1), (2, .int v2), (3, .int s.1), (4, .int s.2.1), (5, .int s.2.2.1)] [] (s.2.2.2)) (fun k hkk s r e => tb_X12_led_36 C _ _ _ _ _ _ _ _ _ hkk hv0 e) N s r hm
set_option maxRecDepth 20000 in
set_option maxHeartbeats 4000000 in
theorem tm_X12_led {x : Ctx} {Λ : Lay} (C : Cx x cX12_led 6 (some .int) RX12 Λ rm_X12_led) (N : Nat) (μ : Mem) (v0 : Nat) (v1 : Int32) (v2 : Int32) (hv0 : inL Λ v0 11) {r : Int32 × Mem} (hm : m_X12_led N Λ μ v0 v1 v2 = some r) : J x 6 Λ (QI x Λ r.1 r.2) 0 [(0, .ref v0), (1, .int v1), (2, .int v2)] [] μ := by
  refine j_aload_n C 0 dX12_led_0 rfl ?_
  refine j_iconst C (v := 0) dX12_led_1 rfl ?_
  obtain ⟨μ1, e2, hm⟩ := lt_some hm
  refine j_putI C fp_X12_3_11 hv0 e2 dX12_led_2 ?_
  refine j_aload_n C 0 dX12_led_5 rfl ?_
  refine j_aload_n C 0 dX12_led_6 rfl ?_
  refine j_iload_n C 1 dX12_led_7 rfl ?_
  obtain ⟨r3, h4, hm⟩ := bd_some hm
  refine call_I (run_LV C lk_X12_345 ⟨rfl, rfl, Nat.le_of_ble_eq_true rfl, Nat.le_of_ble_eq_true rfl⟩ (As := [.int v1]) hv0 rfl rfl (Nat.le_of_ble_eq_true rfl) dX12_led_8 (mc_X12_noShip _ _ _ _ _ _ hv0 h4)) ?_
  refine j_iconst C (v := 1) dX12_led_11 rfl ?_
  obtain ⟨r5, h6, hm⟩ := bd_some hm
  refine call_I (run_LV C lk_X12_282 ⟨rfl, rfl, Nat.le_of_ble_eq_true rfl, Nat.le_of_ble_eq_true rfl⟩ (As := [.int r3, .int 1]) hv0 rfl rfl (Nat.le_of_ble_eq_true rfl) dX12_led_12 (mc_X12_throwsIf _ _ _ _ _ _ _ hv0 h6)) ?_
  refine j_if_eq C (tgt := 20) dX12_led_15 (by decide) (fun h7 => ?_) (fun h7 => ?_)
  · replace hm := if_t hm h7
    refine j_iconst C (v := 0) dX12_led_20 rfl ?_
    refine j_istore_n C (lv' := [(3, .int 0), (0, .ref v0), (1, .int v1), (2, .int v2)]) dX12_led_21 (by decide) rfl ?_
    refine j_iconst C (v := -1) dX12_led_22 rfl ?_
    refine j_istore C (lv' := [(4, .int (-1)), (3, .int 0), (0, .ref v0), (1, .int v1), (2, .int v2)]) dX12_led_23 (by decide) rfl ?_
    refine j_aload_n C 2 dX12_led_25 rfl ?_
    obtain ⟨q8, h9, hm⟩ := bd_some hm
    refine j_getR C fg_X12_13_11 hv0 (dr_spec h9).1 dX12_led_26 ?_
    refine j_bipush C (v := 11) dX12_led_29 rfl ?_
    obtain ⟨h10, hm⟩ := gd_some hm
    refine j_iald C ((dr_spec h9).2) h10 dX12_led_31 ?_
    refine j_iconst C (v := 1) dX12_led_32 rfl ?_
    refine j_isub C dX12_led_33 ?_
    obtain ⟨y11, e12, hm⟩ := lt_some hm
    refine j_topi e12 ?_
    refine j_istore C (lv' := [(5, .int y11), (4, .int (-1)), (3, .int 0), (0, .ref v0), (1, .int v1), (2, .int v2)]) dX12_led_34 (by decide) rfl ?_
    refine j_sub [3, 4, 5, 2, 1, 0] rfl ?_
    exact tl_X12_led_36 C _ _ _ _ hv0 (0, (-1), y11, r5.2) hm
  · replace hm := if_f hm h7
    refine j_iconst C (v := 0) dX12_led_18 rfl ?_
    obtain rfl := Option.some.inj hm
    exact j_ireti C dX12_led_19
set_option maxRecDepth 20000 in
set_option maxHeartbeats 4000000 in
theorem mc_X12_led (l : Launch) (N : Nat) (Λ : Lay) (μ : Mem) (v0 : Nat) (v1 : Int32) (v2 : Int32) (hv0 : inL Λ v0 11) {r : Int32 × Mem} (hm : m_X12_led N Λ μ v0 v1 v2 = some r) : MI l yX12_led cX12_led 6 (some .int) rm_X12_led Λ [.ref v0, .int v1, .int v2] μ r.1 r.2 := mi_of rfl (Nat.le_of_ble_eq_true rfl) (fun x C _ => tm_X12_led C _ _ _ _ _ hv0 hm)
abbrev rm_X12_log : Room := { frames := 1, cells := 0, slots := 0, locals := 22 }
set_option maxRecDepth 20000 in
set_option maxHeartbeats 4000000 in
theorem tj_X12_log_56 {x : Ctx} {Λ : Lay} (C : Cx x cX12_log 3 (some .int) RX12 Λ rm_X12_log) (N : Nat) (μ : Mem) (s0 : Int32) {r : Int32 × Mem} (hm : jn_X12_log_56 N Λ μ s0 = some r) : J x 3 Λ (QI x Λ r.1 r.2) 56 [] [.int s0] μ := by
  obtain rfl := Option.some.inj hm
  exact j_ireti C dX12_log_56
set_option maxRecDepth 20000 in
set_option maxHeartbeats 4000000 in
theorem tj_X12_log_20 {x : Ctx} {Λ : Lay} (C : Cx x cX12_log 3 (some .int) RX12 Λ rm_X12_log) (N : Nat) (μ : Mem) (v0 : Nat) (v1 : Int32) (v2 : Int32) (s0 : Nat) (s1 : Int32) (hv0 : inL Λ v0 11) (hs0 : inL Λ s0 11) {r : Int32 × Mem} (hm : jn_X12_log_20 N Λ μ v0 v1 v2 s0 s1 = some r) : J x 3 Λ (QI x Λ r.1 r.2) 20 [(0, .ref v0), (1, .int v1), (2, .int v2)] [.int s1, .ref s0] μ := by
  refine j_iconst C (v := 1) dX12_log_20 rfl ?_
  obtain ⟨r1, h2, hm⟩ := bd_some hm
  refine call_I (run_LV C lk_X12_282 ⟨rfl, rfl, Nat.le_of_ble_eq_true rfl, Nat.le_of_ble_eq_true rfl⟩ (As := [.int s1, .int 1]) hs0 rfl rfl (Nat.le_of_ble_eq_true rfl) dX12_log_21 (mc_X12_throwsIf _ _ _ _ _ _ _ hs0 h2)) ?_
  refine j_if_eq C (tgt := 29) dX12_log_24 (by decide) (fun h3 => ?_) (fun h3 => ?_)
  · replace hm := if_t hm h3
    refine j_iload_n C 1 dX12_log_29 rfl ?_
    refine j_iconst C (v := 0) dX12_log_30 rfl ?_
    refine j_aload_n C 0 dX12_log_31 rfl ?_
    obtain ⟨q4, h5, hm⟩ := bd_some hm
    refine j_getR C fg_X12_13_11 hv0 (dr_spec h5).1 dX12_log_32 ?_
    refine j_bipush C (v := 11) dX12_log_35 rfl ?_
    obtain ⟨h6, hm⟩ := gd_some hm
    refine j_iald C ((dr_spec h5).2) h6 dX12_log_37 ?_
    refine j_iconst C (v := 1) dX12_log_38 rfl ?_
    refine j_isub C dX12_log_39 ?_
    obtain ⟨r7, h8, hm⟩ := bd_some hm
    refine call_I (run_LS C ls_X12_103 ⟨rfl, rfl, Nat.le_of_ble_eq_true rfl, Nat.le_of_ble_eq_true rfl⟩ (As := [.int v1, .int 0, .int ((r1.2.1 q4 (11 : Int32).toNatClampNeg) - 1)]) rfl rfl (Nat.le_of_ble_eq_true rfl) dX12_log_40 (mc_X12_in _ _ _ _ _ _ _  h8)) ?_
    refine j_if_eq C (tgt := 55) dX12_log_43 (by decide) (fun h9 => ?_) (fun h9 => ?_)
    · replace hm := if_t hm h9
      refine j_iconst C (v := -1) dX12_log_55 rfl ?_
      refine j_sub [] rfl ?_
      exact tj_X12_log_56 C _ _ _  hm
    · replace hm := if_f hm h9
      refine j_aload_n C 0 dX12_log_46 rfl ?_
      refine j_iload_n C 1 dX12_log_47 rfl ?_
      refine j_iload_n C 2 dX12_log_48 rfl ?_
      obtain ⟨r10, h11, hm⟩ := bd_some hm
      refine call_I (run_LV C lk_X12_512 ⟨rfl, rfl, Nat.le_of_ble_eq_true rfl, Nat.le_of_ble_eq_true rfl⟩ (As := [.int v1, .int v2]) hv0 rfl rfl (Nat.le_of_ble_eq_true rfl) dX12_log_49 (mc_X12_ofLog _ _ _ _ _ _ _ hv0 h11)) ?_
      refine j_goto C (tgt := 56) dX12_log_52 (by decide) ?_
      refine j_sub [] rfl ?_
      exact tj_X12_log_56 C _ _ _  hm
  · replace hm := if_f hm h3
    refine j_iconst C (v := 0) dX12_log_27 rfl ?_
    obtain rfl := Option.some.inj hm
    exact j_ireti C dX12_log_28
set_option maxRecDepth 20000 in
set_option maxHeartbeats 4000000 in
theorem tm_X12_log {x : Ctx} {Λ : Lay} (C : Cx x cX12_log 3 (some .int) RX12 Λ rm_X12_log) (N : Nat) (μ : Mem) (v0 : Nat) (v1 : Int32) (v2 : Int32) (hv0 : inL Λ v0 11) {r : Int32 × Mem} (hm : m_X12_log N Λ μ v0 v1 v2 = some r) : J x 3 Λ (QI x Λ r.1 r.2) 0 [(0, .ref v0), (1, .int v1), (2, .int v2)] [] μ := by
  refine j_aload_n C 0 dX12_log_0 rfl ?_
  refine j_iconst C (v := 0) dX12_log_1 rfl ?_
  obtain ⟨μ1, e2, hm⟩ := lt_some hm
  refine j_putI C fp_X12_3_11 hv0 e2 dX12_log_2 ?_
  refine j_aload_n C 0 dX12_log_5 rfl ?_
  refine j_iload_n C 2 dX12_log_6 rfl ?_
  refine j_iconst C (v := 0) dX12_log_7 rfl ?_
  refine j_iconst C (v := 4) dX12_log_8 rfl ?_
  obtain ⟨r3, h4, hm⟩ := bd_some hm
  refine call_I (run_LS C ls_X12_103 ⟨rfl, rfl, Nat.le_of_ble_eq_true rfl, Nat.le_of_ble_eq_true rfl⟩ (As := [.int v2, .int 0, .int 4]) rfl rfl (Nat.le_of_ble_eq_true rfl) dX12_log_9 (mc_X12_in _ _ _ _ _ _ _  h4)) ?_
  refine j_if_ne C (tgt := 19) dX12_log_12 (by decide) (fun h5 => ?_) (fun h5 => ?_)
  · replace hm := if_f hm h5
    refine j_iconst C (v := 0) dX12_log_19 rfl ?_
    exact tj_X12_log_20 C _ _ _ _ _ _ _ hv0 hv0 hm
  · replace hm := if_t hm h5
    refine j_iconst C (v := 1) dX12_log_15 rfl ?_
    refine j_goto C (tgt := 20) dX12_log_16 (by decide) ?_
    exact tj_X12_log_20 C _ _ _ _ _ _ _ hv0 hv0 hm
set_option maxRecDepth 20000 in
set_option maxHeartbeats 4000000 in
theorem mc_X12_log (l : Launch) (N : Nat) (Λ : Lay) (μ : Mem) (v0 : Nat) (v1 : Int32) (v2 : Int32) (hv0 : inL Λ v0 11) {r : Int32 × Mem} (hm : m_X12_log N Λ μ v0 v1 v2 = some r) : MI l yX12_log cX12_log 3 (some .int) rm_X12_log Λ [.ref v0, .int v1, .int v2] μ r.1 r.2 := mi_of rfl (Nat.le_of_ble_eq_true rfl) (fun x C _ => tm_X12_log C _ _ _ _ _ hv0 hm)
abbrev rm_X12_seed : Room := { frames := 0, cells := 0, slots := 0, locals := 0 }
set_option maxRecDepth 20000 in
set_option maxHeartbeats 4000000 in
theorem tm_X12_seed {x : Ctx} {Λ : Lay} (C : Cx x cX12_seed 3 (some .int) RX12 Λ rm_X12_seed) (N : Nat) (μ : Mem) (v0 : Nat) (v1 : Int32) (hv0 : inL Λ v0 11) {r : Int32 × Mem} (hm : m_X12_seed N Λ μ v0 v1 = some r) : J x 3 Λ (QI x Λ r.1 r.2) 0 [(0, .ref v0), (1, .int v1)] [] μ := by
  refine j_aload_n C 0 dX12_seed_0 rfl ?_
  refine j_iconst C (v := 0) dX12_seed_1 rfl ?_
  obtain ⟨μ1, e2, hm⟩ := lt_some hm
  refine j_putI C fp_X12_3_11 hv0 e2 dX12_seed_2 ?_
  refine j_aload_n C 0 dX12_seed_5 rfl ?_
  obtain ⟨q3, h4, hm⟩ := bd_some hm
  refine j_getR C fg_X12_13_11 hv0 (dr_spec h4).1 dX12_seed_6 ?_
  refine j_bipush C (v := 12) dX12_seed_9 rfl ?_
  obtain ⟨h5, hm⟩ := gd_some hm
  refine j_iald C ((dr_spec h4).2) h5 dX12_seed_11 ?_
  obtain ⟨y6, e7, hm⟩ := lt_some hm
  refine j_topi e7 ?_
  refine j_istore_n C (lv' := [(2, .int y6), (0, .ref v0), (1, .int v1)]) dX12_seed_12 (by decide) rfl ?_
  refine j_aload_n C 1 dX12_seed_13 rfl ?_
  obtain ⟨q8, h9, hm⟩ := bd_some hm
  refine j_getR C fg_X12_13_11 hv0 (dr_spec h9).1 dX12_seed_14 ?_
  refine j_bipush C (v := 12) dX12_seed_17 rfl ?_
  refine j_iload_n C 2 dX12_seed_19 rfl ?_
  obtain ⟨h10, hm⟩ := gd_some hm
  obtain ⟨μ11, e12, hm⟩ := lt_some hm
  refine j_iast C ((dr_spec h9).2) h10 e12 dX12_seed_20 ?_
  refine j_iload_n C 0 dX12_seed_21 rfl ?_
  obtain rfl := Option.some.inj hm
  exact j_ireti C dX12_seed_22
set_option maxRecDepth 20000 in
set_option maxHeartbeats 4000000 in
theorem mc_X12_seed (l : Launch) (N : Nat) (Λ : Lay) (μ : Mem) (v0 : Nat) (v1 : Int32) (hv0 : inL Λ v0 11) {r : Int32 × Mem} (hm : m_X12_seed N Λ μ v0 v1 = some r) : MI l yX12_seed cX12_seed 3 (some .int) rm_X12_seed Λ [.ref v0, .int v1] μ r.1 r.2 := mi_of rfl (Nat.le_of_ble_eq_true rfl) (fun x C _ => tm_X12_seed C _ _ _ _ hv0 hm)
abbrev rm_X12_count : Room := { frames := 6, cells := 0, slots := 0, locals := 127 }
set_option maxRecDepth 20000 in
set_option maxHeartbeats 4000000 in
theorem tj_X12_count_94 {x : Ctx} {Λ : Lay} (C : Cx x cX12_count 2 (some .int) RX12 Λ rm_X12_count) (N : Nat) (μ : Mem) (s0 : Int32) {r : Int32 × Mem} (hm : jn_X12_count_94 N Λ μ s0 = some r) : J x 2 Λ (QI x Λ r.1 r.2) 94 [] [.int s0] μ := by
  obtain rfl := Option.some.inj hm
  exact j_ireti C dX12_count_94
set_option maxRecDepth 20000 in
set_option maxHeartbeats 4000000 in
theorem tj_X12_count_150 {x : Ctx} {Λ : Lay} (C : Cx x cX12_count 2 (some .int) RX12 Λ rm_X12_count) (N : Nat) (μ : Mem) (s0 : Int32) {r : Int32 × Mem} (hm : jn_X12_count_150 N Λ μ s0 = some r) : J x 2 Λ (QI x Λ r.1 r.2) 150 [] [.int s0] μ := by
  obtain rfl := Option.some.inj hm
  exact j_ireti C dX12_count_150
set_option maxRecDepth 20000 in
set_option maxHeartbeats 4000000 in
theorem tm_X12_count {x : Ctx} {Λ : Lay} (C : Cx x cX12_count 2 (some .int) RX12 Λ rm_X12_count) (N : Nat) (μ : Mem) (v0 : Nat) (v1 : Int32) (hv0 : inL Λ v0 11) {r : Int32 × Mem} (hm : m_X12_count N Λ μ v0 v1 = some r) : J x 2 Λ (QI x Λ r.1 r.2) 0 [(0, .ref v0), (1, .int v1)] [] μ := by
  refine j_aload_n C 0 dX12_count_0 rfl ?_
  refine j_iconst C (v := 0) dX12_count_1 rfl ?_
  obtain ⟨μ1, e2, hm⟩ := lt_some hm
  refine j_putI C fp_X12_3_11 hv0 e2 dX12_count_2 ?_
  refine j_iload_n C 1 dX12_count_5 rfl ?_
  by_cases h3 : v1 = 2
  · replace hm := if_t hm h3
    refine j_tabI C (tgt := 72) 2 dX12_count_6 (by rw [h3]; first | done | rfl) (by decide) (by decide) rfl (by decide) ?_
    refine j_aload_n C 0 dX12_count_72 rfl ?_
    obtain ⟨q4, h5, hm⟩ := bd_some hm
    refine j_getR C fg_X12_13_11 hv0 (dr_spec h5).1 dX12_count_73 ?_
    refine j_iconst C (v := 2) dX12_count_76 rfl ?_
    obtain ⟨h6, hm⟩ := gd_some hm
    refine j_iald C ((dr_spec h5).2) h6 dX12_count_77 ?_
    refine j_iconst C (v := 1) dX12_count_78 rfl ?_
    refine j_icmp_ne C (tgt := 93) dX12_count_79 (by decide) (fun h7 => ?_) (fun h7 => ?_)
    · replace hm := if_f hm h7
      refine j_iconst C (v := -1) dX12_count_93 rfl ?_
      refine j_sub [] rfl ?_
      exact tj_X12_count_94 C _ _ _  hm
    · replace hm := if_t hm h7
      refine j_aload_n C 0 dX12_count_82 rfl ?_
      obtain ⟨q8, h9, hm⟩ := bd_some hm
      refine j_getR C fg_X12_13_11 hv0 (dr_spec h9).1 dX12_count_83 ?_
      refine j_sipush C (v := 373) dX12_count_86 rfl ?_
      obtain ⟨h10, hm⟩ := gd_some hm
      refine j_iald C ((dr_spec h9).2) h10 dX12_count_89 ?_
      refine j_goto C (tgt := 94) dX12_count_90 (by decide) ?_
      refine j_sub [] rfl ?_
      exact tj_X12_count_94 C _ _ _  hm
  replace hm := if_f hm h3
  by_cases h11 : v1 = 3
  · replace hm := if_t hm h11
    refine j_tabI C (tgt := 130) 3 dX12_count_6 (by rw [h11]; first | done | rfl) (by decide) (by decide) rfl (by decide) ?_
    refine j_iload_n C 1 dX12_count_130 rfl ?_
    refine j_iconst C (v := 0) dX12_count_131 rfl ?_
    refine j_bipush C (v := 9) dX12_count_132 rfl ?_
    obtain ⟨r12, h13, hm⟩ := bd_some hm
    refine call_I (run_LS C ls_X12_103 ⟨rfl, rfl, Nat.le_of_ble_eq_true rfl, Nat.le_of_ble_eq_true rfl⟩ (As := [.int v1, .int 0, .int 9]) rfl rfl (Nat.le_of_ble_eq_true rfl) dX12_count_134 (mc_X12_in _ _ _ _ _ _ _  h13)) ?_
    refine j_if_eq C (tgt := 149) dX12_count_137 (by decide) (fun h14 => ?_) (fun h14 => ?_)
    · replace hm := if_t hm h14
      refine j_iconst C (v := -1) dX12_count_149 rfl ?_
      refine j_sub [] rfl ?_
      exact tj_X12_count_150 C _ _ _  hm
    · replace hm := if_f hm h14
      refine j_aload_n C 0 dX12_count_140 rfl ?_
      obtain ⟨q15, h16, hm⟩ := bd_some hm
      refine j_getR C fg_X12_13_11 hv0 (dr_spec h16).1 dX12_count_141 ?_
      refine j_iload_n C 1 dX12_count_144 rfl ?_
      obtain ⟨h17, hm⟩ := gd_some hm
      refine j_iald C ((dr_spec h16).2) h17 dX12_count_145 ?_
      refine j_goto C (tgt := 150) dX12_count_146 (by decide) ?_
      refine j_sub [] rfl ?_
      exact tj_X12_count_150 C _ _ _  hm
  replace hm := if_f hm h11
  by_cases h18 : v1 = 4
  · replace hm := if_t hm h18
    refine j_tabI C (tgt := 130) 4 dX12_count_6 (by rw [h18]; first | done | rfl) (by decide) (by decide) rfl (by decide) ?_
    refine j_iload_n C 1 dX12_count_130 rfl ?_
    refine j_iconst C (v := 0) dX12_count_131 rfl ?_
    refine j_bipush C (v := 9) dX12_count_132 rfl ?_
    obtain ⟨r19, h20, hm⟩ := bd_some hm
    refine call_I (run_LS C ls_X12_103 ⟨rfl, rfl, Nat.le_of_ble_eq_true rfl, Nat.le_of_ble_eq_true rfl⟩ (As := [.int v1, .int 0, .int 9]) rfl rfl (Nat.le_of_ble_eq_true rfl) dX12_count_134 (mc_X12_in _ _ _ _ _ _ _  h20)) ?_
    refine j_if_eq C (tgt := 149) dX12_count_137 (by decide) (fun h21 => ?_) (fun h21 => ?_)
    · replace hm := if_t hm h21
      refine j_iconst C (v := -1) dX12_count_149 rfl ?_
      refine j_sub [] rfl ?_
      exact tj_X12_count_150 C _ _ _  hm
    · replace hm := if_f hm h21
      refine j_aload_n C 0 dX12_count_140 rfl ?_
      obtain ⟨q22, h23, hm⟩ := bd_some hm
      refine j_getR C fg_X12_13_11 hv0 (dr_spec h23).1 dX12_count_141 ?_
      refine j_iload_n C 1 dX12_count_144 rfl ?_
      obtain ⟨h24, hm⟩ := gd_some hm
      refine j_iald C ((dr_spec h23).2) h24 dX12_count_145 ?_
      refine j_goto C (tgt := 150) dX12_count_146 (by decide) ?_
      refine j_sub [] rfl ?_
      exact tj_X12_count_150 C _ _ _  hm
  replace hm := if_f hm h18
  by_cases h25 : v1 = 5
  · replace hm := if_t hm h25
    refine j_tabI C (tgt := 130) 5 dX12_count_6 (by rw [h25]; first | done | rfl) (by decide) (by decide) rfl (by decide) ?_
    refine j_iload_n C 1 dX12_count_130 rfl ?_
    refine j_iconst C (v := 0) dX12_count_131 rfl ?_
    refine j_bipush C (v := 9) dX12_count_132 rfl ?_
    obtain ⟨r26, h27, hm⟩ := bd_some hm
    refine call_I (run_LS C ls_X12_103 ⟨rfl, rfl, Nat.le_of_ble_eq_true rfl, Nat.le_of_ble_eq_true rfl⟩ (As := [.int v1, .int 0, .int 9]) rfl rfl (Nat.le_of_ble_eq_true rfl) dX12_count_134 (mc_X12_in _ _ _ _ _ _ _  h27)) ?_
    refine j_if_eq C (tgt := 149) dX12_count_137 (by decide) (fun h28 => ?_) (fun h28 => ?_)
    · replace hm := if_t hm h28
      refine j_iconst C (v := -1) dX12_count_149 rfl ?_
      refine j_sub [] rfl ?_
      exact tj_X12_count_150 C _ _ _  hm
    · replace hm := if_f hm h28
      refine j_aload_n C 0 dX12_count_140 rfl ?_
      obtain ⟨q29, h30, hm⟩ := bd_some hm
      refine j_getR C fg_X12_13_11 hv0 (dr_spec h30).1 dX12_count_141 ?_
      refine j_iload_n C 1 dX12_count_144 rfl ?_
      obtain ⟨h31, hm⟩ := gd_some hm
      refine j_iald C ((dr_spec h30).2) h31 dX12_count_145 ?_
      refine j_goto C (tgt := 150) dX12_count_146 (by decide) ?_
      refine j_sub [] rfl ?_
      exact tj_X12_count_150 C _ _ _  hm
  replace hm := if_f hm h25
  by_cases h32 : v1 = 6
  · replace hm := if_t hm h32
    refine j_tabI C (tgt := 130) 6 dX12_count_6 (by rw [h32]; first | done | rfl) (by decide) (by decide) rfl (by decide) ?_
    refine j_iload_n C 1 dX12_count_130 rfl ?_
    refine j_iconst C (v := 0) dX12_count_131 rfl ?_
    refine j_bipush C (v := 9) dX12_count_132 rfl ?_
    obtain ⟨r33, h34, hm⟩ := bd_some hm
    refine call_I (run_LS C ls_X12_103 ⟨rfl, rfl, Nat.le_of_ble_eq_true rfl, Nat.le_of_ble_eq_true rfl⟩ (As := [.int v1, .int 0, .int 9]) rfl rfl (Nat.le_of_ble_eq_true rfl) dX12_count_134 (mc_X12_in _ _ _ _ _ _ _  h34)) ?_
    refine j_if_eq C (tgt := 149) dX12_count_137 (by decide) (fun h35 => ?_) (fun h35 => ?_)
    · replace hm := if_t hm h35
      refine j_iconst C (v := -1) dX12_count_149 rfl ?_
      refine j_sub [] rfl ?_
      exact tj_X12_count_150 C _ _ _  hm
    · replace hm := if_f hm h35
      refine j_aload_n C 0 dX12_count_140 rfl ?_
      obtain ⟨q36, h37, hm⟩ := bd_some hm
      refine j_getR C fg_X12_13_11 hv0 (dr_spec h37).1 dX12_count_141 ?_
      refine j_iload_n C 1 dX12_count_144 rfl ?_
      obtain ⟨h38, hm⟩ := gd_some hm
      refine j_iald C ((dr_spec h37).2) h38 dX12_count_145 ?_
      refine j_goto C (tgt := 150) dX12_count_146 (by decide) ?_
      refine j_sub [] rfl ?_
      exact tj_X12_count_150 C _ _ _  hm
  replace hm := if_f hm h32
  by_cases h39 : v1 = 7
  · replace hm := if_t hm h39
    refine j_tabI C (tgt := 130) 7 dX12_count_6 (by rw [h39]; first | done | rfl) (by decide) (by decide) rfl (by decide) ?_
    refine j_iload_n C 1 dX12_count_130 rfl ?_
    refine j_iconst C (v := 0) dX12_count_131 rfl ?_
    refine j_bipush C (v := 9) dX12_count_132 rfl ?_
    obtain ⟨r40, h41, hm⟩ := bd_some hm
    refine call_I (run_LS C ls_X12_103 ⟨rfl, rfl, Nat.le_of_ble_eq_true rfl, Nat.le_of_ble_eq_true rfl⟩ (As := [.int v1, .int 0, .int 9]) rfl rfl (Nat.le_of_ble_eq_true rfl) dX12_count_134 (mc_X12_in _ _ _ _ _ _ _  h41)) ?_
    refine j_if_eq C (tgt := 149) dX12_count_137 (by decide) (fun h42 => ?_) (fun h42 => ?_)
    · replace hm := if_t hm h42
      refine j_iconst C (v := -1) dX12_count_149 rfl ?_
      refine j_sub [] rfl ?_
      exact tj_X12_count_150 C _ _ _  hm
    · replace hm := if_f hm h42
      refine j_aload_n C 0 dX12_count_140 rfl ?_
      obtain ⟨q43, h44, hm⟩ := bd_some hm
      refine j_getR C fg_X12_13_11 hv0 (dr_spec h44).1 dX12_count_141 ?_
      refine j_iload_n C 1 dX12_count_144 rfl ?_
      obtain ⟨h45, hm⟩ := gd_some hm
      refine j_iald C ((dr_spec h44).2) h45 dX12_count_145 ?_
      refine j_goto C (tgt := 150) dX12_count_146 (by decide) ?_
      refine j_sub [] rfl ?_
      exact tj_X12_count_150 C _ _ _  hm
  replace hm := if_f hm h39
  by_cases h46 : v1 = 8
  · replace hm := if_t hm h46
    refine j_tabI C (tgt := 130) 8 dX12_count_6 (by rw [h46]; first | done | rfl) (by decide) (by decide) rfl (by decide) ?_
    refine j_iload_n C 1 dX12_count_130 rfl ?_
    refine j_iconst C (v := 0) dX12_count_131 rfl ?_
    refine j_bipush C (v := 9) dX12_count_132 rfl ?_
    obtain ⟨r47, h48, hm⟩ := bd_some hm
    refine call_I (run_LS C ls_X12_103 ⟨rfl, rfl, Nat.le_of_ble_eq_true rfl, Nat.le_of_ble_eq_true rfl⟩ (As := [.int v1, .int 0, .int 9]) rfl rfl (Nat.le_of_ble_eq_true rfl) dX12_count_134 (mc_X12_in _ _ _ _ _ _ _  h48)) ?_
    refine j_if_eq C (tgt := 149) dX12_count_137 (by decide) (fun h49 => ?_) (fun h49 => ?_)
    · replace hm := if_t hm h49
      refine j_iconst C (v := -1) dX12_count_149 rfl ?_
      refine j_sub [] rfl ?_
      exact tj_X12_count_150 C _ _ _  hm
    · replace hm := if_f hm h49
      refine j_aload_n C 0 dX12_count_140 rfl ?_
      obtain ⟨q50, h51, hm⟩ := bd_some hm
      refine j_getR C fg_X12_13_11 hv0 (dr_spec h51).1 dX12_count_141 ?_
      refine j_iload_n C 1 dX12_count_144 rfl ?_
      obtain ⟨h52, hm⟩ := gd_some hm
      refine j_iald C ((dr_spec h51).2) h52 dX12_count_145 ?_
      refine j_goto C (tgt := 150) dX12_count_146 (by decide) ?_
      refine j_sub [] rfl ?_
      exact tj_X12_count_150 C _ _ _  hm
  replace hm := if_f hm h46
  by_cases h53 : v1 = 9
  · replace hm := if_t hm h53
    refine j_tabI C (tgt := 130) 9 dX12_count_6 (by rw [h53]; first | done | rfl) (by decide) (by decide) rfl (by decide) ?_
    refine j_iload_n C 1 dX12_count_130 rfl ?_
    refine j_iconst C (v := 0) dX12_count_131 rfl ?_
    refine j_bipush C (v := 9) dX12_count_132 rfl ?_
    obtain ⟨r54, h55, hm⟩ := bd_some hm
    refine call_I (run_LS C ls_X12_103 ⟨rfl, rfl, Nat.le_of_ble_eq_true rfl, Nat.le_of_ble_eq_true rfl⟩ (As := [.int v1, .int 0, .int 9]) rfl rfl (Nat.le_of_ble_eq_true rfl) dX12_count_134 (mc_X12_in _ _ _ _ _ _ _  h55)) ?_
    refine j_if_eq C (tgt := 149) dX12_count_137 (by decide) (fun h56 => ?_) (fun h56 => ?_)
    · replace hm := if_t hm h56
      refine j_iconst C (v := -1) dX12_count_149 rfl ?_
      refine j_sub [] rfl ?_
      exact tj_X12_count_150 C _ _ _  hm
    · replace hm := if_f hm h56
      refine j_aload_n C 0 dX12_count_140 rfl ?_
      obtain ⟨q57, h58, hm⟩ := bd_some hm
      refine j_getR C fg_X12_13_11 hv0 (dr_spec h58).1 dX12_count_141 ?_
      refine j_iload_n C 1 dX12_count_144 rfl ?_
      obtain ⟨h59, hm⟩ := gd_some hm
      refine j_iald C ((dr_spec h58).2) h59 dX12_count_145 ?_
      refine j_goto C (tgt := 150) dX12_count_146 (by decide) ?_
      refine j_sub [] rfl ?_
      exact tj_X12_count_150 C _ _ _  hm
  replace hm := if_f hm h53
  by_cases h60 : v1 = 10
  · replace hm := if_t hm h60
    refine j_tabI C (tgt := 95) 10 dX12_count_6 (by rw [h60]; first | done | rfl) (by decide) (by decide) rfl (by decide) ?_
    refine j_aload_n C 0 dX12_count_95 rfl ?_
    obtain ⟨q61, h62, hm⟩ := bd_some hm
    refine j_getR C fg_X12_13_11 hv0 (dr_spec h62).1 dX12_count_96 ?_
    refine j_bipush C (v := 10) dX12_count_99 rfl ?_
    obtain ⟨h63, hm⟩ := gd_some hm
    refine j_iald C ((dr_spec h62).2) h63 dX12_count_101 ?_
    obtain ⟨r64, h65, hm⟩ := bd_some hm
    refine call_I (run_LS C ls_X12_376 ⟨rfl, rfl, Nat.le_of_ble_eq_true rfl, Nat.le_of_ble_eq_true rfl⟩ (As := [.int (μ1.1 q61 (10 : Int32).toNatClampNeg)]) rfl rfl (Nat.le_of_ble_eq_true rfl) dX12_count_102 (mc_XI_bitCount _ _ _ _ _  h65)) ?_
    obtain rfl := Option.some.inj hm
    exact j_ireti C dX12_count_105
  replace hm := if_f hm h60
  by_cases h66 : v1 = 11
  · replace hm := if_t hm h66
    refine j_tabI C (tgt := 106) 11 dX12_count_6 (by rw [h66]; first | done | rfl) (by decide) (by decide) rfl (by decide) ?_
    refine j_aload_n C 0 dX12_count_106 rfl ?_
    obtain ⟨r67, h68, hm⟩ := bd_some hm
    refine call_I (run_LV C lk_X12_384 ⟨rfl, rfl, Nat.le_of_ble_eq_true rfl, Nat.le_of_ble_eq_true rfl⟩ (As := []) hv0 rfl rfl (Nat.le_of_ble_eq_true rfl) dX12_count_107 (mc_X12_freePlaces _ _ _ _ _ hv0 h68)) ?_
    obtain rfl := Option.some.inj hm
    exact j_ireti C dX12_count_110
  replace hm := if_f hm h66
  by_cases h69 : v1 = 12
  · replace hm := if_t hm h69
    refine j_tabI C (tgt := 111) 12 dX12_count_6 (by rw [h69]; first | done | rfl) (by decide) (by decide) rfl (by decide) ?_
    refine j_aload_n C 0 dX12_count_111 rfl ?_
    refine j_iconst C (v := 1) dX12_count_112 rfl ?_
    obtain ⟨r70, h71, hm⟩ := bd_some hm
    refine call_I (run_LV C lk_X12_357 ⟨rfl, rfl, Nat.le_of_ble_eq_true rfl, Nat.le_of_ble_eq_true rfl⟩ (As := [.int 1]) hv0 rfl rfl (Nat.le_of_ble_eq_true rfl) dX12_count_113 (mc_X12_workOf _ _ _ _ _ _ hv0 h71)) ?_
    obtain rfl := Option.some.inj hm
    exact j_ireti C dX12_count_116
  replace hm := if_f hm h69
  by_cases h72 : v1 = 13
  · replace hm := if_t hm h72
    refine j_tabI C (tgt := 117) 13 dX12_count_6 (by rw [h72]; first | done | rfl) (by decide) (by decide) rfl (by decide) ?_
    refine j_aload_n C 0 dX12_count_117 rfl ?_
    obtain ⟨q73, h74, hm⟩ := bd_some hm
    refine j_getR C fg_X12_13_11 hv0 (dr_spec h74).1 dX12_count_118 ?_
    refine j_bipush C (v := 11) dX12_count_121 rfl ?_
    obtain ⟨h75, hm⟩ := gd_some hm
    refine j_iald C ((dr_spec h74).2) h75 dX12_count_123 ?_
    obtain rfl := Option.some.inj hm
    exact j_ireti C dX12_count_124
  replace hm := if_f hm h72
  by_cases h76 : v1 = 14
  · replace hm := if_t hm h76
    refine j_tabI C (tgt := 125) 14 dX12_count_6 (by rw [h76]; first | done | rfl) (by decide) (by decide) rfl (by decide) ?_
    refine j_aload_n C 0 dX12_count_125 rfl ?_
    refine j_getI C fg_X12_78_11 hv0 dX12_count_126 ?_
    obtain rfl := Option.some.inj hm
    exact j_ireti C dX12_count_129
  replace hm := if_f hm h76
  refine j_tabO C (tgt := 130) dX12_count_6 (sw_out v1 [2, 3, 4, 5, 6, 7, 8, 9, 10, 11, 12, 13, 14] (by decide +kernel) ?_) (by decide) ?_
  · simp only [List.mem_cons, List.not_mem_nil, or_false, not_or]; exact ⟨h3, h11, h18, h25, h32, h39, h46, h53, h60, h66, h69, h72, h76⟩
  refine j_iload_n C 1 dX12_count_130 rfl ?_
  refine j_iconst C (v := 0) dX12_count_131 rfl ?_
  refine j_bipush C (v := 9) dX12_count_132 rfl ?_
  obtain ⟨r77, h78, hm⟩ := bd_some hm
  refine call_I (run_LS C ls_X12_103 ⟨rfl, rfl, Nat.le_of_ble_eq_true rfl, Nat.le_of_ble_eq_true rfl⟩ (As := [.int v1, .int 0, .int 9]) rfl rfl (Nat.le_of_ble_eq_true rfl) dX12_count_134 (mc_X12_in _ _ _ _ _ _ _  h78)) ?_
  refine j_if_eq C (tgt := 149) dX12_count_137 (by decide) (fun h79 => ?_) (fun h79 => ?_)
  · replace hm := if_t hm h79
    refine j_iconst C (v := -1) dX12_count_149 rfl ?_
    refine j_sub [] rfl ?_
    exact tj_X12_count_150 C _ _ _  hm
  · replace hm := if_f hm h79
    refine j_aload_n C 0 dX12_count_140 rfl ?_
    obtain ⟨q80, h81, hm⟩ := bd_some hm
    refine j_getR C fg_X12_13_11 hv0 (dr_spec h81).1 dX12_count_141 ?_
    refine j_iload_n C 1 dX12_count_144 rfl ?_
    obtain ⟨h82, hm⟩ := gd_some hm
    refine j_iald C ((dr_spec h81).2) h82 dX12_count_145 ?_
    refine j_goto C (tgt := 150) dX12_count_146 (by decide) ?_
    refine j_sub [] rfl ?_
    exact tj_X12_count_150 C _ _ _  hm
set_option maxRecDepth 20000 in
set_option maxHeartbeats 4000000 in
theorem mc_X12_count (l : Launch) (N : Nat) (Λ : Lay) (μ : Mem) (v0 : Nat) (v1 : Int32) (hv0 : inL Λ v0 11) {r : Int32 × Mem} (hm : m_X12_count N Λ μ v0 v1 = some r) : MI l yX12_count cX12_count 2 (some .int) rm_X12_count Λ [.ref v0, .int v1] μ r.1 r.2 := mi_of rfl (Nat.le_of_ble_eq_true rfl) (fun x C _ => tm_X12_count C _ _ _ _ hv0 hm)

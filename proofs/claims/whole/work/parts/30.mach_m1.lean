abbrev rm_X12_thrown : Room := { frames := 0, cells := 0, slots := 0, locals := 0 }
set_option maxRecDepth 20000 in
set_option maxHeartbeats 4000000 in
theorem tm_X12_thrown {x : Ctx} {Λ : Lay} (C : Cx x cX12_thrown 1 (some .int) RX12 Λ rm_X12_thrown) (N : Nat) (μ : Mem) (v0 : Nat) (hv0 : inL Λ v0 11) {r : Int32} (hm : m_X12_thrown N Λ μ v0 = some r) : J x 1 Λ (QI x Λ r μ) 0 [(0, .ref v0)] [] μ := by
  refine j_aload_n C 0 dX12_thrown_0 rfl ?_
  refine j_getI C fg_X12_3_11 hv0 dX12_thrown_1 ?_
  obtain rfl := Option.some.inj hm
  exact j_ireti C dX12_thrown_4
set_option maxRecDepth 20000 in
set_option maxHeartbeats 4000000 in
theorem mc_X12_thrown (l : Launch) (N : Nat) (Λ : Lay) (μ : Mem) (v0 : Nat) (hv0 : inL Λ v0 11) {r : Int32} (hm : m_X12_thrown N Λ μ v0 = some r) : MI l yX12_thrown cX12_thrown 1 (some .int) rm_X12_thrown Λ [.ref v0] μ r μ := mi_of rfl (Nat.le_of_ble_eq_true rfl) (fun x C _ => tm_X12_thrown C _ _ _ hv0 hm)
abbrev rm_X12_throwsIf : Room := { frames := 0, cells := 0, slots := 0, locals := 0 }
set_option maxRecDepth 20000 in
set_option maxHeartbeats 4000000 in
theorem tj_X12_throwsIf_9 {x : Ctx} {Λ : Lay} (C : Cx x cX12_throwsIf 3 (some .boolean) RX12 Λ rm_X12_throwsIf) (N : Nat) (μ : Mem) (v1 : Int32) {r : Int32 × Mem} (hm : jn_X12_throwsIf_9 N Λ μ v1 = some r) : J x 3 Λ (QI x Λ r.1 r.2) 9 [(1, .int v1)] [] μ := by
  refine j_iload_n C 0 dX12_throwsIf_9 rfl ?_
  obtain ⟨h1, hm⟩ := gd_some hm
  obtain rfl := Option.some.inj hm
  exact j_iretz C h1 dX12_throwsIf_10
set_option maxRecDepth 20000 in
set_option maxHeartbeats 4000000 in
theorem tm_X12_throwsIf {x : Ctx} {Λ : Lay} (C : Cx x cX12_throwsIf 3 (some .boolean) RX12 Λ rm_X12_throwsIf) (N : Nat) (μ : Mem) (v0 : Nat) (v1 : Int32) (v2 : Int32) (hv0 : inL Λ v0 11) {r : Int32 × Mem} (hm : m_X12_throwsIf N Λ μ v0 v1 v2 = some r) : J x 3 Λ (QI x Λ r.1 r.2) 0 [(0, .ref v0), (1, .int v1), (2, .int v2)] [] μ := by
  refine j_iload_n C 1 dX12_throwsIf_0 rfl ?_
  refine j_if_eq C (tgt := 9) dX12_throwsIf_1 (by decide) (fun h1 => ?_) (fun h1 => ?_)
  · replace hm := if_t hm h1
    refine j_sub [1] rfl ?_
    exact tj_X12_throwsIf_9 C _ _ _  hm
  · replace hm := if_f hm h1
    refine j_aload_n C 0 dX12_throwsIf_4 rfl ?_
    refine j_iload_n C 2 dX12_throwsIf_5 rfl ?_
    obtain ⟨μ2, e3, hm⟩ := lt_some hm
    refine j_putI C fp_X12_3_11 hv0 e3 dX12_throwsIf_6 ?_
    refine j_sub [1] rfl ?_
    exact tj_X12_throwsIf_9 C _ _ _  hm
set_option maxRecDepth 20000 in
set_option maxHeartbeats 4000000 in
theorem mc_X12_throwsIf (l : Launch) (N : Nat) (Λ : Lay) (μ : Mem) (v0 : Nat) (v1 : Int32) (v2 : Int32) (hv0 : inL Λ v0 11) {r : Int32 × Mem} (hm : m_X12_throwsIf N Λ μ v0 v1 v2 = some r) : MI l yX12_throwsIf cX12_throwsIf 3 (some .boolean) rm_X12_throwsIf Λ [.ref v0, .int v1, .int v2] μ r.1 r.2 := mi_of rfl (Nat.le_of_ble_eq_true rfl) (fun x C _ => tm_X12_throwsIf C _ _ _ _ _ hv0 hm)
abbrev rm_X12_in : Room := { frames := 0, cells := 0, slots := 0, locals := 0 }
set_option maxRecDepth 20000 in
set_option maxHeartbeats 4000000 in
theorem tj_X12_in_15 {x : Ctx} {Λ : Lay} (C : Cx x cX12_in 3 (some .boolean) RX12 Λ rm_X12_in) (N : Nat) (μ : Mem) (s0 : Int32) {r : Int32} (hm : jn_X12_in_15 N Λ μ s0 = some r) : J x 3 Λ (QI x Λ r μ) 15 [] [.int s0] μ := by
  obtain ⟨h1, hm⟩ := gd_some hm
  obtain rfl := Option.some.inj hm
  exact j_iretz C h1 dX12_in_15
set_option maxRecDepth 20000 in
set_option maxHeartbeats 4000000 in
theorem tj_X12_in_14 {x : Ctx} {Λ : Lay} (C : Cx x cX12_in 3 (some .boolean) RX12 Λ rm_X12_in) (N : Nat) (μ : Mem) {r : Int32} (hm : jn_X12_in_14 N Λ μ = some r) : J x 3 Λ (QI x Λ r μ) 14 [] [] μ := by
  refine j_iconst C (v := 0) dX12_in_14 rfl ?_
  exact tj_X12_in_15 C _ _ _  hm
set_option maxRecDepth 20000 in
set_option maxHeartbeats 4000000 in
theorem tm_X12_in {x : Ctx} {Λ : Lay} (C : Cx x cX12_in 3 (some .boolean) RX12 Λ rm_X12_in) (N : Nat) (μ : Mem) (v0 : Int32) (v1 : Int32) (v2 : Int32) {r : Int32} (hm : m_X12_in N Λ μ v0 v1 v2 = some r) : J x 3 Λ (QI x Λ r μ) 0 [(0, .int v0), (1, .int v1), (2, .int v2)] [] μ := by
  refine j_iload_n C 0 dX12_in_0 rfl ?_
  refine j_iload_n C 1 dX12_in_1 rfl ?_
  refine j_icmp_lt C (tgt := 14) dX12_in_2 (by decide) (fun h1 => ?_) (fun h1 => ?_)
  · replace hm := if_t hm h1
    refine j_sub [] rfl ?_
    exact tj_X12_in_14 C _ _  hm
  · replace hm := if_f hm h1
    refine j_iload_n C 0 dX12_in_5 rfl ?_
    refine j_iload_n C 2 dX12_in_6 rfl ?_
    refine j_icmp_gt C (tgt := 14) dX12_in_7 (by decide) (fun h2 => ?_) (fun h2 => ?_)
    · replace hm := if_t hm h2
      refine j_sub [] rfl ?_
      exact tj_X12_in_14 C _ _  hm
    · replace hm := if_f hm h2
      refine j_iconst C (v := 1) dX12_in_10 rfl ?_
      refine j_goto C (tgt := 15) dX12_in_11 (by decide) ?_
      refine j_sub [] rfl ?_
      exact tj_X12_in_15 C _ _ _  hm
set_option maxRecDepth 20000 in
set_option maxHeartbeats 4000000 in
theorem mc_X12_in (l : Launch) (N : Nat) (Λ : Lay) (μ : Mem) (v0 : Int32) (v1 : Int32) (v2 : Int32) {r : Int32} (hm : m_X12_in N Λ μ v0 v1 v2 = some r) : MI l yX12_in cX12_in 3 (some .boolean) rm_X12_in Λ [.int v0, .int v1, .int v2] μ r μ := mi_of rfl (Nat.le_of_ble_eq_true rfl) (fun x C _ => tm_X12_in C _ _ _ _ _  hm)
abbrev rm_X12_has : Room := { frames := 0, cells := 0, slots := 0, locals := 0 }
set_option maxRecDepth 20000 in
set_option maxHeartbeats 4000000 in
theorem tj_X12_has_14 {x : Ctx} {Λ : Lay} (C : Cx x cX12_has 2 (some .boolean) RX12 Λ rm_X12_has) (N : Nat) (μ : Mem) (s0 : Int32) {r : Int32} (hm : jn_X12_has_14 N Λ μ s0 = some r) : J x 2 Λ (QI x Λ r μ) 14 [] [.int s0] μ := by
  obtain ⟨h1, hm⟩ := gd_some hm
  obtain rfl := Option.some.inj hm
  exact j_iretz C h1 dX12_has_14
set_option maxRecDepth 20000 in
set_option maxHeartbeats 4000000 in
theorem tm_X12_has {x : Ctx} {Λ : Lay} (C : Cx x cX12_has 2 (some .boolean) RX12 Λ rm_X12_has) (N : Nat) (μ : Mem) (v0 : Int32) (v1 : Int32) {r : Int32} (hm : m_X12_has N Λ μ v0 v1 = some r) : J x 2 Λ (QI x Λ r μ) 0 [(0, .int v0), (1, .int v1)] [] μ := by
  refine j_iload_n C 0 dX12_has_0 rfl ?_
  refine j_iload_n C 1 dX12_has_1 rfl ?_
  refine j_ishr C dX12_has_2 ?_
  refine j_iconst C (v := 1) dX12_has_3 rfl ?_
  refine j_iand C dX12_has_4 ?_
  refine j_iconst C (v := 1) dX12_has_5 rfl ?_
  refine j_icmp_ne C (tgt := 13) dX12_has_6 (by decide) (fun h1 => ?_) (fun h1 => ?_)
  · replace hm := if_f hm h1
    refine j_iconst C (v := 0) dX12_has_13 rfl ?_
    refine j_sub [] rfl ?_
    exact tj_X12_has_14 C _ _ _  hm
  · replace hm := if_t hm h1
    refine j_iconst C (v := 1) dX12_has_9 rfl ?_
    refine j_goto C (tgt := 14) dX12_has_10 (by decide) ?_
    refine j_sub [] rfl ?_
    exact tj_X12_has_14 C _ _ _  hm
set_option maxRecDepth 20000 in
set_option maxHeartbeats 4000000 in
theorem mc_X12_has (l : Launch) (N : Nat) (Λ : Lay) (μ : Mem) (v0 : Int32) (v1 : Int32) {r : Int32} (hm : m_X12_has N Λ μ v0 v1 = some r) : MI l yX12_has cX12_has 2 (some .boolean) rm_X12_has Λ [.int v0, .int v1] μ r μ := mi_of rfl (Nat.le_of_ble_eq_true rfl) (fun x C _ => tm_X12_has C _ _ _ _  hm)
abbrev rm_X12_image : Room := { frames := 0, cells := 0, slots := 0, locals := 0 }
set_option maxRecDepth 20000 in
set_option maxHeartbeats 4000000 in
theorem tb_X12_image_7 {x : Ctx} {Λ : Lay} (C : Cx x cX12_image 2 none RX12 Λ rm_X12_image) (N : Nat) (μ : Mem) (k7 : Int32 × Mem → Option (Mem)) (v0 : Nat) (v1 : Int32) (hk7 : ∀ (s : Int32 × Mem) (r : Mem), k7 s = some r → J x 2 Λ (QV x Λ r) 7 [(0, .ref v0), (1, .int s.1)] [] (s.2)) (hv0 : inL Λ v0 11) {r : Mem} (hm : bd_X12_image_7 N Λ μ k7 v0 v1 = some r) : J x 2 Λ (QV x Λ r) 7 [(0, .ref v0), (1, .int v1)] [] μ := by
  refine j_iload_n C 1 dX12_image_7 rfl ?_
  refine j_sipush C (v := 1222) dX12_image_8 rfl ?_
  refine j_icmp_ge C (tgt := 32) dX12_image_11 (by decide) (fun h1 => ?_) (fun h1 => ?_)
  · replace hm := if_t hm h1
    refine j_aload_n C 0 dX12_image_32 rfl ?_
    refine j_iconst C (v := 1) dX12_image_33 rfl ?_
    obtain ⟨μ2, e3, hm⟩ := lt_some hm
    refine j_putZ C fp_X12_74_11 rfl hv0 e3 dX12_image_34 ?_
    obtain rfl := Option.some.inj hm
    exact j_vret C dX12_image_37
  · replace hm := if_f hm h1
    refine j_aload_n C 0 dX12_image_14 rfl ?_
    obtain ⟨q4, h5, hm⟩ := bd_some hm
    refine j_getR C fg_X12_17_11 hv0 (dr_spec h5).1 dX12_image_15 ?_
    refine j_iload_n C 1 dX12_image_18 rfl ?_
    refine j_aload_n C 0 dX12_image_19 rfl ?_
    obtain ⟨q6, h7, hm⟩ := bd_some hm
    refine j_getR C fg_X12_13_11 hv0 (dr_spec h7).1 dX12_image_20 ?_
    refine j_iload_n C 1 dX12_image_23 rfl ?_
    obtain ⟨h8, hm⟩ := gd_some hm
    refine j_iald C ((dr_spec h7).2) h8 dX12_image_24 ?_
    obtain ⟨h9, hm⟩ := gd_some hm
    obtain ⟨μ10, e11, hm⟩ := lt_some hm
    refine j_iast C ((dr_spec h5).2) h9 e11 dX12_image_25 ?_
    obtain ⟨y12, e13, hm⟩ := lt_some hm
    refine j_iinc C 1 (v := y12) (lv' := [(1, .int y12), (0, .ref v0)]) dX12_image_26 rfl (by rw [e13]; rfl) (by decide) rfl ?_
    refine j_goto C (tgt := 7) dX12_image_29 (by decide) ?_
    refine j_sub [1, 0] rfl ?_
    exact hk7 (y12, μ10) _ hm
set_option maxRecDepth 20000 in
set_option maxHeartbeats 4000000 in
theorem tl_X12_image_7 {x : Ctx} {Λ : Lay} (C : Cx x cX12_image 2 none RX12 Λ rm_X12_image) (N : Nat) (v0 : Nat) (hv0 : inL Λ v0 11) (s : Int32 × Mem) {r : Mem} (hm : lp_X12_image_7 N Λ v0 s = some r) : J x 2 Λ (QV x Λ r) 7 [(0, .ref v0), (1, .int s.1)] [] (s.2) :=
  cw_ind (P := fun s r => J x 2 Λ (QV x Λ r) 7 [(0, .ref v0), (1, .int s.1)] [] (s.2)) (fun k hkk s r e => tb_X12_image_7 C _ _ _ _ _ hkk hv0 e) N s r hm
set_option maxRecDepth 20000 in
set_option maxHeartbeats 4000000 in
theorem tm_X12_image {x : Ctx} {Λ : Lay} (C : Cx x cX12_image 2 none RX12 Λ rm_X12_image) (N : Nat) (μ : Mem) (v0 : Nat) (hv0 : inL Λ v0 11) {r : Mem} (hm : m_X12_image N Λ μ v0 = some r) : J x 2 Λ (QV x Λ r) 0 [(0, .ref v0)] [] μ := by
  refine j_aload_n C 0 dX12_image_0 rfl ?_
  refine j_iconst C (v := 0) dX12_image_1 rfl ?_
  obtain ⟨μ1, e2, hm⟩ := lt_some hm
  refine j_putI C fp_X12_3_11 hv0 e2 dX12_image_2 ?_
  refine j_iconst C (v := 0) dX12_image_5 rfl ?_
  refine j_istore_n C (lv' := [(1, .int 0), (0, .ref v0)]) dX12_image_6 (by decide) rfl ?_
  refine j_sub [1, 0] rfl ?_
  exact tl_X12_image_7 C _ _ hv0 (0, μ1) hm
set_option maxRecDepth 20000 in
set_option maxHeartbeats 4000000 in
theorem mc_X12_image (l : Launch) (N : Nat) (Λ : Lay) (μ : Mem) (v0 : Nat) (hv0 : inL Λ v0 11) {r : Mem} (hm : m_X12_image N Λ μ v0 = some r) : MV l yX12_image cX12_image 2 rm_X12_image Λ [.ref v0] μ r := mv_of rfl (Nat.le_of_ble_eq_true rfl) (fun x C _ => tm_X12_image C _ _ _ hv0 hm)
abbrev rm_X12_back : Room := { frames := 0, cells := 0, slots := 0, locals := 0 }
set_option maxRecDepth 20000 in
set_option maxHeartbeats 4000000 in
theorem tb_X12_back_16 {x : Ctx} {Λ : Lay} (C : Cx x cX12_back 2 (some .boolean) RX12 Λ rm_X12_back) (N : Nat) (μ : Mem) (k16 : Int32 × Mem → Option (Int32 × Mem)) (v0 : Nat) (v1 : Int32) (hk16 : ∀ (s : Int32 × Mem) (r : Int32 × Mem), k16 s = some r → J x 2 Λ (QI x Λ r.1 r.2) 16 [(0, .ref v0), (1, .int s.1)] [] (s.2)) (hv0 : inL Λ v0 11) {r : Int32 × Mem} (hm : bd_X12_back_16 N Λ μ k16 v0 v1 = some r) : J x 2 Λ (QI x Λ r.1 r.2) 16 [(0, .ref v0), (1, .int v1)] [] μ := by
  refine j_iload_n C 1 dX12_back_16 rfl ?_
  refine j_sipush C (v := 1222) dX12_back_17 rfl ?_
  refine j_icmp_ge C (tgt := 41) dX12_back_20 (by decide) (fun h1 => ?_) (fun h1 => ?_)
  · replace hm := if_t hm h1
    refine j_aload_n C 0 dX12_back_41 rfl ?_
    refine j_iconst C (v := 0) dX12_back_42 rfl ?_
    obtain ⟨μ2, e3, hm⟩ := lt_some hm
    refine j_putI C fp_X12_78_11 hv0 e3 dX12_back_43 ?_
    refine j_iconst C (v := 1) dX12_back_46 rfl ?_
    obtain rfl := Option.some.inj hm
    exact j_iretz C rfl dX12_back_47
  · replace hm := if_f hm h1
    refine j_aload_n C 0 dX12_back_23 rfl ?_
    obtain ⟨q4, h5, hm⟩ := bd_some hm
    refine j_getR C fg_X12_13_11 hv0 (dr_spec h5).1 dX12_back_24 ?_
    refine j_iload_n C 1 dX12_back_27 rfl ?_
    refine j_aload_n C 0 dX12_back_28 rfl ?_
    obtain ⟨q6, h7, hm⟩ := bd_some hm
    refine j_getR C fg_X12_17_11 hv0 (dr_spec h7).1 dX12_back_29 ?_
    refine j_iload_n C 1 dX12_back_32 rfl ?_
    obtain ⟨h8, hm⟩ := gd_some hm
    refine j_iald C ((dr_spec h7).2) h8 dX12_back_33 ?_
    obtain ⟨h9, hm⟩ := gd_some hm
    obtain ⟨μ10, e11, hm⟩ := lt_some hm
    refine j_iast C ((dr_spec h5).2) h9 e11 dX12_back_34 ?_
    obtain ⟨y12, e13, hm⟩ := lt_some hm
    refine j_iinc C 1 (v := y12) (lv' := [(1, .int y12), (0, .ref v0)]) dX12_back_35 rfl (by rw [e13]; rfl) (by decide) rfl ?_
    refine j_goto C (tgt := 16) dX12_back_38 (by decide) ?_
    refine j_sub [1, 0] rfl ?_
    exact hk16 (y12, μ10) _ hm
set_option maxRecDepth 20000 in
set_option maxHeartbeats 4000000 in
theorem tl_X12_back_16 {x : Ctx} {Λ : Lay} (C : Cx x cX12_back 2 (some .boolean) RX12 Λ rm_X12_back) (N : Nat) (v0 : Nat) (hv0 : inL Λ v0 11) (s : Int32 × Mem) {r : Int32 × Mem} (hm : lp_X12_back_16 N Λ v0 s = some r) : J x 2 Λ (QI x Λ r.1 r.2) 16 [(0, .ref v0), (1, .int s.1)] [] (s.2) :=
  cw_ind (P := fun s r => J x 2 Λ (QI x Λ r.1 r.2) 16 [(0, .ref v0), (1, .int s.1)] [] (s.2)) (fun k hkk s r e => tb_X12_back_16 C _ _ _ _ _ hkk hv0 e) N s r hm
set_option maxRecDepth 20000 in
set_option maxHeartbeats 4000000 in
theorem tm_X12_back {x : Ctx} {Λ : Lay} (C : Cx x cX12_back 2 (some .boolean) RX12 Λ rm_X12_back) (N : Nat) (μ : Mem) (v0 : Nat) (hv0 : inL Λ v0 11) {r : Int32 × Mem} (hm : m_X12_back N Λ μ v0 = some r) : J x 2 Λ (QI x Λ r.1 r.2) 0 [(0, .ref v0)] [] μ := by
  refine j_aload_n C 0 dX12_back_0 rfl ?_
  refine j_iconst C (v := 0) dX12_back_1 rfl ?_
  obtain ⟨μ1, e2, hm⟩ := lt_some hm
  refine j_putI C fp_X12_3_11 hv0 e2 dX12_back_2 ?_
  refine j_aload_n C 0 dX12_back_5 rfl ?_
  refine j_getI C fg_X12_74_11 hv0 dX12_back_6 ?_
  refine j_if_ne C (tgt := 14) dX12_back_9 (by decide) (fun h3 => ?_) (fun h3 => ?_)
  · replace hm := if_f hm h3
    refine j_iconst C (v := 0) dX12_back_14 rfl ?_
    refine j_istore_n C (lv' := [(1, .int 0), (0, .ref v0)]) dX12_back_15 (by decide) rfl ?_
    refine j_sub [1, 0] rfl ?_
    exact tl_X12_back_16 C _ _ hv0 (0, μ1) hm
  · replace hm := if_t hm h3
    refine j_iconst C (v := 0) dX12_back_12 rfl ?_
    obtain rfl := Option.some.inj hm
    exact j_iretz C rfl dX12_back_13
set_option maxRecDepth 20000 in
set_option maxHeartbeats 4000000 in
theorem mc_X12_back (l : Launch) (N : Nat) (Λ : Lay) (μ : Mem) (v0 : Nat) (hv0 : inL Λ v0 11) {r : Int32 × Mem} (hm : m_X12_back N Λ μ v0 = some r) : MI l yX12_back cX12_back 2 (some .boolean) rm_X12_back Λ [.ref v0] μ r.1 r.2 := mi_of rfl (Nat.le_of_ble_eq_true rfl) (fun x C _ => tm_X12_back C _ _ _ hv0 hm)
abbrev rm_X12_remembers : Room := { frames := 0, cells := 0, slots := 0, locals := 0 }
set_option maxRecDepth 20000 in
set_option maxHeartbeats 4000000 in
theorem tb_X12_remembers_55 {x : Ctx} {Λ : Lay} (C : Cx x cX12_remembers 2 none RX12 Λ rm_X12_remembers) (N : Nat) (μ : Mem) (k55 : Int32 × Mem → Option (Mem)) (v0 : Nat) (v1 : Int32) (hk55 : ∀ (s : Int32 × Mem) (r : Mem), k55 s = some r → J x 2 Λ (QV x Λ r) 55 [(0, .ref v0), (1, .int s.1)] [] (s.2)) (hv0 : inL Λ v0 11) {r : Mem} (hm : bd_X12_remembers_55 N Λ μ k55 v0 v1 = some r) : J x 2 Λ (QV x Λ r) 55 [(0, .ref v0), (1, .int v1)] [] μ := by
  refine j_iload_n C 1 dX12_remembers_55 rfl ?_
  refine j_sipush C (v := 373) dX12_remembers_56 rfl ?_
  refine j_icmp_ge C (tgt := 91) dX12_remembers_59 (by decide) (fun h1 => ?_) (fun h1 => ?_)
  · replace hm := if_t hm h1
    obtain rfl := Option.some.inj hm
    exact j_vret C dX12_remembers_91
  · replace hm := if_f hm h1
    refine j_aload_n C 0 dX12_remembers_62 rfl ?_
    obtain ⟨q2, h3, hm⟩ := bd_some hm
    refine j_getR C fg_X12_26_11 hv0 (dr_spec h3).1 dX12_remembers_63 ?_
    refine j_sipush C (v := 373) dX12_remembers_66 rfl ?_
    refine j_aload_n C 0 dX12_remembers_69 rfl ?_
    refine j_getI C fg_X12_78_11 hv0 dX12_remembers_70 ?_
    refine j_iconst C (v := 1) dX12_remembers_73 rfl ?_
    refine j_isub C dX12_remembers_74 ?_
    refine j_imul C dX12_remembers_75 ?_
    refine j_iload_n C 1 dX12_remembers_76 rfl ?_
    refine j_iadd C dX12_remembers_77 ?_
    refine j_aload_n C 0 dX12_remembers_78 rfl ?_
    obtain ⟨q4, h5, hm⟩ := bd_some hm
    refine j_getR C fg_X12_13_11 hv0 (dr_spec h5).1 dX12_remembers_79 ?_
    refine j_iload_n C 1 dX12_remembers_82 rfl ?_
    obtain ⟨h6, hm⟩ := gd_some hm
    refine j_iald C ((dr_spec h5).2) h6 dX12_remembers_83 ?_
    obtain ⟨h7, hm⟩ := gd_some hm
    obtain ⟨μ8, e9, hm⟩ := lt_some hm
    refine j_iast C ((dr_spec h3).2) h7 e9 dX12_remembers_84 ?_
    obtain ⟨y10, e11, hm⟩ := lt_some hm
    refine j_iinc C 1 (v := y10) (lv' := [(1, .int y10), (0, .ref v0)]) dX12_remembers_85 rfl (by rw [e11]; rfl) (by decide) rfl ?_
    refine j_goto C (tgt := 55) dX12_remembers_88 (by decide) ?_
    refine j_sub [1, 0] rfl ?_
    exact hk55 (y10, μ8) _ hm
set_option maxRecDepth 20000 in
set_option maxHeartbeats 4000000 in
theorem tl_X12_remembers_55 {x : Ctx} {Λ : Lay} (C : Cx x cX12_remembers 2 none RX12 Λ rm_X12_remembers) (N : Nat) (v0 : Nat) (hv0 : inL Λ v0 11) (s : Int32 × Mem) {r : Mem} (hm : lp_X12_remembers_55 N Λ v0 s = some r) : J x 2 Λ (QV x Λ r) 55 [(0, .ref v0), (1, .int s.1)] [] (s.2) :=
  cw_ind (P := fun s r => J x 2 Λ (QV x Λ r) 55 [(0, .ref v0), (1, .int s.1)] [] (s.2)) (fun k hkk s r e => tb_X12_remembers_55 C _ _ _ _ _ hkk hv0 e) N s r hm
set_option maxRecDepth 20000 in
set_option maxHeartbeats 4000000 in
theorem tj_X12_remembers_53 {x : Ctx} {Λ : Lay} (C : Cx x cX12_remembers 2 none RX12 Λ rm_X12_remembers) (N : Nat) (μ : Mem) (v0 : Nat) (hv0 : inL Λ v0 11) {r : Mem} (hm : jn_X12_remembers_53 N Λ μ v0 = some r) : J x 2 Λ (QV x Λ r) 53 [(0, .ref v0)] [] μ := by
  refine j_iconst C (v := 0) dX12_remembers_53 rfl ?_
  refine j_istore_n C (lv' := [(1, .int 0), (0, .ref v0)]) dX12_remembers_54 (by decide) rfl ?_
  refine j_sub [1, 0] rfl ?_
  exact tl_X12_remembers_55 C _ _ hv0 (0, μ) hm
set_option maxRecDepth 20000 in
set_option maxHeartbeats 4000000 in
theorem tb_X12_remembers_11 {x : Ctx} {Λ : Lay} (C : Cx x cX12_remembers 2 none RX12 Λ rm_X12_remembers) (N : Nat) (μ : Mem) (k11 : Int32 × Mem → Option (Mem)) (v0 : Nat) (v1 : Int32) (hk11 : ∀ (s : Int32 × Mem) (r : Mem), k11 s = some r → J x 2 Λ (QV x Λ r) 11 [(0, .ref v0), (1, .int s.1)] [] (s.2)) (hv0 : inL Λ v0 11) {r : Mem} (hm : bd_X12_remembers_11 N Λ μ k11 v0 v1 = some r) : J x 2 Λ (QV x Λ r) 11 [(0, .ref v0), (1, .int v1)] [] μ := by
  refine j_iload_n C 1 dX12_remembers_11 rfl ?_
  refine j_sipush C (v := 4103) dX12_remembers_12 rfl ?_
  refine j_icmp_ge C (tgt := 40) dX12_remembers_15 (by decide) (fun h1 => ?_) (fun h1 => ?_)
  · replace hm := if_t hm h1
    refine j_goto C (tgt := 53) dX12_remembers_40 (by decide) ?_
    refine j_sub [0] rfl ?_
    exact tj_X12_remembers_53 C _ _ _ hv0 hm
  · replace hm := if_f hm h1
    refine j_aload_n C 0 dX12_remembers_18 rfl ?_
    obtain ⟨q2, h3, hm⟩ := bd_some hm
    refine j_getR C fg_X12_26_11 hv0 (dr_spec h3).1 dX12_remembers_19 ?_
    refine j_iload_n C 1 dX12_remembers_22 rfl ?_
    refine j_aload_n C 0 dX12_remembers_23 rfl ?_
    obtain ⟨q4, h5, hm⟩ := bd_some hm
    refine j_getR C fg_X12_26_11 hv0 (dr_spec h5).1 dX12_remembers_24 ?_
    refine j_iload_n C 1 dX12_remembers_27 rfl ?_
    refine j_sipush C (v := 373) dX12_remembers_28 rfl ?_
    refine j_iadd C dX12_remembers_31 ?_
    obtain ⟨h6, hm⟩ := gd_some hm
    refine j_iald C ((dr_spec h5).2) h6 dX12_remembers_32 ?_
    obtain ⟨h7, hm⟩ := gd_some hm
    obtain ⟨μ8, e9, hm⟩ := lt_some hm
    refine j_iast C ((dr_spec h3).2) h7 e9 dX12_remembers_33 ?_
    obtain ⟨y10, e11, hm⟩ := lt_some hm
    refine j_iinc C 1 (v := y10) (lv' := [(1, .int y10), (0, .ref v0)]) dX12_remembers_34 rfl (by rw [e11]; rfl) (by decide) rfl ?_
    refine j_goto C (tgt := 11) dX12_remembers_37 (by decide) ?_
    refine j_sub [1, 0] rfl ?_
    exact hk11 (y10, μ8) _ hm
set_option maxRecDepth 20000 in
set_option maxHeartbeats 4000000 in
theorem tl_X12_remembers_11 {x : Ctx} {Λ : Lay} (C : Cx x cX12_remembers 2 none RX12 Λ rm_X12_remembers) (N : Nat) (v0 : Nat) (hv0 : inL Λ v0 11) (s : Int32 × Mem) {r : Mem} (hm : lp_X12_remembers_11 N Λ v0 s = some r) : J x 2 Λ (QV x Λ r) 11 [(0, .ref v0), (1, .int s.1)] [] (s.2) :=
  cw_ind (P := fun s r => J x 2 Λ (QV x Λ r) 11 [(0, .ref v0), (1, .int s.1)] [] (s.2)) (fun k hkk s r e => tb_X12_remembers_11 C _ _ _ _ _ hkk hv0 e) N s r hm
set_option maxRecDepth 20000 in
set_option maxHeartbeats 4000000 in
theorem tm_X12_remembers {x : Ctx} {Λ : Lay} (C : Cx x cX12_remembers 2 none RX12 Λ rm_X12_remembers) (N : Nat) (μ : Mem) (v0 : Nat) (hv0 : inL Λ v0 11) {r : Mem} (hm : m_X12_remembers N Λ μ v0 = some r) : J x 2 Λ (QV x Λ r) 0 [(0, .ref v0)] [] μ := by
  refine j_aload_n C 0 dX12_remembers_0 rfl ?_
  refine j_getI C fg_X12_78_11 hv0 dX12_remembers_1 ?_
  refine j_bipush C (v := 12) dX12_remembers_4 rfl ?_
  refine j_icmp_ne C (tgt := 43) dX12_remembers_6 (by decide) (fun h1 => ?_) (fun h1 => ?_)
  · replace hm := if_f hm h1
    refine j_aload_n C 0 dX12_remembers_43 rfl ?_
    refine j_dup C dX12_remembers_44 rfl ?_
    refine j_getI C fg_X12_78_11 hv0 dX12_remembers_45 ?_
    refine j_iconst C (v := 1) dX12_remembers_48 rfl ?_
    refine j_iadd C dX12_remembers_49 ?_
    obtain ⟨μ2, e3, hm⟩ := lt_some hm
    refine j_putI C fp_X12_78_11 hv0 e3 dX12_remembers_50 ?_
    exact tj_X12_remembers_53 C _ _ _ hv0 hm
  · replace hm := if_t hm h1
    refine j_iconst C (v := 0) dX12_remembers_9 rfl ?_
    refine j_istore_n C (lv' := [(1, .int 0), (0, .ref v0)]) dX12_remembers_10 (by decide) rfl ?_
    refine j_sub [1, 0] rfl ?_
    exact tl_X12_remembers_11 C _ _ hv0 (0, μ) hm
set_option maxRecDepth 20000 in
set_option maxHeartbeats 4000000 in
theorem mc_X12_remembers (l : Launch) (N : Nat) (Λ : Lay) (μ : Mem) (v0 : Nat) (hv0 : inL Λ v0 11) {r : Mem} (hm : m_X12_remembers N Λ μ v0 = some r) : MV l yX12_remembers cX12_remembers 2 rm_X12_remembers Λ [.ref v0] μ r := mv_of rfl (Nat.le_of_ble_eq_true rfl) (fun x C _ => tm_X12_remembers C _ _ _ hv0 hm)
abbrev rm_X12_undo : Room := { frames := 0, cells := 0, slots := 0, locals := 0 }
set_option maxRecDepth 20000 in
set_option maxHeartbeats 4000000 in
theorem tb_X12_undo_26 {x : Ctx} {Λ : Lay} (C : Cx x cX12_undo 2 (some .boolean) RX12 Λ rm_X12_undo) (N : Nat) (μ : Mem) (k26 : Int32 × Mem → Option (Int32 × Mem)) (v0 : Nat) (v1 : Int32) (hk26 : ∀ (s : Int32 × Mem) (r : Int32 × Mem), k26 s = some r → J x 2 Λ (QI x Λ r.1 r.2) 26 [(0, .ref v0), (1, .int s.1)] [] (s.2)) (hv0 : inL Λ v0 11) {r : Int32 × Mem} (hm : bd_X12_undo_26 N Λ μ k26 v0 v1 = some r) : J x 2 Λ (QI x Λ r.1 r.2) 26 [(0, .ref v0), (1, .int v1)] [] μ := by
  refine j_iload_n C 1 dX12_undo_26 rfl ?_
  refine j_sipush C (v := 373) dX12_undo_27 rfl ?_
  refine j_icmp_ge C (tgt := 60) dX12_undo_30 (by decide) (fun h1 => ?_) (fun h1 => ?_)
  · replace hm := if_t hm h1
    refine j_iconst C (v := 1) dX12_undo_60 rfl ?_
    obtain rfl := Option.some.inj hm
    exact j_iretz C rfl dX12_undo_61
  · replace hm := if_f hm h1
    refine j_aload_n C 0 dX12_undo_33 rfl ?_
    obtain ⟨q2, h3, hm⟩ := bd_some hm
    refine j_getR C fg_X12_13_11 hv0 (dr_spec h3).1 dX12_undo_34 ?_
    refine j_iload_n C 1 dX12_undo_37 rfl ?_
    refine j_aload_n C 0 dX12_undo_38 rfl ?_
    obtain ⟨q4, h5, hm⟩ := bd_some hm
    refine j_getR C fg_X12_26_11 hv0 (dr_spec h5).1 dX12_undo_39 ?_
    refine j_sipush C (v := 373) dX12_undo_42 rfl ?_
    refine j_aload_n C 0 dX12_undo_45 rfl ?_
    refine j_getI C fg_X12_78_11 hv0 dX12_undo_46 ?_
    refine j_imul C dX12_undo_49 ?_
    refine j_iload_n C 1 dX12_undo_50 rfl ?_
    refine j_iadd C dX12_undo_51 ?_
    obtain ⟨h6, hm⟩ := gd_some hm
    refine j_iald C ((dr_spec h5).2) h6 dX12_undo_52 ?_
    obtain ⟨h7, hm⟩ := gd_some hm
    obtain ⟨μ8, e9, hm⟩ := lt_some hm
    refine j_iast C ((dr_spec h3).2) h7 e9 dX12_undo_53 ?_
    obtain ⟨y10, e11, hm⟩ := lt_some hm
    refine j_iinc C 1 (v := y10) (lv' := [(1, .int y10), (0, .ref v0)]) dX12_undo_54 rfl (by rw [e11]; rfl) (by decide) rfl ?_
    refine j_goto C (tgt := 26) dX12_undo_57 (by decide) ?_
    refine j_sub [1, 0] rfl ?_
    exact hk26 (y10, μ8) _ hm
set_option maxRecDepth 20000 in
set_option maxHeartbeats 4000000 in
theorem tl_X12_undo_26 {x : Ctx} {Λ : Lay} (C : Cx x cX12_undo 2 (some .boolean) RX12 Λ rm_X12_undo) (N : Nat) (v0 : Nat) (hv0 : inL Λ v0 11) (s : Int32 × Mem) {r : Int32 × Mem} (hm : lp_X12_undo_26 N Λ v0 s = some r) : J x 2 Λ (QI x Λ r.1 r.2) 26 [(0, .ref v0), (1, .int s.1)] [] (s.2) :=
  cw_ind (P := fun s r => J x 2 Λ (QI x Λ r.1 r.2) 26 [(0, .ref v0), (1, .int s.1)] [] (s.2)) (fun k hkk s r e => tb_X12_undo_26 C _ _ _ _ _ hkk hv0 e) N s r hm
set_option maxRecDepth 20000 in
set_option maxHeartbeats 4000000 in
theorem tm_X12_undo {x : Ctx} {Λ : Lay} (C : Cx x cX12_undo 2 (some .boolean) RX12 Λ rm_X12_undo) (N : Nat) (μ : Mem) (v0 : Nat) (hv0 : inL Λ v0 11) {r : Int32 × Mem} (hm : m_X12_undo N Λ μ v0 = some r) : J x 2 Λ (QI x Λ r.1 r.2) 0 [(0, .ref v0)] [] μ := by
  refine j_aload_n C 0 dX12_undo_0 rfl ?_
  refine j_iconst C (v := 0) dX12_undo_1 rfl ?_
  obtain ⟨μ1, e2, hm⟩ := lt_some hm
  refine j_putI C fp_X12_3_11 hv0 e2 dX12_undo_2 ?_
  refine j_aload_n C 0 dX12_undo_5 rfl ?_
  refine j_getI C fg_X12_78_11 hv0 dX12_undo_6 ?_
  refine j_if_ne C (tgt := 14) dX12_undo_9 (by decide) (fun h3 => ?_) (fun h3 => ?_)
  · replace hm := if_f hm h3
    refine j_aload_n C 0 dX12_undo_14 rfl ?_
    refine j_dup C dX12_undo_15 rfl ?_
    refine j_getI C fg_X12_78_11 hv0 dX12_undo_16 ?_
    refine j_iconst C (v := 1) dX12_undo_19 rfl ?_
    refine j_isub C dX12_undo_20 ?_
    obtain ⟨μ4, e5, hm⟩ := lt_some hm
    refine j_putI C fp_X12_78_11 hv0 e5 dX12_undo_21 ?_
    refine j_iconst C (v := 0) dX12_undo_24 rfl ?_
    refine j_istore_n C (lv' := [(1, .int 0), (0, .ref v0)]) dX12_undo_25 (by decide) rfl ?_
    refine j_sub [1, 0] rfl ?_
    exact tl_X12_undo_26 C _ _ hv0 (0, μ4) hm
  · replace hm := if_t hm h3
    refine j_iconst C (v := 0) dX12_undo_12 rfl ?_
    obtain rfl := Option.some.inj hm
    exact j_iretz C rfl dX12_undo_13
set_option maxRecDepth 20000 in
set_option maxHeartbeats 4000000 in
theorem mc_X12_undo (l : Launch) (N : Nat) (Λ : Lay) (μ : Mem) (v0 : Nat) (hv0 : inL Λ v0 11) {r : Int32 × Mem} (hm : m_X12_undo N Λ μ v0 = some r) : MI l yX12_undo cX12_undo 2 (some .boolean) rm_X12_undo Λ [.ref v0] μ r.1 r.2 := mi_of rfl (Nat.le_of_ble_eq_true rfl) (fun x C _ => tm_X12_undo C _ _ _ hv0 hm)
abbrev rm_X12_keepsAll : Room := { frames := 0, cells := 0, slots := 0, locals := 0 }
set_option maxRecDepth 20000 in
set_option maxHeartbeats 4000000 in
theorem tb_X12_keepsAll_2 {x : Ctx} {Λ : Lay} (C : Cx x cX12_keepsAll 2 none RX12 Λ rm_X12_keepsAll) (N : Nat) (μ : Mem) (k2 : Int32 × Mem → Option (Mem)) (v0 : Nat) (v1 : Int32) (hk2 : ∀ (s : Int32 × Mem) (r : Mem), k2 s = some r → J x 2 Λ (QV x Λ r) 2 [(0, .ref v0), (1, .int s.1)] [] (s.2)) (hv0 : inL Λ v0 11) {r : Mem} (hm : bd_X12_keepsAll_2 N Λ μ k2 v0 v1 = some r) : J x 2 Λ (QV x Λ r) 2 [(0, .ref v0), (1, .int v1)] [] μ := by
  refine j_iload_n C 1 dX12_keepsAll_2 rfl ?_
  refine j_sipush C (v := 373) dX12_keepsAll_3 rfl ?_
  refine j_icmp_ge C (tgt := 27) dX12_keepsAll_6 (by decide) (fun h1 => ?_) (fun h1 => ?_)
  · replace hm := if_t hm h1
    obtain rfl := Option.some.inj hm
    exact j_vret C dX12_keepsAll_27
  · replace hm := if_f hm h1
    refine j_aload_n C 0 dX12_keepsAll_9 rfl ?_
    obtain ⟨q2, h3, hm⟩ := bd_some hm
    refine j_getR C fg_X12_23_11 hv0 (dr_spec h3).1 dX12_keepsAll_10 ?_
    refine j_iload_n C 1 dX12_keepsAll_13 rfl ?_
    refine j_aload_n C 0 dX12_keepsAll_14 rfl ?_
    obtain ⟨q4, h5, hm⟩ := bd_some hm
    refine j_getR C fg_X12_13_11 hv0 (dr_spec h5).1 dX12_keepsAll_15 ?_
    refine j_iload_n C 1 dX12_keepsAll_18 rfl ?_
    obtain ⟨h6, hm⟩ := gd_some hm
    refine j_iald C ((dr_spec h5).2) h6 dX12_keepsAll_19 ?_
    obtain ⟨h7, hm⟩ := gd_some hm
    obtain ⟨μ8, e9, hm⟩ := lt_some hm
    refine j_iast C ((dr_spec h3).2) h7 e9 dX12_keepsAll_20 ?_
    obtain ⟨y10, e11, hm⟩ := lt_some hm
    refine j_iinc C 1 (v := y10) (lv' := [(1, .int y10), (0, .ref v0)]) dX12_keepsAll_21 rfl (by rw [e11]; rfl) (by decide) rfl ?_
    refine j_goto C (tgt := 2) dX12_keepsAll_24 (by decide) ?_
    refine j_sub [1, 0] rfl ?_
    exact hk2 (y10, μ8) _ hm
set_option maxRecDepth 20000 in
set_option maxHeartbeats 4000000 in
theorem tl_X12_keepsAll_2 {x : Ctx} {Λ : Lay} (C : Cx x cX12_keepsAll 2 none RX12 Λ rm_X12_keepsAll) (N : Nat) (v0 : Nat) (hv0 : inL Λ v0 11) (s : Int32 × Mem) {r : Mem} (hm : lp_X12_keepsAll_2 N Λ v0 s = some r) : J x 2 Λ (QV x Λ r) 2 [(0, .ref v0), (1, .int s.1)] [] (s.2) :=
  cw_ind (P := fun s r => J x 2 Λ (QV x Λ r) 2 [(0, .ref v0), (1, .int s.1)] [] (s.2)) (fun k hkk s r e => tb_X12_keepsAll_2 C _ _ _ _ _ hkk hv0 e) N s r hm
set_option maxRecDepth 20000 in
set_option maxHeartbeats 4000000 in
theorem tm_X12_keepsAll {x : Ctx} {Λ : Lay} (C : Cx x cX12_keepsAll 2 none RX12 Λ rm_X12_keepsAll) (N : Nat) (μ : Mem) (v0 : Nat) (hv0 : inL Λ v0 11) {r : Mem} (hm : m_X12_keepsAll N Λ μ v0 = some r) : J x 2 Λ (QV x Λ r) 0 [(0, .ref v0)] [] μ := by
  refine j_iconst C (v := 0) dX12_keepsAll_0 rfl ?_
  refine j_istore_n C (lv' := [(1, .int 0), (0, .ref v0)]) dX12_keepsAll_1 (by decide) rfl ?_
  refine j_sub [1, 0] rfl ?_
  exact tl_X12_keepsAll_2 C _ _ hv0 (0, μ) hm
set_option maxRecDepth 20000 in
set_option maxHeartbeats 4000000 in
theorem mc_X12_keepsAll (l : Launch) (N : Nat) (Λ : Lay) (μ : Mem) (v0 : Nat) (hv0 : inL Λ v0 11) {r : Mem} (hm : m_X12_keepsAll N Λ μ v0 = some r) : MV l yX12_keepsAll cX12_keepsAll 2 rm_X12_keepsAll Λ [.ref v0] μ r := mv_of rfl (Nat.le_of_ble_eq_true rfl) (fun x C _ => tm_X12_keepsAll C _ _ _ hv0 hm)
abbrev rm_X12_bringsBack : Room := { frames := 0, cells := 0, slots := 0, locals := 0 }
set_option maxRecDepth 20000 in
set_option maxHeartbeats 4000000 in
theorem tb_X12_bringsBack_2 {x : Ctx} {Λ : Lay} (C : Cx x cX12_bringsBack 2 none RX12 Λ rm_X12_bringsBack) (N : Nat) (μ : Mem) (k2 : Int32 × Mem → Option (Mem)) (v0 : Nat) (v1 : Int32) (hk2 : ∀ (s : Int32 × Mem) (r : Mem), k2 s = some r → J x 2 Λ (QV x Λ r) 2 [(0, .ref v0), (1, .int s.1)] [] (s.2)) (hv0 : inL Λ v0 11) {r : Mem} (hm : bd_X12_bringsBack_2 N Λ μ k2 v0 v1 = some r) : J x 2 Λ (QV x Λ r) 2 [(0, .ref v0), (1, .int v1)] [] μ := by
  refine j_iload_n C 1 dX12_bringsBack_2 rfl ?_
  refine j_sipush C (v := 373) dX12_bringsBack_3 rfl ?_
  refine j_icmp_ge C (tgt := 27) dX12_bringsBack_6 (by decide) (fun h1 => ?_) (fun h1 => ?_)
  · replace hm := if_t hm h1
    obtain rfl := Option.some.inj hm
    exact j_vret C dX12_bringsBack_27
  · replace hm := if_f hm h1
    refine j_aload_n C 0 dX12_bringsBack_9 rfl ?_
    obtain ⟨q2, h3, hm⟩ := bd_some hm
    refine j_getR C fg_X12_13_11 hv0 (dr_spec h3).1 dX12_bringsBack_10 ?_
    refine j_iload_n C 1 dX12_bringsBack_13 rfl ?_
    refine j_aload_n C 0 dX12_bringsBack_14 rfl ?_
    obtain ⟨q4, h5, hm⟩ := bd_some hm
    refine j_getR C fg_X12_23_11 hv0 (dr_spec h5).1 dX12_bringsBack_15 ?_
    refine j_iload_n C 1 dX12_bringsBack_18 rfl ?_
    obtain ⟨h6, hm⟩ := gd_some hm
    refine j_iald C ((dr_spec h5).2) h6 dX12_bringsBack_19 ?_
    obtain ⟨h7, hm⟩ := gd_some hm
    obtain ⟨μ8, e9, hm⟩ := lt_some hm
    refine j_iast C ((dr_spec h3).2) h7 e9 dX12_bringsBack_20 ?_
    obtain ⟨y10, e11, hm⟩ := lt_some hm
    refine j_iinc C 1 (v := y10) (lv' := [(1, .int y10), (0, .ref v0)]) dX12_bringsBack_21 rfl (by rw [e11]; rfl) (by decide) rfl ?_
    refine j_goto C (tgt := 2) dX12_bringsBack_24 (by decide) ?_
    refine j_sub [1, 0] rfl ?_
    exact hk2 (y10, μ8) _ hm
set_option maxRecDepth 20000 in
set_option maxHeartbeats 4000000 in
theorem tl_X12_bringsBack_2 {x : Ctx} {Λ : Lay} (C : Cx x cX12_bringsBack 2 none RX12 Λ rm_X12_bringsBack) (N : Nat) (v0 : Nat) (hv0 : inL Λ v0 11) (s : Int32 × Mem) {r : Mem} (hm : lp_X12_bringsBack_2 N Λ v0 s = some r) : J x 2 Λ (QV x Λ r) 2 [(0, .ref v0), (1, .int s.1)] [] (s.2) :=
  cw_ind (P := fun s r => J x 2 Λ (QV x Λ r) 2 [(0, .ref v0), (1, .int s.1)] [] (s.2)) (fun k hkk s r e => tb_X12_bringsBack_2 C _ _ _ _ _ hkk hv0 e) N s r hm
set_option maxRecDepth 20000 in
set_option maxHeartbeats 4000000 in
theorem tm_X12_bringsBack {x : Ctx} {Λ : Lay} (C : Cx x cX12_bringsBack 2 none RX12 Λ rm_X12_bringsBack) (N : Nat) (μ : Mem) (v0 : Nat) (hv0 : inL Λ v0 11) {r : Mem} (hm : m_X12_bringsBack N Λ μ v0 = some r) : J x 2 Λ (QV x Λ r) 0 [(0, .ref v0)] [] μ := by
  refine j_iconst C (v := 0) dX12_bringsBack_0 rfl ?_
  refine j_istore_n C (lv' := [(1, .int 0), (0, .ref v0)]) dX12_bringsBack_1 (by decide) rfl ?_
  refine j_sub [1, 0] rfl ?_
  exact tl_X12_bringsBack_2 C _ _ hv0 (0, μ) hm
set_option maxRecDepth 20000 in
set_option maxHeartbeats 4000000 in
theorem mc_X12_bringsBack (l : Launch) (N : Nat) (Λ : Lay) (μ : Mem) (v0 : Nat) (hv0 : inL Λ v0 11) {r : Mem} (hm : m_X12_bringsBack N Λ μ v0 = some r) : MV l yX12_bringsBack cX12_bringsBack 2 rm_X12_bringsBack Λ [.ref v0] μ r := mv_of rfl (Nat.le_of_ble_eq_true rfl) (fun x C _ => tm_X12_bringsBack C _ _ _ hv0 hm)
abbrev rm_X12_ships : Room := { frames := 0, cells := 0, slots := 0, locals := 0 }
set_option maxRecDepth 20000 in
set_option maxHeartbeats 4000000 in
theorem tm_X12_ships {x : Ctx} {Λ : Lay} (C : Cx x cX12_ships 1 (some .int) RX12 Λ rm_X12_ships) (N : Nat) (μ : Mem) (v0 : Nat) (hv0 : inL Λ v0 11) {r : Int32} (hm : m_X12_ships N Λ μ v0 = some r) : J x 1 Λ (QI x Λ r μ) 0 [(0, .ref v0)] [] μ := by
  refine j_aload_n C 0 dX12_ships_0 rfl ?_
  obtain ⟨q1, h2, hm⟩ := bd_some hm
  refine j_getR C fg_X12_13_11 hv0 (dr_spec h2).1 dX12_ships_1 ?_
  refine j_iconst C (v := 0) dX12_ships_4 rfl ?_
  obtain ⟨h3, hm⟩ := gd_some hm
  refine j_iald C ((dr_spec h2).2) h3 dX12_ships_5 ?_
  obtain rfl := Option.some.inj hm
  exact j_ireti C dX12_ships_6
set_option maxRecDepth 20000 in
set_option maxHeartbeats 4000000 in
theorem mc_X12_ships (l : Launch) (N : Nat) (Λ : Lay) (μ : Mem) (v0 : Nat) (hv0 : inL Λ v0 11) {r : Int32} (hm : m_X12_ships N Λ μ v0 = some r) : MI l yX12_ships cX12_ships 1 (some .int) rm_X12_ships Λ [.ref v0] μ r μ := mi_of rfl (Nat.le_of_ble_eq_true rfl) (fun x C _ => tm_X12_ships C _ _ _ hv0 hm)
abbrev rm_X12_shipAt : Room := { frames := 0, cells := 0, slots := 0, locals := 0 }
set_option maxRecDepth 20000 in
set_option maxHeartbeats 4000000 in
theorem tm_X12_shipAt {x : Ctx} {Λ : Lay} (C : Cx x cX12_shipAt 2 (some .int) RX12 Λ rm_X12_shipAt) (N : Nat) (μ : Mem) (v0 : Int32) (v1 : Int32) {r : Int32} (hm : m_X12_shipAt N Λ μ v0 v1 = some r) : J x 2 Λ (QI x Λ r μ) 0 [(0, .int v0), (1, .int v1)] [] μ := by
  refine j_bipush C (v := 25) dX12_shipAt_0 rfl ?_
  refine j_bipush C (v := 6) dX12_shipAt_2 rfl ?_
  refine j_iload_n C 0 dX12_shipAt_4 rfl ?_
  refine j_imul C dX12_shipAt_5 ?_
  refine j_iadd C dX12_shipAt_6 ?_
  refine j_iload_n C 1 dX12_shipAt_7 rfl ?_
  refine j_iadd C dX12_shipAt_8 ?_
  obtain rfl := Option.some.inj hm
  exact j_ireti C dX12_shipAt_9
set_option maxRecDepth 20000 in
set_option maxHeartbeats 4000000 in
theorem mc_X12_shipAt (l : Launch) (N : Nat) (Λ : Lay) (μ : Mem) (v0 : Int32) (v1 : Int32) {r : Int32} (hm : m_X12_shipAt N Λ μ v0 v1 = some r) : MI l yX12_shipAt cX12_shipAt 2 (some .int) rm_X12_shipAt Λ [.int v0, .int v1] μ r μ := mi_of rfl (Nat.le_of_ble_eq_true rfl) (fun x C _ => tm_X12_shipAt C _ _ _ _  hm)
abbrev rm_X12_of : Room := { frames := 1, cells := 0, slots := 0, locals := 21 }
set_option maxRecDepth 20000 in
set_option maxHeartbeats 4000000 in
theorem tm_X12_of {x : Ctx} {Λ : Lay} (C : Cx x cX12_of 3 (some .int) RX12 Λ rm_X12_of) (N : Nat) (μ : Mem) (v0 : Nat) (v1 : Int32) (v2 : Int32) (hv0 : inL Λ v0 11) {r : Int32} (hm : m_X12_of N Λ μ v0 v1 v2 = some r) : J x 3 Λ (QI x Λ r μ) 0 [(0, .ref v0), (1, .int v1), (2, .int v2)] [] μ := by
  refine j_aload_n C 0 dX12_of_0 rfl ?_
  obtain ⟨q1, h2, hm⟩ := bd_some hm
  refine j_getR C fg_X12_13_11 hv0 (dr_spec h2).1 dX12_of_1 ?_
  refine j_iload_n C 1 dX12_of_4 rfl ?_
  refine j_iload_n C 2 dX12_of_5 rfl ?_
  obtain ⟨r3, h4, hm⟩ := bd_some hm
  refine call_I (run_LS C ls_X12_81 ⟨rfl, rfl, Nat.le_of_ble_eq_true rfl, Nat.le_of_ble_eq_true rfl⟩ (As := [.int v1, .int v2]) rfl rfl (Nat.le_of_ble_eq_true rfl) dX12_of_6 (mc_X12_shipAt _ _ _ _ _ _  h4)) ?_
  obtain ⟨h5, hm⟩ := gd_some hm
  refine j_iald C ((dr_spec h2).2) h5 dX12_of_9 ?_
  obtain rfl := Option.some.inj hm
  exact j_ireti C dX12_of_10
set_option maxRecDepth 20000 in
set_option maxHeartbeats 4000000 in
theorem mc_X12_of (l : Launch) (N : Nat) (Λ : Lay) (μ : Mem) (v0 : Nat) (v1 : Int32) (v2 : Int32) (hv0 : inL Λ v0 11) {r : Int32} (hm : m_X12_of N Λ μ v0 v1 v2 = some r) : MI l yX12_of cX12_of 3 (some .int) rm_X12_of Λ [.ref v0, .int v1, .int v2] μ r μ := mi_of rfl (Nat.le_of_ble_eq_true rfl) (fun x C _ => tm_X12_of C _ _ _ _ _ hv0 hm)
abbrev rm_X12_isDocked : Room := { frames := 2, cells := 0, slots := 0, locals := 43 }
set_option maxRecDepth 20000 in
set_option maxHeartbeats 4000000 in
theorem tj_X12_isDocked_15 {x : Ctx} {Λ : Lay} (C : Cx x cX12_isDocked 2 (some .boolean) RX12 Λ rm_X12_isDocked) (N : Nat) (μ : Mem) (s0 : Int32) {r : Int32} (hm : jn_X12_isDocked_15 N Λ μ s0 = some r) : J x 2 Λ (QI x Λ r μ) 15 [] [.int s0] μ := by
  obtain ⟨h1, hm⟩ := gd_some hm
  obtain rfl := Option.some.inj hm
  exact j_iretz C h1 dX12_isDocked_15
set_option maxRecDepth 20000 in
set_option maxHeartbeats 4000000 in
theorem tm_X12_isDocked {x : Ctx} {Λ : Lay} (C : Cx x cX12_isDocked 2 (some .boolean) RX12 Λ rm_X12_isDocked) (N : Nat) (μ : Mem) (v0 : Nat) (v1 : Int32) (hv0 : inL Λ v0 11) {r : Int32} (hm : m_X12_isDocked N Λ μ v0 v1 = some r) : J x 2 Λ (QI x Λ r μ) 0 [(0, .ref v0), (1, .int v1)] [] μ := by
  refine j_aload_n C 0 dX12_isDocked_0 rfl ?_
  refine j_iload_n C 1 dX12_isDocked_1 rfl ?_
  refine j_iconst C (v := 3) dX12_isDocked_2 rfl ?_
  obtain ⟨r1, h2, hm⟩ := bd_some hm
  refine call_I (run_LV C lk_X12_85 ⟨rfl, rfl, Nat.le_of_ble_eq_true rfl, Nat.le_of_ble_eq_true rfl⟩ (As := [.int v1, .int 3]) hv0 rfl rfl (Nat.le_of_ble_eq_true rfl) dX12_isDocked_3 (mc_X12_of _ _ _ _ _ _ _ hv0 h2)) ?_
  refine j_iconst C (v := 1) dX12_isDocked_6 rfl ?_
  refine j_icmp_ne C (tgt := 14) dX12_isDocked_7 (by decide) (fun h3 => ?_) (fun h3 => ?_)
  · replace hm := if_f hm h3
    refine j_iconst C (v := 0) dX12_isDocked_14 rfl ?_
    refine j_sub [] rfl ?_
    exact tj_X12_isDocked_15 C _ _ _  hm
  · replace hm := if_t hm h3
    refine j_iconst C (v := 1) dX12_isDocked_10 rfl ?_
    refine j_goto C (tgt := 15) dX12_isDocked_11 (by decide) ?_
    refine j_sub [] rfl ?_
    exact tj_X12_isDocked_15 C _ _ _  hm
set_option maxRecDepth 20000 in
set_option maxHeartbeats 4000000 in
theorem mc_X12_isDocked (l : Launch) (N : Nat) (Λ : Lay) (μ : Mem) (v0 : Nat) (v1 : Int32) (hv0 : inL Λ v0 11) {r : Int32} (hm : m_X12_isDocked N Λ μ v0 v1 = some r) : MI l yX12_isDocked cX12_isDocked 2 (some .boolean) rm_X12_isDocked Λ [.ref v0, .int v1] μ r μ := mi_of rfl (Nat.le_of_ble_eq_true rfl) (fun x C _ => tm_X12_isDocked C _ _ _ _ hv0 hm)
abbrev rm_X12_run : Room := { frames := 0, cells := 0, slots := 0, locals := 0 }
set_option maxRecDepth 20000 in
set_option maxHeartbeats 4000000 in
theorem tm_X12_run {x : Ctx} {Λ : Lay} (C : Cx x cX12_run 2 (some .int) RX12 Λ rm_X12_run) (N : Nat) (μ : Mem) (v0 : Int32) (v1 : Int32) {r : Int32} (hm : m_X12_run N Λ μ v0 v1 = some r) : J x 2 Λ (QI x Λ r μ) 0 [(0, .int v0), (1, .int v1)] [] μ := by
  refine j_iconst C (v := 1) dX12_run_0 rfl ?_
  refine j_iload_n C 1 dX12_run_1 rfl ?_
  refine j_ishl C dX12_run_2 ?_
  refine j_iconst C (v := 1) dX12_run_3 rfl ?_
  refine j_isub C dX12_run_4 ?_
  refine j_iload_n C 0 dX12_run_5 rfl ?_
  refine j_ishl C dX12_run_6 ?_
  obtain rfl := Option.some.inj hm
  exact j_ireti C dX12_run_7
set_option maxRecDepth 20000 in
set_option maxHeartbeats 4000000 in
theorem mc_X12_run (l : Launch) (N : Nat) (Λ : Lay) (μ : Mem) (v0 : Int32) (v1 : Int32) {r : Int32} (hm : m_X12_run N Λ μ v0 v1 = some r) : MI l yX12_run cX12_run 2 (some .int) rm_X12_run Λ [.int v0, .int v1] μ r μ := mi_of rfl (Nat.le_of_ble_eq_true rfl) (fun x C _ => tm_X12_run C _ _ _ _  hm)
abbrev rm_X12_placesOf : Room := { frames := 3, cells := 0, slots := 0, locals := 64 }
set_option maxRecDepth 20000 in
set_option maxHeartbeats 4000000 in
theorem tj_X12_placesOf_27 {x : Ctx} {Λ : Lay} (C : Cx x cX12_placesOf 2 (some .int) RX12 Λ rm_X12_placesOf) (N : Nat) (μ : Mem) (s0 : Int32) {r : Int32} (hm : jn_X12_placesOf_27 N Λ μ s0 = some r) : J x 2 Λ (QI x Λ r μ) 27 [] [.int s0] μ := by
  obtain rfl := Option.some.inj hm
  exact j_ireti C dX12_placesOf_27
set_option maxRecDepth 20000 in
set_option maxHeartbeats 4000000 in
theorem tm_X12_placesOf {x : Ctx} {Λ : Lay} (C : Cx x cX12_placesOf 2 (some .int) RX12 Λ rm_X12_placesOf) (N : Nat) (μ : Mem) (v0 : Nat) (v1 : Int32) (hv0 : inL Λ v0 11) {r : Int32} (hm : m_X12_placesOf N Λ μ v0 v1 = some r) : J x 2 Λ (QI x Λ r μ) 0 [(0, .ref v0), (1, .int v1)] [] μ := by
  refine j_aload_n C 0 dX12_placesOf_0 rfl ?_
  refine j_iload_n C 1 dX12_placesOf_1 rfl ?_
  obtain ⟨r1, h2, hm⟩ := bd_some hm
  refine call_I (run_LV C lk_X12_88 ⟨rfl, rfl, Nat.le_of_ble_eq_true rfl, Nat.le_of_ble_eq_true rfl⟩ (As := [.int v1]) hv0 rfl rfl (Nat.le_of_ble_eq_true rfl) dX12_placesOf_2 (mc_X12_isDocked _ _ _ _ _ _ hv0 h2)) ?_
  refine j_if_eq C (tgt := 26) dX12_placesOf_5 (by decide) (fun h3 => ?_) (fun h3 => ?_)
  · replace hm := if_t hm h3
    refine j_iconst C (v := 0) dX12_placesOf_26 rfl ?_
    refine j_sub [] rfl ?_
    exact tj_X12_placesOf_27 C _ _ _  hm
  · replace hm := if_f hm h3
    refine j_aload_n C 0 dX12_placesOf_8 rfl ?_
    refine j_iload_n C 1 dX12_placesOf_9 rfl ?_
    refine j_iconst C (v := 4) dX12_placesOf_10 rfl ?_
    obtain ⟨r4, h5, hm⟩ := bd_some hm
    refine call_I (run_LV C lk_X12_85 ⟨rfl, rfl, Nat.le_of_ble_eq_true rfl, Nat.le_of_ble_eq_true rfl⟩ (As := [.int v1, .int 4]) hv0 rfl rfl (Nat.le_of_ble_eq_true rfl) dX12_placesOf_11 (mc_X12_of _ _ _ _ _ _ _ hv0 h5)) ?_
    refine j_aload_n C 0 dX12_placesOf_14 rfl ?_
    refine j_iload_n C 1 dX12_placesOf_15 rfl ?_
    refine j_iconst C (v := 0) dX12_placesOf_16 rfl ?_
    obtain ⟨r6, h7, hm⟩ := bd_some hm
    refine call_I (run_LV C lk_X12_85 ⟨rfl, rfl, Nat.le_of_ble_eq_true rfl, Nat.le_of_ble_eq_true rfl⟩ (As := [.int v1, .int 0]) hv0 rfl rfl (Nat.le_of_ble_eq_true rfl) dX12_placesOf_17 (mc_X12_of _ _ _ _ _ _ _ hv0 h7)) ?_
    obtain ⟨r8, h9, hm⟩ := bd_some hm
    refine call_I (run_LS C ls_X12_92 ⟨rfl, rfl, Nat.le_of_ble_eq_true rfl, Nat.le_of_ble_eq_true rfl⟩ (As := [.int r4, .int r6]) rfl rfl (Nat.le_of_ble_eq_true rfl) dX12_placesOf_20 (mc_X12_run _ _ _ _ _ _  h9)) ?_
    refine j_goto C (tgt := 27) dX12_placesOf_23 (by decide) ?_
    refine j_sub [] rfl ?_
    exact tj_X12_placesOf_27 C _ _ _  hm
set_option maxRecDepth 20000 in
set_option maxHeartbeats 4000000 in
theorem mc_X12_placesOf (l : Launch) (N : Nat) (Λ : Lay) (μ : Mem) (v0 : Nat) (v1 : Int32) (hv0 : inL Λ v0 11) {r : Int32} (hm : m_X12_placesOf N Λ μ v0 v1 = some r) : MI l yX12_placesOf cX12_placesOf 2 (some .int) rm_X12_placesOf Λ [.ref v0, .int v1] μ r μ := mi_of rfl (Nat.le_of_ble_eq_true rfl) (fun x C _ => tm_X12_placesOf C _ _ _ _ hv0 hm)
abbrev rm_X12_taken : Room := { frames := 4, cells := 0, slots := 0, locals := 85 }
set_option maxRecDepth 20000 in
set_option maxHeartbeats 4000000 in
theorem tb_X12_taken_4 {x : Ctx} {Λ : Lay} (C : Cx x cX12_taken 3 (some .int) RX12 Λ rm_X12_taken) (N : Nat) (μ : Mem) (k4 : Int32 × Int32 → Option (Int32)) (v0 : Nat) (v1 : Int32) (v2 : Int32) (hk4 : ∀ (s : Int32 × Int32) (r : Int32), k4 s = some r → J x 3 Λ (QI x Λ r μ) 4 [(0, .ref v0), (1, .int s.1), (2, .int s.2)] [] (μ)) (hv0 : inL Λ v0 11) {r : Int32} (hm : bd_X12_taken_4 N Λ μ k4 v0 v1 v2 = some r) : J x 3 Λ (QI x Λ r μ) 4 [(0, .ref v0), (1, .int v1), (2, .int v2)] [] μ := by
  refine j_iload_n C 2 dX12_taken_4 rfl ?_
  refine j_aload_n C 0 dX12_taken_5 rfl ?_
  obtain ⟨r1, h2, hm⟩ := bd_some hm
  refine call_I (run_LV C lk_X12_95 ⟨rfl, rfl, Nat.le_of_ble_eq_true rfl, Nat.le_of_ble_eq_true rfl⟩ (As := []) hv0 rfl rfl (Nat.le_of_ble_eq_true rfl) dX12_taken_6 (mc_X12_ships _ _ _ _ _ hv0 h2)) ?_
  refine j_icmp_ge C (tgt := 26) dX12_taken_9 (by decide) (fun h3 => ?_) (fun h3 => ?_)
  · replace hm := if_t hm h3
    refine j_iload_n C 1 dX12_taken_26 rfl ?_
    obtain rfl := Option.some.inj hm
    exact j_ireti C dX12_taken_27
  · replace hm := if_f hm h3
    refine j_iload_n C 1 dX12_taken_12 rfl ?_
    refine j_aload_n C 0 dX12_taken_13 rfl ?_
    refine j_iload_n C 2 dX12_taken_14 rfl ?_
    obtain ⟨r4, h5, hm⟩ := bd_some hm
    refine call_I (run_LV C lk_X12_99 ⟨rfl, rfl, Nat.le_of_ble_eq_true rfl, Nat.le_of_ble_eq_true rfl⟩ (As := [.int v2]) hv0 rfl rfl (Nat.le_of_ble_eq_true rfl) dX12_taken_15 (mc_X12_placesOf _ _ _ _ _ _ hv0 h5)) ?_
    refine j_ior C dX12_taken_18 ?_
    obtain ⟨y6, e7, hm⟩ := lt_some hm
    refine j_topi e7 ?_
    refine j_istore_n C (lv' := [(1, .int y6), (0, .ref v0), (2, .int v2)]) dX12_taken_19 (by decide) rfl ?_
    obtain ⟨y8, e9, hm⟩ := lt_some hm
    refine j_iinc C 2 (v := y8) (lv' := [(2, .int y8), (1, .int y6), (0, .ref v0)]) dX12_taken_20 rfl (by rw [e9]; rfl) (by decide) rfl ?_
    refine j_goto C (tgt := 4) dX12_taken_23 (by decide) ?_
    refine j_sub [2, 1, 0] rfl ?_
    exact hk4 (y6, y8) _ hm
set_option maxRecDepth 20000 in
set_option maxHeartbeats 4000000 in
theorem tl_X12_taken_4 {x : Ctx} {Λ : Lay} (C : Cx x cX12_taken 3 (some .int) RX12 Λ rm_X12_taken) (N : Nat) (μ : Mem) (v0 : Nat) (hv0 : inL Λ v0 11) (s : Int32 × Int32) {r : Int32} (hm : lp_X12_taken_4 N Λ μ v0 s = some r) : J x 3 Λ (QI x Λ r μ) 4 [(0, .ref v0), (1, .int s.1), (2, .int s.2)] [] (μ) :=
  cw_ind (P := fun s r => J x 3 Λ (QI x Λ r μ) 4 [(0, .ref v0), (1, .int s.1), (2, .int s.2)] [] (μ)) (fun k hkk s r e => tb_X12_taken_4 C _ _ _ _ _ _ hkk hv0 e) N s r hm
set_option maxRecDepth 20000 in
set_option maxHeartbeats 4000000 in
theorem tm_X12_taken {x : Ctx} {Λ : Lay} (C : Cx x cX12_taken 3 (some .int) RX12 Λ rm_X12_taken) (N : Nat) (μ : Mem) (v0 : Nat) (hv0 : inL Λ v0 11) {r : Int32} (hm : m_X12_taken N Λ μ v0 = some r) : J x 3 Λ (QI x Λ r μ) 0 [(0, .ref v0)] [] μ := by
  refine j_iconst C (v := 0) dX12_taken_0 rfl ?_
  refine j_istore_n C (lv' := [(1, .int 0), (0, .ref v0)]) dX12_taken_1 (by decide) rfl ?_
  refine j_iconst C (v := 0) dX12_taken_2 rfl ?_
  refine j_istore_n C (lv' := [(2, .int 0), (1, .int 0), (0, .ref v0)]) dX12_taken_3 (by decide) rfl ?_
  refine j_sub [2, 1, 0] rfl ?_
  exact tl_X12_taken_4 C _ _ _ hv0 (0, 0) hm
set_option maxRecDepth 20000 in
set_option maxHeartbeats 4000000 in
theorem mc_X12_taken (l : Launch) (N : Nat) (Λ : Lay) (μ : Mem) (v0 : Nat) (hv0 : inL Λ v0 11) {r : Int32} (hm : m_X12_taken N Λ μ v0 = some r) : MI l yX12_taken cX12_taken 3 (some .int) rm_X12_taken Λ [.ref v0] μ r μ := mi_of rfl (Nat.le_of_ble_eq_true rfl) (fun x C _ => tm_X12_taken C _ _ _ hv0 hm)
abbrev rm_X12_fitsIn : Room := { frames := 1, cells := 0, slots := 0, locals := 21 }
set_option maxRecDepth 20000 in
set_option maxHeartbeats 4000000 in
theorem tj_X12_fitsIn_27 {x : Ctx} {Λ : Lay} (C : Cx x cX12_fitsIn 3 (some .boolean) RX12 Λ rm_X12_fitsIn) (N : Nat) (μ : Mem) (s0 : Int32) {r : Int32} (hm : jn_X12_fitsIn_27 N Λ μ s0 = some r) : J x 3 Λ (QI x Λ r μ) 27 [] [.int s0] μ := by
  obtain ⟨h1, hm⟩ := gd_some hm
  obtain rfl := Option.some.inj hm
  exact j_iretz C h1 dX12_fitsIn_27
set_option maxRecDepth 20000 in
set_option maxHeartbeats 4000000 in
theorem tj_X12_fitsIn_26 {x : Ctx} {Λ : Lay} (C : Cx x cX12_fitsIn 3 (some .boolean) RX12 Λ rm_X12_fitsIn) (N : Nat) (μ : Mem) {r : Int32} (hm : jn_X12_fitsIn_26 N Λ μ = some r) : J x 3 Λ (QI x Λ r μ) 26 [] [] μ := by
  refine j_iconst C (v := 0) dX12_fitsIn_26 rfl ?_
  exact tj_X12_fitsIn_27 C _ _ _  hm
set_option maxRecDepth 20000 in
set_option maxHeartbeats 4000000 in
theorem tm_X12_fitsIn {x : Ctx} {Λ : Lay} (C : Cx x cX12_fitsIn 3 (some .boolean) RX12 Λ rm_X12_fitsIn) (N : Nat) (μ : Mem) (v0 : Int32) (v1 : Int32) (v2 : Int32) {r : Int32} (hm : m_X12_fitsIn N Λ μ v0 v1 v2 = some r) : J x 3 Λ (QI x Λ r μ) 0 [(0, .int v0), (1, .int v1), (2, .int v2)] [] μ := by
  refine j_iload_n C 1 dX12_fitsIn_0 rfl ?_
  refine j_if_lt C (tgt := 26) dX12_fitsIn_1 (by decide) (fun h1 => ?_) (fun h1 => ?_)
  · replace hm := if_t hm h1
    refine j_sub [] rfl ?_
    exact tj_X12_fitsIn_26 C _ _  hm
  · replace hm := if_f hm h1
    refine j_iload_n C 1 dX12_fitsIn_4 rfl ?_
    refine j_iload_n C 2 dX12_fitsIn_5 rfl ?_
    refine j_iadd C dX12_fitsIn_6 ?_
    refine j_bipush C (v := 24) dX12_fitsIn_7 rfl ?_
    refine j_icmp_gt C (tgt := 26) dX12_fitsIn_9 (by decide) (fun h2 => ?_) (fun h2 => ?_)
    · replace hm := if_t hm h2
      refine j_sub [] rfl ?_
      exact tj_X12_fitsIn_26 C _ _  hm
    · replace hm := if_f hm h2
      refine j_iload_n C 0 dX12_fitsIn_12 rfl ?_
      refine j_iload_n C 1 dX12_fitsIn_13 rfl ?_
      refine j_iload_n C 2 dX12_fitsIn_14 rfl ?_
      obtain ⟨r3, h4, hm⟩ := bd_some hm
      refine call_I (run_LS C ls_X12_92 ⟨rfl, rfl, Nat.le_of_ble_eq_true rfl, Nat.le_of_ble_eq_true rfl⟩ (As := [.int v1, .int v2]) rfl rfl (Nat.le_of_ble_eq_true rfl) dX12_fitsIn_15 (mc_X12_run _ _ _ _ _ _  h4)) ?_
      refine j_iand C dX12_fitsIn_18 ?_
      refine j_if_ne C (tgt := 26) dX12_fitsIn_19 (by decide) (fun h5 => ?_) (fun h5 => ?_)
      · replace hm := if_f hm h5
        refine j_sub [] rfl ?_
        exact tj_X12_fitsIn_26 C _ _  hm
      · replace hm := if_t hm h5
        refine j_iconst C (v := 1) dX12_fitsIn_22 rfl ?_
        refine j_goto C (tgt := 27) dX12_fitsIn_23 (by decide) ?_
        refine j_sub [] rfl ?_
        exact tj_X12_fitsIn_27 C _ _ _  hm
set_option maxRecDepth 20000 in
set_option maxHeartbeats 4000000 in
theorem mc_X12_fitsIn (l : Launch) (N : Nat) (Λ : Lay) (μ : Mem) (v0 : Int32) (v1 : Int32) (v2 : Int32) {r : Int32} (hm : m_X12_fitsIn N Λ μ v0 v1 v2 = some r) : MI l yX12_fitsIn cX12_fitsIn 3 (some .boolean) rm_X12_fitsIn Λ [.int v0, .int v1, .int v2] μ r μ := mi_of rfl (Nat.le_of_ble_eq_true rfl) (fun x C _ => tm_X12_fitsIn C _ _ _ _ _  hm)
abbrev rm_X12_noPlace : Room := { frames := 1, cells := 0, slots := 0, locals := 22 }
set_option maxRecDepth 20000 in
set_option maxHeartbeats 4000000 in
theorem tj_X12_noPlace_15 {x : Ctx} {Λ : Lay} (C : Cx x cX12_noPlace 1 (some .boolean) RX12 Λ rm_X12_noPlace) (N : Nat) (μ : Mem) (s0 : Int32) {r : Int32} (hm : jn_X12_noPlace_15 N Λ μ s0 = some r) : J x 1 Λ (QI x Λ r μ) 15 [] [.int s0] μ := by
  obtain ⟨h1, hm⟩ := gd_some hm
  obtain rfl := Option.some.inj hm
  exact j_iretz C h1 dX12_noPlace_15
set_option maxRecDepth 20000 in
set_option maxHeartbeats 4000000 in
theorem tm_X12_noPlace {x : Ctx} {Λ : Lay} (C : Cx x cX12_noPlace 1 (some .boolean) RX12 Λ rm_X12_noPlace) (N : Nat) (μ : Mem) (v0 : Int32) {r : Int32} (hm : m_X12_noPlace N Λ μ v0 = some r) : J x 1 Λ (QI x Λ r μ) 0 [(0, .int v0)] [] μ := by
  refine j_iload_n C 0 dX12_noPlace_0 rfl ?_
  refine j_iconst C (v := 0) dX12_noPlace_1 rfl ?_
  refine j_bipush C (v := 23) dX12_noPlace_2 rfl ?_
  obtain ⟨r1, h2, hm⟩ := bd_some hm
  refine call_I (run_LS C ls_X12_103 ⟨rfl, rfl, Nat.le_of_ble_eq_true rfl, Nat.le_of_ble_eq_true rfl⟩ (As := [.int v0, .int 0, .int 23]) rfl rfl (Nat.le_of_ble_eq_true rfl) dX12_noPlace_4 (mc_X12_in _ _ _ _ _ _ _  h2)) ?_
  refine j_if_ne C (tgt := 14) dX12_noPlace_7 (by decide) (fun h3 => ?_) (fun h3 => ?_)
  · replace hm := if_f hm h3
    refine j_iconst C (v := 0) dX12_noPlace_14 rfl ?_
    refine j_sub [] rfl ?_
    exact tj_X12_noPlace_15 C _ _ _  hm
  · replace hm := if_t hm h3
    refine j_iconst C (v := 1) dX12_noPlace_10 rfl ?_
    refine j_goto C (tgt := 15) dX12_noPlace_11 (by decide) ?_
    refine j_sub [] rfl ?_
    exact tj_X12_noPlace_15 C _ _ _  hm
set_option maxRecDepth 20000 in
set_option maxHeartbeats 4000000 in
theorem mc_X12_noPlace (l : Launch) (N : Nat) (Λ : Lay) (μ : Mem) (v0 : Int32) {r : Int32} (hm : m_X12_noPlace N Λ μ v0 = some r) : MI l yX12_noPlace cX12_noPlace 1 (some .boolean) rm_X12_noPlace Λ [.int v0] μ r μ := mi_of rfl (Nat.le_of_ble_eq_true rfl) (fun x C _ => tm_X12_noPlace C _ _ _  hm)
abbrev rm_X12_noShip : Room := { frames := 1, cells := 0, slots := 0, locals := 22 }
set_option maxRecDepth 20000 in
set_option maxHeartbeats 4000000 in
theorem tj_X12_noShip_19 {x : Ctx} {Λ : Lay} (C : Cx x cX12_noShip 2 (some .boolean) RX12 Λ rm_X12_noShip) (N : Nat) (μ : Mem) (s0 : Int32) {r : Int32} (hm : jn_X12_noShip_19 N Λ μ s0 = some r) : J x 2 Λ (QI x Λ r μ) 19 [] [.int s0] μ := by
  obtain ⟨h1, hm⟩ := gd_some hm
  obtain rfl := Option.some.inj hm
  exact j_iretz C h1 dX12_noShip_19
set_option maxRecDepth 20000 in
set_option maxHeartbeats 4000000 in
theorem tm_X12_noShip {x : Ctx} {Λ : Lay} (C : Cx x cX12_noShip 2 (some .boolean) RX12 Λ rm_X12_noShip) (N : Nat) (μ : Mem) (v0 : Nat) (v1 : Int32) (hv0 : inL Λ v0 11) {r : Int32} (hm : m_X12_noShip N Λ μ v0 v1 = some r) : J x 2 Λ (QI x Λ r μ) 0 [(0, .ref v0), (1, .int v1)] [] μ := by
  refine j_iload_n C 1 dX12_noShip_0 rfl ?_
  refine j_iconst C (v := 0) dX12_noShip_1 rfl ?_
  refine j_aload_n C 0 dX12_noShip_2 rfl ?_
  obtain ⟨r1, h2, hm⟩ := bd_some hm
  refine call_I (run_LV C lk_X12_95 ⟨rfl, rfl, Nat.le_of_ble_eq_true rfl, Nat.le_of_ble_eq_true rfl⟩ (As := []) hv0 rfl rfl (Nat.le_of_ble_eq_true rfl) dX12_noShip_3 (mc_X12_ships _ _ _ _ _ hv0 h2)) ?_
  refine j_iconst C (v := 1) dX12_noShip_6 rfl ?_
  refine j_isub C dX12_noShip_7 ?_
  obtain ⟨r3, h4, hm⟩ := bd_some hm
  refine call_I (run_LS C ls_X12_103 ⟨rfl, rfl, Nat.le_of_ble_eq_true rfl, Nat.le_of_ble_eq_true rfl⟩ (As := [.int v1, .int 0, .int (r1 - 1)]) rfl rfl (Nat.le_of_ble_eq_true rfl) dX12_noShip_8 (mc_X12_in _ _ _ _ _ _ _  h4)) ?_
  refine j_if_ne C (tgt := 18) dX12_noShip_11 (by decide) (fun h5 => ?_) (fun h5 => ?_)
  · replace hm := if_f hm h5
    refine j_iconst C (v := 0) dX12_noShip_18 rfl ?_
    refine j_sub [] rfl ?_
    exact tj_X12_noShip_19 C _ _ _  hm
  · replace hm := if_t hm h5
    refine j_iconst C (v := 1) dX12_noShip_14 rfl ?_
    refine j_goto C (tgt := 19) dX12_noShip_15 (by decide) ?_
    refine j_sub [] rfl ?_
    exact tj_X12_noShip_19 C _ _ _  hm
set_option maxRecDepth 20000 in
set_option maxHeartbeats 4000000 in
theorem mc_X12_noShip (l : Launch) (N : Nat) (Λ : Lay) (μ : Mem) (v0 : Nat) (v1 : Int32) (hv0 : inL Λ v0 11) {r : Int32} (hm : m_X12_noShip N Λ μ v0 v1 = some r) : MI l yX12_noShip cX12_noShip 2 (some .boolean) rm_X12_noShip Λ [.ref v0, .int v1] μ r μ := mi_of rfl (Nat.le_of_ble_eq_true rfl) (fun x C _ => tm_X12_noShip C _ _ _ _ hv0 hm)
abbrev rm_X12_tideIn : Room := { frames := 0, cells := 0, slots := 0, locals := 0 }
set_option maxRecDepth 20000 in
set_option maxHeartbeats 4000000 in
theorem tm_X12_tideIn {x : Ctx} {Λ : Lay} (C : Cx x cX12_tideIn 2 (some .int) RX12 Λ rm_X12_tideIn) (N : Nat) (μ : Mem) (v0 : Nat) (v1 : Int32) (hv0 : inL Λ v0 11) {r : Int32} (hm : m_X12_tideIn N Λ μ v0 v1 = some r) : J x 2 Λ (QI x Λ r μ) 0 [(0, .ref v0), (1, .int v1)] [] μ := by
  refine j_aload_n C 0 dX12_tideIn_0 rfl ?_
  obtain ⟨q1, h2, hm⟩ := bd_some hm
  refine j_getR C fg_X12_13_11 hv0 (dr_spec h2).1 dX12_tideIn_1 ?_
  refine j_bipush C (v := 13) dX12_tideIn_4 rfl ?_
  refine j_aload_n C 0 dX12_tideIn_6 rfl ?_
  obtain ⟨q3, h4, hm⟩ := bd_some hm
  refine j_getR C fg_X12_13_11 hv0 (dr_spec h4).1 dX12_tideIn_7 ?_
  refine j_bipush C (v := 9) dX12_tideIn_10 rfl ?_
  obtain ⟨h5, hm⟩ := gd_some hm
  refine j_iald C ((dr_spec h4).2) h5 dX12_tideIn_12 ?_
  refine j_iload_n C 1 dX12_tideIn_13 rfl ?_
  refine j_iadd C dX12_tideIn_14 ?_
  refine j_bipush C (v := 12) dX12_tideIn_15 rfl ?_
  refine j_irem C dX12_tideIn_17 (by decide) ?_
  refine j_iadd C dX12_tideIn_18 ?_
  obtain ⟨h6, hm⟩ := gd_some hm
  refine j_iald C ((dr_spec h2).2) h6 dX12_tideIn_19 ?_
  obtain rfl := Option.some.inj hm
  exact j_ireti C dX12_tideIn_20
set_option maxRecDepth 20000 in
set_option maxHeartbeats 4000000 in
theorem mc_X12_tideIn (l : Launch) (N : Nat) (Λ : Lay) (μ : Mem) (v0 : Nat) (v1 : Int32) (hv0 : inL Λ v0 11) {r : Int32} (hm : m_X12_tideIn N Λ μ v0 v1 = some r) : MI l yX12_tideIn cX12_tideIn 2 (some .int) rm_X12_tideIn Λ [.ref v0, .int v1] μ r μ := mi_of rfl (Nat.le_of_ble_eq_true rfl) (fun x C _ => tm_X12_tideIn C _ _ _ _ hv0 hm)
abbrev rm_X12_drawn : Room := { frames := 0, cells := 0, slots := 0, locals := 0 }
set_option maxRecDepth 20000 in
set_option maxHeartbeats 4000000 in
theorem tm_X12_drawn {x : Ctx} {Λ : Lay} (C : Cx x cX12_drawn 2 (some .int) RX12 Λ rm_X12_drawn) (N : Nat) (μ : Mem) (v0 : Nat) (v1 : Int32) (hv0 : inL Λ v0 11) {r : Int32 × Mem} (hm : m_X12_drawn N Λ μ v0 v1 = some r) : J x 2 Λ (QI x Λ r.1 r.2) 0 [(0, .ref v0), (1, .int v1)] [] μ := by
  refine j_aload_n C 0 dX12_drawn_0 rfl ?_
  obtain ⟨q1, h2, hm⟩ := bd_some hm
  refine j_getR C fg_X12_13_11 hv0 (dr_spec h2).1 dX12_drawn_1 ?_
  refine j_bipush C (v := 12) dX12_drawn_4 rfl ?_
  refine j_ldc C (v := 1103515245) wk_1933 dX12_drawn_6 ?_
  refine j_aload_n C 0 dX12_drawn_8 rfl ?_
  obtain ⟨q3, h4, hm⟩ := bd_some hm
  refine j_getR C fg_X12_13_11 hv0 (dr_spec h4).1 dX12_drawn_9 ?_
  refine j_bipush C (v := 12) dX12_drawn_12 rfl ?_
  obtain ⟨h5, hm⟩ := gd_some hm
  refine j_iald C ((dr_spec h4).2) h5 dX12_drawn_14 ?_
  refine j_imul C dX12_drawn_15 ?_
  refine j_sipush C (v := 12345) dX12_drawn_16 rfl ?_
  refine j_iadd C dX12_drawn_19 ?_
  obtain ⟨h6, hm⟩ := gd_some hm
  obtain ⟨μ7, e8, hm⟩ := lt_some hm
  refine j_iast C ((dr_spec h2).2) h6 e8 dX12_drawn_20 ?_
  refine j_aload_n C 0 dX12_drawn_21 rfl ?_
  obtain ⟨q9, h10, hm⟩ := bd_some hm
  refine j_getR C fg_X12_13_11 hv0 (dr_spec h10).1 dX12_drawn_22 ?_
  refine j_bipush C (v := 12) dX12_drawn_25 rfl ?_
  obtain ⟨h11, hm⟩ := gd_some hm
  refine j_iald C ((dr_spec h10).2) h11 dX12_drawn_27 ?_
  refine j_bipush C (v := 16) dX12_drawn_28 rfl ?_
  refine j_ishr C dX12_drawn_30 ?_
  refine j_sipush C (v := 32767) dX12_drawn_31 rfl ?_
  refine j_iand C dX12_drawn_34 ?_
  refine j_iload_n C 1 dX12_drawn_35 rfl ?_
  obtain ⟨h12, hm⟩ := gd_some hm
  refine j_irem C dX12_drawn_36 (of_decide_eq_true h12) ?_
  obtain rfl := Option.some.inj hm
  exact j_ireti C dX12_drawn_37
set_option maxRecDepth 20000 in
set_option maxHeartbeats 4000000 in
theorem mc_X12_drawn (l : Launch) (N : Nat) (Λ : Lay) (μ : Mem) (v0 : Nat) (v1 : Int32) (hv0 : inL Λ v0 11) {r : Int32 × Mem} (hm : m_X12_drawn N Λ μ v0 v1 = some r) : MI l yX12_drawn cX12_drawn 2 (some .int) rm_X12_drawn Λ [.ref v0, .int v1] μ r.1 r.2 := mi_of rfl (Nat.le_of_ble_eq_true rfl) (fun x C _ => tm_X12_drawn C _ _ _ _ hv0 hm)
abbrev rm_X12_feed : Room := { frames := 0, cells := 0, slots := 0, locals := 0 }
set_option maxRecDepth 20000 in
set_option maxHeartbeats 4000000 in
theorem tb_X12_feed_60 {x : Ctx} {Λ : Lay} (C : Cx x cX12_feed 7 (some .int) RX12 Λ rm_X12_feed) (N : Nat) (μ : Mem) (k60 : Int32 × Mem → Option (Int32 × Mem)) (v0 : Nat) (v6 : Int32) (hk60 : ∀ (s : Int32 × Mem) (r : Int32 × Mem), k60 s = some r → J x 7 Λ (QI x Λ r.1 r.2) 60 [(0, .ref v0), (6, .int s.1)] [] (s.2)) (hv0 : inL Λ v0 11) {r : Int32 × Mem} (hm : bd_X12_feed_60 N Λ μ k60 v0 v6 = some r) : J x 7 Λ (QI x Λ r.1 r.2) 60 [(0, .ref v0), (6, .int v6)] [] μ := by
  refine j_iload C 1 dX12_feed_60 rfl ?_
  refine j_bipush C (v := 20) dX12_feed_62 rfl ?_
  refine j_icmp_ge C (tgt := 106) dX12_feed_64 (by decide) (fun h1 => ?_) (fun h1 => ?_)
  · replace hm := if_t hm h1
    refine j_aload_n C 0 dX12_feed_106 rfl ?_
    refine j_dup C dX12_feed_107 rfl ?_
    refine j_getI C fg_X12_108_11 hv0 dX12_feed_108 ?_
    refine j_bipush C (v := 20) dX12_feed_111 rfl ?_
    refine j_iadd C dX12_feed_113 ?_
    obtain ⟨μ2, e3, hm⟩ := lt_some hm
    refine j_putI C fp_X12_108_11 hv0 e3 dX12_feed_114 ?_
    refine j_aload_n C 0 dX12_feed_117 rfl ?_
    refine j_getI C fg_X12_108_11 hv0 dX12_feed_118 ?_
    obtain rfl := Option.some.inj hm
    exact j_ireti C dX12_feed_121
  · replace hm := if_f hm h1
    refine j_aload_n C 0 dX12_feed_67 rfl ?_
    obtain ⟨q4, h5, hm⟩ := bd_some hm
    refine j_getR C fg_X12_29_11 hv0 (dr_spec h5).1 dX12_feed_68 ?_
    refine j_aload_n C 0 dX12_feed_71 rfl ?_
    refine j_getI C fg_X12_108_11 hv0 dX12_feed_72 ?_
    refine j_iload C 1 dX12_feed_75 rfl ?_
    refine j_iadd C dX12_feed_77 ?_
    refine j_aload_n C 0 dX12_feed_78 rfl ?_
    obtain ⟨q6, h7, hm⟩ := bd_some hm
    refine j_getR C fg_X12_36_11 hv0 (dr_spec h7).1 dX12_feed_79 ?_
    refine j_iload C 1 dX12_feed_82 rfl ?_
    refine j_iconst C (v := 4) dX12_feed_84 rfl ?_
    refine j_idiv C dX12_feed_85 (by decide) ?_
    obtain ⟨h8, hm⟩ := gd_some hm
    refine j_iald C ((dr_spec h7).2) h8 dX12_feed_86 ?_
    refine j_bipush C (v := 24) dX12_feed_87 rfl ?_
    refine j_bipush C (v := 8) dX12_feed_89 rfl ?_
    refine j_iload C 1 dX12_feed_91 rfl ?_
    refine j_iconst C (v := 4) dX12_feed_93 rfl ?_
    refine j_irem C dX12_feed_94 (by decide) ?_
    refine j_imul C dX12_feed_95 ?_
    refine j_isub C dX12_feed_96 ?_
    refine j_ishr C dX12_feed_97 ?_
    refine j_i2b C dX12_feed_98 ?_
    obtain ⟨h9, hm⟩ := gd_some hm
    obtain ⟨μ10, e11, hm⟩ := lt_some hm
    refine j_bast C ((dr_spec h5).2) h9 e11 dX12_feed_99 ?_
    obtain ⟨y12, e13, hm⟩ := lt_some hm
    refine j_iinc C 1 (v := y12) (lv' := [(6, .int y12), (0, .ref v0)]) dX12_feed_100 rfl (by rw [e13]; rfl) (by decide) rfl ?_
    refine j_goto C (tgt := 60) dX12_feed_103 (by decide) ?_
    refine j_sub [1, 0] rfl ?_
    exact hk60 (y12, μ10) _ hm
set_option maxRecDepth 20000 in
set_option maxHeartbeats 4000000 in
theorem tl_X12_feed_60 {x : Ctx} {Λ : Lay} (C : Cx x cX12_feed 7 (some .int) RX12 Λ rm_X12_feed) (N : Nat) (v0 : Nat) (hv0 : inL Λ v0 11) (s : Int32 × Mem) {r : Int32 × Mem} (hm : lp_X12_feed_60 N Λ v0 s = some r) : J x 7 Λ (QI x Λ r.1 r.2) 60 [(0, .ref v0), (6, .int s.1)] [] (s.2) :=
  cw_ind (P := fun s r => J x 7 Λ (QI x Λ r.1 r.2) 60 [(0, .ref v0), (6, .int s.1)] [] (s.2)) (fun k hkk s r e => tb_X12_feed_60 C _ _ _ _ _ hkk hv0 e) N s r hm
set_option maxRecDepth 20000 in
set_option maxHeartbeats 4000000 in
theorem tm_X12_feed {x : Ctx} {Λ : Lay} (C : Cx x cX12_feed 7 (some .int) RX12 Λ rm_X12_feed) (N : Nat) (μ : Mem) (v0 : Nat) (v1 : Int32) (v2 : Int32) (v3 : Int32) (v4 : Int32) (v5 : Int32) (hv0 : inL Λ v0 11) {r : Int32 × Mem} (hm : m_X12_feed N Λ μ v0 v1 v2 v3 v4 v5 = some r) : J x 7 Λ (QI x Λ r.1 r.2) 0 [(0, .ref v0), (1, .int v1), (2, .int v2), (3, .int v3), (4, .int v4), (5, .int v5)] [] μ := by
  refine j_aload_n C 0 dX12_feed_0 rfl ?_
  refine j_iconst C (v := 0) dX12_feed_1 rfl ?_
  obtain ⟨μ1, e2, hm⟩ := lt_some hm
  refine j_putI C fp_X12_3_11 hv0 e2 dX12_feed_2 ?_
  refine j_aload_n C 0 dX12_feed_5 rfl ?_
  refine j_getI C fg_X12_108_11 hv0 dX12_feed_6 ?_
  refine j_bipush C (v := 20) dX12_feed_9 rfl ?_
  refine j_iadd C dX12_feed_11 ?_
  refine j_sipush C (v := 400) dX12_feed_12 rfl ?_
  refine j_icmp_le C (tgt := 20) dX12_feed_15 (by decide) (fun h3 => ?_) (fun h3 => ?_)
  · replace hm := if_t hm h3
    refine j_aload_n C 0 dX12_feed_20 rfl ?_
    obtain ⟨q4, h5, hm⟩ := bd_some hm
    refine j_getR C fg_X12_36_11 hv0 (dr_spec h5).1 dX12_feed_21 ?_
    refine j_iconst C (v := 0) dX12_feed_24 rfl ?_
    refine j_iload_n C 1 dX12_feed_25 rfl ?_
    obtain ⟨h6, hm⟩ := gd_some hm
    obtain ⟨μ7, e8, hm⟩ := lt_some hm
    refine j_iast C ((dr_spec h5).2) h6 e8 dX12_feed_26 ?_
    refine j_aload_n C 0 dX12_feed_27 rfl ?_
    obtain ⟨q9, h10, hm⟩ := bd_some hm
    refine j_getR C fg_X12_36_11 hv0 (dr_spec h10).1 dX12_feed_28 ?_
    refine j_iconst C (v := 1) dX12_feed_31 rfl ?_
    refine j_iload_n C 2 dX12_feed_32 rfl ?_
    obtain ⟨h11, hm⟩ := gd_some hm
    obtain ⟨μ12, e13, hm⟩ := lt_some hm
    refine j_iast C ((dr_spec h10).2) h11 e13 dX12_feed_33 ?_
    refine j_aload_n C 0 dX12_feed_34 rfl ?_
    obtain ⟨q14, h15, hm⟩ := bd_some hm
    refine j_getR C fg_X12_36_11 hv0 (dr_spec h15).1 dX12_feed_35 ?_
    refine j_iconst C (v := 2) dX12_feed_38 rfl ?_
    refine j_iload_n C 3 dX12_feed_39 rfl ?_
    obtain ⟨h16, hm⟩ := gd_some hm
    obtain ⟨μ17, e18, hm⟩ := lt_some hm
    refine j_iast C ((dr_spec h15).2) h16 e18 dX12_feed_40 ?_
    refine j_aload_n C 0 dX12_feed_41 rfl ?_
    obtain ⟨q19, h20, hm⟩ := bd_some hm
    refine j_getR C fg_X12_36_11 hv0 (dr_spec h20).1 dX12_feed_42 ?_
    refine j_iconst C (v := 3) dX12_feed_45 rfl ?_
    refine j_iload C 4 dX12_feed_46 rfl ?_
    obtain ⟨h21, hm⟩ := gd_some hm
    obtain ⟨μ22, e23, hm⟩ := lt_some hm
    refine j_iast C ((dr_spec h20).2) h21 e23 dX12_feed_48 ?_
    refine j_aload_n C 0 dX12_feed_49 rfl ?_
    obtain ⟨q24, h25, hm⟩ := bd_some hm
    refine j_getR C fg_X12_36_11 hv0 (dr_spec h25).1 dX12_feed_50 ?_
    refine j_iconst C (v := 4) dX12_feed_53 rfl ?_
    refine j_iload C 5 dX12_feed_54 rfl ?_
    obtain ⟨h26, hm⟩ := gd_some hm
    obtain ⟨μ27, e28, hm⟩ := lt_some hm
    refine j_iast C ((dr_spec h25).2) h26 e28 dX12_feed_56 ?_
    refine j_iconst C (v := 0) dX12_feed_57 rfl ?_
    refine j_istore C (lv' := [(6, .int 0), (0, .ref v0), (1, .int v1), (2, .int v2), (3, .int v3), (4, .int v4), (5, .int v5)]) dX12_feed_58 (by decide) rfl ?_
    refine j_sub [1, 0] rfl ?_
    exact tl_X12_feed_60 C _ _ hv0 (0, μ27) hm
  · replace hm := if_f hm h3
    refine j_iconst C (v := -1) dX12_feed_18 rfl ?_
    obtain rfl := Option.some.inj hm
    exact j_ireti C dX12_feed_19
set_option maxRecDepth 20000 in
set_option maxHeartbeats 4000000 in
theorem mc_X12_feed (l : Launch) (N : Nat) (Λ : Lay) (μ : Mem) (v0 : Nat) (v1 : Int32) (v2 : Int32) (v3 : Int32) (v4 : Int32) (v5 : Int32) (hv0 : inL Λ v0 11) {r : Int32 × Mem} (hm : m_X12_feed N Λ μ v0 v1 v2 v3 v4 v5 = some r) : MI l yX12_feed cX12_feed 7 (some .int) rm_X12_feed Λ [.ref v0, .int v1, .int v2, .int v3, .int v4, .int v5] μ r.1 r.2 := mi_of rfl (Nat.le_of_ble_eq_true rfl) (fun x C _ => tm_X12_feed C _ _ _ _ _ _ _ _ hv0 hm)
abbrev rm_X12_end : Room := { frames := 0, cells := 0, slots := 0, locals := 0 }
set_option maxRecDepth 20000 in
set_option maxHeartbeats 4000000 in
theorem tj_X12_end_17 {x : Ctx} {Λ : Lay} (C : Cx x cX12_end 2 (some .boolean) RX12 Λ rm_X12_end) (N : Nat) (μ : Mem) {r : Int32 × Mem} (hm : jn_X12_end_17 N Λ μ = some r) : J x 2 Λ (QI x Λ r.1 r.2) 17 [] [] μ := by
  refine j_iconst C (v := 0) dX12_end_17 rfl ?_
  obtain rfl := Option.some.inj hm
  exact j_iretz C rfl dX12_end_18
set_option maxRecDepth 20000 in
set_option maxHeartbeats 4000000 in
theorem tm_X12_end {x : Ctx} {Λ : Lay} (C : Cx x cX12_end 2 (some .boolean) RX12 Λ rm_X12_end) (N : Nat) (μ : Mem) (v0 : Nat) (v1 : Int32) (hv0 : inL Λ v0 11) {r : Int32 × Mem} (hm : m_X12_end N Λ μ v0 v1 = some r) : J x 2 Λ (QI x Λ r.1 r.2) 0 [(0, .ref v0), (1, .int v1)] [] μ := by
  refine j_aload_n C 0 dX12_end_0 rfl ?_
  refine j_iconst C (v := 0) dX12_end_1 rfl ?_
  obtain ⟨μ1, e2, hm⟩ := lt_some hm
  refine j_putI C fp_X12_3_11 hv0 e2 dX12_end_2 ?_
  refine j_iload_n C 1 dX12_end_5 rfl ?_
  refine j_if_lt C (tgt := 17) dX12_end_6 (by decide) (fun h3 => ?_) (fun h3 => ?_)
  · replace hm := if_t hm h3
    refine j_sub [] rfl ?_
    exact tj_X12_end_17 C _ _  hm
  · replace hm := if_f hm h3
    refine j_iload_n C 1 dX12_end_9 rfl ?_
    refine j_aload_n C 0 dX12_end_10 rfl ?_
    refine j_getI C fg_X12_108_11 hv0 dX12_end_11 ?_
    refine j_icmp_le C (tgt := 19) dX12_end_14 (by decide) (fun h4 => ?_) (fun h4 => ?_)
    · replace hm := if_t hm h4
      refine j_aload_n C 0 dX12_end_19 rfl ?_
      refine j_iload_n C 1 dX12_end_20 rfl ?_
      obtain ⟨μ5, e6, hm⟩ := lt_some hm
      refine j_putI C fp_X12_108_11 hv0 e6 dX12_end_21 ?_
      refine j_iconst C (v := 1) dX12_end_24 rfl ?_
      obtain rfl := Option.some.inj hm
      exact j_iretz C rfl dX12_end_25
    · replace hm := if_f hm h4
      refine j_sub [] rfl ?_
      exact tj_X12_end_17 C _ _  hm
set_option maxRecDepth 20000 in
set_option maxHeartbeats 4000000 in
theorem mc_X12_end (l : Launch) (N : Nat) (Λ : Lay) (μ : Mem) (v0 : Nat) (v1 : Int32) (hv0 : inL Λ v0 11) {r : Int32 × Mem} (hm : m_X12_end N Λ μ v0 v1 = some r) : MI l yX12_end cX12_end 2 (some .boolean) rm_X12_end Λ [.ref v0, .int v1] μ r.1 r.2 := mi_of rfl (Nat.le_of_ble_eq_true rfl) (fun x C _ => tm_X12_end C _ _ _ _ hv0 hm)
abbrev rm_X12_isAt : Room := { frames := 0, cells := 0, slots := 0, locals := 0 }
set_option maxRecDepth 20000 in
set_option maxHeartbeats 4000000 in
theorem tj_X12_isAt_42 {x : Ctx} {Λ : Lay} (C : Cx x cX12_isAt 3 (some .boolean) RX12 Λ rm_X12_isAt) (N : Nat) (μ : Mem) (s0 : Int32) {r : Int32} (hm : jn_X12_isAt_42 N Λ μ s0 = some r) : J x 3 Λ (QI x Λ r μ) 42 [] [.int s0] μ := by
  obtain ⟨h1, hm⟩ := gd_some hm
  obtain rfl := Option.some.inj hm
  exact j_iretz C h1 dX12_isAt_42
set_option maxRecDepth 20000 in
set_option maxHeartbeats 4000000 in
theorem tj_X12_isAt_41 {x : Ctx} {Λ : Lay} (C : Cx x cX12_isAt 3 (some .boolean) RX12 Λ rm_X12_isAt) (N : Nat) (μ : Mem) {r : Int32} (hm : jn_X12_isAt_41 N Λ μ = some r) : J x 3 Λ (QI x Λ r μ) 41 [] [] μ := by
  refine j_iconst C (v := 0) dX12_isAt_41 rfl ?_
  exact tj_X12_isAt_42 C _ _ _  hm
set_option maxRecDepth 20000 in
set_option maxHeartbeats 4000000 in
theorem tm_X12_isAt {x : Ctx} {Λ : Lay} (C : Cx x cX12_isAt 3 (some .boolean) RX12 Λ rm_X12_isAt) (N : Nat) (μ : Mem) (v0 : Nat) (v1 : Int32) (v2 : Int32) (hv0 : inL Λ v0 11) {r : Int32} (hm : m_X12_isAt N Λ μ v0 v1 v2 = some r) : J x 3 Λ (QI x Λ r μ) 0 [(0, .ref v0), (1, .int v1), (2, .int v2)] [] μ := by
  refine j_aload_n C 0 dX12_isAt_0 rfl ?_
  refine j_getI C fg_X12_111_11 hv0 dX12_isAt_1 ?_
  refine j_aload_n C 0 dX12_isAt_4 rfl ?_
  refine j_getI C fg_X12_114_11 hv0 dX12_isAt_5 ?_
  refine j_icmp_ge C (tgt := 41) dX12_isAt_8 (by decide) (fun h1 => ?_) (fun h1 => ?_)
  · replace hm := if_t hm h1
    refine j_sub [] rfl ?_
    exact tj_X12_isAt_41 C _ _  hm
  · replace hm := if_f hm h1
    refine j_aload_n C 0 dX12_isAt_11 rfl ?_
    obtain ⟨q2, h3, hm⟩ := bd_some hm
    refine j_getR C fg_X12_29_11 hv0 (dr_spec h3).1 dX12_isAt_12 ?_
    refine j_aload_n C 0 dX12_isAt_15 rfl ?_
    refine j_getI C fg_X12_111_11 hv0 dX12_isAt_16 ?_
    obtain ⟨h4, hm⟩ := gd_some hm
    refine j_bald C ((dr_spec h3).2) h4 dX12_isAt_19 ?_
    refine j_iload_n C 1 dX12_isAt_20 rfl ?_
    refine j_icmp_lt C (tgt := 41) dX12_isAt_21 (by decide) (fun h5 => ?_) (fun h5 => ?_)
    · replace hm := if_t hm h5
      refine j_sub [] rfl ?_
      exact tj_X12_isAt_41 C _ _  hm
    · replace hm := if_f hm h5
      refine j_aload_n C 0 dX12_isAt_24 rfl ?_
      obtain ⟨q6, h7, hm⟩ := bd_some hm
      refine j_getR C fg_X12_29_11 hv0 (dr_spec h7).1 dX12_isAt_25 ?_
      refine j_aload_n C 0 dX12_isAt_28 rfl ?_
      refine j_getI C fg_X12_111_11 hv0 dX12_isAt_29 ?_
      obtain ⟨h8, hm⟩ := gd_some hm
      refine j_bald C ((dr_spec h7).2) h8 dX12_isAt_32 ?_
      refine j_iload_n C 2 dX12_isAt_33 rfl ?_
      refine j_icmp_gt C (tgt := 41) dX12_isAt_34 (by decide) (fun h9 => ?_) (fun h9 => ?_)
      · replace hm := if_t hm h9
        refine j_sub [] rfl ?_
        exact tj_X12_isAt_41 C _ _  hm
      · replace hm := if_f hm h9
        refine j_iconst C (v := 1) dX12_isAt_37 rfl ?_
        refine j_goto C (tgt := 42) dX12_isAt_38 (by decide) ?_
        refine j_sub [] rfl ?_
        exact tj_X12_isAt_42 C _ _ _  hm
set_option maxRecDepth 20000 in
set_option maxHeartbeats 4000000 in
theorem mc_X12_isAt (l : Launch) (N : Nat) (Λ : Lay) (μ : Mem) (v0 : Nat) (v1 : Int32) (v2 : Int32) (hv0 : inL Λ v0 11) {r : Int32} (hm : m_X12_isAt N Λ μ v0 v1 v2 = some r) : MI l yX12_isAt cX12_isAt 3 (some .boolean) rm_X12_isAt Λ [.ref v0, .int v1, .int v2] μ r μ := mi_of rfl (Nat.le_of_ble_eq_true rfl) (fun x C _ => tm_X12_isAt C _ _ _ _ _ hv0 hm)
abbrev rm_X12_blanks : Room := { frames := 1, cells := 0, slots := 0, locals := 22 }
set_option maxRecDepth 20000 in
set_option maxHeartbeats 4000000 in
theorem tb_X12_blanks_0 {x : Ctx} {Λ : Lay} (C : Cx x cX12_blanks 1 none RX12 Λ rm_X12_blanks) (N : Nat) (μ : Mem) (k0 : Mem → Option (Mem)) (v0 : Nat) (hk0 : ∀ (s : Mem) (r : Mem), k0 s = some r → J x 1 Λ (QV x Λ r) 0 [(0, .ref v0)] [] (s)) (hv0 : inL Λ v0 11) {r : Mem} (hm : bd_X12_blanks_0 N Λ μ k0 v0 = some r) : J x 1 Λ (QV x Λ r) 0 [(0, .ref v0)] [] μ := by
  refine j_aload_n C 0 dX12_blanks_0 rfl ?_
  refine j_bipush C (v := 32) dX12_blanks_1 rfl ?_
  refine j_bipush C (v := 32) dX12_blanks_3 rfl ?_
  obtain ⟨r1, h2, hm⟩ := bd_some hm
  refine call_I (run_LV C lk_X12_117 ⟨rfl, rfl, Nat.le_of_ble_eq_true rfl, Nat.le_of_ble_eq_true rfl⟩ (As := [.int 32, .int 32]) hv0 rfl rfl (Nat.le_of_ble_eq_true rfl) dX12_blanks_5 (mc_X12_isAt _ _ _ _ _ _ _ hv0 h2)) ?_
  refine j_if_eq C (tgt := 24) dX12_blanks_8 (by decide) (fun h3 => ?_) (fun h3 => ?_)
  · replace hm := if_t hm h3
    refine j_aload_n C 0 dX12_blanks_24 rfl ?_
    refine j_aload_n C 0 dX12_blanks_25 rfl ?_
    refine j_getI C fg_X12_111_11 hv0 dX12_blanks_26 ?_
    obtain ⟨μ4, e5, hm⟩ := lt_some hm
    refine j_putI C fp_X12_121_11 hv0 e5 dX12_blanks_29 ?_
    obtain rfl := Option.some.inj hm
    exact j_vret C dX12_blanks_32
  · replace hm := if_f hm h3
    refine j_aload_n C 0 dX12_blanks_11 rfl ?_
    refine j_dup C dX12_blanks_12 rfl ?_
    refine j_getI C fg_X12_111_11 hv0 dX12_blanks_13 ?_
    refine j_iconst C (v := 1) dX12_blanks_16 rfl ?_
    refine j_iadd C dX12_blanks_17 ?_
    obtain ⟨μ6, e7, hm⟩ := lt_some hm
    refine j_putI C fp_X12_111_11 hv0 e7 dX12_blanks_18 ?_
    refine j_goto C (tgt := 0) dX12_blanks_21 (by decide) ?_
    exact hk0 μ6 _ hm
set_option maxRecDepth 20000 in
set_option maxHeartbeats 4000000 in
theorem tl_X12_blanks_0 {x : Ctx} {Λ : Lay} (C : Cx x cX12_blanks 1 none RX12 Λ rm_X12_blanks) (N : Nat) (v0 : Nat) (hv0 : inL Λ v0 11) (s : Mem) {r : Mem} (hm : lp_X12_blanks_0 N Λ v0 s = some r) : J x 1 Λ (QV x Λ r) 0 [(0, .ref v0)] [] (s) :=
  cw_ind (P := fun s r => J x 1 Λ (QV x Λ r) 0 [(0, .ref v0)] [] (s)) (fun k hkk s r e => tb_X12_blanks_0 C _ _ _ _ hkk hv0 e) N s r hm
set_option maxRecDepth 20000 in
set_option maxHeartbeats 4000000 in
theorem tm_X12_blanks {x : Ctx} {Λ : Lay} (C : Cx x cX12_blanks 1 none RX12 Λ rm_X12_blanks) (N : Nat) (μ : Mem) (v0 : Nat) (hv0 : inL Λ v0 11) {r : Mem} (hm : m_X12_blanks N Λ μ v0 = some r) : J x 1 Λ (QV x Λ r) 0 [(0, .ref v0)] [] μ := by
  exact tl_X12_blanks_0 C _ _ hv0 μ hm
set_option maxRecDepth 20000 in
set_option maxHeartbeats 4000000 in
theorem mc_X12_blanks (l : Launch) (N : Nat) (Λ : Lay) (μ : Mem) (v0 : Nat) (hv0 : inL Λ v0 11) {r : Mem} (hm : m_X12_blanks N Λ μ v0 = some r) : MV l yX12_blanks cX12_blanks 1 rm_X12_blanks Λ [.ref v0] μ r := mv_of rfl (Nat.le_of_ble_eq_true rfl) (fun x C _ => tm_X12_blanks C _ _ _ hv0 hm)
abbrev rm_X12_letters : Room := { frames := 2, cells := 0, slots := 0, locals := 42 }
set_option maxRecDepth 20000 in
set_option maxHeartbeats 4000000 in
theorem tb_X12_letters_4 {x : Ctx} {Λ : Lay} (C : Cx x cX12_letters 1 none RX12 Λ rm_X12_letters) (N : Nat) (μ : Mem) (k4 : Mem → Option (Mem)) (v0 : Nat) (hk4 : ∀ (s : Mem) (r : Mem), k4 s = some r → J x 1 Λ (QV x Λ r) 4 [(0, .ref v0)] [] (s)) (hv0 : inL Λ v0 11) {r : Mem} (hm : bd_X12_letters_4 N Λ μ k4 v0 = some r) : J x 1 Λ (QV x Λ r) 4 [(0, .ref v0)] [] μ := by
  refine j_aload_n C 0 dX12_letters_4 rfl ?_
  refine j_bipush C (v := 97) dX12_letters_5 rfl ?_
  refine j_bipush C (v := 122) dX12_letters_7 rfl ?_
  obtain ⟨r1, h2, hm⟩ := bd_some hm
  refine call_I (run_LV C lk_X12_117 ⟨rfl, rfl, Nat.le_of_ble_eq_true rfl, Nat.le_of_ble_eq_true rfl⟩ (As := [.int 97, .int 122]) hv0 rfl rfl (Nat.le_of_ble_eq_true rfl) dX12_letters_9 (mc_X12_isAt _ _ _ _ _ _ _ hv0 h2)) ?_
  refine j_if_eq C (tgt := 28) dX12_letters_12 (by decide) (fun h3 => ?_) (fun h3 => ?_)
  · replace hm := if_t hm h3
    obtain rfl := Option.some.inj hm
    exact j_vret C dX12_letters_28
  · replace hm := if_f hm h3
    refine j_aload_n C 0 dX12_letters_15 rfl ?_
    refine j_dup C dX12_letters_16 rfl ?_
    refine j_getI C fg_X12_111_11 hv0 dX12_letters_17 ?_
    refine j_iconst C (v := 1) dX12_letters_20 rfl ?_
    refine j_iadd C dX12_letters_21 ?_
    obtain ⟨μ4, e5, hm⟩ := lt_some hm
    refine j_putI C fp_X12_111_11 hv0 e5 dX12_letters_22 ?_
    refine j_goto C (tgt := 4) dX12_letters_25 (by decide) ?_
    exact hk4 μ4 _ hm
set_option maxRecDepth 20000 in
set_option maxHeartbeats 4000000 in
theorem tl_X12_letters_4 {x : Ctx} {Λ : Lay} (C : Cx x cX12_letters 1 none RX12 Λ rm_X12_letters) (N : Nat) (v0 : Nat) (hv0 : inL Λ v0 11) (s : Mem) {r : Mem} (hm : lp_X12_letters_4 N Λ v0 s = some r) : J x 1 Λ (QV x Λ r) 4 [(0, .ref v0)] [] (s) :=
  cw_ind (P := fun s r => J x 1 Λ (QV x Λ r) 4 [(0, .ref v0)] [] (s)) (fun k hkk s r e => tb_X12_letters_4 C _ _ _ _ hkk hv0 e) N s r hm
set_option maxRecDepth 20000 in
set_option maxHeartbeats 4000000 in
theorem tm_X12_letters {x : Ctx} {Λ : Lay} (C : Cx x cX12_letters 1 none RX12 Λ rm_X12_letters) (N : Nat) (μ : Mem) (v0 : Nat) (hv0 : inL Λ v0 11) {r : Mem} (hm : m_X12_letters N Λ μ v0 = some r) : J x 1 Λ (QV x Λ r) 0 [(0, .ref v0)] [] μ := by
  refine j_aload_n C 0 dX12_letters_0 rfl ?_
  obtain ⟨r1, h2, hm⟩ := bd_some hm
  refine call_V (run_LV C lk_X12_124 ⟨rfl, rfl, Nat.le_of_ble_eq_true rfl, Nat.le_of_ble_eq_true rfl⟩ (As := []) hv0 rfl rfl (Nat.le_of_ble_eq_true rfl) dX12_letters_1 (mc_X12_blanks _ _ _ _ _ hv0 h2)) ?_
  exact tl_X12_letters_4 C _ _ hv0 r1 hm
set_option maxRecDepth 20000 in
set_option maxHeartbeats 4000000 in
theorem mc_X12_letters (l : Launch) (N : Nat) (Λ : Lay) (μ : Mem) (v0 : Nat) (hv0 : inL Λ v0 11) {r : Mem} (hm : m_X12_letters N Λ μ v0 = some r) : MV l yX12_letters cX12_letters 1 rm_X12_letters Λ [.ref v0] μ r := mv_of rfl (Nat.le_of_ble_eq_true rfl) (fun x C _ => tm_X12_letters C _ _ _ hv0 hm)
abbrev rm_X12_isWord : Room := { frames := 4, cells := 0, slots := 0, locals := 90 }
set_option maxRecDepth 20000 in
set_option maxHeartbeats 4000000 in
theorem tj_X12_isWord_60 {x : Ctx} {Λ : Lay} (C : Cx x cX12_isWord 4 (some .boolean) RX12 Λ rm_X12_isWord) (N : Nat) (μ : Mem) (k24 : Int32 × Int32 → Option (Int32)) (v0 : Nat) (v1 : Nat) (v3 : Int32) (s0 : Int32) (hk24 : ∀ (s : Int32 × Int32) (r : Int32), k24 s = some r → J x 4 Λ (QI x Λ r μ) 24 [(0, .ref v0), (1, .ref (sK Λ v1)), (2, .int s.1), (3, .int s.2)] [] (μ)) (hv0 : inL Λ v0 11) (hv1 : v1 < nWS) {r : Int32} (hm : jn_X12_isWord_60 N Λ μ k24 v0 v1 v3 s0 = some r) : J x 4 Λ (QI x Λ r μ) 60 [(0, .ref v0), (1, .ref (sK Λ v1)), (3, .int v3)] [.int s0] μ := by
  refine j_istore_n C (lv' := [(2, .int s0), (0, .ref v0), (1, .ref (sK Λ v1)), (3, .int v3)]) dX12_isWord_60 (by decide) rfl ?_
  obtain ⟨y1, e2, hm⟩ := lt_some hm
  refine j_iinc C 3 (v := y1) (lv' := [(3, .int y1), (2, .int s0), (0, .ref v0), (1, .ref (sK Λ v1))]) dX12_isWord_61 rfl (by rw [e2]; rfl) (by decide) rfl ?_
  refine j_goto C (tgt := 24) dX12_isWord_64 (by decide) ?_
  refine j_sub [2, 3, 1, 0] rfl ?_
  exact hk24 (s0, y1) _ hm
set_option maxRecDepth 20000 in
set_option maxHeartbeats 4000000 in
theorem tj_X12_isWord_67 {x : Ctx} {Λ : Lay} (C : Cx x cX12_isWord 4 (some .boolean) RX12 Λ rm_X12_isWord) (N : Nat) (μ : Mem) (v2 : Int32) {r : Int32} (hm : jn_X12_isWord_67 N Λ μ v2 = some r) : J x 4 Λ (QI x Λ r μ) 67 [(2, .int v2)] [] μ := by
  refine j_iload_n C 0 dX12_isWord_67 rfl ?_
  obtain ⟨h1, hm⟩ := gd_some hm
  obtain rfl := Option.some.inj hm
  exact j_iretz C h1 dX12_isWord_68
set_option maxRecDepth 20000 in
set_option maxHeartbeats 4000000 in
theorem tb_X12_isWord_24 {x : Ctx} {Λ : Lay} (C : Cx x cX12_isWord 4 (some .boolean) RX12 Λ rm_X12_isWord) (N : Nat) (μ : Mem) (k24 : Int32 × Int32 → Option (Int32)) (v0 : Nat) (v1 : Nat) (v2 : Int32) (v3 : Int32) (hk24 : ∀ (s : Int32 × Int32) (r : Int32), k24 s = some r → J x 4 Λ (QI x Λ r μ) 24 [(0, .ref v0), (1, .ref (sK Λ v1)), (2, .int s.1), (3, .int s.2)] [] (μ)) (hv0 : inL Λ v0 11) (hv1 : v1 < nWS) {r : Int32} (hm : bd_X12_isWord_24 N Λ μ k24 v0 v1 v2 v3 = some r) : J x 4 Λ (QI x Λ r μ) 24 [(0, .ref v0), (1, .ref (sK Λ v1)), (2, .int v2), (3, .int v3)] [] μ := by
  refine j_iload_n C 2 dX12_isWord_24 rfl ?_
  refine j_if_eq C (tgt := 67) dX12_isWord_25 (by decide) (fun h1 => ?_) (fun h1 => ?_)
  · replace hm := if_t hm h1
    refine j_sub [2] rfl ?_
    exact tj_X12_isWord_67 C _ _ _  hm
  · replace hm := if_f hm h1
    refine j_iload_n C 3 dX12_isWord_28 rfl ?_
    refine j_aload_n C 1 dX12_isWord_29 rfl ?_
    refine call_I (run_Str C hv1 lx_X12_len (by decide) (As := []) rfl rfl (Nat.le_of_ble_eq_true rfl) dX12_isWord_30 (mc_XS_length _ _ _ _ hv1)) ?_
    refine j_icmp_ge C (tgt := 67) dX12_isWord_33 (by decide) (fun h2 => ?_) (fun h2 => ?_)
    · replace hm := if_t hm h2
      refine j_sub [2] rfl ?_
      exact tj_X12_isWord_67 C _ _ _  hm
    · replace hm := if_f hm h2
      refine j_aload_n C 0 dX12_isWord_36 rfl ?_
      obtain ⟨q3, h4, hm⟩ := bd_some hm
      refine j_getR C fg_X12_29_11 hv0 (dr_spec h4).1 dX12_isWord_37 ?_
      refine j_aload_n C 0 dX12_isWord_40 rfl ?_
      refine j_getI C fg_X12_121_11 hv0 dX12_isWord_41 ?_
      refine j_iload_n C 3 dX12_isWord_44 rfl ?_
      refine j_iadd C dX12_isWord_45 ?_
      obtain ⟨h5, hm⟩ := gd_some hm
      refine j_bald C ((dr_spec h4).2) h5 dX12_isWord_46 ?_
      refine j_aload_n C 1 dX12_isWord_47 rfl ?_
      refine j_iload_n C 3 dX12_isWord_48 rfl ?_
      obtain ⟨h6, hm⟩ := gd_some hm
      refine call_I (run_Str C hv1 lx_X12_chr (by decide) (As := [.int v3]) rfl rfl (Nat.le_of_ble_eq_true rfl) dX12_isWord_49 (mc_XS_charAt _ _ _ _ _ hv1 h6)) ?_
      refine j_icmp_ne C (tgt := 59) dX12_isWord_52 (by decide) (fun h7 => ?_) (fun h7 => ?_)
      · replace hm := if_f hm h7
        refine j_iconst C (v := 0) dX12_isWord_59 rfl ?_
        refine j_sub [0, 1, 3] rfl ?_
        exact tj_X12_isWord_60 C _ _ _ _ _ _ _ hk24 hv0 hv1 hm
      · replace hm := if_t hm h7
        refine j_iconst C (v := 1) dX12_isWord_55 rfl ?_
        refine j_goto C (tgt := 60) dX12_isWord_56 (by decide) ?_
        refine j_sub [0, 1, 3] rfl ?_
        exact tj_X12_isWord_60 C _ _ _ _ _ _ _ hk24 hv0 hv1 hm
set_option maxRecDepth 20000 in
set_option maxHeartbeats 4000000 in
theorem tl_X12_isWord_24 {x : Ctx} {Λ : Lay} (C : Cx x cX12_isWord 4 (some .boolean) RX12 Λ rm_X12_isWord) (N : Nat) (μ : Mem) (v0 : Nat) (v1 : Nat) (hv0 : inL Λ v0 11) (hv1 : v1 < nWS) (s : Int32 × Int32) {r : Int32} (hm : lp_X12_isWord_24 N Λ μ v0 v1 s = some r) : J x 4 Λ (QI x Λ r μ) 24 [(0, .ref v0), (1, .ref (sK Λ v1)), (2, .int s.1), (3, .int s.2)] [] (μ) :=
  cw_ind (P := fun s r => J x 4 Λ (QI x Λ r μ) 24 [(0, .ref v0), (1, .ref (sK Λ v1)), (2, .int s.1), (3, .int s.2)] [] (μ)) (fun k hkk s r e => tb_X12_isWord_24 C _ _ _ _ _ _ _ hkk hv0 hv1 e) N s r hm
set_option maxRecDepth 20000 in
set_option maxHeartbeats 4000000 in
theorem tj_X12_isWord_21 {x : Ctx} {Λ : Lay} (C : Cx x cX12_isWord 4 (some .boolean) RX12 Λ rm_X12_isWord) (N : Nat) (μ : Mem) (v0 : Nat) (v1 : Nat) (s0 : Int32) (hv0 : inL Λ v0 11) (hv1 : v1 < nWS) {r : Int32} (hm : jn_X12_isWord_21 N Λ μ v0 v1 s0 = some r) : J x 4 Λ (QI x Λ r μ) 21 [(0, .ref v0), (1, .ref (sK Λ v1))] [.int s0] μ := by
  refine j_istore_n C (lv' := [(2, .int s0), (0, .ref v0), (1, .ref (sK Λ v1))]) dX12_isWord_21 (by decide) rfl ?_
  refine j_iconst C (v := 0) dX12_isWord_22 rfl ?_
  refine j_istore_n C (lv' := [(3, .int 0), (2, .int s0), (0, .ref v0), (1, .ref (sK Λ v1))]) dX12_isWord_23 (by decide) rfl ?_
  refine j_sub [2, 3, 1, 0] rfl ?_
  exact tl_X12_isWord_24 C _ _ _ _ hv0 hv1 (s0, 0) hm
set_option maxRecDepth 20000 in
set_option maxHeartbeats 4000000 in
theorem tm_X12_isWord {x : Ctx} {Λ : Lay} (C : Cx x cX12_isWord 4 (some .boolean) RX12 Λ rm_X12_isWord) (N : Nat) (μ : Mem) (v0 : Nat) (v1 : Nat) (hv0 : inL Λ v0 11) (hv1 : v1 < nWS) {r : Int32} (hm : m_X12_isWord N Λ μ v0 v1 = some r) : J x 4 Λ (QI x Λ r μ) 0 [(0, .ref v0), (1, .ref (sK Λ v1))] [] μ := by
  refine j_aload_n C 0 dX12_isWord_0 rfl ?_
  refine j_getI C fg_X12_111_11 hv0 dX12_isWord_1 ?_
  refine j_aload_n C 0 dX12_isWord_4 rfl ?_
  refine j_getI C fg_X12_121_11 hv0 dX12_isWord_5 ?_
  refine j_isub C dX12_isWord_8 ?_
  refine j_aload_n C 1 dX12_isWord_9 rfl ?_
  refine call_I (run_Str C hv1 lx_X12_len (by decide) (As := []) rfl rfl (Nat.le_of_ble_eq_true rfl) dX12_isWord_10 (mc_XS_length _ _ _ _ hv1)) ?_
  refine j_icmp_ne C (tgt := 20) dX12_isWord_13 (by decide) (fun h1 => ?_) (fun h1 => ?_)
  · replace hm := if_f hm h1
    refine j_iconst C (v := 0) dX12_isWord_20 rfl ?_
    exact tj_X12_isWord_21 C _ _ _ _ _ hv0 hv1 hm
  · replace hm := if_t hm h1
    refine j_iconst C (v := 1) dX12_isWord_16 rfl ?_
    refine j_goto C (tgt := 21) dX12_isWord_17 (by decide) ?_
    exact tj_X12_isWord_21 C _ _ _ _ _ hv0 hv1 hm
set_option maxRecDepth 20000 in
set_option maxHeartbeats 4000000 in
theorem mc_X12_isWord (l : Launch) (N : Nat) (Λ : Lay) (μ : Mem) (v0 : Nat) (v1 : Nat) (hv0 : inL Λ v0 11) (hv1 : v1 < nWS) {r : Int32} (hm : m_X12_isWord N Λ μ v0 v1 = some r) : MI l yX12_isWord cX12_isWord 4 (some .boolean) rm_X12_isWord Λ [.ref v0, .ref (sK Λ v1)] μ r μ := mi_of rfl (Nat.le_of_ble_eq_true rfl) (fun x C _ => tm_X12_isWord C _ _ _ _ hv0 hv1 hm)
abbrev rm_X12_passes : Room := { frames := 5, cells := 0, slots := 0, locals := 113 }
set_option maxRecDepth 20000 in
set_option maxHeartbeats 4000000 in
theorem tm_X12_passes {x : Ctx} {Λ : Lay} (C : Cx x cX12_passes 2 (some .boolean) RX12 Λ rm_X12_passes) (N : Nat) (μ : Mem) (v0 : Nat) (v1 : Nat) (hv0 : inL Λ v0 11) (hv1 : v1 < nWS) {r : Int32 × Mem} (hm : m_X12_passes N Λ μ v0 v1 = some r) : J x 2 Λ (QI x Λ r.1 r.2) 0 [(0, .ref v0), (1, .ref (sK Λ v1))] [] μ := by
  refine j_aload_n C 0 dX12_passes_0 rfl ?_
  obtain ⟨r1, h2, hm⟩ := bd_some hm
  refine call_V (run_LV C lk_X12_136 ⟨rfl, rfl, Nat.le_of_ble_eq_true rfl, Nat.le_of_ble_eq_true rfl⟩ (As := []) hv0 rfl rfl (Nat.le_of_ble_eq_true rfl) dX12_passes_1 (mc_X12_letters _ _ _ _ _ hv0 h2)) ?_
  refine j_aload_n C 0 dX12_passes_4 rfl ?_
  refine j_aload_n C 1 dX12_passes_5 rfl ?_
  obtain ⟨r3, h4, hm⟩ := bd_some hm
  refine call_I (run_LV C lk_X12_139 ⟨rfl, rfl, Nat.le_of_ble_eq_true rfl, Nat.le_of_ble_eq_true rfl⟩ (As := [.ref (sK Λ v1)]) hv0 rfl rfl (Nat.le_of_ble_eq_true rfl) dX12_passes_6 (mc_X12_isWord _ _ _ _ _ _ hv0 hv1 h4)) ?_
  refine j_if_eq C (tgt := 14) dX12_passes_9 (by decide) (fun h5 => ?_) (fun h5 => ?_)
  · replace hm := if_t hm h5
    refine j_aload_n C 0 dX12_passes_14 rfl ?_
    refine j_aload_n C 0 dX12_passes_15 rfl ?_
    refine j_getI C fg_X12_121_11 hv0 dX12_passes_16 ?_
    obtain ⟨μ6, e7, hm⟩ := lt_some hm
    refine j_putI C fp_X12_111_11 hv0 e7 dX12_passes_19 ?_
    refine j_iconst C (v := 0) dX12_passes_22 rfl ?_
    obtain rfl := Option.some.inj hm
    exact j_iretz C rfl dX12_passes_23
  · replace hm := if_f hm h5
    refine j_iconst C (v := 1) dX12_passes_12 rfl ?_
    obtain rfl := Option.some.inj hm
    exact j_iretz C rfl dX12_passes_13
set_option maxRecDepth 20000 in
set_option maxHeartbeats 4000000 in
theorem mc_X12_passes (l : Launch) (N : Nat) (Λ : Lay) (μ : Mem) (v0 : Nat) (v1 : Nat) (hv0 : inL Λ v0 11) (hv1 : v1 < nWS) {r : Int32 × Mem} (hm : m_X12_passes N Λ μ v0 v1 = some r) : MI l yX12_passes cX12_passes 2 (some .boolean) rm_X12_passes Λ [.ref v0, .ref (sK Λ v1)] μ r.1 r.2 := mi_of rfl (Nat.le_of_ble_eq_true rfl) (fun x C _ => tm_X12_passes C _ _ _ _ hv0 hv1 hm)
abbrev rm_X12_sign : Room := { frames := 2, cells := 0, slots := 0, locals := 42 }
set_option maxRecDepth 20000 in
set_option maxHeartbeats 4000000 in
theorem tm_X12_sign {x : Ctx} {Λ : Lay} (C : Cx x cX12_sign 2 (some .boolean) RX12 Λ rm_X12_sign) (N : Nat) (μ : Mem) (v0 : Nat) (v1 : Int32) (hv0 : inL Λ v0 11) {r : Int32 × Mem} (hm : m_X12_sign N Λ μ v0 v1 = some r) : J x 2 Λ (QI x Λ r.1 r.2) 0 [(0, .ref v0), (1, .int v1)] [] μ := by
  refine j_aload_n C 0 dX12_sign_0 rfl ?_
  obtain ⟨r1, h2, hm⟩ := bd_some hm
  refine call_V (run_LV C lk_X12_124 ⟨rfl, rfl, Nat.le_of_ble_eq_true rfl, Nat.le_of_ble_eq_true rfl⟩ (As := []) hv0 rfl rfl (Nat.le_of_ble_eq_true rfl) dX12_sign_1 (mc_X12_blanks _ _ _ _ _ hv0 h2)) ?_
  refine j_aload_n C 0 dX12_sign_4 rfl ?_
  refine j_iload_n C 1 dX12_sign_5 rfl ?_
  refine j_iload_n C 1 dX12_sign_6 rfl ?_
  obtain ⟨r3, h4, hm⟩ := bd_some hm
  refine call_I (run_LV C lk_X12_117 ⟨rfl, rfl, Nat.le_of_ble_eq_true rfl, Nat.le_of_ble_eq_true rfl⟩ (As := [.int v1, .int v1]) hv0 rfl rfl (Nat.le_of_ble_eq_true rfl) dX12_sign_7 (mc_X12_isAt _ _ _ _ _ _ _ hv0 h4)) ?_
  refine j_if_ne C (tgt := 15) dX12_sign_10 (by decide) (fun h5 => ?_) (fun h5 => ?_)
  · replace hm := if_f hm h5
    refine j_aload_n C 0 dX12_sign_15 rfl ?_
    refine j_dup C dX12_sign_16 rfl ?_
    refine j_getI C fg_X12_111_11 hv0 dX12_sign_17 ?_
    refine j_iconst C (v := 1) dX12_sign_20 rfl ?_
    refine j_iadd C dX12_sign_21 ?_
    obtain ⟨μ6, e7, hm⟩ := lt_some hm
    refine j_putI C fp_X12_111_11 hv0 e7 dX12_sign_22 ?_
    refine j_iconst C (v := 1) dX12_sign_25 rfl ?_
    obtain rfl := Option.some.inj hm
    exact j_iretz C rfl dX12_sign_26
  · replace hm := if_t hm h5
    refine j_iconst C (v := 0) dX12_sign_13 rfl ?_
    obtain rfl := Option.some.inj hm
    exact j_iretz C rfl dX12_sign_14
set_option maxRecDepth 20000 in
set_option maxHeartbeats 4000000 in
theorem mc_X12_sign (l : Launch) (N : Nat) (Λ : Lay) (μ : Mem) (v0 : Nat) (v1 : Int32) (hv0 : inL Λ v0 11) {r : Int32 × Mem} (hm : m_X12_sign N Λ μ v0 v1 = some r) : MI l yX12_sign cX12_sign 2 (some .boolean) rm_X12_sign Λ [.ref v0, .int v1] μ r.1 r.2 := mi_of rfl (Nat.le_of_ble_eq_true rfl) (fun x C _ => tm_X12_sign C _ _ _ _ hv0 hm)
abbrev rm_X12_number : Room := { frames := 2, cells := 0, slots := 0, locals := 42 }
set_option maxRecDepth 20000 in
set_option maxHeartbeats 4000000 in
theorem tj_X12_number_51 {x : Ctx} {Λ : Lay} (C : Cx x cX12_number 4 (some .int) RX12 Λ rm_X12_number) (N : Nat) (μ : Mem) (k6 : Int32 × Mem → Option (Int32 × Mem)) (v0 : Nat) (v1 : Int32) (v2 : Int32) (s0 : Int32) (hk6 : ∀ (s : Int32 × Mem) (r : Int32 × Mem), k6 s = some r → J x 4 Λ (QI x Λ r.1 r.2) 6 [(0, .ref v0), (1, .int v1), (2, .int v2), (3, .int s.1)] [] (s.2)) (hv0 : inL Λ v0 11) {r : Int32 × Mem} (hm : jn_X12_number_51 N Λ μ k6 v0 v1 v2 s0 = some r) : J x 4 Λ (QI x Λ r.1 r.2) 51 [(0, .ref v0), (1, .int v1), (2, .int v2)] [.int s0] μ := by
  refine j_istore_n C (lv' := [(3, .int s0), (0, .ref v0), (1, .int v1), (2, .int v2)]) dX12_number_51 (by decide) rfl ?_
  refine j_aload_n C 1 dX12_number_52 rfl ?_
  refine j_dup C dX12_number_53 rfl ?_
  refine j_getI C fg_X12_111_11 hv0 dX12_number_54 ?_
  refine j_iconst C (v := 1) dX12_number_57 rfl ?_
  refine j_iadd C dX12_number_58 ?_
  obtain ⟨μ1, e2, hm⟩ := lt_some hm
  refine j_putI C fp_X12_111_11 hv0 e2 dX12_number_59 ?_
  refine j_goto C (tgt := 6) dX12_number_62 (by decide) ?_
  refine j_sub [1, 2, 3, 0] rfl ?_
  exact hk6 (s0, μ1) _ hm
set_option maxRecDepth 20000 in
set_option maxHeartbeats 4000000 in
theorem tj_X12_number_104 {x : Ctx} {Λ : Lay} (C : Cx x cX12_number 4 (some .int) RX12 Λ rm_X12_number) (N : Nat) (μ : Mem) (s0 : Int32) {r : Int32 × Mem} (hm : jn_X12_number_104 N Λ μ s0 = some r) : J x 4 Λ (QI x Λ r.1 r.2) 104 [] [.int s0] μ := by
  obtain rfl := Option.some.inj hm
  exact j_ireti C dX12_number_104
set_option maxRecDepth 20000 in
set_option maxHeartbeats 4000000 in
theorem tj_X12_number_99 {x : Ctx} {Λ : Lay} (C : Cx x cX12_number 4 (some .int) RX12 Λ rm_X12_number) (N : Nat) (μ : Mem) {r : Int32 × Mem} (hm : jn_X12_number_99 N Λ μ = some r) : J x 4 Λ (QI x Λ r.1 r.2) 99 [] [] μ := by
  refine j_iconst C (v := -1) dX12_number_99 rfl ?_
  refine j_goto C (tgt := 104) dX12_number_100 (by decide) ?_
  exact tj_X12_number_104 C _ _ _  hm
set_option maxRecDepth 20000 in
set_option maxHeartbeats 4000000 in
theorem tb_X12_number_6 {x : Ctx} {Λ : Lay} (C : Cx x cX12_number 4 (some .int) RX12 Λ rm_X12_number) (N : Nat) (μ : Mem) (k6 : Int32 × Mem → Option (Int32 × Mem)) (v0 : Nat) (v1 : Int32) (v2 : Int32) (v3 : Int32) (hk6 : ∀ (s : Int32 × Mem) (r : Int32 × Mem), k6 s = some r → J x 4 Λ (QI x Λ r.1 r.2) 6 [(0, .ref v0), (1, .int v1), (2, .int v2), (3, .int s.1)] [] (s.2)) (hv0 : inL Λ v0 11) {r : Int32 × Mem} (hm : bd_X12_number_6 N Λ μ k6 v0 v1 v2 v3 = some r) : J x 4 Λ (QI x Λ r.1 r.2) 6 [(0, .ref v0), (1, .int v1), (2, .int v2), (3, .int v3)] [] μ := by
  refine j_aload_n C 0 dX12_number_6 rfl ?_
  refine j_bipush C (v := 48) dX12_number_7 rfl ?_
  refine j_bipush C (v := 57) dX12_number_9 rfl ?_
  obtain ⟨r1, h2, hm⟩ := bd_some hm
  refine call_I (run_LV C lk_X12_117 ⟨rfl, rfl, Nat.le_of_ble_eq_true rfl, Nat.le_of_ble_eq_true rfl⟩ (As := [.int 48, .int 57]) hv0 rfl rfl (Nat.le_of_ble_eq_true rfl) dX12_number_11 (mc_X12_isAt _ _ _ _ _ _ _ hv0 h2)) ?_
  refine j_if_eq C (tgt := 65) dX12_number_14 (by decide) (fun h3 => ?_) (fun h3 => ?_)
  · replace hm := if_t hm h3
    refine j_aload_n C 0 dX12_number_65 rfl ?_
    refine j_getI C fg_X12_111_11 hv0 dX12_number_66 ?_
    refine j_aload_n C 0 dX12_number_69 rfl ?_
    refine j_getI C fg_X12_121_11 hv0 dX12_number_70 ?_
    refine j_icmp_eq C (tgt := 99) dX12_number_73 (by decide) (fun h4 => ?_) (fun h4 => ?_)
    · replace hm := if_t hm h4
      refine j_sub [] rfl ?_
      exact tj_X12_number_99 C _ _  hm
    · replace hm := if_f hm h4
      refine j_aload_n C 0 dX12_number_76 rfl ?_
      refine j_getI C fg_X12_111_11 hv0 dX12_number_77 ?_
      refine j_aload_n C 0 dX12_number_80 rfl ?_
      refine j_getI C fg_X12_121_11 hv0 dX12_number_81 ?_
      refine j_isub C dX12_number_84 ?_
      refine j_iconst C (v := 3) dX12_number_85 rfl ?_
      refine j_icmp_gt C (tgt := 99) dX12_number_86 (by decide) (fun h5 => ?_) (fun h5 => ?_)
      · replace hm := if_t hm h5
        refine j_sub [] rfl ?_
        exact tj_X12_number_99 C _ _  hm
      · replace hm := if_f hm h5
        refine j_iload_n C 3 dX12_number_89 rfl ?_
        refine j_iload_n C 1 dX12_number_90 rfl ?_
        refine j_icmp_lt C (tgt := 99) dX12_number_91 (by decide) (fun h6 => ?_) (fun h6 => ?_)
        · replace hm := if_t hm h6
          refine j_sub [] rfl ?_
          exact tj_X12_number_99 C _ _  hm
        · replace hm := if_f hm h6
          refine j_iload_n C 3 dX12_number_94 rfl ?_
          refine j_iload_n C 2 dX12_number_95 rfl ?_
          refine j_icmp_le C (tgt := 103) dX12_number_96 (by decide) (fun h7 => ?_) (fun h7 => ?_)
          · replace hm := if_t hm h7
            refine j_iload_n C 3 dX12_number_103 rfl ?_
            refine j_sub [] rfl ?_
            exact tj_X12_number_104 C _ _ _  hm
          · replace hm := if_f hm h7
            refine j_sub [] rfl ?_
            exact tj_X12_number_99 C _ _  hm
  · replace hm := if_f hm h3
    refine j_aload_n C 0 dX12_number_17 rfl ?_
    refine j_getI C fg_X12_111_11 hv0 dX12_number_18 ?_
    refine j_aload_n C 0 dX12_number_21 rfl ?_
    refine j_getI C fg_X12_121_11 hv0 dX12_number_22 ?_
    refine j_isub C dX12_number_25 ?_
    refine j_iconst C (v := 3) dX12_number_26 rfl ?_
    refine j_icmp_ge C (tgt := 50) dX12_number_27 (by decide) (fun h8 => ?_) (fun h8 => ?_)
    · replace hm := if_t hm h8
      refine j_iload_n C 3 dX12_number_50 rfl ?_
      refine j_sub [0, 1, 2] rfl ?_
      exact tj_X12_number_51 C _ _ _ _ _ _ _ hk6 hv0 hm
    · replace hm := if_f hm h8
      refine j_bipush C (v := 10) dX12_number_30 rfl ?_
      refine j_iload_n C 3 dX12_number_32 rfl ?_
      refine j_imul C dX12_number_33 ?_
      refine j_aload_n C 0 dX12_number_34 rfl ?_
      obtain ⟨q9, h10, hm⟩ := bd_some hm
      refine j_getR C fg_X12_29_11 hv0 (dr_spec h10).1 dX12_number_35 ?_
      refine j_aload_n C 0 dX12_number_38 rfl ?_
      refine j_getI C fg_X12_111_11 hv0 dX12_number_39 ?_
      obtain ⟨h11, hm⟩ := gd_some hm
      refine j_bald C ((dr_spec h10).2) h11 dX12_number_42 ?_
      refine j_iadd C dX12_number_43 ?_
      refine j_bipush C (v := 48) dX12_number_44 rfl ?_
      refine j_isub C dX12_number_46 ?_
      refine j_goto C (tgt := 51) dX12_number_47 (by decide) ?_
      refine j_sub [0, 1, 2] rfl ?_
      exact tj_X12_number_51 C _ _ _ _ _ _ _ hk6 hv0 hm
set_option maxRecDepth 20000 in
set_option maxHeartbeats 4000000 in
theorem tl_X12_number_6 {x : Ctx} {Λ : Lay} (C : Cx x cX12_number 4 (some .int) RX12 Λ rm_X12_number) (N : Nat) (v0 : Nat) (v1 : Int32) (v2 : Int32) (hv0 : inL Λ v0 11) (s : Int32 × Mem) {r : Int32 × Mem} (hm : lp_X12_number_6 N Λ v0 v1 v2 s = some r) : J x 4 Λ (QI x Λ r.1 r.2) 6 [(0, .ref v0), (1, .int v1), (2, .int v2), (3, .int s.1)] [] (s.2) :=
  cw_ind (P := fun s r => J x 4 Λ (QI x Λ r.1 r.2) 6 [(0, .ref v0), (1, .int v1), (2, .int v2), (3, .int s.1)] [] (s.2)) (fun k hkk s r e => tb_X12_number_6 C _ _ _ _ _ _ _ hkk hv0 e) N s r hm
set_option maxRecDepth 20000 in
set_option maxHeartbeats 4000000 in
theorem tm_X12_number {x : Ctx} {Λ : Lay} (C : Cx x cX12_number 4 (some .int) RX12 Λ rm_X12_number) (N : Nat) (μ : Mem) (v0 : Nat) (v1 : Int32) (v2 : Int32) (hv0 : inL Λ v0 11) {r : Int32 × Mem} (hm : m_X12_number N Λ μ v0 v1 v2 = some r) : J x 4 Λ (QI x Λ r.1 r.2) 0 [(0, .ref v0), (1, .int v1), (2, .int v2)] [] μ := by
  refine j_aload_n C 0 dX12_number_0 rfl ?_
  obtain ⟨r1, h2, hm⟩ := bd_some hm
  refine call_V (run_LV C lk_X12_124 ⟨rfl, rfl, Nat.le_of_ble_eq_true rfl, Nat.le_of_ble_eq_true rfl⟩ (As := []) hv0 rfl rfl (Nat.le_of_ble_eq_true rfl) dX12_number_1 (mc_X12_blanks _ _ _ _ _ hv0 h2)) ?_
  refine j_iconst C (v := 0) dX12_number_4 rfl ?_
  refine j_istore_n C (lv' := [(3, .int 0), (0, .ref v0), (1, .int v1), (2, .int v2)]) dX12_number_5 (by decide) rfl ?_
  refine j_sub [1, 2, 3, 0] rfl ?_
  exact tl_X12_number_6 C _ _ _ _ hv0 (0, r1) hm
set_option maxRecDepth 20000 in
set_option maxHeartbeats 4000000 in
theorem mc_X12_number (l : Launch) (N : Nat) (Λ : Lay) (μ : Mem) (v0 : Nat) (v1 : Int32) (v2 : Int32) (hv0 : inL Λ v0 11) {r : Int32 × Mem} (hm : m_X12_number N Λ μ v0 v1 v2 = some r) : MI l yX12_number cX12_number 4 (some .int) rm_X12_number Λ [.ref v0, .int v1, .int v2] μ r.1 r.2 := mi_of rfl (Nat.le_of_ble_eq_true rfl) (fun x C _ => tm_X12_number C _ _ _ _ _ hv0 hm)
abbrev rm_X12_behind : Room := { frames := 5, cells := 0, slots := 0, locals := 113 }
set_option maxRecDepth 20000 in
set_option maxHeartbeats 4000000 in
theorem tj_X12_behind_22 {x : Ctx} {Λ : Lay} (C : Cx x cX12_behind 4 (some .int) RX12 Λ rm_X12_behind) (N : Nat) (μ : Mem) (s0 : Int32) {r : Int32 × Mem} (hm : jn_X12_behind_22 N Λ μ s0 = some r) : J x 4 Λ (QI x Λ r.1 r.2) 22 [] [.int s0] μ := by
  obtain rfl := Option.some.inj hm
  exact j_ireti C dX12_behind_22
set_option maxRecDepth 20000 in
set_option maxHeartbeats 4000000 in
theorem tm_X12_behind {x : Ctx} {Λ : Lay} (C : Cx x cX12_behind 4 (some .int) RX12 Λ rm_X12_behind) (N : Nat) (μ : Mem) (v0 : Nat) (v1 : Nat) (v2 : Int32) (v3 : Int32) (hv0 : inL Λ v0 11) (hv1 : v1 < nWS) {r : Int32 × Mem} (hm : m_X12_behind N Λ μ v0 v1 v2 v3 = some r) : J x 4 Λ (QI x Λ r.1 r.2) 0 [(0, .ref v0), (1, .ref (sK Λ v1)), (2, .int v2), (3, .int v3)] [] μ := by
  refine j_aload_n C 0 dX12_behind_0 rfl ?_
  obtain ⟨r1, h2, hm⟩ := bd_some hm
  refine call_V (run_LV C lk_X12_136 ⟨rfl, rfl, Nat.le_of_ble_eq_true rfl, Nat.le_of_ble_eq_true rfl⟩ (As := []) hv0 rfl rfl (Nat.le_of_ble_eq_true rfl) dX12_behind_1 (mc_X12_letters _ _ _ _ _ hv0 h2)) ?_
  refine j_aload_n C 0 dX12_behind_4 rfl ?_
  refine j_aload_n C 1 dX12_behind_5 rfl ?_
  obtain ⟨r3, h4, hm⟩ := bd_some hm
  refine call_I (run_LV C lk_X12_139 ⟨rfl, rfl, Nat.le_of_ble_eq_true rfl, Nat.le_of_ble_eq_true rfl⟩ (As := [.ref (sK Λ v1)]) hv0 rfl rfl (Nat.le_of_ble_eq_true rfl) dX12_behind_6 (mc_X12_isWord _ _ _ _ _ _ hv0 hv1 h4)) ?_
  refine j_if_eq C (tgt := 21) dX12_behind_9 (by decide) (fun h5 => ?_) (fun h5 => ?_)
  · replace hm := if_t hm h5
    refine j_iconst C (v := -1) dX12_behind_21 rfl ?_
    refine j_sub [] rfl ?_
    exact tj_X12_behind_22 C _ _ _  hm
  · replace hm := if_f hm h5
    refine j_aload_n C 0 dX12_behind_12 rfl ?_
    refine j_iload_n C 2 dX12_behind_13 rfl ?_
    refine j_iload_n C 3 dX12_behind_14 rfl ?_
    obtain ⟨r6, h7, hm⟩ := bd_some hm
    refine call_I (run_LV C lk_X12_143 ⟨rfl, rfl, Nat.le_of_ble_eq_true rfl, Nat.le_of_ble_eq_true rfl⟩ (As := [.int v2, .int v3]) hv0 rfl rfl (Nat.le_of_ble_eq_true rfl) dX12_behind_15 (mc_X12_number _ _ _ _ _ _ _ hv0 h7)) ?_
    refine j_goto C (tgt := 22) dX12_behind_18 (by decide) ?_
    refine j_sub [] rfl ?_
    exact tj_X12_behind_22 C _ _ _  hm
set_option maxRecDepth 20000 in
set_option maxHeartbeats 4000000 in
theorem mc_X12_behind (l : Launch) (N : Nat) (Λ : Lay) (μ : Mem) (v0 : Nat) (v1 : Nat) (v2 : Int32) (v3 : Int32) (hv0 : inL Λ v0 11) (hv1 : v1 < nWS) {r : Int32 × Mem} (hm : m_X12_behind N Λ μ v0 v1 v2 v3 = some r) : MI l yX12_behind cX12_behind 4 (some .int) rm_X12_behind Λ [.ref v0, .ref (sK Λ v1), .int v2, .int v3] μ r.1 r.2 := mi_of rfl (Nat.le_of_ble_eq_true rfl) (fun x C _ => tm_X12_behind C _ _ _ _ _ _ hv0 hv1 hm)
abbrev rm_X12_told : Room := { frames := 6, cells := 0, slots := 0, locals := 134 }
set_option maxRecDepth 20000 in
set_option maxHeartbeats 4000000 in
theorem tj_X12_told_30 {x : Ctx} {Λ : Lay} (C : Cx x cX12_told 5 (some .int) RX12 Λ rm_X12_told) (N : Nat) (μ : Mem) (s0 : Int32) {r : Int32 × Mem} (hm : jn_X12_told_30 N Λ μ s0 = some r) : J x 5 Λ (QI x Λ r.1 r.2) 30 [] [.int s0] μ := by
  obtain rfl := Option.some.inj hm
  exact j_ireti C dX12_told_30
set_option maxRecDepth 20000 in
set_option maxHeartbeats 4000000 in
theorem tm_X12_told {x : Ctx} {Λ : Lay} (C : Cx x cX12_told 5 (some .int) RX12 Λ rm_X12_told) (N : Nat) (μ : Mem) (v0 : Nat) (v1 : Nat) (v2 : Int32) (v3 : Int32) (hv0 : inL Λ v0 11) (hv1 : v1 < nWS) {r : Int32 × Mem} (hm : m_X12_told N Λ μ v0 v1 v2 v3 = some r) : J x 5 Λ (QI x Λ r.1 r.2) 0 [(0, .ref v0), (1, .ref (sK Λ v1)), (2, .int v2), (3, .int v3)] [] μ := by
  refine j_aload_n C 0 dX12_told_0 rfl ?_
  refine j_aload_n C 1 dX12_told_1 rfl ?_
  obtain ⟨r1, h2, hm⟩ := bd_some hm
  refine call_I (run_LV C lk_X12_146 ⟨rfl, rfl, Nat.le_of_ble_eq_true rfl, Nat.le_of_ble_eq_true rfl⟩ (As := [.ref (sK Λ v1)]) hv0 rfl rfl (Nat.le_of_ble_eq_true rfl) dX12_told_2 (mc_X12_passes _ _ _ _ _ _ hv0 hv1 h2)) ?_
  refine j_if_ne C (tgt := 10) dX12_told_5 (by decide) (fun h3 => ?_) (fun h3 => ?_)
  · replace hm := if_f hm h3
    refine j_aload_n C 0 dX12_told_10 rfl ?_
    refine j_iconst C (v := 0) dX12_told_11 rfl ?_
    refine j_iload_n C 2 dX12_told_12 rfl ?_
    obtain ⟨r4, h5, hm⟩ := bd_some hm
    refine call_I (run_LV C lk_X12_143 ⟨rfl, rfl, Nat.le_of_ble_eq_true rfl, Nat.le_of_ble_eq_true rfl⟩ (As := [.int 0, .int v2]) hv0 rfl rfl (Nat.le_of_ble_eq_true rfl) dX12_told_13 (mc_X12_number _ _ _ _ _ _ _ hv0 h5)) ?_
    refine j_istore C (lv' := [(4, .int r4.1), (0, .ref v0), (1, .ref (sK Λ v1)), (2, .int v2), (3, .int v3)]) dX12_told_16 (by decide) rfl ?_
    refine j_iload C 0 dX12_told_18 rfl ?_
    refine j_if_ge C (tgt := 28) dX12_told_20 (by decide) (fun h6 => ?_) (fun h6 => ?_)
    · replace hm := if_t hm h6
      refine j_iload C 0 dX12_told_28 rfl ?_
      refine j_sub [] rfl ?_
      exact tj_X12_told_30 C _ _ _  hm
    · replace hm := if_f hm h6
      refine j_ldc C (v := 100000000) wk_1722 dX12_told_23 ?_
      refine j_goto C (tgt := 30) dX12_told_25 (by decide) ?_
      refine j_sub [] rfl ?_
      exact tj_X12_told_30 C _ _ _  hm
  · replace hm := if_t hm h3
    refine j_iload_n C 3 dX12_told_8 rfl ?_
    obtain rfl := Option.some.inj hm
    exact j_ireti C dX12_told_9
set_option maxRecDepth 20000 in
set_option maxHeartbeats 4000000 in
theorem mc_X12_told (l : Launch) (N : Nat) (Λ : Lay) (μ : Mem) (v0 : Nat) (v1 : Nat) (v2 : Int32) (v3 : Int32) (hv0 : inL Λ v0 11) (hv1 : v1 < nWS) {r : Int32 × Mem} (hm : m_X12_told N Λ μ v0 v1 v2 v3 = some r) : MI l yX12_told cX12_told 5 (some .int) rm_X12_told Λ [.ref v0, .ref (sK Λ v1), .int v2, .int v3] μ r.1 r.2 := mi_of rfl (Nat.le_of_ble_eq_true rfl) (fun x C _ => tm_X12_told C _ _ _ _ _ _ hv0 hv1 hm)

abbrev rm_X6_findBins : Room := { frames := 0, cells := 0, slots := 0, locals := 0 }
set_option maxRecDepth 20000 in
set_option maxHeartbeats 4000000 in
theorem tj_X6_findBins_86 {x : Ctx} {Λ : Lay} (C : Cx x cX6_findBins 5 none RX6 Λ rm_X6_findBins) (N : Nat) (μ : Mem) (k9 : Int32 × Int32 × Mem → Option (Mem)) (v0 : Nat) (v1 : Int32) (v3 : Int32) (s0 : Int32) (hk9 : ∀ (s : Int32 × Int32 × Mem) (r : Mem), k9 s = some r → J x 5 Λ (QV x Λ r) 9 [(0, .ref v0), (1, .int v1), (2, .int s.1), (3, .int s.2.1)] [] (s.2.2)) (hv0 : inL Λ v0 6) {r : Mem} (hm : jn_X6_findBins_86 N Λ μ k9 v0 v1 v3 s0 = some r) : J x 5 Λ (QV x Λ r) 86 [(0, .ref v0), (1, .int v1), (3, .int v3)] [.int s0] μ := by
  refine j_istore_n C (lv' := [(2, .int s0), (0, .ref v0), (1, .int v1), (3, .int v3)]) dX6_findBins_86 (by decide) rfl ?_
  obtain ⟨y1, e2, hm⟩ := lt_some hm
  refine j_iinc C 3 (v := y1) (lv' := [(3, .int y1), (2, .int s0), (0, .ref v0), (1, .int v1)]) dX6_findBins_87 rfl (by rw [e2]; rfl) (by decide) rfl ?_
  refine j_goto C (tgt := 9) dX6_findBins_90 (by decide) ?_
  refine j_sub [2, 3, 1, 0] rfl ?_
  exact hk9 (s0, y1, μ) _ hm
set_option maxRecDepth 20000 in
set_option maxHeartbeats 4000000 in
theorem tj_X6_findBins_74 {x : Ctx} {Λ : Lay} (C : Cx x cX6_findBins 5 none RX6 Λ rm_X6_findBins) (N : Nat) (μ : Mem) (k9 : Int32 × Int32 × Mem → Option (Mem)) (v0 : Nat) (v1 : Int32) (v2 : Int32) (v3 : Int32) (v4 : Int32) (hk9 : ∀ (s : Int32 × Int32 × Mem) (r : Mem), k9 s = some r → J x 5 Λ (QV x Λ r) 9 [(0, .ref v0), (1, .int v1), (2, .int s.1), (3, .int s.2.1)] [] (s.2.2)) (hv0 : inL Λ v0 6) {r : Mem} (hm : jn_X6_findBins_74 N Λ μ k9 v0 v1 v2 v3 v4 = some r) : J x 5 Λ (QV x Λ r) 74 [(0, .ref v0), (1, .int v1), (2, .int v2), (3, .int v3), (4, .int v4)] [] μ := by
  refine j_iload C 4 dX6_findBins_74 rfl ?_
  refine j_if_eq C (tgt := 85) dX6_findBins_76 (by decide) (fun h1 => ?_) (fun h1 => ?_)
  · replace hm := if_t hm h1
    refine j_iconst C (v := 0) dX6_findBins_85 rfl ?_
    refine j_sub [0, 1, 3] rfl ?_
    exact tj_X6_findBins_86 C _ _ _ _ _ _ _ hk9 hv0 hm
  · replace hm := if_f hm h1
    refine j_iload_n C 2 dX6_findBins_79 rfl ?_
    refine j_iconst C (v := 1) dX6_findBins_80 rfl ?_
    refine j_iadd C dX6_findBins_81 ?_
    refine j_goto C (tgt := 86) dX6_findBins_82 (by decide) ?_
    refine j_sub [0, 1, 3] rfl ?_
    exact tj_X6_findBins_86 C _ _ _ _ _ _ _ hk9 hv0 hm
set_option maxRecDepth 20000 in
set_option maxHeartbeats 4000000 in
theorem tj_X6_findBins_34 {x : Ctx} {Λ : Lay} (C : Cx x cX6_findBins 5 none RX6 Λ rm_X6_findBins) (N : Nat) (μ : Mem) (k9 : Int32 × Int32 × Mem → Option (Mem)) (v0 : Nat) (v1 : Int32) (v2 : Int32) (v3 : Int32) (s0 : Int32) (hk9 : ∀ (s : Int32 × Int32 × Mem) (r : Mem), k9 s = some r → J x 5 Λ (QV x Λ r) 9 [(0, .ref v0), (1, .int v1), (2, .int s.1), (3, .int s.2.1)] [] (s.2.2)) (hv0 : inL Λ v0 6) {r : Mem} (hm : jn_X6_findBins_34 N Λ μ k9 v0 v1 v2 v3 s0 = some r) : J x 5 Λ (QV x Λ r) 34 [(0, .ref v0), (1, .int v1), (2, .int v2), (3, .int v3)] [.int s0] μ := by
  refine j_istore C (lv' := [(4, .int s0), (0, .ref v0), (1, .int v1), (2, .int v2), (3, .int v3)]) dX6_findBins_34 (by decide) rfl ?_
  refine j_iload C 0 dX6_findBins_36 rfl ?_
  refine j_if_ne C (tgt := 74) dX6_findBins_38 (by decide) (fun h1 => ?_) (fun h1 => ?_)
  · replace hm := if_f hm h1
    refine j_sub [1, 2, 3, 4, 0] rfl ?_
    exact tj_X6_findBins_74 C _ _ _ _ _ _ _ _ hk9 hv0 hm
  · replace hm := if_t hm h1
    refine j_iload_n C 3 dX6_findBins_41 rfl ?_
    refine j_if_le C (tgt := 74) dX6_findBins_42 (by decide) (fun h2 => ?_) (fun h2 => ?_)
    · replace hm := if_t hm h2
      refine j_sub [1, 2, 3, 4, 0] rfl ?_
      exact tj_X6_findBins_74 C _ _ _ _ _ _ _ _ hk9 hv0 hm
    · replace hm := if_f hm h2
      refine j_aload_n C 1 dX6_findBins_45 rfl ?_
      refine j_getI C fg_X6_69_6 hv0 dX6_findBins_46 ?_
      refine j_bipush C (v := 24) dX6_findBins_49 rfl ?_
      refine j_icmp_ge C (tgt := 74) dX6_findBins_51 (by decide) (fun h3 => ?_) (fun h3 => ?_)
      · replace hm := if_t hm h3
        refine j_sub [1, 2, 3, 4, 0] rfl ?_
        exact tj_X6_findBins_74 C _ _ _ _ _ _ _ _ hk9 hv0 hm
      · replace hm := if_f hm h3
        refine j_aload_n C 1 dX6_findBins_54 rfl ?_
        obtain ⟨q4, h5, hm⟩ := bd_some hm
        refine j_getR C fg_X6_15_6 hv0 (dr_spec h5).1 dX6_findBins_55 ?_
        refine j_aload_n C 1 dX6_findBins_58 rfl ?_
        refine j_getI C fg_X6_69_6 hv0 dX6_findBins_59 ?_
        refine j_iload_n C 3 dX6_findBins_62 rfl ?_
        obtain ⟨h6, hm⟩ := gd_some hm
        obtain ⟨μ7, e8, hm⟩ := lt_some hm
        refine j_iast C ((dr_spec h5).2) h6 e8 dX6_findBins_63 ?_
        refine j_aload_n C 1 dX6_findBins_64 rfl ?_
        refine j_dup C dX6_findBins_65 rfl ?_
        refine j_getI C fg_X6_69_6 hv0 dX6_findBins_66 ?_
        refine j_iconst C (v := 1) dX6_findBins_69 rfl ?_
        refine j_iadd C dX6_findBins_70 ?_
        obtain ⟨μ9, e10, hm⟩ := lt_some hm
        refine j_putI C fp_X6_69_6 hv0 e10 dX6_findBins_71 ?_
        refine j_sub [1, 2, 3, 4, 0] rfl ?_
        exact tj_X6_findBins_74 C _ _ _ _ _ _ _ _ hk9 hv0 hm
set_option maxRecDepth 20000 in
set_option maxHeartbeats 4000000 in
theorem tj_X6_findBins_33 {x : Ctx} {Λ : Lay} (C : Cx x cX6_findBins 5 none RX6 Λ rm_X6_findBins) (N : Nat) (μ : Mem) (k9 : Int32 × Int32 × Mem → Option (Mem)) (v0 : Nat) (v1 : Int32) (v2 : Int32) (v3 : Int32) (hk9 : ∀ (s : Int32 × Int32 × Mem) (r : Mem), k9 s = some r → J x 5 Λ (QV x Λ r) 9 [(0, .ref v0), (1, .int v1), (2, .int s.1), (3, .int s.2.1)] [] (s.2.2)) (hv0 : inL Λ v0 6) {r : Mem} (hm : jn_X6_findBins_33 N Λ μ k9 v0 v1 v2 v3 = some r) : J x 5 Λ (QV x Λ r) 33 [(0, .ref v0), (1, .int v1), (2, .int v2), (3, .int v3)] [] μ := by
  refine j_iconst C (v := 0) dX6_findBins_33 rfl ?_
  exact tj_X6_findBins_34 C _ _ _ _ _ _ _ _ hk9 hv0 hm
set_option maxRecDepth 20000 in
set_option maxHeartbeats 4000000 in
theorem tb_X6_findBins_9 {x : Ctx} {Λ : Lay} (C : Cx x cX6_findBins 5 none RX6 Λ rm_X6_findBins) (N : Nat) (μ : Mem) (k9 : Int32 × Int32 × Mem → Option (Mem)) (v0 : Nat) (v1 : Int32) (v2 : Int32) (v3 : Int32) (hk9 : ∀ (s : Int32 × Int32 × Mem) (r : Mem), k9 s = some r → J x 5 Λ (QV x Λ r) 9 [(0, .ref v0), (1, .int v1), (2, .int s.1), (3, .int s.2.1)] [] (s.2.2)) (hv0 : inL Λ v0 6) {r : Mem} (hm : bd_X6_findBins_9 N Λ μ k9 v0 v1 v2 v3 = some r) : J x 5 Λ (QV x Λ r) 9 [(0, .ref v0), (1, .int v1), (2, .int v2), (3, .int v3)] [] μ := by
  refine j_iload_n C 3 dX6_findBins_9 rfl ?_
  refine j_bipush C (v := 24) dX6_findBins_10 rfl ?_
  refine j_icmp_gt C (tgt := 93) dX6_findBins_12 (by decide) (fun h1 => ?_) (fun h1 => ?_)
  · replace hm := if_t hm h1
    obtain rfl := Option.some.inj hm
    exact j_vret C dX6_findBins_93
  · replace hm := if_f hm h1
    refine j_iload_n C 3 dX6_findBins_15 rfl ?_
    refine j_bipush C (v := 24) dX6_findBins_16 rfl ?_
    refine j_icmp_ge C (tgt := 33) dX6_findBins_18 (by decide) (fun h2 => ?_) (fun h2 => ?_)
    · replace hm := if_t hm h2
      exact tj_X6_findBins_33 C _ _ _ _ _ _ _ hk9 hv0 hm
    · replace hm := if_f hm h2
      refine j_iload_n C 1 dX6_findBins_21 rfl ?_
      refine j_iload_n C 3 dX6_findBins_22 rfl ?_
      refine j_ishr C dX6_findBins_23 ?_
      refine j_iconst C (v := 1) dX6_findBins_24 rfl ?_
      refine j_iand C dX6_findBins_25 ?_
      refine j_if_ne C (tgt := 33) dX6_findBins_26 (by decide) (fun h3 => ?_) (fun h3 => ?_)
      · replace hm := if_f hm h3
        exact tj_X6_findBins_33 C _ _ _ _ _ _ _ hk9 hv0 hm
      · replace hm := if_t hm h3
        refine j_iconst C (v := 1) dX6_findBins_29 rfl ?_
        refine j_goto C (tgt := 34) dX6_findBins_30 (by decide) ?_
        exact tj_X6_findBins_34 C _ _ _ _ _ _ _ _ hk9 hv0 hm
set_option maxRecDepth 20000 in
set_option maxHeartbeats 4000000 in
theorem tl_X6_findBins_9 {x : Ctx} {Λ : Lay} (C : Cx x cX6_findBins 5 none RX6 Λ rm_X6_findBins) (N : Nat) (v0 : Nat) (v1 : Int32) (hv0 : inL Λ v0 6) (s : Int32 × Int32 × Mem) {r : Mem} (hm : lp_X6_findBins_9 N Λ v0 v1 s = some r) : J x 5 Λ (QV x Λ r) 9 [(0, .ref v0), (1, .int v1), (2, .int s.1), (3, .int s.2.1)] [] (s.2.2) :=
  cw_ind (P := fun s r => J x 5 Λ (QV x Λ r) 9 [(0, .ref v0), (1, .int v1), (2, .int s.1), (3, .int s.2.1)] [] (s.2.2)) (fun k hkk s r e => tb_X6_findBins_9 C _ _ _ _ _ _ _ hkk hv0 e) N s r hm
set_option maxRecDepth 20000 in
set_option maxHeartbeats 4000000 in
theorem tm_X6_findBins {x : Ctx} {Λ : Lay} (C : Cx x cX6_findBins 5 none RX6 Λ rm_X6_findBins) (N : Nat) (μ : Mem) (v0 : Nat) (v1 : Int32) (hv0 : inL Λ v0 6) {r : Mem} (hm : m_X6_findBins N Λ μ v0 v1 = some r) : J x 5 Λ (QV x Λ r) 0 [(0, .ref v0), (1, .int v1)] [] μ := by
  refine j_aload_n C 0 dX6_findBins_0 rfl ?_
  refine j_iconst C (v := 0) dX6_findBins_1 rfl ?_
  obtain ⟨μ1, e2, hm⟩ := lt_some hm
  refine j_putI C fp_X6_69_6 hv0 e2 dX6_findBins_2 ?_
  refine j_iconst C (v := 0) dX6_findBins_5 rfl ?_
  refine j_istore_n C (lv' := [(2, .int 0), (0, .ref v0), (1, .int v1)]) dX6_findBins_6 (by decide) rfl ?_
  refine j_iconst C (v := 0) dX6_findBins_7 rfl ?_
  refine j_istore_n C (lv' := [(3, .int 0), (2, .int 0), (0, .ref v0), (1, .int v1)]) dX6_findBins_8 (by decide) rfl ?_
  refine j_sub [2, 3, 1, 0] rfl ?_
  exact tl_X6_findBins_9 C _ _ _ hv0 (0, 0, μ1) hm
set_option maxRecDepth 20000 in
set_option maxHeartbeats 4000000 in
theorem mc_X6_findBins (l : Launch) (N : Nat) (Λ : Lay) (μ : Mem) (v0 : Nat) (v1 : Int32) (hv0 : inL Λ v0 6) {r : Mem} (hm : m_X6_findBins N Λ μ v0 v1 = some r) : MV l yX6_findBins cX6_findBins 5 rm_X6_findBins Λ [.ref v0, .int v1] μ r := mv_of rfl (Nat.le_of_ble_eq_true rfl) (fun x C _ => tm_X6_findBins C _ _ _ _ hv0 hm)
abbrev rm_X6_findFees : Room := { frames := 4, cells := 0, slots := 0, locals := 99 }
set_option maxRecDepth 20000 in
set_option maxHeartbeats 4000000 in
theorem tj_X6_findFees_31 {x : Ctx} {Λ : Lay} (C : Cx x cX6_findFees 4 none RX6 Λ rm_X6_findFees) (N : Nat) (μ : Mem) (k2 : Int32 × Mem → Option (Mem)) (v0 : Nat) (v1 : Nat) (v2 : Nat) (v3 : Int32) (s0 : Nat) (s1 : Int32) (s2 : Int32) (hk2 : ∀ (s : Int32 × Mem) (r : Mem), k2 s = some r → J x 4 Λ (QV x Λ r) 2 [(0, .ref v0), (1, .ref v1), (2, .ref v2), (3, .int s.1)] [] (s.2)) (hv0 : inL Λ v0 6) (hv1 : inL Λ v1 8) (hv2 : inL Λ v2 2) (hs0 : inL Λ s0 13) {r : Mem} (hm : jn_X6_findFees_31 N Λ μ k2 v0 v1 v2 v3 s0 s1 s2 = some r) : J x 4 Λ (QV x Λ r) 31 [(0, .ref v0), (1, .ref v1), (2, .ref v2), (3, .int v3)] [.int s2, .int s1, .ref s0] μ := by
  obtain ⟨h1, hm⟩ := gd_some hm
  obtain ⟨μ2, e3, hm⟩ := lt_some hm
  refine j_iast C hs0 h1 e3 dX6_findFees_31 ?_
  obtain ⟨y4, e5, hm⟩ := lt_some hm
  refine j_iinc C 3 (v := y4) (lv' := [(3, .int y4), (0, .ref v0), (1, .ref v1), (2, .ref v2)]) dX6_findFees_32 rfl (by rw [e5]; rfl) (by decide) rfl ?_
  refine j_goto C (tgt := 2) dX6_findFees_35 (by decide) ?_
  refine j_sub [1, 2, 3, 0] rfl ?_
  exact hk2 (y4, μ2) _ hm
set_option maxRecDepth 20000 in
set_option maxHeartbeats 4000000 in
theorem tb_X6_findFees_2 {x : Ctx} {Λ : Lay} (C : Cx x cX6_findFees 4 none RX6 Λ rm_X6_findFees) (N : Nat) (μ : Mem) (k2 : Int32 × Mem → Option (Mem)) (v0 : Nat) (v1 : Nat) (v2 : Nat) (v3 : Int32) (hk2 : ∀ (s : Int32 × Mem) (r : Mem), k2 s = some r → J x 4 Λ (QV x Λ r) 2 [(0, .ref v0), (1, .ref v1), (2, .ref v2), (3, .int s.1)] [] (s.2)) (hv0 : inL Λ v0 6) (hv1 : inL Λ v1 8) (hv2 : inL Λ v2 2) {r : Mem} (hm : bd_X6_findFees_2 N Λ μ k2 v0 v1 v2 v3 = some r) : J x 4 Λ (QV x Λ r) 2 [(0, .ref v0), (1, .ref v1), (2, .ref v2), (3, .int v3)] [] μ := by
  refine j_iload_n C 3 dX6_findFees_2 rfl ?_
  refine j_bipush C (v := 8) dX6_findFees_3 rfl ?_
  refine j_icmp_ge C (tgt := 38) dX6_findFees_5 (by decide) (fun h1 => ?_) (fun h1 => ?_)
  · replace hm := if_t hm h1
    obtain rfl := Option.some.inj hm
    exact j_vret C dX6_findFees_38
  · replace hm := if_f hm h1
    refine j_aload_n C 0 dX6_findFees_8 rfl ?_
    obtain ⟨q2, h3, hm⟩ := bd_some hm
    refine j_getR C fg_X6_18_6 hv0 (dr_spec h3).1 dX6_findFees_9 ?_
    refine j_iload_n C 3 dX6_findFees_12 rfl ?_
    refine j_iload_n C 3 dX6_findFees_13 rfl ?_
    refine j_aload_n C 1 dX6_findFees_14 rfl ?_
    refine j_getI C fg_X6_41_8 hv1 dX6_findFees_15 ?_
    refine j_icmp_ge C (tgt := 30) dX6_findFees_18 (by decide) (fun h4 => ?_) (fun h4 => ?_)
    · replace hm := if_t hm h4
      refine j_iconst C (v := 0) dX6_findFees_30 rfl ?_
      exact tj_X6_findFees_31 C _ _ _ _ _ _ _ _ _ _ hk2 hv0 hv1 hv2 ((dr_spec h3).2) hm
    · replace hm := if_f hm h4
      refine j_aload_n C 1 dX6_findFees_21 rfl ?_
      refine j_iload_n C 3 dX6_findFees_22 rfl ?_
      refine j_aload_n C 2 dX6_findFees_23 rfl ?_
      obtain ⟨r5, h6, hm⟩ := bd_some hm
      refine call_I (run_LV C lk_X6_72 ⟨rfl, rfl, Nat.le_of_ble_eq_true rfl, Nat.le_of_ble_eq_true rfl⟩ (As := [.int v3, .ref v2]) hv1 rfl rfl (Nat.le_of_ble_eq_true rfl) dX6_findFees_24 (mc_X9_feeOf _ _ _ _ _ _ _ hv1 hv2 h6)) ?_
      refine j_goto C (tgt := 31) dX6_findFees_27 (by decide) ?_
      exact tj_X6_findFees_31 C _ _ _ _ _ _ _ _ _ _ hk2 hv0 hv1 hv2 ((dr_spec h3).2) hm
set_option maxRecDepth 20000 in
set_option maxHeartbeats 4000000 in
theorem tl_X6_findFees_2 {x : Ctx} {Λ : Lay} (C : Cx x cX6_findFees 4 none RX6 Λ rm_X6_findFees) (N : Nat) (v0 : Nat) (v1 : Nat) (v2 : Nat) (hv0 : inL Λ v0 6) (hv1 : inL Λ v1 8) (hv2 : inL Λ v2 2) (s : Int32 × Mem) {r : Mem} (hm : lp_X6_findFees_2 N Λ v0 v1 v2 s = some r) : J x 4 Λ (QV x Λ r) 2 [(0, .ref v0), (1, .ref v1), (2, .ref v2), (3, .int s.1)] [] (s.2) :=
  cw_ind (P := fun s r => J x 4 Λ (QV x Λ r) 2 [(0, .ref v0), (1, .ref v1), (2, .ref v2), (3, .int s.1)] [] (s.2)) (fun k hkk s r e => tb_X6_findFees_2 C _ _ _ _ _ _ _ hkk hv0 hv1 hv2 e) N s r hm
set_option maxRecDepth 20000 in
set_option maxHeartbeats 4000000 in
theorem tm_X6_findFees {x : Ctx} {Λ : Lay} (C : Cx x cX6_findFees 4 none RX6 Λ rm_X6_findFees) (N : Nat) (μ : Mem) (v0 : Nat) (v1 : Nat) (v2 : Nat) (hv0 : inL Λ v0 6) (hv1 : inL Λ v1 8) (hv2 : inL Λ v2 2) {r : Mem} (hm : m_X6_findFees N Λ μ v0 v1 v2 = some r) : J x 4 Λ (QV x Λ r) 0 [(0, .ref v0), (1, .ref v1), (2, .ref v2)] [] μ := by
  refine j_iconst C (v := 0) dX6_findFees_0 rfl ?_
  refine j_istore_n C (lv' := [(3, .int 0), (0, .ref v0), (1, .ref v1), (2, .ref v2)]) dX6_findFees_1 (by decide) rfl ?_
  refine j_sub [1, 2, 3, 0] rfl ?_
  exact tl_X6_findFees_2 C _ _ _ _ hv0 hv1 hv2 (0, μ) hm
set_option maxRecDepth 20000 in
set_option maxHeartbeats 4000000 in
theorem mc_X6_findFees (l : Launch) (N : Nat) (Λ : Lay) (μ : Mem) (v0 : Nat) (v1 : Nat) (v2 : Nat) (hv0 : inL Λ v0 6) (hv1 : inL Λ v1 8) (hv2 : inL Λ v2 2) {r : Mem} (hm : m_X6_findFees N Λ μ v0 v1 v2 = some r) : MV l yX6_findFees cX6_findFees 4 rm_X6_findFees Λ [.ref v0, .ref v1, .ref v2] μ r := mv_of rfl (Nat.le_of_ble_eq_true rfl) (fun x C _ => tm_X6_findFees C _ _ _ _ _ hv0 hv1 hv2 hm)
abbrev rm_X6_filledBy : Room := { frames := 0, cells := 0, slots := 0, locals := 0 }
set_option maxRecDepth 20000 in
set_option maxHeartbeats 4000000 in
theorem tb_X6_filledBy_11 {x : Ctx} {Λ : Lay} (C : Cx x cX6_filledBy 5 (some .int) RX6 Λ rm_X6_filledBy) (N : Nat) (μ : Mem) (k11 : Int32 × Int32 → Option (Int32)) (v0 : Nat) (v2 : Int32) (v3 : Int32) (v4 : Int32) (hk11 : ∀ (s : Int32 × Int32) (r : Int32), k11 s = some r → J x 5 Λ (QI x Λ r μ) 11 [(0, .ref v0), (2, .int v2), (3, .int s.1), (4, .int s.2)] [] (μ)) (hv0 : inL Λ v0 6) {r : Int32} (hm : bd_X6_filledBy_11 N Λ μ k11 v0 v2 v3 v4 = some r) : J x 5 Λ (QI x Λ r μ) 11 [(0, .ref v0), (2, .int v2), (3, .int v3), (4, .int v4)] [] μ := by
  refine j_iload C 3 dX6_filledBy_11 rfl ?_
  refine j_aload_n C 0 dX6_filledBy_13 rfl ?_
  refine j_getI C fg_X6_69_6 hv0 dX6_filledBy_14 ?_
  refine j_icmp_ge C (tgt := 51) dX6_filledBy_17 (by decide) (fun h1 => ?_) (fun h1 => ?_)
  · replace hm := if_t hm h1
    refine j_ldc C (v := 1048576) wk_532 dX6_filledBy_51 ?_
    obtain rfl := Option.some.inj hm
    exact j_ireti C dX6_filledBy_53
  · replace hm := if_f hm h1
    refine j_iload_n C 2 dX6_filledBy_20 rfl ?_
    refine j_iload_n C 1 dX6_filledBy_21 rfl ?_
    refine j_iadd C dX6_filledBy_22 ?_
    refine j_aload_n C 0 dX6_filledBy_23 rfl ?_
    obtain ⟨q2, h3, hm⟩ := bd_some hm
    refine j_getR C fg_X6_15_6 hv0 (dr_spec h3).1 dX6_filledBy_24 ?_
    refine j_iload C 3 dX6_filledBy_27 rfl ?_
    obtain ⟨h4, hm⟩ := gd_some hm
    refine j_iald C ((dr_spec h3).2) h4 dX6_filledBy_29 ?_
    refine j_icmp_gt C (tgt := 43) dX6_filledBy_30 (by decide) (fun h5 => ?_) (fun h5 => ?_)
    · replace hm := if_t hm h5
      refine j_iconst C (v := 0) dX6_filledBy_43 rfl ?_
      refine j_istore_n C (lv' := [(3, .int 0), (0, .ref v0), (2, .int v2), (4, .int v4)]) dX6_filledBy_44 (by decide) rfl ?_
      obtain ⟨y6, e7, hm⟩ := lt_some hm
      refine j_iinc C 3 (v := y6) (lv' := [(4, .int y6), (3, .int 0), (0, .ref v0), (2, .int v2)]) dX6_filledBy_45 rfl (by rw [e7]; rfl) (by decide) rfl ?_
      refine j_goto C (tgt := 11) dX6_filledBy_48 (by decide) ?_
      refine j_sub [2, 3, 1, 0] rfl ?_
      exact hk11 (0, y6) _ hm
    · replace hm := if_f hm h5
      refine j_iload C 3 dX6_filledBy_33 rfl ?_
      refine j_bipush C (v := 32) dX6_filledBy_35 rfl ?_
      refine j_imul C dX6_filledBy_37 ?_
      refine j_iload_n C 2 dX6_filledBy_38 rfl ?_
      refine j_iadd C dX6_filledBy_39 ?_
      refine j_iload_n C 1 dX6_filledBy_40 rfl ?_
      refine j_iadd C dX6_filledBy_41 ?_
      obtain rfl := Option.some.inj hm
      exact j_ireti C dX6_filledBy_42
set_option maxRecDepth 20000 in
set_option maxHeartbeats 4000000 in
theorem tl_X6_filledBy_11 {x : Ctx} {Λ : Lay} (C : Cx x cX6_filledBy 5 (some .int) RX6 Λ rm_X6_filledBy) (N : Nat) (μ : Mem) (v0 : Nat) (v2 : Int32) (hv0 : inL Λ v0 6) (s : Int32 × Int32) {r : Int32} (hm : lp_X6_filledBy_11 N Λ μ v0 v2 s = some r) : J x 5 Λ (QI x Λ r μ) 11 [(0, .ref v0), (2, .int v2), (3, .int s.1), (4, .int s.2)] [] (μ) :=
  cw_ind (P := fun s r => J x 5 Λ (QI x Λ r μ) 11 [(0, .ref v0), (2, .int v2), (3, .int s.1), (4, .int s.2)] [] (μ)) (fun k hkk s r e => tb_X6_filledBy_11 C _ _ _ _ _ _ _ hkk hv0 e) N s r hm
set_option maxRecDepth 20000 in
set_option maxHeartbeats 4000000 in
theorem tm_X6_filledBy {x : Ctx} {Λ : Lay} (C : Cx x cX6_filledBy 5 (some .int) RX6 Λ rm_X6_filledBy) (N : Nat) (μ : Mem) (v0 : Nat) (v1 : Int32) (v2 : Int32) (hv0 : inL Λ v0 6) {r : Int32} (hm : m_X6_filledBy N Λ μ v0 v1 v2 = some r) : J x 5 Λ (QI x Λ r μ) 0 [(0, .ref v0), (1, .int v1), (2, .int v2)] [] μ := by
  refine j_iload_n C 1 dX6_filledBy_0 rfl ?_
  refine j_bipush C (v := 32) dX6_filledBy_1 rfl ?_
  refine j_irem C dX6_filledBy_3 (by decide) ?_
  obtain ⟨y1, e2, hm⟩ := lt_some hm
  refine j_topi e2 ?_
  refine j_istore_n C (lv' := [(3, .int y1), (0, .ref v0), (1, .int v1), (2, .int v2)]) dX6_filledBy_4 (by decide) rfl ?_
  refine j_iload_n C 2 dX6_filledBy_5 rfl ?_
  refine j_bipush C (v := 32) dX6_filledBy_6 rfl ?_
  refine j_idiv C dX6_filledBy_8 (by decide) ?_
  obtain ⟨y3, e4, hm⟩ := lt_some hm
  refine j_topi e4 ?_
  refine j_istore C (lv' := [(4, .int y3), (3, .int y1), (0, .ref v0), (1, .int v1), (2, .int v2)]) dX6_filledBy_9 (by decide) rfl ?_
  refine j_sub [2, 4, 1, 0] rfl ?_
  exact tl_X6_filledBy_11 C _ _ _ _ hv0 (y1, y3) hm
set_option maxRecDepth 20000 in
set_option maxHeartbeats 4000000 in
theorem mc_X6_filledBy (l : Launch) (N : Nat) (Λ : Lay) (μ : Mem) (v0 : Nat) (v1 : Int32) (v2 : Int32) (hv0 : inL Λ v0 6) {r : Int32} (hm : m_X6_filledBy N Λ μ v0 v1 v2 = some r) : MI l yX6_filledBy cX6_filledBy 5 (some .int) rm_X6_filledBy Λ [.ref v0, .int v1, .int v2] μ r μ := mi_of rfl (Nat.le_of_ble_eq_true rfl) (fun x C _ => tm_X6_filledBy C _ _ _ _ _ hv0 hm)
abbrev rm_X6_leastFilling : Room := { frames := 1, cells := 0, slots := 0, locals := 60 }
set_option maxRecDepth 20000 in
set_option maxHeartbeats 4000000 in
theorem tj_X6_leastFilling_50 {x : Ctx} {Λ : Lay} (C : Cx x cX6_leastFilling 5 (some .int) RX6 Λ rm_X6_leastFilling) (N : Nat) (μ : Mem) (k6 : Int32 × Int32 → Option (Int32)) (v0 : Nat) (v1 : Int32) (v2 : Nat) (v3 : Int32) (v4 : Int32) (hk6 : ∀ (s : Int32 × Int32) (r : Int32), k6 s = some r → J x 5 Λ (QI x Λ r μ) 6 [(0, .ref v0), (1, .int v1), (2, .ref v2), (3, .int s.1), (4, .int s.2)] [] (μ)) (hv0 : inL Λ v0 6) (hv2 : inL Λ v2 8) {r : Int32} (hm : jn_X6_leastFilling_50 N Λ μ k6 v0 v1 v2 v3 v4 = some r) : J x 5 Λ (QI x Λ r μ) 50 [(0, .ref v0), (1, .int v1), (2, .ref v2), (3, .int v3), (4, .int v4)] [] μ := by
  obtain ⟨y1, e2, hm⟩ := lt_some hm
  refine j_iinc C 4 (v := y1) (lv' := [(4, .int y1), (0, .ref v0), (1, .int v1), (2, .ref v2), (3, .int v3)]) dX6_leastFilling_50 rfl (by rw [e2]; rfl) (by decide) rfl ?_
  refine j_goto C (tgt := 6) dX6_leastFilling_53 (by decide) ?_
  refine j_sub [1, 2, 3, 4, 0] rfl ?_
  exact hk6 (v3, y1) _ hm
set_option maxRecDepth 20000 in
set_option maxHeartbeats 4000000 in
theorem tb_X6_leastFilling_6 {x : Ctx} {Λ : Lay} (C : Cx x cX6_leastFilling 5 (some .int) RX6 Λ rm_X6_leastFilling) (N : Nat) (μ : Mem) (k6 : Int32 × Int32 → Option (Int32)) (v0 : Nat) (v1 : Int32) (v2 : Nat) (v3 : Int32) (v4 : Int32) (hk6 : ∀ (s : Int32 × Int32) (r : Int32), k6 s = some r → J x 5 Λ (QI x Λ r μ) 6 [(0, .ref v0), (1, .int v1), (2, .ref v2), (3, .int s.1), (4, .int s.2)] [] (μ)) (hv0 : inL Λ v0 6) (hv2 : inL Λ v2 8) {r : Int32} (hm : bd_X6_leastFilling_6 N Λ μ k6 v0 v1 v2 v3 v4 = some r) : J x 5 Λ (QI x Λ r μ) 6 [(0, .ref v0), (1, .int v1), (2, .ref v2), (3, .int v3), (4, .int v4)] [] μ := by
  refine j_iload C 4 dX6_leastFilling_6 rfl ?_
  refine j_bipush C (v := 8) dX6_leastFilling_8 rfl ?_
  refine j_icmp_ge C (tgt := 56) dX6_leastFilling_10 (by decide) (fun h1 => ?_) (fun h1 => ?_)
  · replace hm := if_t hm h1
    refine j_iload_n C 3 dX6_leastFilling_56 rfl ?_
    obtain rfl := Option.some.inj hm
    exact j_ireti C dX6_leastFilling_57
  · replace hm := if_f hm h1
    refine j_iload_n C 1 dX6_leastFilling_13 rfl ?_
    refine j_iload C 4 dX6_leastFilling_14 rfl ?_
    refine j_ishr C dX6_leastFilling_16 ?_
    refine j_iconst C (v := 1) dX6_leastFilling_17 rfl ?_
    refine j_iand C dX6_leastFilling_18 ?_
    refine j_iconst C (v := 1) dX6_leastFilling_19 rfl ?_
    refine j_icmp_ne C (tgt := 50) dX6_leastFilling_20 (by decide) (fun h2 => ?_) (fun h2 => ?_)
    · replace hm := if_f hm h2
      exact tj_X6_leastFilling_50 C _ _ _ _ _ _ _ _ hk6 hv0 hv2 hm
    · replace hm := if_t hm h2
      refine j_iload_n C 3 dX6_leastFilling_23 rfl ?_
      refine j_aload_n C 0 dX6_leastFilling_24 rfl ?_
      refine j_aload_n C 0 dX6_leastFilling_25 rfl ?_
      obtain ⟨q3, h4, hm⟩ := bd_some hm
      refine j_getR C fg_X6_21_6 hv0 (dr_spec h4).1 dX6_leastFilling_26 ?_
      refine j_iload_n C 1 dX6_leastFilling_29 rfl ?_
      refine j_iconst C (v := 1) dX6_leastFilling_30 rfl ?_
      refine j_iload C 4 dX6_leastFilling_31 rfl ?_
      refine j_ishl C dX6_leastFilling_33 ?_
      refine j_ixor C dX6_leastFilling_34 ?_
      obtain ⟨h5, hm⟩ := gd_some hm
      refine j_iald C ((dr_spec h4).2) h5 dX6_leastFilling_35 ?_
      refine j_aload_n C 2 dX6_leastFilling_36 rfl ?_
      obtain ⟨q6, h7, hm⟩ := bd_some hm
      refine j_getR C fg_X6_76_8 hv2 (dr_spec h7).1 dX6_leastFilling_37 ?_
      refine j_iload C 4 dX6_leastFilling_40 rfl ?_
      obtain ⟨h8, hm⟩ := gd_some hm
      refine j_iald C ((dr_spec h7).2) h8 dX6_leastFilling_42 ?_
      obtain ⟨r9, h10, hm⟩ := bd_some hm
      refine call_I (run_LV C lk_X6_79 ⟨rfl, rfl, Nat.le_of_ble_eq_true rfl, Nat.le_of_ble_eq_true rfl⟩ (As := [.int (μ.1 q3 (v1 ^^^ (ishl 1 v4)).toNatClampNeg), .int (μ.1 q6 v4.toNatClampNeg)]) hv0 rfl rfl (Nat.le_of_ble_eq_true rfl) dX6_leastFilling_43 (mc_X6_filledBy _ _ _ _ _ _ _ hv0 h10)) ?_
      refine j_mmin C wk_537 ⟨Nat.le_of_ble_eq_true rfl, Nat.le_of_ble_eq_true rfl⟩ dX6_leastFilling_46 ?_
      obtain ⟨y11, e12, hm⟩ := lt_some hm
      refine j_topi e12 ?_
      refine j_istore_n C (lv' := [(3, .int y11), (0, .ref v0), (1, .int v1), (2, .ref v2), (4, .int v4)]) dX6_leastFilling_49 (by decide) rfl ?_
      refine j_sub [1, 2, 3, 0, 4] rfl ?_
      exact tj_X6_leastFilling_50 C _ _ _ _ _ _ _ _ hk6 hv0 hv2 hm
set_option maxRecDepth 20000 in
set_option maxHeartbeats 4000000 in
theorem tl_X6_leastFilling_6 {x : Ctx} {Λ : Lay} (C : Cx x cX6_leastFilling 5 (some .int) RX6 Λ rm_X6_leastFilling) (N : Nat) (μ : Mem) (v0 : Nat) (v1 : Int32) (v2 : Nat) (hv0 : inL Λ v0 6) (hv2 : inL Λ v2 8) (s : Int32 × Int32) {r : Int32} (hm : lp_X6_leastFilling_6 N Λ μ v0 v1 v2 s = some r) : J x 5 Λ (QI x Λ r μ) 6 [(0, .ref v0), (1, .int v1), (2, .ref v2), (3, .int s.1), (4, .int s.2)] [] (μ) :=
  cw_ind (P := fun s r => J x 5 Λ (QI x Λ r μ) 6 [(0, .ref v0), (1, .int v1), (2, .ref v2), (3, .int s.1), (4, .int s.2)] [] (μ)) (fun k hkk s r e => tb_X6_leastFilling_6 C _ _ _ _ _ _ _ _ hkk hv0 hv2 e) N s r hm
set_option maxRecDepth 20000 in
set_option maxHeartbeats 4000000 in
theorem tm_X6_leastFilling {x : Ctx} {Λ : Lay} (C : Cx x cX6_leastFilling 5 (some .int) RX6 Λ rm_X6_leastFilling) (N : Nat) (μ : Mem) (v0 : Nat) (v1 : Int32) (v2 : Nat) (hv0 : inL Λ v0 6) (hv2 : inL Λ v2 8) {r : Int32} (hm : m_X6_leastFilling N Λ μ v0 v1 v2 = some r) : J x 5 Λ (QI x Λ r μ) 0 [(0, .ref v0), (1, .int v1), (2, .ref v2)] [] μ := by
  refine j_ldc C (v := 1048576) wk_532 dX6_leastFilling_0 ?_
  refine j_istore_n C (lv' := [(3, .int 1048576), (0, .ref v0), (1, .int v1), (2, .ref v2)]) dX6_leastFilling_2 (by decide) rfl ?_
  refine j_iconst C (v := 0) dX6_leastFilling_3 rfl ?_
  refine j_istore C (lv' := [(4, .int 0), (3, .int 1048576), (0, .ref v0), (1, .int v1), (2, .ref v2)]) dX6_leastFilling_4 (by decide) rfl ?_
  refine j_sub [2, 3, 4, 1, 0] rfl ?_
  exact tl_X6_leastFilling_6 C _ _ _ _ _ hv0 hv2 (1048576, 0) hm
set_option maxRecDepth 20000 in
set_option maxHeartbeats 4000000 in
theorem mc_X6_leastFilling (l : Launch) (N : Nat) (Λ : Lay) (μ : Mem) (v0 : Nat) (v1 : Int32) (v2 : Nat) (hv0 : inL Λ v0 6) (hv2 : inL Λ v2 8) {r : Int32} (hm : m_X6_leastFilling N Λ μ v0 v1 v2 = some r) : MI l yX6_leastFilling cX6_leastFilling 5 (some .int) rm_X6_leastFilling Λ [.ref v0, .int v1, .ref v2] μ r μ := mi_of rfl (Nat.le_of_ble_eq_true rfl) (fun x C _ => tm_X6_leastFilling C _ _ _ _ _ hv0 hv2 hm)
abbrev rm_X6_feesOf : Room := { frames := 0, cells := 0, slots := 0, locals := 0 }
set_option maxRecDepth 20000 in
set_option maxHeartbeats 4000000 in
theorem tb_X6_feesOf_4 {x : Ctx} {Λ : Lay} (C : Cx x cX6_feesOf 4 (some .int) RX6 Λ rm_X6_feesOf) (N : Nat) (μ : Mem) (k4 : Int32 × Int32 → Option (Int32)) (v0 : Nat) (v1 : Int32) (v2 : Int32) (v3 : Int32) (hk4 : ∀ (s : Int32 × Int32) (r : Int32), k4 s = some r → J x 4 Λ (QI x Λ r μ) 4 [(0, .ref v0), (1, .int v1), (2, .int s.1), (3, .int s.2)] [] (μ)) (hv0 : inL Λ v0 6) {r : Int32} (hm : bd_X6_feesOf_4 N Λ μ k4 v0 v1 v2 v3 = some r) : J x 4 Λ (QI x Λ r μ) 4 [(0, .ref v0), (1, .int v1), (2, .int v2), (3, .int v3)] [] μ := by
  refine j_iload_n C 3 dX6_feesOf_4 rfl ?_
  refine j_bipush C (v := 8) dX6_feesOf_5 rfl ?_
  refine j_icmp_ge C (tgt := 31) dX6_feesOf_7 (by decide) (fun h1 => ?_) (fun h1 => ?_)
  · replace hm := if_t hm h1
    refine j_iload_n C 2 dX6_feesOf_31 rfl ?_
    obtain rfl := Option.some.inj hm
    exact j_ireti C dX6_feesOf_32
  · replace hm := if_f hm h1
    refine j_iload_n C 2 dX6_feesOf_10 rfl ?_
    refine j_iload_n C 1 dX6_feesOf_11 rfl ?_
    refine j_iload_n C 3 dX6_feesOf_12 rfl ?_
    refine j_ishr C dX6_feesOf_13 ?_
    refine j_iconst C (v := 1) dX6_feesOf_14 rfl ?_
    refine j_iand C dX6_feesOf_15 ?_
    refine j_aload_n C 0 dX6_feesOf_16 rfl ?_
    obtain ⟨q2, h3, hm⟩ := bd_some hm
    refine j_getR C fg_X6_18_6 hv0 (dr_spec h3).1 dX6_feesOf_17 ?_
    refine j_iload_n C 3 dX6_feesOf_20 rfl ?_
    obtain ⟨h4, hm⟩ := gd_some hm
    refine j_iald C ((dr_spec h3).2) h4 dX6_feesOf_21 ?_
    refine j_imul C dX6_feesOf_22 ?_
    refine j_iadd C dX6_feesOf_23 ?_
    obtain ⟨y5, e6, hm⟩ := lt_some hm
    refine j_topi e6 ?_
    refine j_istore_n C (lv' := [(2, .int y5), (0, .ref v0), (1, .int v1), (3, .int v3)]) dX6_feesOf_24 (by decide) rfl ?_
    obtain ⟨y7, e8, hm⟩ := lt_some hm
    refine j_iinc C 3 (v := y7) (lv' := [(3, .int y7), (2, .int y5), (0, .ref v0), (1, .int v1)]) dX6_feesOf_25 rfl (by rw [e8]; rfl) (by decide) rfl ?_
    refine j_goto C (tgt := 4) dX6_feesOf_28 (by decide) ?_
    refine j_sub [2, 3, 1, 0] rfl ?_
    exact hk4 (y5, y7) _ hm
set_option maxRecDepth 20000 in
set_option maxHeartbeats 4000000 in
theorem tl_X6_feesOf_4 {x : Ctx} {Λ : Lay} (C : Cx x cX6_feesOf 4 (some .int) RX6 Λ rm_X6_feesOf) (N : Nat) (μ : Mem) (v0 : Nat) (v1 : Int32) (hv0 : inL Λ v0 6) (s : Int32 × Int32) {r : Int32} (hm : lp_X6_feesOf_4 N Λ μ v0 v1 s = some r) : J x 4 Λ (QI x Λ r μ) 4 [(0, .ref v0), (1, .int v1), (2, .int s.1), (3, .int s.2)] [] (μ) :=
  cw_ind (P := fun s r => J x 4 Λ (QI x Λ r μ) 4 [(0, .ref v0), (1, .int v1), (2, .int s.1), (3, .int s.2)] [] (μ)) (fun k hkk s r e => tb_X6_feesOf_4 C _ _ _ _ _ _ _ hkk hv0 e) N s r hm
set_option maxRecDepth 20000 in
set_option maxHeartbeats 4000000 in
theorem tm_X6_feesOf {x : Ctx} {Λ : Lay} (C : Cx x cX6_feesOf 4 (some .int) RX6 Λ rm_X6_feesOf) (N : Nat) (μ : Mem) (v0 : Nat) (v1 : Int32) (hv0 : inL Λ v0 6) {r : Int32} (hm : m_X6_feesOf N Λ μ v0 v1 = some r) : J x 4 Λ (QI x Λ r μ) 0 [(0, .ref v0), (1, .int v1)] [] μ := by
  refine j_iconst C (v := 0) dX6_feesOf_0 rfl ?_
  refine j_istore_n C (lv' := [(2, .int 0), (0, .ref v0), (1, .int v1)]) dX6_feesOf_1 (by decide) rfl ?_
  refine j_iconst C (v := 0) dX6_feesOf_2 rfl ?_
  refine j_istore_n C (lv' := [(3, .int 0), (2, .int 0), (0, .ref v0), (1, .int v1)]) dX6_feesOf_3 (by decide) rfl ?_
  refine j_sub [2, 3, 1, 0] rfl ?_
  exact tl_X6_feesOf_4 C _ _ _ _ hv0 (0, 0) hm
set_option maxRecDepth 20000 in
set_option maxHeartbeats 4000000 in
theorem mc_X6_feesOf (l : Launch) (N : Nat) (Λ : Lay) (μ : Mem) (v0 : Nat) (v1 : Int32) (hv0 : inL Λ v0 6) {r : Int32} (hm : m_X6_feesOf N Λ μ v0 v1 = some r) : MI l yX6_feesOf cX6_feesOf 4 (some .int) rm_X6_feesOf Λ [.ref v0, .int v1] μ r μ := mi_of rfl (Nat.le_of_ble_eq_true rfl) (fun x C _ => tm_X6_feesOf C _ _ _ _ hv0 hm)
abbrev rm_X6_fillDock : Room := { frames := 5, cells := 0, slots := 0, locals := 122 }
set_option maxRecDepth 20000 in
set_option maxHeartbeats 4000000 in
theorem tj_X6_fillDock_61 {x : Ctx} {Λ : Lay} (C : Cx x cX6_fillDock 5 none RX6 Λ rm_X6_fillDock) (N : Nat) (μ : Mem) (k19 : Int32 × Int32 × Mem → Option (Mem)) (v0 : Nat) (v1 : Nat) (v4 : Int32) (s0 : Int32) (s1 : Int32) (hk19 : ∀ (s : Int32 × Int32 × Mem) (r : Mem), k19 s = some r → J x 5 Λ (QV x Λ r) 19 [(0, .ref v0), (1, .ref v1), (3, .int s.1), (4, .int s.2.1)] [] (s.2.2)) (hv0 : inL Λ v0 6) (hv1 : inL Λ v1 8) {r : Mem} (hm : jn_X6_fillDock_61 N Λ μ k19 v0 v1 v4 s0 s1 = some r) : J x 5 Λ (QV x Λ r) 61 [(0, .ref v0), (1, .ref v1), (4, .int v4)] [.int s1, .int s0] μ := by
  refine j_ior C dX6_fillDock_61 ?_
  obtain ⟨y1, e2, hm⟩ := lt_some hm
  refine j_topi e2 ?_
  refine j_istore_n C (lv' := [(3, .int y1), (0, .ref v0), (1, .ref v1), (4, .int v4)]) dX6_fillDock_62 (by decide) rfl ?_
  obtain ⟨y3, e4, hm⟩ := lt_some hm
  refine j_iinc C 3 (v := y3) (lv' := [(4, .int y3), (3, .int y1), (0, .ref v0), (1, .ref v1)]) dX6_fillDock_63 rfl (by rw [e4]; rfl) (by decide) rfl ?_
  refine j_goto C (tgt := 19) dX6_fillDock_66 (by decide) ?_
  refine j_sub [2, 3, 1, 0] rfl ?_
  exact hk19 (y1, y3, μ) _ hm
set_option maxRecDepth 20000 in
set_option maxHeartbeats 4000000 in
theorem tj_X6_fillDock_60 {x : Ctx} {Λ : Lay} (C : Cx x cX6_fillDock 5 none RX6 Λ rm_X6_fillDock) (N : Nat) (μ : Mem) (k19 : Int32 × Int32 × Mem → Option (Mem)) (v0 : Nat) (v1 : Nat) (v4 : Int32) (s0 : Int32) (hk19 : ∀ (s : Int32 × Int32 × Mem) (r : Mem), k19 s = some r → J x 5 Λ (QV x Λ r) 19 [(0, .ref v0), (1, .ref v1), (3, .int s.1), (4, .int s.2.1)] [] (s.2.2)) (hv0 : inL Λ v0 6) (hv1 : inL Λ v1 8) {r : Mem} (hm : jn_X6_fillDock_60 N Λ μ k19 v0 v1 v4 s0 = some r) : J x 5 Λ (QV x Λ r) 60 [(0, .ref v0), (1, .ref v1), (4, .int v4)] [.int s0] μ := by
  refine j_iconst C (v := 0) dX6_fillDock_60 rfl ?_
  exact tj_X6_fillDock_61 C _ _ _ _ _ _ _ _ hk19 hv0 hv1 hm
set_option maxRecDepth 20000 in
set_option maxHeartbeats 4000000 in
theorem tj_X6_fillDock_166 {x : Ctx} {Λ : Lay} (C : Cx x cX6_fillDock 5 none RX6 Λ rm_X6_fillDock) (N : Nat) (μ : Mem) (k89 : Int32 × Mem → Option (Mem)) (v0 : Nat) (v1 : Nat) (v3 : Int32) (v4 : Int32) (hk89 : ∀ (s : Int32 × Mem) (r : Mem), k89 s = some r → J x 5 Λ (QV x Λ r) 89 [(0, .ref v0), (1, .ref v1), (3, .int v3), (4, .int s.1)] [] (s.2)) (hv0 : inL Λ v0 6) (hv1 : inL Λ v1 8) {r : Mem} (hm : jn_X6_fillDock_166 N Λ μ k89 v0 v1 v3 v4 = some r) : J x 5 Λ (QV x Λ r) 166 [(0, .ref v0), (1, .ref v1), (3, .int v3), (4, .int v4)] [] μ := by
  obtain ⟨y1, e2, hm⟩ := lt_some hm
  refine j_iinc C 3 (v := y1) (lv' := [(4, .int y1), (0, .ref v0), (1, .ref v1), (3, .int v3)]) dX6_fillDock_166 rfl (by rw [e2]; rfl) (by decide) rfl ?_
  refine j_goto C (tgt := 89) dX6_fillDock_169 (by decide) ?_
  refine j_sub [1, 2, 3, 0] rfl ?_
  exact hk89 (y1, μ) _ hm
set_option maxRecDepth 20000 in
set_option maxHeartbeats 4000000 in
theorem tj_X6_fillDock_124 {x : Ctx} {Λ : Lay} (C : Cx x cX6_fillDock 5 none RX6 Λ rm_X6_fillDock) (N : Nat) (μ : Mem) (k89 : Int32 × Mem → Option (Mem)) (v0 : Nat) (v1 : Nat) (v3 : Int32) (v4 : Int32) (s0 : Nat) (s1 : Int32) (s2 : Int32) (hk89 : ∀ (s : Int32 × Mem) (r : Mem), k89 s = some r → J x 5 Λ (QV x Λ r) 89 [(0, .ref v0), (1, .ref v1), (3, .int v3), (4, .int s.1)] [] (s.2)) (hv0 : inL Λ v0 6) (hv1 : inL Λ v1 8) (hs0 : inL Λ s0 13) {r : Mem} (hm : jn_X6_fillDock_124 N Λ μ k89 v0 v1 v3 v4 s0 s1 s2 = some r) : J x 5 Λ (QV x Λ r) 124 [(0, .ref v0), (1, .ref v1), (3, .int v3), (4, .int v4)] [.int s2, .int s1, .ref s0] μ := by
  obtain ⟨h1, hm⟩ := gd_some hm
  obtain ⟨μ2, e3, hm⟩ := lt_some hm
  refine j_iast C hs0 h1 e3 dX6_fillDock_124 ?_
  refine j_aload_n C 0 dX6_fillDock_125 rfl ?_
  obtain ⟨q4, h5, hm⟩ := bd_some hm
  refine j_getR C fg_X6_21_6 hv0 (dr_spec h5).1 dX6_fillDock_126 ?_
  refine j_iload C 3 dX6_fillDock_129 rfl ?_
  obtain ⟨h6, hm⟩ := gd_some hm
  refine j_iald C ((dr_spec h5).2) h6 dX6_fillDock_131 ?_
  refine j_ldc C (v := 1048576) wk_532 dX6_fillDock_132 ?_
  refine j_icmp_eq C (tgt := 166) dX6_fillDock_134 (by decide) (fun h7 => ?_) (fun h7 => ?_)
  · replace hm := if_t hm h7
    exact tj_X6_fillDock_166 C _ _ _ _ _ _ _ hk89 hv0 hv1 hm
  · replace hm := if_f hm h7
    refine j_aload_n C 0 dX6_fillDock_137 rfl ?_
    refine j_iload C 3 dX6_fillDock_138 rfl ?_
    obtain ⟨r8, h9, hm⟩ := bd_some hm
    refine call_I (run_LV C lk_X6_65 ⟨rfl, rfl, Nat.le_of_ble_eq_true rfl, Nat.le_of_ble_eq_true rfl⟩ (As := [.int v4]) hv0 rfl rfl (Nat.le_of_ble_eq_true rfl) dX6_fillDock_140 (mc_X6_feesOf _ _ _ _ _ _ hv0 h9)) ?_
    refine j_aload_n C 0 dX6_fillDock_143 rfl ?_
    refine j_getI C fg_X6_54_6 hv0 dX6_fillDock_144 ?_
    refine j_icmp_le C (tgt := 166) dX6_fillDock_147 (by decide) (fun h10 => ?_) (fun h10 => ?_)
    · replace hm := if_t hm h10
      exact tj_X6_fillDock_166 C _ _ _ _ _ _ _ hk89 hv0 hv1 hm
    · replace hm := if_f hm h10
      refine j_aload_n C 0 dX6_fillDock_150 rfl ?_
      refine j_aload_n C 0 dX6_fillDock_151 rfl ?_
      refine j_iload C 3 dX6_fillDock_152 rfl ?_
      obtain ⟨r11, h12, hm⟩ := bd_some hm
      refine call_I (run_LV C lk_X6_65 ⟨rfl, rfl, Nat.le_of_ble_eq_true rfl, Nat.le_of_ble_eq_true rfl⟩ (As := [.int v4]) hv0 rfl rfl (Nat.le_of_ble_eq_true rfl) dX6_fillDock_154 (mc_X6_feesOf _ _ _ _ _ _ hv0 h12)) ?_
      obtain ⟨μ13, e14, hm⟩ := lt_some hm
      refine j_putI C fp_X6_54_6 hv0 e14 dX6_fillDock_157 ?_
      refine j_aload_n C 0 dX6_fillDock_160 rfl ?_
      refine j_iload C 3 dX6_fillDock_161 rfl ?_
      obtain ⟨μ15, e16, hm⟩ := lt_some hm
      refine j_putI C fp_X6_57_6 hv0 e16 dX6_fillDock_163 ?_
      exact tj_X6_fillDock_166 C _ _ _ _ _ _ _ hk89 hv0 hv1 hm
set_option maxRecDepth 20000 in
set_option maxHeartbeats 4000000 in
theorem tb_X6_fillDock_89 {x : Ctx} {Λ : Lay} (C : Cx x cX6_fillDock 5 none RX6 Λ rm_X6_fillDock) (N : Nat) (μ : Mem) (k89 : Int32 × Mem → Option (Mem)) (v0 : Nat) (v1 : Nat) (v3 : Int32) (v4 : Int32) (hk89 : ∀ (s : Int32 × Mem) (r : Mem), k89 s = some r → J x 5 Λ (QV x Λ r) 89 [(0, .ref v0), (1, .ref v1), (3, .int v3), (4, .int s.1)] [] (s.2)) (hv0 : inL Λ v0 6) (hv1 : inL Λ v1 8) {r : Mem} (hm : bd_X6_fillDock_89 N Λ μ k89 v0 v1 v3 v4 = some r) : J x 5 Λ (QV x Λ r) 89 [(0, .ref v0), (1, .ref v1), (3, .int v3), (4, .int v4)] [] μ := by
  refine j_iload C 3 dX6_fillDock_89 rfl ?_
  refine j_sipush C (v := 256) dX6_fillDock_91 rfl ?_
  refine j_icmp_ge C (tgt := 172) dX6_fillDock_94 (by decide) (fun h1 => ?_) (fun h1 => ?_)
  · replace hm := if_t hm h1
    obtain rfl := Option.some.inj hm
    exact j_vret C dX6_fillDock_172
  · replace hm := if_f hm h1
    refine j_aload_n C 0 dX6_fillDock_97 rfl ?_
    obtain ⟨q2, h3, hm⟩ := bd_some hm
    refine j_getR C fg_X6_21_6 hv0 (dr_spec h3).1 dX6_fillDock_98 ?_
    refine j_iload C 3 dX6_fillDock_101 rfl ?_
    refine j_iload C 3 dX6_fillDock_103 rfl ?_
    refine j_iload_n C 2 dX6_fillDock_105 rfl ?_
    refine j_iconst C (v := -1) dX6_fillDock_106 rfl ?_
    refine j_ixor C dX6_fillDock_107 ?_
    refine j_iand C dX6_fillDock_108 ?_
    refine j_if_ne C (tgt := 122) dX6_fillDock_109 (by decide) (fun h4 => ?_) (fun h4 => ?_)
    · replace hm := if_f hm h4
      refine j_ldc C (v := 1048576) wk_532 dX6_fillDock_122 ?_
      exact tj_X6_fillDock_124 C _ _ _ _ _ _ _ _ _ _ hk89 hv0 hv1 ((dr_spec h3).2) hm
    · replace hm := if_t hm h4
      refine j_aload_n C 0 dX6_fillDock_112 rfl ?_
      refine j_iload C 3 dX6_fillDock_113 rfl ?_
      refine j_aload_n C 1 dX6_fillDock_115 rfl ?_
      obtain ⟨r5, h6, hm⟩ := bd_some hm
      refine call_I (run_LV C lk_X6_60 ⟨rfl, rfl, Nat.le_of_ble_eq_true rfl, Nat.le_of_ble_eq_true rfl⟩ (As := [.int v4, .ref v1]) hv0 rfl rfl (Nat.le_of_ble_eq_true rfl) dX6_fillDock_116 (mc_X6_leastFilling _ _ _ _ _ _ _ hv0 hv1 h6)) ?_
      refine j_goto C (tgt := 124) dX6_fillDock_119 (by decide) ?_
      exact tj_X6_fillDock_124 C _ _ _ _ _ _ _ _ _ _ hk89 hv0 hv1 ((dr_spec h3).2) hm
set_option maxRecDepth 20000 in
set_option maxHeartbeats 4000000 in
theorem tl_X6_fillDock_89 {x : Ctx} {Λ : Lay} (C : Cx x cX6_fillDock 5 none RX6 Λ rm_X6_fillDock) (N : Nat) (v0 : Nat) (v1 : Nat) (v3 : Int32) (hv0 : inL Λ v0 6) (hv1 : inL Λ v1 8) (s : Int32 × Mem) {r : Mem} (hm : lp_X6_fillDock_89 N Λ v0 v1 v3 s = some r) : J x 5 Λ (QV x Λ r) 89 [(0, .ref v0), (1, .ref v1), (3, .int v3), (4, .int s.1)] [] (s.2) :=
  cw_ind (P := fun s r => J x 5 Λ (QV x Λ r) 89 [(0, .ref v0), (1, .ref v1), (3, .int v3), (4, .int s.1)] [] (s.2)) (fun k hkk s r e => tb_X6_fillDock_89 C _ _ _ _ _ _ _ hkk hv0 hv1 e) N s r hm
set_option maxRecDepth 20000 in
set_option maxHeartbeats 4000000 in
theorem tb_X6_fillDock_19 {x : Ctx} {Λ : Lay} (C : Cx x cX6_fillDock 5 none RX6 Λ rm_X6_fillDock) (N : Nat) (μ : Mem) (k19 : Int32 × Int32 × Mem → Option (Mem)) (v0 : Nat) (v1 : Nat) (v3 : Int32) (v4 : Int32) (hk19 : ∀ (s : Int32 × Int32 × Mem) (r : Mem), k19 s = some r → J x 5 Λ (QV x Λ r) 19 [(0, .ref v0), (1, .ref v1), (3, .int s.1), (4, .int s.2.1)] [] (s.2.2)) (hv0 : inL Λ v0 6) (hv1 : inL Λ v1 8) {r : Mem} (hm : bd_X6_fillDock_19 N Λ μ k19 v0 v1 v3 v4 = some r) : J x 5 Λ (QV x Λ r) 19 [(0, .ref v0), (1, .ref v1), (3, .int v3), (4, .int v4)] [] μ := by
  refine j_iload C 3 dX6_fillDock_19 rfl ?_
  refine j_aload_n C 1 dX6_fillDock_21 rfl ?_
  refine j_getI C fg_X6_41_8 hv1 dX6_fillDock_22 ?_
  refine j_icmp_ge C (tgt := 69) dX6_fillDock_25 (by decide) (fun h1 => ?_) (fun h1 => ?_)
  · replace hm := if_t hm h1
    refine j_aload_n C 0 dX6_fillDock_69 rfl ?_
    refine j_iconst C (v := 0) dX6_fillDock_70 rfl ?_
    obtain ⟨μ2, e3, hm⟩ := lt_some hm
    refine j_putI C fp_X6_54_6 hv0 e3 dX6_fillDock_71 ?_
    refine j_aload_n C 0 dX6_fillDock_74 rfl ?_
    refine j_iconst C (v := 0) dX6_fillDock_75 rfl ?_
    obtain ⟨μ4, e5, hm⟩ := lt_some hm
    refine j_putI C fp_X6_57_6 hv0 e5 dX6_fillDock_76 ?_
    refine j_aload_n C 0 dX6_fillDock_79 rfl ?_
    obtain ⟨q6, h7, hm⟩ := bd_some hm
    refine j_getR C fg_X6_21_6 hv0 (dr_spec h7).1 dX6_fillDock_80 ?_
    refine j_iconst C (v := 0) dX6_fillDock_83 rfl ?_
    refine j_iconst C (v := 0) dX6_fillDock_84 rfl ?_
    obtain ⟨h8, hm⟩ := gd_some hm
    obtain ⟨μ9, e10, hm⟩ := lt_some hm
    refine j_iast C ((dr_spec h7).2) h8 e10 dX6_fillDock_85 ?_
    refine j_iconst C (v := 1) dX6_fillDock_86 rfl ?_
    refine j_istore C (lv' := [(4, .int 1), (0, .ref v0), (1, .ref v1), (3, .int v3)]) dX6_fillDock_87 (by decide) rfl ?_
    refine j_sub [1, 2, 3, 0] rfl ?_
    exact tl_X6_fillDock_89 C _ _ _ _ hv0 hv1 (1, μ9) hm
  · replace hm := if_f hm h1
    refine j_iload_n C 2 dX6_fillDock_28 rfl ?_
    refine j_aload_n C 1 dX6_fillDock_29 rfl ?_
    obtain ⟨q11, h12, hm⟩ := bd_some hm
    refine j_getR C fg_X6_45_8 hv1 (dr_spec h12).1 dX6_fillDock_30 ?_
    refine j_iload C 3 dX6_fillDock_33 rfl ?_
    obtain ⟨h13, hm⟩ := gd_some hm
    refine j_iald C ((dr_spec h12).2) h13 dX6_fillDock_35 ?_
    refine j_if_ne C (tgt := 60) dX6_fillDock_36 (by decide) (fun h14 => ?_) (fun h14 => ?_)
    · replace hm := if_f hm h14
      refine j_sub [0, 1, 3] rfl ?_
      exact tj_X6_fillDock_60 C _ _ _ _ _ _ _ hk19 hv0 hv1 hm
    · replace hm := if_t hm h14
      refine j_aload_n C 1 dX6_fillDock_39 rfl ?_
      obtain ⟨q15, h16, hm⟩ := bd_some hm
      refine j_getR C fg_X6_48_8 hv1 (dr_spec h16).1 dX6_fillDock_40 ?_
      refine j_iload C 3 dX6_fillDock_43 rfl ?_
      obtain ⟨h17, hm⟩ := gd_some hm
      refine j_iald C ((dr_spec h16).2) h17 dX6_fillDock_45 ?_
      refine j_aload_n C 1 dX6_fillDock_46 rfl ?_
      refine j_getI C fg_X6_51_8 hv1 dX6_fillDock_47 ?_
      refine j_icmp_gt C (tgt := 60) dX6_fillDock_50 (by decide) (fun h18 => ?_) (fun h18 => ?_)
      · replace hm := if_t hm h18
        refine j_sub [0, 1, 3] rfl ?_
        exact tj_X6_fillDock_60 C _ _ _ _ _ _ _ hk19 hv0 hv1 hm
      · replace hm := if_f hm h18
        refine j_iconst C (v := 1) dX6_fillDock_53 rfl ?_
        refine j_iload C 3 dX6_fillDock_54 rfl ?_
        refine j_ishl C dX6_fillDock_56 ?_
        refine j_goto C (tgt := 61) dX6_fillDock_57 (by decide) ?_
        refine j_sub [0, 1, 3] rfl ?_
        exact tj_X6_fillDock_61 C _ _ _ _ _ _ _ _ hk19 hv0 hv1 hm
set_option maxRecDepth 20000 in
set_option maxHeartbeats 4000000 in
theorem tl_X6_fillDock_19 {x : Ctx} {Λ : Lay} (C : Cx x cX6_fillDock 5 none RX6 Λ rm_X6_fillDock) (N : Nat) (v0 : Nat) (v1 : Nat) (hv0 : inL Λ v0 6) (hv1 : inL Λ v1 8) (s : Int32 × Int32 × Mem) {r : Mem} (hm : lp_X6_fillDock_19 N Λ v0 v1 s = some r) : J x 5 Λ (QV x Λ r) 19 [(0, .ref v0), (1, .ref v1), (3, .int s.1), (4, .int s.2.1)] [] (s.2.2) :=
  cw_ind (P := fun s r => J x 5 Λ (QV x Λ r) 19 [(0, .ref v0), (1, .ref v1), (3, .int s.1), (4, .int s.2.1)] [] (s.2.2)) (fun k hkk s r e => tb_X6_fillDock_19 C _ _ _ _ _ _ _ hkk hv0 hv1 e) N s r hm
set_option maxRecDepth 20000 in
set_option maxHeartbeats 4000000 in
theorem tm_X6_fillDock {x : Ctx} {Λ : Lay} (C : Cx x cX6_fillDock 5 none RX6 Λ rm_X6_fillDock) (N : Nat) (μ : Mem) (v0 : Nat) (v1 : Nat) (v2 : Nat) (hv0 : inL Λ v0 6) (hv1 : inL Λ v1 8) (hv2 : inL Λ v2 2) {r : Mem} (hm : m_X6_fillDock N Λ μ v0 v1 v2 = some r) : J x 5 Λ (QV x Λ r) 0 [(0, .ref v0), (1, .ref v1), (2, .ref v2)] [] μ := by
  refine j_aload_n C 0 dX6_fillDock_0 rfl ?_
  refine j_aload_n C 1 dX6_fillDock_1 rfl ?_
  obtain ⟨r1, h2, hm⟩ := bd_some hm
  refine call_I (run_LV C lk_X6_27 ⟨rfl, rfl, Nat.le_of_ble_eq_true rfl, Nat.le_of_ble_eq_true rfl⟩ (As := []) hv1 rfl rfl (Nat.le_of_ble_eq_true rfl) dX6_fillDock_2 (mc_X9_takenPlaces _ _ _ _ _ hv1 h2)) ?_
  obtain ⟨r3, h4, hm⟩ := bd_some hm
  refine call_V (run_LV C lk_X6_33 ⟨rfl, rfl, Nat.le_of_ble_eq_true rfl, Nat.le_of_ble_eq_true rfl⟩ (As := [.int r1]) hv0 rfl rfl (Nat.le_of_ble_eq_true rfl) dX6_fillDock_5 (mc_X6_findBins _ _ _ _ _ _ hv0 h4)) ?_
  refine j_aload_n C 0 dX6_fillDock_8 rfl ?_
  refine j_aload_n C 1 dX6_fillDock_9 rfl ?_
  refine j_aload_n C 2 dX6_fillDock_10 rfl ?_
  obtain ⟨r5, h6, hm⟩ := bd_some hm
  refine call_V (run_LV C lk_X6_37 ⟨rfl, rfl, Nat.le_of_ble_eq_true rfl, Nat.le_of_ble_eq_true rfl⟩ (As := [.ref v1, .ref v2]) hv0 rfl rfl (Nat.le_of_ble_eq_true rfl) dX6_fillDock_11 (mc_X6_findFees _ _ _ _ _ _ _ hv0 hv1 hv2 h6)) ?_
  refine j_iconst C (v := 0) dX6_fillDock_14 rfl ?_
  refine j_istore_n C (lv' := [(3, .int 0), (0, .ref v0), (1, .ref v1), (2, .ref v2)]) dX6_fillDock_15 (by decide) rfl ?_
  refine j_iconst C (v := 0) dX6_fillDock_16 rfl ?_
  refine j_istore C (lv' := [(4, .int 0), (3, .int 0), (0, .ref v0), (1, .ref v1), (2, .ref v2)]) dX6_fillDock_17 (by decide) rfl ?_
  refine j_sub [2, 3, 1, 0] rfl ?_
  exact tl_X6_fillDock_19 C _ _ _ hv0 hv1 (0, 0, r5) hm
set_option maxRecDepth 20000 in
set_option maxHeartbeats 4000000 in
theorem mc_X6_fillDock (l : Launch) (N : Nat) (Λ : Lay) (μ : Mem) (v0 : Nat) (v1 : Nat) (v2 : Nat) (hv0 : inL Λ v0 6) (hv1 : inL Λ v1 8) (hv2 : inL Λ v2 2) {r : Mem} (hm : m_X6_fillDock N Λ μ v0 v1 v2 = some r) : MV l yX6_fillDock cX6_fillDock 5 rm_X6_fillDock Λ [.ref v0, .ref v1, .ref v2] μ r := mv_of rfl (Nat.le_of_ble_eq_true rfl) (fun x C _ => tm_X6_fillDock C _ _ _ _ _ hv0 hv1 hv2 hm)
abbrev rm_X6_roundedUp : Room := { frames := 0, cells := 0, slots := 0, locals := 0 }
set_option maxRecDepth 20000 in
set_option maxHeartbeats 4000000 in
theorem tj_X6_roundedUp_15 {x : Ctx} {Λ : Lay} (C : Cx x cX6_roundedUp 2 (some .int) RX6 Λ rm_X6_roundedUp) (N : Nat) (μ : Mem) (s0 : Int32) {r : Int32} (hm : jn_X6_roundedUp_15 N Λ μ s0 = some r) : J x 2 Λ (QI x Λ r μ) 15 [] [.int s0] μ := by
  obtain rfl := Option.some.inj hm
  exact j_ireti C dX6_roundedUp_15
set_option maxRecDepth 20000 in
set_option maxHeartbeats 4000000 in
theorem tm_X6_roundedUp {x : Ctx} {Λ : Lay} (C : Cx x cX6_roundedUp 2 (some .int) RX6 Λ rm_X6_roundedUp) (N : Nat) (μ : Mem) (v0 : Int32) (v1 : Int32) {r : Int32} (hm : m_X6_roundedUp N Λ μ v0 v1 = some r) : J x 2 Λ (QI x Λ r μ) 0 [(0, .int v0), (1, .int v1)] [] μ := by
  refine j_iload_n C 1 dX6_roundedUp_0 rfl ?_
  refine j_if_le C (tgt := 14) dX6_roundedUp_1 (by decide) (fun h1 => ?_) (fun h1 => ?_)
  · replace hm := if_t hm h1
    refine j_iconst C (v := 0) dX6_roundedUp_14 rfl ?_
    refine j_sub [] rfl ?_
    exact tj_X6_roundedUp_15 C _ _ _  hm
  · replace hm := if_f hm h1
    refine j_iload_n C 0 dX6_roundedUp_4 rfl ?_
    refine j_iload_n C 1 dX6_roundedUp_5 rfl ?_
    refine j_iadd C dX6_roundedUp_6 ?_
    refine j_iconst C (v := 1) dX6_roundedUp_7 rfl ?_
    refine j_isub C dX6_roundedUp_8 ?_
    refine j_iload_n C 1 dX6_roundedUp_9 rfl ?_
    obtain ⟨h2, hm⟩ := gd_some hm
    refine j_idiv C dX6_roundedUp_10 (of_decide_eq_true h2) ?_
    refine j_goto C (tgt := 15) dX6_roundedUp_11 (by decide) ?_
    refine j_sub [] rfl ?_
    exact tj_X6_roundedUp_15 C _ _ _  hm
set_option maxRecDepth 20000 in
set_option maxHeartbeats 4000000 in
theorem mc_X6_roundedUp (l : Launch) (N : Nat) (Λ : Lay) (μ : Mem) (v0 : Int32) (v1 : Int32) {r : Int32} (hm : m_X6_roundedUp N Λ μ v0 v1 = some r) : MI l yX6_roundedUp cX6_roundedUp 2 (some .int) rm_X6_roundedUp Λ [.int v0, .int v1] μ r μ := mi_of rfl (Nat.le_of_ble_eq_true rfl) (fun x C _ => tm_X6_roundedUp C _ _ _ _  hm)
abbrev rm_X6_orderRest : Room := { frames := 1, cells := 0, slots := 0, locals := 21 }
set_option maxRecDepth 20000 in
set_option maxHeartbeats 4000000 in
theorem tj_X6_orderRest_143 {x : Ctx} {Λ : Lay} (C : Cx x cX6_orderRest 8 none RX6 Λ rm_X6_orderRest) (N : Nat) (μ : Mem) (k46 : Int32 × Mem → Option (Mem)) (v0 : Nat) (v1 : Int32) (v2 : Int32) (v3 : Nat) (v4 : Int32) (v5 : Int32) (hk46 : ∀ (s : Int32 × Mem) (r : Mem), k46 s = some r → J x 8 Λ (QV x Λ r) 46 [(0, .ref v0), (1, .int v1), (2, .int v2), (3, .ref v3), (4, .int v4), (5, .int s.1)] [] (s.2)) (hv0 : inL Λ v0 6) (hv3 : inL Λ v3 8) {r : Mem} (hm : jn_X6_orderRest_143 N Λ μ k46 v0 v1 v2 v3 v4 v5 = some r) : J x 8 Λ (QV x Λ r) 143 [(0, .ref v0), (1, .int v1), (2, .int v2), (3, .ref v3), (4, .int v4), (5, .int v5)] [] μ := by
  obtain ⟨y1, e2, hm⟩ := lt_some hm
  refine j_iinc C 5 (v := y1) (lv' := [(5, .int y1), (0, .ref v0), (1, .int v1), (2, .int v2), (3, .ref v3), (4, .int v4)]) dX6_orderRest_143 rfl (by rw [e2]; rfl) (by decide) rfl ?_
  refine j_goto C (tgt := 46) dX6_orderRest_146 (by decide) ?_
  refine j_sub [1, 2, 3, 4, 5, 0] rfl ?_
  exact hk46 (y1, μ) _ hm
set_option maxRecDepth 20000 in
set_option maxHeartbeats 4000000 in
theorem tj_X6_orderRest_129 {x : Ctx} {Λ : Lay} (C : Cx x cX6_orderRest 8 none RX6 Λ rm_X6_orderRest) (N : Nat) (μ : Mem) (k46 : Int32 × Mem → Option (Mem)) (v0 : Nat) (v1 : Int32) (v2 : Int32) (v3 : Nat) (v4 : Int32) (v5 : Int32) (v7 : Int32) (hk46 : ∀ (s : Int32 × Mem) (r : Mem), k46 s = some r → J x 8 Λ (QV x Λ r) 46 [(0, .ref v0), (1, .int v1), (2, .int v2), (3, .ref v3), (4, .int v4), (5, .int s.1)] [] (s.2)) (hv0 : inL Λ v0 6) (hv3 : inL Λ v3 8) {r : Mem} (hm : jn_X6_orderRest_129 N Λ μ k46 v0 v1 v2 v3 v4 v5 v7 = some r) : J x 8 Λ (QV x Λ r) 129 [(0, .ref v0), (1, .int v1), (2, .int v2), (3, .ref v3), (4, .int v4), (5, .int v5), (7, .int v7)] [] μ := by
  refine j_aload_n C 0 dX6_orderRest_129 rfl ?_
  obtain ⟨q1, h2, hm⟩ := bd_some hm
  refine j_getR C fg_X6_21_6 hv0 (dr_spec h2).1 dX6_orderRest_130 ?_
  refine j_iload_n C 1 dX6_orderRest_133 rfl ?_
  refine j_iload C 6 dX6_orderRest_134 rfl ?_
  obtain ⟨h3, hm⟩ := gd_some hm
  obtain ⟨μ4, e5, hm⟩ := lt_some hm
  refine j_iast C ((dr_spec h2).2) h3 e5 dX6_orderRest_136 ?_
  refine j_aload_n C 0 dX6_orderRest_137 rfl ?_
  refine j_iload C 5 dX6_orderRest_138 rfl ?_
  obtain ⟨μ6, e7, hm⟩ := lt_some hm
  refine j_putI C fp_X6_57_6 hv0 e7 dX6_orderRest_140 ?_
  refine j_sub [0, 1, 2, 3, 4, 5] rfl ?_
  exact tj_X6_orderRest_143 C _ _ _ _ _ _ _ _ _ hk46 hv0 hv3 hm
set_option maxRecDepth 20000 in
set_option maxHeartbeats 4000000 in
theorem tb_X6_orderRest_46 {x : Ctx} {Λ : Lay} (C : Cx x cX6_orderRest 8 none RX6 Λ rm_X6_orderRest) (N : Nat) (μ : Mem) (k46 : Int32 × Mem → Option (Mem)) (v0 : Nat) (v1 : Int32) (v2 : Int32) (v3 : Nat) (v4 : Int32) (v5 : Int32) (hk46 : ∀ (s : Int32 × Mem) (r : Mem), k46 s = some r → J x 8 Λ (QV x Λ r) 46 [(0, .ref v0), (1, .int v1), (2, .int v2), (3, .ref v3), (4, .int v4), (5, .int s.1)] [] (s.2)) (hv0 : inL Λ v0 6) (hv3 : inL Λ v3 8) {r : Mem} (hm : bd_X6_orderRest_46 N Λ μ k46 v0 v1 v2 v3 v4 v5 = some r) : J x 8 Λ (QV x Λ r) 46 [(0, .ref v0), (1, .int v1), (2, .int v2), (3, .ref v3), (4, .int v4), (5, .int v5)] [] μ := by
  refine j_iload C 5 dX6_orderRest_46 rfl ?_
  refine j_bipush C (v := 8) dX6_orderRest_48 rfl ?_
  refine j_icmp_ge C (tgt := 149) dX6_orderRest_50 (by decide) (fun h1 => ?_) (fun h1 => ?_)
  · replace hm := if_t hm h1
    obtain rfl := Option.some.inj hm
    exact j_vret C dX6_orderRest_149
  · replace hm := if_f hm h1
    refine j_iload_n C 2 dX6_orderRest_53 rfl ?_
    refine j_iload_n C 1 dX6_orderRest_54 rfl ?_
    refine j_iconst C (v := -1) dX6_orderRest_55 rfl ?_
    refine j_ixor C dX6_orderRest_56 ?_
    refine j_iand C dX6_orderRest_57 ?_
    refine j_iload C 5 dX6_orderRest_58 rfl ?_
    refine j_ishr C dX6_orderRest_60 ?_
    refine j_iconst C (v := 1) dX6_orderRest_61 rfl ?_
    refine j_iand C dX6_orderRest_62 ?_
    refine j_iconst C (v := 1) dX6_orderRest_63 rfl ?_
    refine j_icmp_ne C (tgt := 143) dX6_orderRest_64 (by decide) (fun h2 => ?_) (fun h2 => ?_)
    · replace hm := if_f hm h2
      exact tj_X6_orderRest_143 C _ _ _ _ _ _ _ _ _ hk46 hv0 hv3 hm
    · replace hm := if_t hm h2
      refine j_iload C 4 dX6_orderRest_67 rfl ?_
      refine j_aload_n C 3 dX6_orderRest_69 rfl ?_
      obtain ⟨q3, h4, hm⟩ := bd_some hm
      refine j_getR C fg_X6_98_8 hv3 (dr_spec h4).1 dX6_orderRest_70 ?_
      refine j_iload C 5 dX6_orderRest_73 rfl ?_
      obtain ⟨h5, hm⟩ := gd_some hm
      refine j_iald C ((dr_spec h4).2) h5 dX6_orderRest_75 ?_
      refine j_iadd C dX6_orderRest_76 ?_
      refine j_aload_n C 3 dX6_orderRest_77 rfl ?_
      refine j_getI C fg_X6_91_8 hv3 dX6_orderRest_78 ?_
      obtain ⟨r6, h7, hm⟩ := bd_some hm
      refine call_I (run_LS C ls_X6_101 ⟨rfl, rfl, Nat.le_of_ble_eq_true rfl, Nat.le_of_ble_eq_true rfl⟩ (As := [.int (v4 + (μ.1 q3 v5.toNatClampNeg)), .int (μ.1 v3 3)]) rfl rfl (Nat.le_of_ble_eq_true rfl) dX6_orderRest_81 (mc_X6_roundedUp _ _ _ _ _ _  h7)) ?_
      refine j_istore C (lv' := [(6, .int r6), (0, .ref v0), (1, .int v1), (2, .int v2), (3, .ref v3), (4, .int v4), (5, .int v5)]) dX6_orderRest_84 (by decide) rfl ?_
      refine j_aload_n C 1 dX6_orderRest_86 rfl ?_
      obtain ⟨q8, h9, hm⟩ := bd_some hm
      refine j_getR C fg_X6_18_6 hv0 (dr_spec h9).1 dX6_orderRest_87 ?_
      refine j_iload C 6 dX6_orderRest_90 rfl ?_
      obtain ⟨h10, hm⟩ := gd_some hm
      refine j_iald C ((dr_spec h9).2) h10 dX6_orderRest_92 ?_
      refine j_iload C 0 dX6_orderRest_93 rfl ?_
      refine j_imul C dX6_orderRest_95 ?_
      refine j_aload_n C 1 dX6_orderRest_96 rfl ?_
      obtain ⟨q11, h12, hm⟩ := bd_some hm
      refine j_getR C fg_X6_21_6 hv0 (dr_spec h12).1 dX6_orderRest_97 ?_
      refine j_iload_n C 2 dX6_orderRest_100 rfl ?_
      refine j_iconst C (v := 1) dX6_orderRest_101 rfl ?_
      refine j_iload C 6 dX6_orderRest_102 rfl ?_
      refine j_ishl C dX6_orderRest_104 ?_
      refine j_ior C dX6_orderRest_105 ?_
      obtain ⟨h13, hm⟩ := gd_some hm
      refine j_iald C ((dr_spec h12).2) h13 dX6_orderRest_106 ?_
      refine j_iadd C dX6_orderRest_107 ?_
      obtain ⟨y14, e15, hm⟩ := lt_some hm
      refine j_topi e15 ?_
      refine j_istore C (lv' := [(7, .int y14), (6, .int r6), (0, .ref v0), (1, .int v1), (2, .int v2), (3, .ref v3), (4, .int v4), (5, .int v5)]) dX6_orderRest_108 (by decide) rfl ?_
      refine j_aload_n C 2 dX6_orderRest_110 rfl ?_
      refine j_getI C fg_X6_57_6 hv0 dX6_orderRest_111 ?_
      refine j_iconst C (v := -1) dX6_orderRest_114 rfl ?_
      refine j_icmp_eq C (tgt := 129) dX6_orderRest_115 (by decide) (fun h16 => ?_) (fun h16 => ?_)
      · replace hm := if_t hm h16
        refine j_sub [2, 3, 4, 5, 6, 7, 0] rfl ?_
        exact tj_X6_orderRest_129 C _ _ _ _ _ _ _ _ _ _ hk46 hv0 hv3 hm
      · replace hm := if_f hm h16
        refine j_iload C 0 dX6_orderRest_118 rfl ?_
        refine j_aload_n C 2 dX6_orderRest_120 rfl ?_
        obtain ⟨q17, h18, hm⟩ := bd_some hm
        refine j_getR C fg_X6_21_6 hv0 (dr_spec h18).1 dX6_orderRest_121 ?_
        refine j_iload_n C 3 dX6_orderRest_124 rfl ?_
        obtain ⟨h19, hm⟩ := gd_some hm
        refine j_iald C ((dr_spec h18).2) h19 dX6_orderRest_125 ?_
        refine j_icmp_ge C (tgt := 143) dX6_orderRest_126 (by decide) (fun h20 => ?_) (fun h20 => ?_)
        · replace hm := if_t hm h20
          refine j_sub [2, 3, 4, 5, 6, 7] rfl ?_
          exact tj_X6_orderRest_143 C _ _ _ _ _ _ _ _ _ hk46 hv0 hv3 hm
        · replace hm := if_f hm h20
          refine j_sub [2, 3, 4, 5, 6, 7, 0] rfl ?_
          exact tj_X6_orderRest_129 C _ _ _ _ _ _ _ _ _ _ hk46 hv0 hv3 hm
set_option maxRecDepth 20000 in
set_option maxHeartbeats 4000000 in
theorem tl_X6_orderRest_46 {x : Ctx} {Λ : Lay} (C : Cx x cX6_orderRest 8 none RX6 Λ rm_X6_orderRest) (N : Nat) (v0 : Nat) (v1 : Int32) (v2 : Int32) (v3 : Nat) (v4 : Int32) (hv0 : inL Λ v0 6) (hv3 : inL Λ v3 8) (s : Int32 × Mem) {r : Mem} (hm : lp_X6_orderRest_46 N Λ v0 v1 v2 v3 v4 s = some r) : J x 8 Λ (QV x Λ r) 46 [(0, .ref v0), (1, .int v1), (2, .int v2), (3, .ref v3), (4, .int v4), (5, .int s.1)] [] (s.2) :=
  cw_ind (P := fun s r => J x 8 Λ (QV x Λ r) 46 [(0, .ref v0), (1, .int v1), (2, .int v2), (3, .ref v3), (4, .int v4), (5, .int s.1)] [] (s.2)) (fun k hkk s r e => tb_X6_orderRest_46 C _ _ _ _ _ _ _ _ _ hkk hv0 hv3 e) N s r hm
set_option maxRecDepth 20000 in
set_option maxHeartbeats 4000000 in
theorem tb_X6_orderRest_6 {x : Ctx} {Λ : Lay} (C : Cx x cX6_orderRest 8 none RX6 Λ rm_X6_orderRest) (N : Nat) (μ : Mem) (k6 : Int32 × Int32 × Mem → Option (Mem)) (v0 : Nat) (v1 : Int32) (v2 : Int32) (v3 : Nat) (v4 : Int32) (v5 : Int32) (hk6 : ∀ (s : Int32 × Int32 × Mem) (r : Mem), k6 s = some r → J x 8 Λ (QV x Λ r) 6 [(0, .ref v0), (1, .int v1), (2, .int v2), (3, .ref v3), (4, .int s.1), (5, .int s.2.1)] [] (s.2.2)) (hv0 : inL Λ v0 6) (hv3 : inL Λ v3 8) {r : Mem} (hm : bd_X6_orderRest_6 N Λ μ k6 v0 v1 v2 v3 v4 v5 = some r) : J x 8 Λ (QV x Λ r) 6 [(0, .ref v0), (1, .int v1), (2, .int v2), (3, .ref v3), (4, .int v4), (5, .int v5)] [] μ := by
  refine j_iload C 5 dX6_orderRest_6 rfl ?_
  refine j_bipush C (v := 8) dX6_orderRest_8 rfl ?_
  refine j_icmp_ge C (tgt := 38) dX6_orderRest_10 (by decide) (fun h1 => ?_) (fun h1 => ?_)
  · replace hm := if_t hm h1
    refine j_aload_n C 0 dX6_orderRest_38 rfl ?_
    refine j_iconst C (v := -1) dX6_orderRest_39 rfl ?_
    obtain ⟨μ2, e3, hm⟩ := lt_some hm
    refine j_putI C fp_X6_57_6 hv0 e3 dX6_orderRest_40 ?_
    refine j_iconst C (v := 0) dX6_orderRest_43 rfl ?_
    refine j_istore C (lv' := [(5, .int 0), (0, .ref v0), (1, .int v1), (2, .int v2), (3, .ref v3), (4, .int v4)]) dX6_orderRest_44 (by decide) rfl ?_
    refine j_sub [1, 2, 3, 4, 5, 0] rfl ?_
    exact tl_X6_orderRest_46 C _ _ _ _ _ _ hv0 hv3 (0, μ2) hm
  · replace hm := if_f hm h1
    refine j_iload C 4 dX6_orderRest_13 rfl ?_
    refine j_iload_n C 1 dX6_orderRest_15 rfl ?_
    refine j_iload C 5 dX6_orderRest_16 rfl ?_
    refine j_ishr C dX6_orderRest_18 ?_
    refine j_iconst C (v := 1) dX6_orderRest_19 rfl ?_
    refine j_iand C dX6_orderRest_20 ?_
    refine j_aload_n C 3 dX6_orderRest_21 rfl ?_
    obtain ⟨q4, h5, hm⟩ := bd_some hm
    refine j_getR C fg_X6_98_8 hv3 (dr_spec h5).1 dX6_orderRest_22 ?_
    refine j_iload C 5 dX6_orderRest_25 rfl ?_
    obtain ⟨h6, hm⟩ := gd_some hm
    refine j_iald C ((dr_spec h5).2) h6 dX6_orderRest_27 ?_
    refine j_imul C dX6_orderRest_28 ?_
    refine j_iadd C dX6_orderRest_29 ?_
    obtain ⟨y7, e8, hm⟩ := lt_some hm
    refine j_topi e8 ?_
    refine j_istore C (lv' := [(4, .int y7), (0, .ref v0), (1, .int v1), (2, .int v2), (3, .ref v3), (5, .int v5)]) dX6_orderRest_30 (by decide) rfl ?_
    obtain ⟨y9, e10, hm⟩ := lt_some hm
    refine j_iinc C 5 (v := y9) (lv' := [(5, .int y9), (4, .int y7), (0, .ref v0), (1, .int v1), (2, .int v2), (3, .ref v3)]) dX6_orderRest_32 rfl (by rw [e10]; rfl) (by decide) rfl ?_
    refine j_goto C (tgt := 6) dX6_orderRest_35 (by decide) ?_
    refine j_sub [2, 3, 4, 5, 1, 0] rfl ?_
    exact hk6 (y7, y9, μ) _ hm
set_option maxRecDepth 20000 in
set_option maxHeartbeats 4000000 in
theorem tl_X6_orderRest_6 {x : Ctx} {Λ : Lay} (C : Cx x cX6_orderRest 8 none RX6 Λ rm_X6_orderRest) (N : Nat) (v0 : Nat) (v1 : Int32) (v2 : Int32) (v3 : Nat) (hv0 : inL Λ v0 6) (hv3 : inL Λ v3 8) (s : Int32 × Int32 × Mem) {r : Mem} (hm : lp_X6_orderRest_6 N Λ v0 v1 v2 v3 s = some r) : J x 8 Λ (QV x Λ r) 6 [(0, .ref v0), (1, .int v1), (2, .int v2), (3, .ref v3), (4, .int s.1), (5, .int s.2.1)] [] (s.2.2) :=
  cw_ind (P := fun s r => J x 8 Λ (QV x Λ r) 6 [(0, .ref v0), (1, .int v1), (2, .int v2), (3, .ref v3), (4, .int s.1), (5, .int s.2.1)] [] (s.2.2)) (fun k hkk s r e => tb_X6_orderRest_6 C _ _ _ _ _ _ _ _ _ hkk hv0 hv3 e) N s r hm
set_option maxRecDepth 20000 in
set_option maxHeartbeats 4000000 in
theorem tm_X6_orderRest {x : Ctx} {Λ : Lay} (C : Cx x cX6_orderRest 8 none RX6 Λ rm_X6_orderRest) (N : Nat) (μ : Mem) (v0 : Nat) (v1 : Int32) (v2 : Int32) (v3 : Nat) (hv0 : inL Λ v0 6) (hv3 : inL Λ v3 8) {r : Mem} (hm : m_X6_orderRest N Λ μ v0 v1 v2 v3 = some r) : J x 8 Λ (QV x Λ r) 0 [(0, .ref v0), (1, .int v1), (2, .int v2), (3, .ref v3)] [] μ := by
  refine j_iconst C (v := 0) dX6_orderRest_0 rfl ?_
  refine j_istore C (lv' := [(4, .int 0), (0, .ref v0), (1, .int v1), (2, .int v2), (3, .ref v3)]) dX6_orderRest_1 (by decide) rfl ?_
  refine j_iconst C (v := 0) dX6_orderRest_3 rfl ?_
  refine j_istore C (lv' := [(5, .int 0), (4, .int 0), (0, .ref v0), (1, .int v1), (2, .int v2), (3, .ref v3)]) dX6_orderRest_4 (by decide) rfl ?_
  refine j_sub [2, 3, 4, 5, 1, 0] rfl ?_
  exact tl_X6_orderRest_6 C _ _ _ _ _ hv0 hv3 (0, 0, μ) hm
set_option maxRecDepth 20000 in
set_option maxHeartbeats 4000000 in
theorem mc_X6_orderRest (l : Launch) (N : Nat) (Λ : Lay) (μ : Mem) (v0 : Nat) (v1 : Int32) (v2 : Int32) (v3 : Nat) (hv0 : inL Λ v0 6) (hv3 : inL Λ v3 8) {r : Mem} (hm : m_X6_orderRest N Λ μ v0 v1 v2 v3 = some r) : MV l yX6_orderRest cX6_orderRest 8 rm_X6_orderRest Λ [.ref v0, .int v1, .int v2, .ref v3] μ r := mv_of rfl (Nat.le_of_ble_eq_true rfl) (fun x C _ => tm_X6_orderRest C _ _ _ _ _ _ hv0 hv3 hm)
abbrev rm_X6_orderWork : Room := { frames := 5, cells := 0, slots := 0, locals := 122 }
set_option maxRecDepth 20000 in
set_option maxHeartbeats 4000000 in
theorem tj_X6_orderWork_73 {x : Ctx} {Λ : Lay} (C : Cx x cX6_orderWork 5 none RX6 Λ rm_X6_orderWork) (N : Nat) (μ : Mem) (k51 : Int32 × Mem → Option (Mem)) (v0 : Nat) (v1 : Nat) (v3 : Int32) (v4 : Int32) (hk51 : ∀ (s : Int32 × Mem) (r : Mem), k51 s = some r → J x 5 Λ (QV x Λ r) 51 [(0, .ref v0), (1, .ref v1), (3, .int v3), (4, .int s.1)] [] (s.2)) (hv0 : inL Λ v0 6) (hv1 : inL Λ v1 8) {r : Mem} (hm : jn_X6_orderWork_73 N Λ μ k51 v0 v1 v3 v4 = some r) : J x 5 Λ (QV x Λ r) 73 [(0, .ref v0), (1, .ref v1), (3, .int v3), (4, .int v4)] [] μ := by
  obtain ⟨y1, e2, hm⟩ := lt_some hm
  refine j_iinc C 3 (v := y1) (lv' := [(4, .int y1), (0, .ref v0), (1, .ref v1), (3, .int v3)]) dX6_orderWork_73 rfl (by rw [e2]; rfl) (by decide) rfl ?_
  refine j_goto C (tgt := 51) dX6_orderWork_76 (by decide) ?_
  refine j_sub [1, 2, 3, 0] rfl ?_
  exact hk51 (y1, μ) _ hm
set_option maxRecDepth 20000 in
set_option maxHeartbeats 4000000 in
theorem tb_X6_orderWork_51 {x : Ctx} {Λ : Lay} (C : Cx x cX6_orderWork 5 none RX6 Λ rm_X6_orderWork) (N : Nat) (μ : Mem) (k51 : Int32 × Mem → Option (Mem)) (v0 : Nat) (v1 : Nat) (v3 : Int32) (v4 : Int32) (hk51 : ∀ (s : Int32 × Mem) (r : Mem), k51 s = some r → J x 5 Λ (QV x Λ r) 51 [(0, .ref v0), (1, .ref v1), (3, .int v3), (4, .int s.1)] [] (s.2)) (hv0 : inL Λ v0 6) (hv1 : inL Λ v1 8) {r : Mem} (hm : bd_X6_orderWork_51 N Λ μ k51 v0 v1 v3 v4 = some r) : J x 5 Λ (QV x Λ r) 51 [(0, .ref v0), (1, .ref v1), (3, .int v3), (4, .int v4)] [] μ := by
  refine j_iload C 3 dX6_orderWork_51 rfl ?_
  refine j_if_lt C (tgt := 79) dX6_orderWork_53 (by decide) (fun h1 => ?_) (fun h1 => ?_)
  · replace hm := if_t hm h1
    refine j_aload_n C 0 dX6_orderWork_79 rfl ?_
    refine j_aload_n C 0 dX6_orderWork_80 rfl ?_
    obtain ⟨q2, h3, hm⟩ := bd_some hm
    refine j_getR C fg_X6_21_6 hv0 (dr_spec h3).1 dX6_orderWork_81 ?_
    refine j_iconst C (v := 0) dX6_orderWork_84 rfl ?_
    obtain ⟨h4, hm⟩ := gd_some hm
    refine j_iald C ((dr_spec h3).2) h4 dX6_orderWork_85 ?_
    obtain ⟨μ5, e6, hm⟩ := lt_some hm
    refine j_putI C fp_X6_54_6 hv0 e6 dX6_orderWork_86 ?_
    obtain rfl := Option.some.inj hm
    exact j_vret C dX6_orderWork_89
  · replace hm := if_f hm h1
    refine j_iload C 3 dX6_orderWork_56 rfl ?_
    refine j_iload_n C 2 dX6_orderWork_58 rfl ?_
    refine j_iconst C (v := -1) dX6_orderWork_59 rfl ?_
    refine j_ixor C dX6_orderWork_60 ?_
    refine j_iand C dX6_orderWork_61 ?_
    refine j_if_ne C (tgt := 73) dX6_orderWork_62 (by decide) (fun h7 => ?_) (fun h7 => ?_)
    · replace hm := if_f hm h7
      exact tj_X6_orderWork_73 C _ _ _ _ _ _ _ hk51 hv0 hv1 hm
    · replace hm := if_t hm h7
      refine j_aload_n C 0 dX6_orderWork_65 rfl ?_
      refine j_iload C 3 dX6_orderWork_66 rfl ?_
      refine j_iload_n C 2 dX6_orderWork_68 rfl ?_
      refine j_aload_n C 1 dX6_orderWork_69 rfl ?_
      obtain ⟨r8, h9, hm⟩ := bd_some hm
      refine call_V (run_LV C lk_X6_94 ⟨rfl, rfl, Nat.le_of_ble_eq_true rfl, Nat.le_of_ble_eq_true rfl⟩ (As := [.int v4, .int v3, .ref v1]) hv0 rfl rfl (Nat.le_of_ble_eq_true rfl) dX6_orderWork_70 (mc_X6_orderRest _ _ _ _ _ _ _ _ hv0 hv1 h9)) ?_
      exact tj_X6_orderWork_73 C _ _ _ _ _ _ _ hk51 hv0 hv1 hm
set_option maxRecDepth 20000 in
set_option maxHeartbeats 4000000 in
theorem tl_X6_orderWork_51 {x : Ctx} {Λ : Lay} (C : Cx x cX6_orderWork 5 none RX6 Λ rm_X6_orderWork) (N : Nat) (v0 : Nat) (v1 : Nat) (v3 : Int32) (hv0 : inL Λ v0 6) (hv1 : inL Λ v1 8) (s : Int32 × Mem) {r : Mem} (hm : lp_X6_orderWork_51 N Λ v0 v1 v3 s = some r) : J x 5 Λ (QV x Λ r) 51 [(0, .ref v0), (1, .ref v1), (3, .int v3), (4, .int s.1)] [] (s.2) :=
  cw_ind (P := fun s r => J x 5 Λ (QV x Λ r) 51 [(0, .ref v0), (1, .ref v1), (3, .int v3), (4, .int s.1)] [] (s.2)) (fun k hkk s r e => tb_X6_orderWork_51 C _ _ _ _ _ _ _ hkk hv0 hv1 e) N s r hm
set_option maxRecDepth 20000 in
set_option maxHeartbeats 4000000 in
theorem tm_X6_orderWork {x : Ctx} {Λ : Lay} (C : Cx x cX6_orderWork 5 none RX6 Λ rm_X6_orderWork) (N : Nat) (μ : Mem) (v0 : Nat) (v1 : Nat) (v2 : Nat) (hv0 : inL Λ v0 6) (hv1 : inL Λ v1 8) (hv2 : inL Λ v2 2) {r : Mem} (hm : m_X6_orderWork N Λ μ v0 v1 v2 = some r) : J x 5 Λ (QV x Λ r) 0 [(0, .ref v0), (1, .ref v1), (2, .ref v2)] [] μ := by
  refine j_aload_n C 1 dX6_orderWork_0 rfl ?_
  obtain ⟨r1, h2, hm⟩ := bd_some hm
  refine call_I (run_LV C lk_X6_88 ⟨rfl, rfl, Nat.le_of_ble_eq_true rfl, Nat.le_of_ble_eq_true rfl⟩ (As := []) hv1 rfl rfl (Nat.le_of_ble_eq_true rfl) dX6_orderWork_1 (mc_X9_busyDocked _ _ _ _ _ hv1 h2)) ?_
  refine j_istore_n C (lv' := [(3, .int r1), (0, .ref v0), (1, .ref v1), (2, .ref v2)]) dX6_orderWork_4 (by decide) rfl ?_
  refine j_aload_n C 1 dX6_orderWork_5 rfl ?_
  refine j_iconst C (v := 0) dX6_orderWork_6 rfl ?_
  obtain ⟨μ3, e4, hm⟩ := lt_some hm
  refine j_putI C fp_X6_54_6 hv0 e4 dX6_orderWork_7 ?_
  refine j_aload_n C 1 dX6_orderWork_10 rfl ?_
  refine j_iconst C (v := -1) dX6_orderWork_11 rfl ?_
  obtain ⟨μ5, e6, hm⟩ := lt_some hm
  refine j_putI C fp_X6_57_6 hv0 e6 dX6_orderWork_12 ?_
  refine j_iload_n C 0 dX6_orderWork_15 rfl ?_
  refine j_if_ne C (tgt := 20) dX6_orderWork_16 (by decide) (fun h7 => ?_) (fun h7 => ?_)
  · replace hm := if_f hm h7
    refine j_aload_n C 2 dX6_orderWork_20 rfl ?_
    refine j_getI C fg_X6_91_8 hv1 dX6_orderWork_21 ?_
    refine j_if_gt C (tgt := 33) dX6_orderWork_24 (by decide) (fun h8 => ?_) (fun h8 => ?_)
    · replace hm := if_t hm h8
      refine j_aload_n C 1 dX6_orderWork_33 rfl ?_
      refine j_aload_n C 2 dX6_orderWork_34 rfl ?_
      refine j_aload_n C 3 dX6_orderWork_35 rfl ?_
      obtain ⟨r9, h10, hm⟩ := bd_some hm
      refine call_V (run_LV C lk_X6_37 ⟨rfl, rfl, Nat.le_of_ble_eq_true rfl, Nat.le_of_ble_eq_true rfl⟩ (As := [.ref v1, .ref v2]) hv0 rfl rfl (Nat.le_of_ble_eq_true rfl) dX6_orderWork_36 (mc_X6_findFees _ _ _ _ _ _ _ hv0 hv1 hv2 h10)) ?_
      refine j_aload_n C 1 dX6_orderWork_39 rfl ?_
      obtain ⟨q11, h12, hm⟩ := bd_some hm
      refine j_getR C fg_X6_21_6 hv0 (dr_spec h12).1 dX6_orderWork_40 ?_
      refine j_iload_n C 0 dX6_orderWork_43 rfl ?_
      refine j_iconst C (v := 0) dX6_orderWork_44 rfl ?_
      obtain ⟨h13, hm⟩ := gd_some hm
      obtain ⟨μ14, e15, hm⟩ := lt_some hm
      refine j_iast C ((dr_spec h12).2) h13 e15 dX6_orderWork_45 ?_
      refine j_iload_n C 0 dX6_orderWork_46 rfl ?_
      refine j_iconst C (v := 1) dX6_orderWork_47 rfl ?_
      refine j_isub C dX6_orderWork_48 ?_
      obtain ⟨y16, e17, hm⟩ := lt_some hm
      refine j_topi e17 ?_
      refine j_istore C (lv' := [(4, .int y16), (3, .int r1), (0, .ref v0), (1, .ref v1), (2, .ref v2)]) dX6_orderWork_49 (by decide) rfl ?_
      refine j_sub [2, 3, 1, 0] rfl ?_
      exact tl_X6_orderWork_51 C _ _ _ _ hv0 hv1 (y16, μ14) hm
    · replace hm := if_f hm h8
      refine j_aload_n C 1 dX6_orderWork_27 rfl ?_
      refine j_iconst C (v := -1) dX6_orderWork_28 rfl ?_
      obtain ⟨μ18, e19, hm⟩ := lt_some hm
      refine j_putI C fp_X6_54_6 hv0 e19 dX6_orderWork_29 ?_
      obtain rfl := Option.some.inj hm
      exact j_vret C dX6_orderWork_32
  · replace hm := if_t hm h7
    obtain rfl := Option.some.inj hm
    exact j_vret C dX6_orderWork_19
set_option maxRecDepth 20000 in
set_option maxHeartbeats 4000000 in
theorem mc_X6_orderWork (l : Launch) (N : Nat) (Λ : Lay) (μ : Mem) (v0 : Nat) (v1 : Nat) (v2 : Nat) (hv0 : inL Λ v0 6) (hv1 : inL Λ v1 8) (hv2 : inL Λ v2 2) {r : Mem} (hm : m_X6_orderWork N Λ μ v0 v1 v2 = some r) : MV l yX6_orderWork cX6_orderWork 5 rm_X6_orderWork Λ [.ref v0, .ref v1, .ref v2] μ r := mv_of rfl (Nat.le_of_ble_eq_true rfl) (fun x C _ => tm_X6_orderWork C _ _ _ _ _ hv0 hv1 hv2 hm)
abbrev rm_X6_bed : Room := { frames := 0, cells := 0, slots := 0, locals := 0 }
set_option maxRecDepth 20000 in
set_option maxHeartbeats 4000000 in
theorem tm_X6_bed {x : Ctx} {Λ : Lay} (C : Cx x cX6_bed 2 (some .int) RX6 Λ rm_X6_bed) (N : Nat) (μ : Mem) (v0 : Int32) (v1 : Int32) {r : Int32} (hm : m_X6_bed N Λ μ v0 v1 = some r) : J x 2 Λ (QI x Λ r μ) 0 [(0, .int v0), (1, .int v1)] [] μ := by
  refine j_iload_n C 0 dX6_bed_0 rfl ?_
  refine j_bipush C (v := 25) dX6_bed_1 rfl ?_
  refine j_imul C dX6_bed_3 ?_
  refine j_iload_n C 1 dX6_bed_4 rfl ?_
  refine j_iadd C dX6_bed_5 ?_
  obtain rfl := Option.some.inj hm
  exact j_ireti C dX6_bed_6
set_option maxRecDepth 20000 in
set_option maxHeartbeats 4000000 in
theorem mc_X6_bed (l : Launch) (N : Nat) (Λ : Lay) (μ : Mem) (v0 : Int32) (v1 : Int32) {r : Int32} (hm : m_X6_bed N Λ μ v0 v1 = some r) : MI l yX6_bed cX6_bed 2 (some .int) rm_X6_bed Λ [.int v0, .int v1] μ r μ := mi_of rfl (Nat.le_of_ble_eq_true rfl) (fun x C _ => tm_X6_bed C _ _ _ _  hm)
abbrev rm_X6_beddedAt : Room := { frames := 2, cells := 0, slots := 0, locals := 43 }
set_option maxRecDepth 20000 in
set_option maxHeartbeats 4000000 in
theorem tj_X6_beddedAt_28 {x : Ctx} {Λ : Lay} (C : Cx x cX6_beddedAt 6 (some .int) RX6 Λ rm_X6_beddedAt) (N : Nat) (μ : Mem) {r : Int32} (hm : jn_X6_beddedAt_28 N Λ μ = some r) : J x 6 Λ (QI x Λ r μ) 28 [] [] μ := by
  refine j_iconst C (v := -1) dX6_beddedAt_28 rfl ?_
  obtain rfl := Option.some.inj hm
  exact j_ireti C dX6_beddedAt_29
set_option maxRecDepth 20000 in
set_option maxHeartbeats 4000000 in
theorem tm_X6_beddedAt {x : Ctx} {Λ : Lay} (C : Cx x cX6_beddedAt 6 (some .int) RX6 Λ rm_X6_beddedAt) (N : Nat) (μ : Mem) (v0 : Nat) (v1 : Nat) (v2 : Int32) (v3 : Int32) (v4 : Int32) (hv0 : inL Λ v0 6) (hv1 : inL Λ v1 8) {r : Int32} (hm : m_X6_beddedAt N Λ μ v0 v1 v2 v3 v4 = some r) : J x 6 Λ (QI x Λ r μ) 0 [(0, .ref v0), (1, .ref v1), (2, .int v2), (3, .int v3), (4, .int v4)] [] μ := by
  refine j_aload_n C 1 dX6_beddedAt_0 rfl ?_
  obtain ⟨q1, h2, hm⟩ := bd_some hm
  refine j_getR C fg_X6_76_8 hv1 (dr_spec h2).1 dX6_beddedAt_1 ?_
  refine j_iload_n C 3 dX6_beddedAt_4 rfl ?_
  obtain ⟨h3, hm⟩ := gd_some hm
  refine j_iald C ((dr_spec h2).2) h3 dX6_beddedAt_5 ?_
  obtain ⟨y4, e5, hm⟩ := lt_some hm
  refine j_topi e5 ?_
  refine j_istore C (lv' := [(5, .int y4), (0, .ref v0), (1, .ref v1), (2, .int v2), (3, .int v3), (4, .int v4)]) dX6_beddedAt_6 (by decide) rfl ?_
  refine j_aload_n C 2 dX6_beddedAt_8 rfl ?_
  obtain ⟨q6, h7, hm⟩ := bd_some hm
  refine j_getR C fg_X6_45_8 hv1 (dr_spec h7).1 dX6_beddedAt_9 ?_
  refine j_iload_n C 4 dX6_beddedAt_12 rfl ?_
  obtain ⟨h8, hm⟩ := gd_some hm
  refine j_iald C ((dr_spec h7).2) h8 dX6_beddedAt_13 ?_
  refine j_if_ne C (tgt := 28) dX6_beddedAt_14 (by decide) (fun h9 => ?_) (fun h9 => ?_)
  · replace hm := if_f hm h9
    refine j_sub [] rfl ?_
    exact tj_X6_beddedAt_28 C _ _  hm
  · replace hm := if_t hm h9
    refine j_iload_n C 3 dX6_beddedAt_17 rfl ?_
    refine j_iload C 5 dX6_beddedAt_18 rfl ?_
    refine j_iload C 0 dX6_beddedAt_20 rfl ?_
    obtain ⟨r10, h11, hm⟩ := bd_some hm
    refine call_I (run_LN C ln_X6_118 ⟨rfl, rfl, Nat.le_of_ble_eq_true rfl, Nat.le_of_ble_eq_true rfl⟩ (As := [.int v2, .int v4, .int y4]) rfl rfl (Nat.le_of_ble_eq_true rfl) dX6_beddedAt_22 (mc_X11_isRoom _ _ _ _ _ _ _  h11)) ?_
    refine j_if_ne C (tgt := 30) dX6_beddedAt_25 (by decide) (fun h12 => ?_) (fun h12 => ?_)
    · replace hm := if_f hm h12
      refine j_iload C 0 dX6_beddedAt_30 rfl ?_
      refine j_aload_n C 1 dX6_beddedAt_32 rfl ?_
      obtain ⟨q13, h14, hm⟩ := bd_some hm
      refine j_getR C fg_X6_24_6 hv0 (dr_spec h14).1 dX6_beddedAt_33 ?_
      refine j_iload_n C 4 dX6_beddedAt_36 rfl ?_
      refine j_iconst C (v := 1) dX6_beddedAt_37 rfl ?_
      refine j_iadd C dX6_beddedAt_38 ?_
      refine j_iload C 5 dX6_beddedAt_39 rfl ?_
      refine j_iload C 0 dX6_beddedAt_41 rfl ?_
      refine j_iadd C dX6_beddedAt_43 ?_
      obtain ⟨r15, h16, hm⟩ := bd_some hm
      refine call_I (run_LS C ls_X6_104 ⟨rfl, rfl, Nat.le_of_ble_eq_true rfl, Nat.le_of_ble_eq_true rfl⟩ (As := [.int (v3 + 1), .int (v4 + y4)]) rfl rfl (Nat.le_of_ble_eq_true rfl) dX6_beddedAt_44 (mc_X6_bed _ _ _ _ _ _  h16)) ?_
      obtain ⟨h17, hm⟩ := gd_some hm
      refine j_iald C ((dr_spec h14).2) h17 dX6_beddedAt_47 ?_
      refine j_iadd C dX6_beddedAt_48 ?_
      obtain rfl := Option.some.inj hm
      exact j_ireti C dX6_beddedAt_49
    · replace hm := if_t hm h12
      refine j_sub [] rfl ?_
      exact tj_X6_beddedAt_28 C _ _  hm
set_option maxRecDepth 20000 in
set_option maxHeartbeats 4000000 in
theorem mc_X6_beddedAt (l : Launch) (N : Nat) (Λ : Lay) (μ : Mem) (v0 : Nat) (v1 : Nat) (v2 : Int32) (v3 : Int32) (v4 : Int32) (hv0 : inL Λ v0 6) (hv1 : inL Λ v1 8) {r : Int32} (hm : m_X6_beddedAt N Λ μ v0 v1 v2 v3 v4 = some r) : MI l yX6_beddedAt cX6_beddedAt 6 (some .int) rm_X6_beddedAt Λ [.ref v0, .ref v1, .int v2, .int v3, .int v4] μ r μ := mi_of rfl (Nat.le_of_ble_eq_true rfl) (fun x C _ => tm_X6_beddedAt C _ _ _ _ _ _ _ hv0 hv1 hm)
abbrev rm_X6_findBeds : Room := { frames := 3, cells := 0, slots := 0, locals := 68 }
set_option maxRecDepth 20000 in
set_option maxHeartbeats 4000000 in
theorem tj_X6_findBeds_91 {x : Ctx} {Λ : Lay} (C : Cx x cX6_findBeds 7 none RX6 Λ rm_X6_findBeds) (N : Nat) (μ : Mem) (k5 : Int32 × Int32 × Mem → Option (Mem)) (k38 : Int32 × Int32 × Mem → Option (Mem)) (v0 : Nat) (v1 : Nat) (v2 : Int32) (v3 : Int32) (v4 : Int32) (v5 : Int32) (v6 : Int32) (hk5 : ∀ (s : Int32 × Int32 × Mem) (r : Mem), k5 s = some r → J x 7 Λ (QV x Λ r) 5 [(0, .ref v0), (1, .ref v1), (2, .int v2), (3, .int s.1), (4, .int s.2.1)] [] (s.2.2)) (hk38 : ∀ (s : Int32 × Int32 × Mem) (r : Mem), k38 s = some r → J x 7 Λ (QV x Λ r) 38 [(0, .ref v0), (1, .ref v1), (2, .int v2), (3, .int s.1), (4, .int v4), (5, .int v5), (6, .int s.2.1)] [] (s.2.2)) (hv0 : inL Λ v0 6) (hv1 : inL Λ v1 8) {r : Mem} (hm : jn_X6_findBeds_91 N Λ μ k5 k38 v0 v1 v2 v3 v4 v5 v6 = some r) : J x 7 Λ (QV x Λ r) 91 [(0, .ref v0), (1, .ref v1), (2, .int v2), (3, .int v3), (4, .int v4), (5, .int v5), (6, .int v6)] [] μ := by
  obtain ⟨y1, e2, hm⟩ := lt_some hm
  refine j_iinc C 6 (v := y1) (lv' := [(6, .int y1), (0, .ref v0), (1, .ref v1), (2, .int v2), (3, .int v3), (4, .int v4), (5, .int v5)]) dX6_findBeds_91 rfl (by rw [e2]; rfl) (by decide) rfl ?_
  refine j_goto C (tgt := 38) dX6_findBeds_94 (by decide) ?_
  refine j_sub [1, 2, 3, 4, 5, 6, 0] rfl ?_
  exact hk38 (v3, y1, μ) _ hm
set_option maxRecDepth 20000 in
set_option maxHeartbeats 4000000 in
theorem tj_X6_findBeds_97 {x : Ctx} {Λ : Lay} (C : Cx x cX6_findBeds 7 none RX6 Λ rm_X6_findBeds) (N : Nat) (μ : Mem) (k5 : Int32 × Int32 × Mem → Option (Mem)) (v0 : Nat) (v1 : Nat) (v2 : Int32) (v3 : Int32) (v4 : Int32) (hk5 : ∀ (s : Int32 × Int32 × Mem) (r : Mem), k5 s = some r → J x 7 Λ (QV x Λ r) 5 [(0, .ref v0), (1, .ref v1), (2, .int v2), (3, .int s.1), (4, .int s.2.1)] [] (s.2.2)) (hv0 : inL Λ v0 6) (hv1 : inL Λ v1 8) {r : Mem} (hm : jn_X6_findBeds_97 N Λ μ k5 v0 v1 v2 v3 v4 = some r) : J x 7 Λ (QV x Λ r) 97 [(0, .ref v0), (1, .ref v1), (2, .int v2), (3, .int v3), (4, .int v4)] [] μ := by
  obtain ⟨y1, e2, hm⟩ := lt_some hm
  refine j_iinc C 4 (v := y1) (lv' := [(4, .int y1), (0, .ref v0), (1, .ref v1), (2, .int v2), (3, .int v3)]) dX6_findBeds_97 rfl (by rw [e2]; rfl) (by decide) rfl ?_
  refine j_goto C (tgt := 5) dX6_findBeds_100 (by decide) ?_
  refine j_sub [1, 2, 3, 4, 0] rfl ?_
  exact hk5 (v3, y1, μ) _ hm
set_option maxRecDepth 20000 in
set_option maxHeartbeats 4000000 in
theorem tb_X6_findBeds_38 {x : Ctx} {Λ : Lay} (C : Cx x cX6_findBeds 7 none RX6 Λ rm_X6_findBeds) (N : Nat) (μ : Mem) (k5 : Int32 × Int32 × Mem → Option (Mem)) (k38 : Int32 × Int32 × Mem → Option (Mem)) (v0 : Nat) (v1 : Nat) (v2 : Int32) (v3 : Int32) (v4 : Int32) (v5 : Int32) (v6 : Int32) (hk5 : ∀ (s : Int32 × Int32 × Mem) (r : Mem), k5 s = some r → J x 7 Λ (QV x Λ r) 5 [(0, .ref v0), (1, .ref v1), (2, .int v2), (3, .int s.1), (4, .int s.2.1)] [] (s.2.2)) (hk38 : ∀ (s : Int32 × Int32 × Mem) (r : Mem), k38 s = some r → J x 7 Λ (QV x Λ r) 38 [(0, .ref v0), (1, .ref v1), (2, .int v2), (3, .int s.1), (4, .int v4), (5, .int v5), (6, .int s.2.1)] [] (s.2.2)) (hv0 : inL Λ v0 6) (hv1 : inL Λ v1 8) {r : Mem} (hm : bd_X6_findBeds_38 N Λ μ k5 k38 v0 v1 v2 v3 v4 v5 v6 = some r) : J x 7 Λ (QV x Λ r) 38 [(0, .ref v0), (1, .ref v1), (2, .int v2), (3, .int v3), (4, .int v4), (5, .int v5), (6, .int v6)] [] μ := by
  refine j_iload C 6 dX6_findBeds_38 rfl ?_
  refine j_bipush C (v := 24) dX6_findBeds_40 rfl ?_
  refine j_icmp_ge C (tgt := 97) dX6_findBeds_42 (by decide) (fun h1 => ?_) (fun h1 => ?_)
  · replace hm := if_t hm h1
    refine j_sub [0, 1, 2, 3, 4] rfl ?_
    exact tj_X6_findBeds_97 C _ _ _ _ _ _ _ _ hk5 hv0 hv1 hm
  · replace hm := if_f hm h1
    refine j_aload_n C 0 dX6_findBeds_45 rfl ?_
    obtain ⟨q2, h3, hm⟩ := bd_some hm
    refine j_getR C fg_X6_9_6 hv0 (dr_spec h3).1 dX6_findBeds_46 ?_
    refine j_iload C 4 dX6_findBeds_49 rfl ?_
    obtain ⟨h4, hm⟩ := gd_some hm
    refine j_iald C ((dr_spec h3).2) h4 dX6_findBeds_51 ?_
    refine j_iconst C (v := -1) dX6_findBeds_52 rfl ?_
    refine j_icmp_ne C (tgt := 97) dX6_findBeds_53 (by decide) (fun h5 => ?_) (fun h5 => ?_)
    · replace hm := if_f hm h5
      refine j_sub [0, 1, 2, 3, 4] rfl ?_
      exact tj_X6_findBeds_97 C _ _ _ _ _ _ _ _ hk5 hv0 hv1 hm
    · replace hm := if_t hm h5
      refine j_aload_n C 0 dX6_findBeds_56 rfl ?_
      refine j_aload_n C 1 dX6_findBeds_57 rfl ?_
      refine j_iload_n C 2 dX6_findBeds_58 rfl ?_
      refine j_iload C 4 dX6_findBeds_59 rfl ?_
      refine j_iload C 6 dX6_findBeds_61 rfl ?_
      obtain ⟨r6, h7, hm⟩ := bd_some hm
      refine call_I (run_LV C lk_X6_107 ⟨rfl, rfl, Nat.le_of_ble_eq_true rfl, Nat.le_of_ble_eq_true rfl⟩ (As := [.ref v1, .int v2, .int v4, .int v6]) hv0 rfl rfl (Nat.le_of_ble_eq_true rfl) dX6_findBeds_63 (mc_X6_beddedAt _ _ _ _ _ _ _ _ _ hv0 hv1 h7)) ?_
      refine j_iload C 5 dX6_findBeds_66 rfl ?_
      refine j_icmp_ne C (tgt := 91) dX6_findBeds_68 (by decide) (fun h8 => ?_) (fun h8 => ?_)
      · replace hm := if_f hm h8
        exact tj_X6_findBeds_91 C _ _ _ _ _ _ _ _ _ _ _ hk5 hk38 hv0 hv1 hm
      · replace hm := if_t hm h8
        refine j_aload_n C 0 dX6_findBeds_71 rfl ?_
        obtain ⟨q9, h10, hm⟩ := bd_some hm
        refine j_getR C fg_X6_9_6 hv0 (dr_spec h10).1 dX6_findBeds_72 ?_
        refine j_iload C 4 dX6_findBeds_75 rfl ?_
        refine j_iload C 6 dX6_findBeds_77 rfl ?_
        obtain ⟨h11, hm⟩ := gd_some hm
        obtain ⟨μ12, e13, hm⟩ := lt_some hm
        refine j_iast C ((dr_spec h10).2) h11 e13 dX6_findBeds_79 ?_
        refine j_iload C 6 dX6_findBeds_80 rfl ?_
        refine j_aload_n C 1 dX6_findBeds_82 rfl ?_
        obtain ⟨q14, h15, hm⟩ := bd_some hm
        refine j_getR C fg_X6_76_8 hv1 (dr_spec h15).1 dX6_findBeds_83 ?_
        refine j_iload C 4 dX6_findBeds_86 rfl ?_
        obtain ⟨h16, hm⟩ := gd_some hm
        refine j_iald C ((dr_spec h15).2) h16 dX6_findBeds_88 ?_
        refine j_iadd C dX6_findBeds_89 ?_
        obtain ⟨y17, e18, hm⟩ := lt_some hm
        refine j_topi e18 ?_
        refine j_istore_n C (lv' := [(3, .int y17), (0, .ref v0), (1, .ref v1), (2, .int v2), (4, .int v4), (5, .int v5), (6, .int v6)]) dX6_findBeds_90 (by decide) rfl ?_
        refine j_sub [1, 2, 3, 0, 4, 5, 6] rfl ?_
        exact tj_X6_findBeds_91 C _ _ _ _ _ _ _ _ _ _ _ hk5 hk38 hv0 hv1 hm
set_option maxRecDepth 20000 in
set_option maxHeartbeats 4000000 in
theorem tl_X6_findBeds_38 {x : Ctx} {Λ : Lay} (C : Cx x cX6_findBeds 7 none RX6 Λ rm_X6_findBeds) (N : Nat) (k5 : Int32 × Int32 × Mem → Option (Mem)) (v0 : Nat) (v1 : Nat) (v2 : Int32) (v4 : Int32) (v5 : Int32) (hk5 : ∀ (s : Int32 × Int32 × Mem) (r : Mem), k5 s = some r → J x 7 Λ (QV x Λ r) 5 [(0, .ref v0), (1, .ref v1), (2, .int v2), (3, .int s.1), (4, .int s.2.1)] [] (s.2.2)) (hv0 : inL Λ v0 6) (hv1 : inL Λ v1 8) (s : Int32 × Int32 × Mem) {r : Mem} (hm : lp_X6_findBeds_38 N Λ k5 v0 v1 v2 v4 v5 s = some r) : J x 7 Λ (QV x Λ r) 38 [(0, .ref v0), (1, .ref v1), (2, .int v2), (3, .int s.1), (4, .int v4), (5, .int v5), (6, .int s.2.1)] [] (s.2.2) :=
  cw_ind (P := fun s r => J x 7 Λ (QV x Λ r) 38 [(0, .ref v0), (1, .ref v1), (2, .int v2), (3, .int s.1), (4, .int v4), (5, .int v5), (6, .int s.2.1)] [] (s.2.2)) (fun k hkk s r e => tb_X6_findBeds_38 C _ _ _ _ _ _ _ _ _ _ _ hk5 hkk hv0 hv1 e) N s r hm
set_option maxRecDepth 20000 in
set_option maxHeartbeats 4000000 in
theorem tb_X6_findBeds_5 {x : Ctx} {Λ : Lay} (C : Cx x cX6_findBeds 7 none RX6 Λ rm_X6_findBeds) (N : Nat) (μ : Mem) (k5 : Int32 × Int32 × Mem → Option (Mem)) (v0 : Nat) (v1 : Nat) (v2 : Int32) (v3 : Int32) (v4 : Int32) (hk5 : ∀ (s : Int32 × Int32 × Mem) (r : Mem), k5 s = some r → J x 7 Λ (QV x Λ r) 5 [(0, .ref v0), (1, .ref v1), (2, .int v2), (3, .int s.1), (4, .int s.2.1)] [] (s.2.2)) (hv0 : inL Λ v0 6) (hv1 : inL Λ v1 8) {r : Mem} (hm : bd_X6_findBeds_5 N Λ μ k5 v0 v1 v2 v3 v4 = some r) : J x 7 Λ (QV x Λ r) 5 [(0, .ref v0), (1, .ref v1), (2, .int v2), (3, .int v3), (4, .int v4)] [] μ := by
  refine j_iload C 4 dX6_findBeds_5 rfl ?_
  refine j_aload_n C 1 dX6_findBeds_7 rfl ?_
  refine j_getI C fg_X6_41_8 hv1 dX6_findBeds_8 ?_
  refine j_icmp_ge C (tgt := 103) dX6_findBeds_11 (by decide) (fun h1 => ?_) (fun h1 => ?_)
  · replace hm := if_t hm h1
    obtain rfl := Option.some.inj hm
    exact j_vret C dX6_findBeds_103
  · replace hm := if_f hm h1
    refine j_aload_n C 0 dX6_findBeds_14 rfl ?_
    obtain ⟨q2, h3, hm⟩ := bd_some hm
    refine j_getR C fg_X6_24_6 hv0 (dr_spec h3).1 dX6_findBeds_15 ?_
    refine j_iload C 4 dX6_findBeds_18 rfl ?_
    refine j_iload_n C 3 dX6_findBeds_20 rfl ?_
    obtain ⟨r4, h5, hm⟩ := bd_some hm
    refine call_I (run_LS C ls_X6_104 ⟨rfl, rfl, Nat.le_of_ble_eq_true rfl, Nat.le_of_ble_eq_true rfl⟩ (As := [.int v4, .int v3]) rfl rfl (Nat.le_of_ble_eq_true rfl) dX6_findBeds_21 (mc_X6_bed _ _ _ _ _ _  h5)) ?_
    obtain ⟨h6, hm⟩ := gd_some hm
    refine j_iald C ((dr_spec h3).2) h6 dX6_findBeds_24 ?_
    obtain ⟨y7, e8, hm⟩ := lt_some hm
    refine j_topi e8 ?_
    refine j_istore C (lv' := [(5, .int y7), (0, .ref v0), (1, .ref v1), (2, .int v2), (3, .int v3), (4, .int v4)]) dX6_findBeds_25 (by decide) rfl ?_
    refine j_aload_n C 1 dX6_findBeds_27 rfl ?_
    obtain ⟨q9, h10, hm⟩ := bd_some hm
    refine j_getR C fg_X6_9_6 hv0 (dr_spec h10).1 dX6_findBeds_28 ?_
    refine j_iload C 5 dX6_findBeds_31 rfl ?_
    refine j_iconst C (v := -1) dX6_findBeds_33 rfl ?_
    obtain ⟨h11, hm⟩ := gd_some hm
    obtain ⟨μ12, e13, hm⟩ := lt_some hm
    refine j_iast C ((dr_spec h10).2) h11 e13 dX6_findBeds_34 ?_
    refine j_iload_n C 4 dX6_findBeds_35 rfl ?_
    refine j_istore C (lv' := [(6, .int v3), (5, .int y7), (0, .ref v0), (1, .ref v1), (2, .int v2), (3, .int v3), (4, .int v4)]) dX6_findBeds_36 (by decide) rfl ?_
    refine j_sub [2, 3, 4, 5, 6, 1, 0] rfl ?_
    exact tl_X6_findBeds_38 C _ _ _ _ _ _ _ hk5 hv0 hv1 (v3, v3, μ12) hm
set_option maxRecDepth 20000 in
set_option maxHeartbeats 4000000 in
theorem tl_X6_findBeds_5 {x : Ctx} {Λ : Lay} (C : Cx x cX6_findBeds 7 none RX6 Λ rm_X6_findBeds) (N : Nat) (v0 : Nat) (v1 : Nat) (v2 : Int32) (hv0 : inL Λ v0 6) (hv1 : inL Λ v1 8) (s : Int32 × Int32 × Mem) {r : Mem} (hm : lp_X6_findBeds_5 N Λ v0 v1 v2 s = some r) : J x 7 Λ (QV x Λ r) 5 [(0, .ref v0), (1, .ref v1), (2, .int v2), (3, .int s.1), (4, .int s.2.1)] [] (s.2.2) :=
  cw_ind (P := fun s r => J x 7 Λ (QV x Λ r) 5 [(0, .ref v0), (1, .ref v1), (2, .int v2), (3, .int s.1), (4, .int s.2.1)] [] (s.2.2)) (fun k hkk s r e => tb_X6_findBeds_5 C _ _ _ _ _ _ _ _ hkk hv0 hv1 e) N s r hm
set_option maxRecDepth 20000 in
set_option maxHeartbeats 4000000 in
theorem tm_X6_findBeds {x : Ctx} {Λ : Lay} (C : Cx x cX6_findBeds 7 none RX6 Λ rm_X6_findBeds) (N : Nat) (μ : Mem) (v0 : Nat) (v1 : Nat) (v2 : Int32) (hv0 : inL Λ v0 6) (hv1 : inL Λ v1 8) {r : Mem} (hm : m_X6_findBeds N Λ μ v0 v1 v2 = some r) : J x 7 Λ (QV x Λ r) 0 [(0, .ref v0), (1, .ref v1), (2, .int v2)] [] μ := by
  refine j_iconst C (v := 0) dX6_findBeds_0 rfl ?_
  refine j_istore_n C (lv' := [(3, .int 0), (0, .ref v0), (1, .ref v1), (2, .int v2)]) dX6_findBeds_1 (by decide) rfl ?_
  refine j_iconst C (v := 0) dX6_findBeds_2 rfl ?_
  refine j_istore C (lv' := [(4, .int 0), (3, .int 0), (0, .ref v0), (1, .ref v1), (2, .int v2)]) dX6_findBeds_3 (by decide) rfl ?_
  refine j_sub [2, 3, 4, 1, 0] rfl ?_
  exact tl_X6_findBeds_5 C _ _ _ _ hv0 hv1 (0, 0, μ) hm
set_option maxRecDepth 20000 in
set_option maxHeartbeats 4000000 in
theorem mc_X6_findBeds (l : Launch) (N : Nat) (Λ : Lay) (μ : Mem) (v0 : Nat) (v1 : Nat) (v2 : Int32) (hv0 : inL Λ v0 6) (hv1 : inL Λ v1 8) {r : Mem} (hm : m_X6_findBeds N Λ μ v0 v1 v2 = some r) : MV l yX6_findBeds cX6_findBeds 7 rm_X6_findBeds Λ [.ref v0, .ref v1, .int v2] μ r := mv_of rfl (Nat.le_of_ble_eq_true rfl) (fun x C _ => tm_X6_findBeds C _ _ _ _ _ hv0 hv1 hm)
abbrev rm_X6_putToBeds : Room := { frames := 4, cells := 0, slots := 0, locals := 94 }
set_option maxRecDepth 20000 in
set_option maxHeartbeats 4000000 in
theorem tj_X6_putToBeds_86 {x : Ctx} {Λ : Lay} (C : Cx x cX6_putToBeds 8 none RX6 Λ rm_X6_putToBeds) (N : Nat) (μ : Mem) (k34 : Int32 × Mem → Option (Mem)) (k42 : Int32 × Mem → Option (Mem)) (v0 : Nat) (v1 : Nat) (v2 : Int32) (v3 : Int32) (v4 : Int32) (v5 : Int32) (s0 : Int32) (hk34 : ∀ (s : Int32 × Mem) (r : Mem), k34 s = some r → J x 8 Λ (QV x Λ r) 34 [(0, .ref v0), (1, .ref v1), (2, .int v2), (3, .int s.1)] [] (s.2)) (hk42 : ∀ (s : Int32 × Mem) (r : Mem), k42 s = some r → J x 8 Λ (QV x Λ r) 42 [(0, .ref v0), (1, .ref v1), (2, .int v2), (3, .int v3), (4, .int s.1)] [] (s.2)) (hv0 : inL Λ v0 6) (hv1 : inL Λ v1 8) {r : Mem} (hm : jn_X6_putToBeds_86 N Λ μ k34 k42 v0 v1 v2 v3 v4 v5 s0 = some r) : J x 8 Λ (QV x Λ r) 86 [(0, .ref v0), (1, .ref v1), (2, .int v2), (3, .int v3), (4, .int v4), (5, .int v5)] [.int s0] μ := by
  refine j_istore C (lv' := [(6, .int s0), (0, .ref v0), (1, .ref v1), (2, .int v2), (3, .int v3), (4, .int v4), (5, .int v5)]) dX6_putToBeds_86 (by decide) rfl ?_
  refine j_aload_n C 1 dX6_putToBeds_88 rfl ?_
  refine j_aload_n C 2 dX6_putToBeds_89 rfl ?_
  refine j_iload_n C 3 dX6_putToBeds_90 rfl ?_
  refine j_iload_n C 4 dX6_putToBeds_91 rfl ?_
  refine j_iload C 5 dX6_putToBeds_92 rfl ?_
  obtain ⟨r1, h2, hm⟩ := bd_some hm
  refine call_I (run_LV C lk_X6_107 ⟨rfl, rfl, Nat.le_of_ble_eq_true rfl, Nat.le_of_ble_eq_true rfl⟩ (As := [.ref v1, .int v2, .int v3, .int v4]) hv0 rfl rfl (Nat.le_of_ble_eq_true rfl) dX6_putToBeds_94 (mc_X6_beddedAt _ _ _ _ _ _ _ _ _ hv0 hv1 h2)) ?_
  refine j_istore C (lv' := [(7, .int r1), (6, .int s0), (0, .ref v0), (1, .ref v1), (2, .int v2), (3, .int v3), (4, .int v4), (5, .int v5)]) dX6_putToBeds_97 (by decide) rfl ?_
  refine j_aload_n C 2 dX6_putToBeds_99 rfl ?_
  obtain ⟨q3, h4, hm⟩ := bd_some hm
  refine j_getR C fg_X6_24_6 hv0 (dr_spec h4).1 dX6_putToBeds_100 ?_
  refine j_iload_n C 5 dX6_putToBeds_103 rfl ?_
  refine j_iload C 6 dX6_putToBeds_104 rfl ?_
  obtain ⟨r5, h6, hm⟩ := bd_some hm
  refine call_I (run_LS C ls_X6_104 ⟨rfl, rfl, Nat.le_of_ble_eq_true rfl, Nat.le_of_ble_eq_true rfl⟩ (As := [.int v3, .int v4]) rfl rfl (Nat.le_of_ble_eq_true rfl) dX6_putToBeds_106 (mc_X6_bed _ _ _ _ _ _  h6)) ?_
  refine j_iload C 7 dX6_putToBeds_109 rfl ?_
  refine j_iload C 1 dX6_putToBeds_111 rfl ?_
  refine j_iload C 0 dX6_putToBeds_113 rfl ?_
  refine j_mmax C wk_1402 ⟨Nat.le_of_ble_eq_true rfl, Nat.le_of_ble_eq_true rfl⟩ dX6_putToBeds_115 ?_
  refine j_mmax C wk_1402 ⟨Nat.le_of_ble_eq_true rfl, Nat.le_of_ble_eq_true rfl⟩ dX6_putToBeds_118 ?_
  obtain ⟨h7, hm⟩ := gd_some hm
  obtain ⟨μ8, e9, hm⟩ := lt_some hm
  refine j_iast C ((dr_spec h4).2) h7 e9 dX6_putToBeds_121 ?_
  obtain ⟨y10, e11, hm⟩ := lt_some hm
  refine j_iinc C 6 (v := y10) (lv' := [(4, .int y10), (7, .int r1), (6, .int s0), (0, .ref v0), (1, .ref v1), (2, .int v2), (3, .int v3), (5, .int v5)]) dX6_putToBeds_122 rfl (by rw [e11]; rfl) (by decide) rfl ?_
  refine j_goto C (tgt := 42) dX6_putToBeds_125 (by decide) ?_
  refine j_sub [3, 4, 5, 6, 0] rfl ?_
  exact hk42 (y10, μ8) _ hm
set_option maxRecDepth 20000 in
set_option maxHeartbeats 4000000 in
theorem tb_X6_putToBeds_42 {x : Ctx} {Λ : Lay} (C : Cx x cX6_putToBeds 8 none RX6 Λ rm_X6_putToBeds) (N : Nat) (μ : Mem) (k34 : Int32 × Mem → Option (Mem)) (k42 : Int32 × Mem → Option (Mem)) (v0 : Nat) (v1 : Nat) (v2 : Int32) (v3 : Int32) (v4 : Int32) (hk34 : ∀ (s : Int32 × Mem) (r : Mem), k34 s = some r → J x 8 Λ (QV x Λ r) 34 [(0, .ref v0), (1, .ref v1), (2, .int v2), (3, .int s.1)] [] (s.2)) (hk42 : ∀ (s : Int32 × Mem) (r : Mem), k42 s = some r → J x 8 Λ (QV x Λ r) 42 [(0, .ref v0), (1, .ref v1), (2, .int v2), (3, .int v3), (4, .int s.1)] [] (s.2)) (hv0 : inL Λ v0 6) (hv1 : inL Λ v1 8) {r : Mem} (hm : bd_X6_putToBeds_42 N Λ μ k34 k42 v0 v1 v2 v3 v4 = some r) : J x 8 Λ (QV x Λ r) 42 [(0, .ref v0), (1, .ref v1), (2, .int v2), (3, .int v3), (4, .int v4)] [] μ := by
  refine j_iload C 4 dX6_putToBeds_42 rfl ?_
  refine j_if_lt C (tgt := 128) dX6_putToBeds_44 (by decide) (fun h1 => ?_) (fun h1 => ?_)
  · replace hm := if_t hm h1
    obtain ⟨y2, e3, hm⟩ := lt_some hm
    refine j_iinc C 3 (v := y2) (lv' := [(3, .int y2), (0, .ref v0), (1, .ref v1), (2, .int v2), (4, .int v4)]) dX6_putToBeds_128 rfl (by rw [e3]; rfl) (by decide) rfl ?_
    refine j_goto C (tgt := 34) dX6_putToBeds_131 (by decide) ?_
    refine j_sub [1, 2, 3, 0] rfl ?_
    exact hk34 (y2, μ) _ hm
  · replace hm := if_f hm h1
    refine j_aload_n C 0 dX6_putToBeds_47 rfl ?_
    obtain ⟨q4, h5, hm⟩ := bd_some hm
    refine j_getR C fg_X6_24_6 hv0 (dr_spec h5).1 dX6_putToBeds_48 ?_
    refine j_iload_n C 3 dX6_putToBeds_51 rfl ?_
    refine j_iconst C (v := 1) dX6_putToBeds_52 rfl ?_
    refine j_iadd C dX6_putToBeds_53 ?_
    refine j_iload C 4 dX6_putToBeds_54 rfl ?_
    obtain ⟨r6, h7, hm⟩ := bd_some hm
    refine call_I (run_LS C ls_X6_104 ⟨rfl, rfl, Nat.le_of_ble_eq_true rfl, Nat.le_of_ble_eq_true rfl⟩ (As := [.int (v3 + 1), .int v4]) rfl rfl (Nat.le_of_ble_eq_true rfl) dX6_putToBeds_56 (mc_X6_bed _ _ _ _ _ _  h7)) ?_
    obtain ⟨h8, hm⟩ := gd_some hm
    refine j_iald C ((dr_spec h5).2) h8 dX6_putToBeds_59 ?_
    obtain ⟨y9, e10, hm⟩ := lt_some hm
    refine j_topi e10 ?_
    refine j_istore C (lv' := [(5, .int y9), (0, .ref v0), (1, .ref v1), (2, .int v2), (3, .int v3), (4, .int v4)]) dX6_putToBeds_60 (by decide) rfl ?_
    refine j_iload C 5 dX6_putToBeds_62 rfl ?_
    refine j_bipush C (v := 24) dX6_putToBeds_64 rfl ?_
    refine j_icmp_ge C (tgt := 85) dX6_putToBeds_66 (by decide) (fun h11 => ?_) (fun h11 => ?_)
    · replace hm := if_t hm h11
      refine j_iconst C (v := 0) dX6_putToBeds_85 rfl ?_
      refine j_sub [1, 2, 3, 4, 5, 0] rfl ?_
      exact tj_X6_putToBeds_86 C _ _ _ _ _ _ _ _ _ _ _ hk34 hk42 hv0 hv1 hm
    · replace hm := if_f hm h11
      refine j_aload_n C 1 dX6_putToBeds_69 rfl ?_
      obtain ⟨q12, h13, hm⟩ := bd_some hm
      refine j_getR C fg_X6_24_6 hv0 (dr_spec h13).1 dX6_putToBeds_70 ?_
      refine j_iload_n C 4 dX6_putToBeds_73 rfl ?_
      refine j_iload C 5 dX6_putToBeds_74 rfl ?_
      refine j_iconst C (v := 1) dX6_putToBeds_76 rfl ?_
      refine j_iadd C dX6_putToBeds_77 ?_
      obtain ⟨r14, h15, hm⟩ := bd_some hm
      refine call_I (run_LS C ls_X6_104 ⟨rfl, rfl, Nat.le_of_ble_eq_true rfl, Nat.le_of_ble_eq_true rfl⟩ (As := [.int v3, .int (v4 + 1)]) rfl rfl (Nat.le_of_ble_eq_true rfl) dX6_putToBeds_78 (mc_X6_bed _ _ _ _ _ _  h15)) ?_
      obtain ⟨h16, hm⟩ := gd_some hm
      refine j_iald C ((dr_spec h13).2) h16 dX6_putToBeds_81 ?_
      refine j_goto C (tgt := 86) dX6_putToBeds_82 (by decide) ?_
      refine j_sub [1, 2, 3, 4, 5, 0] rfl ?_
      exact tj_X6_putToBeds_86 C _ _ _ _ _ _ _ _ _ _ _ hk34 hk42 hv0 hv1 hm
set_option maxRecDepth 20000 in
set_option maxHeartbeats 4000000 in
theorem tl_X6_putToBeds_42 {x : Ctx} {Λ : Lay} (C : Cx x cX6_putToBeds 8 none RX6 Λ rm_X6_putToBeds) (N : Nat) (k34 : Int32 × Mem → Option (Mem)) (v0 : Nat) (v1 : Nat) (v2 : Int32) (v3 : Int32) (hk34 : ∀ (s : Int32 × Mem) (r : Mem), k34 s = some r → J x 8 Λ (QV x Λ r) 34 [(0, .ref v0), (1, .ref v1), (2, .int v2), (3, .int s.1)] [] (s.2)) (hv0 : inL Λ v0 6) (hv1 : inL Λ v1 8) (s : Int32 × Mem) {r : Mem} (hm : lp_X6_putToBeds_42 N Λ k34 v0 v1 v2 v3 s = some r) : J x 8 Λ (QV x Λ r) 42 [(0, .ref v0), (1, .ref v1), (2, .int v2), (3, .int v3), (4, .int s.1)] [] (s.2) :=
  cw_ind (P := fun s r => J x 8 Λ (QV x Λ r) 42 [(0, .ref v0), (1, .ref v1), (2, .int v2), (3, .int v3), (4, .int s.1)] [] (s.2)) (fun k hkk s r e => tb_X6_putToBeds_42 C _ _ _ _ _ _ _ _ _ hk34 hkk hv0 hv1 e) N s r hm
set_option maxRecDepth 20000 in
set_option maxHeartbeats 4000000 in
theorem tb_X6_putToBeds_34 {x : Ctx} {Λ : Lay} (C : Cx x cX6_putToBeds 8 none RX6 Λ rm_X6_putToBeds) (N : Nat) (μ : Mem) (k34 : Int32 × Mem → Option (Mem)) (v0 : Nat) (v1 : Nat) (v2 : Int32) (v3 : Int32) (hk34 : ∀ (s : Int32 × Mem) (r : Mem), k34 s = some r → J x 8 Λ (QV x Λ r) 34 [(0, .ref v0), (1, .ref v1), (2, .int v2), (3, .int s.1)] [] (s.2)) (hv0 : inL Λ v0 6) (hv1 : inL Λ v1 8) {r : Mem} (hm : bd_X6_putToBeds_34 N Λ μ k34 v0 v1 v2 v3 = some r) : J x 8 Λ (QV x Λ r) 34 [(0, .ref v0), (1, .ref v1), (2, .int v2), (3, .int v3)] [] μ := by
  refine j_iload_n C 3 dX6_putToBeds_34 rfl ?_
  refine j_if_lt C (tgt := 134) dX6_putToBeds_35 (by decide) (fun h1 => ?_) (fun h1 => ?_)
  · replace hm := if_t hm h1
    refine j_aload_n C 0 dX6_putToBeds_134 rfl ?_
    refine j_aload_n C 0 dX6_putToBeds_135 rfl ?_
    obtain ⟨q2, h3, hm⟩ := bd_some hm
    refine j_getR C fg_X6_24_6 hv0 (dr_spec h3).1 dX6_putToBeds_136 ?_
    refine j_iconst C (v := 0) dX6_putToBeds_139 rfl ?_
    obtain ⟨h4, hm⟩ := gd_some hm
    refine j_iald C ((dr_spec h3).2) h4 dX6_putToBeds_140 ?_
    obtain ⟨μ5, e6, hm⟩ := lt_some hm
    refine j_putI C fp_X6_54_6 hv0 e6 dX6_putToBeds_141 ?_
    refine j_aload_n C 0 dX6_putToBeds_144 rfl ?_
    refine j_aload_n C 1 dX6_putToBeds_145 rfl ?_
    refine j_iload_n C 2 dX6_putToBeds_146 rfl ?_
    obtain ⟨r7, h8, hm⟩ := bd_some hm
    refine call_V (run_LV C lk_X6_114 ⟨rfl, rfl, Nat.le_of_ble_eq_true rfl, Nat.le_of_ble_eq_true rfl⟩ (As := [.ref v1, .int v2]) hv0 rfl rfl (Nat.le_of_ble_eq_true rfl) dX6_putToBeds_147 (mc_X6_findBeds _ _ _ _ _ _ _ hv0 hv1 h8)) ?_
    obtain rfl := Option.some.inj hm
    exact j_vret C dX6_putToBeds_150
  · replace hm := if_f hm h1
    refine j_bipush C (v := 24) dX6_putToBeds_38 rfl ?_
    refine j_istore C (lv' := [(4, .int 24), (0, .ref v0), (1, .ref v1), (2, .int v2), (3, .int v3)]) dX6_putToBeds_40 (by decide) rfl ?_
    refine j_sub [1, 2, 3, 4, 0] rfl ?_
    exact tl_X6_putToBeds_42 C _ _ _ _ _ _ hk34 hv0 hv1 (24, μ) hm
set_option maxRecDepth 20000 in
set_option maxHeartbeats 4000000 in
theorem tl_X6_putToBeds_34 {x : Ctx} {Λ : Lay} (C : Cx x cX6_putToBeds 8 none RX6 Λ rm_X6_putToBeds) (N : Nat) (v0 : Nat) (v1 : Nat) (v2 : Int32) (hv0 : inL Λ v0 6) (hv1 : inL Λ v1 8) (s : Int32 × Mem) {r : Mem} (hm : lp_X6_putToBeds_34 N Λ v0 v1 v2 s = some r) : J x 8 Λ (QV x Λ r) 34 [(0, .ref v0), (1, .ref v1), (2, .int v2), (3, .int s.1)] [] (s.2) :=
  cw_ind (P := fun s r => J x 8 Λ (QV x Λ r) 34 [(0, .ref v0), (1, .ref v1), (2, .int v2), (3, .int s.1)] [] (s.2)) (fun k hkk s r e => tb_X6_putToBeds_34 C _ _ _ _ _ _ _ hkk hv0 hv1 e) N s r hm
set_option maxRecDepth 20000 in
set_option maxHeartbeats 4000000 in
theorem tb_X6_putToBeds_7 {x : Ctx} {Λ : Lay} (C : Cx x cX6_putToBeds 8 none RX6 Λ rm_X6_putToBeds) (N : Nat) (μ : Mem) (k7 : Int32 × Mem → Option (Mem)) (v0 : Nat) (v1 : Nat) (v2 : Int32) (v3 : Int32) (hk7 : ∀ (s : Int32 × Mem) (r : Mem), k7 s = some r → J x 8 Λ (QV x Λ r) 7 [(0, .ref v0), (1, .ref v1), (2, .int v2), (3, .int s.1)] [] (s.2)) (hv0 : inL Λ v0 6) (hv1 : inL Λ v1 8) {r : Mem} (hm : bd_X6_putToBeds_7 N Λ μ k7 v0 v1 v2 v3 = some r) : J x 8 Λ (QV x Λ r) 7 [(0, .ref v0), (1, .ref v1), (2, .int v2), (3, .int v3)] [] μ := by
  refine j_iload_n C 3 dX6_putToBeds_7 rfl ?_
  refine j_sipush C (v := 225) dX6_putToBeds_8 rfl ?_
  refine j_icmp_ge C (tgt := 27) dX6_putToBeds_11 (by decide) (fun h1 => ?_) (fun h1 => ?_)
  · replace hm := if_t hm h1
    refine j_aload_n C 1 dX6_putToBeds_27 rfl ?_
    refine j_getI C fg_X6_41_8 hv1 dX6_putToBeds_28 ?_
    refine j_iconst C (v := 1) dX6_putToBeds_31 rfl ?_
    refine j_isub C dX6_putToBeds_32 ?_
    obtain ⟨y2, e3, hm⟩ := lt_some hm
    refine j_topi e3 ?_
    refine j_istore_n C (lv' := [(3, .int y2), (0, .ref v0), (1, .ref v1), (2, .int v2)]) dX6_putToBeds_33 (by decide) rfl ?_
    refine j_sub [1, 2, 3, 0] rfl ?_
    exact tl_X6_putToBeds_34 C _ _ _ _ hv0 hv1 (y2, μ) hm
  · replace hm := if_f hm h1
    refine j_aload_n C 0 dX6_putToBeds_14 rfl ?_
    obtain ⟨q4, h5, hm⟩ := bd_some hm
    refine j_getR C fg_X6_24_6 hv0 (dr_spec h5).1 dX6_putToBeds_15 ?_
    refine j_iload_n C 3 dX6_putToBeds_18 rfl ?_
    refine j_iconst C (v := 0) dX6_putToBeds_19 rfl ?_
    obtain ⟨h6, hm⟩ := gd_some hm
    obtain ⟨μ7, e8, hm⟩ := lt_some hm
    refine j_iast C ((dr_spec h5).2) h6 e8 dX6_putToBeds_20 ?_
    obtain ⟨y9, e10, hm⟩ := lt_some hm
    refine j_iinc C 3 (v := y9) (lv' := [(3, .int y9), (0, .ref v0), (1, .ref v1), (2, .int v2)]) dX6_putToBeds_21 rfl (by rw [e10]; rfl) (by decide) rfl ?_
    refine j_goto C (tgt := 7) dX6_putToBeds_24 (by decide) ?_
    refine j_sub [1, 2, 3, 0] rfl ?_
    exact hk7 (y9, μ7) _ hm
set_option maxRecDepth 20000 in
set_option maxHeartbeats 4000000 in
theorem tl_X6_putToBeds_7 {x : Ctx} {Λ : Lay} (C : Cx x cX6_putToBeds 8 none RX6 Λ rm_X6_putToBeds) (N : Nat) (v0 : Nat) (v1 : Nat) (v2 : Int32) (hv0 : inL Λ v0 6) (hv1 : inL Λ v1 8) (s : Int32 × Mem) {r : Mem} (hm : lp_X6_putToBeds_7 N Λ v0 v1 v2 s = some r) : J x 8 Λ (QV x Λ r) 7 [(0, .ref v0), (1, .ref v1), (2, .int v2), (3, .int s.1)] [] (s.2) :=
  cw_ind (P := fun s r => J x 8 Λ (QV x Λ r) 7 [(0, .ref v0), (1, .ref v1), (2, .int v2), (3, .int s.1)] [] (s.2)) (fun k hkk s r e => tb_X6_putToBeds_7 C _ _ _ _ _ _ _ hkk hv0 hv1 e) N s r hm
set_option maxRecDepth 20000 in
set_option maxHeartbeats 4000000 in
theorem tm_X6_putToBeds {x : Ctx} {Λ : Lay} (C : Cx x cX6_putToBeds 8 none RX6 Λ rm_X6_putToBeds) (N : Nat) (μ : Mem) (v0 : Nat) (v1 : Nat) (hv0 : inL Λ v0 6) (hv1 : inL Λ v1 8) {r : Mem} (hm : m_X6_putToBeds N Λ μ v0 v1 = some r) : J x 8 Λ (QV x Λ r) 0 [(0, .ref v0), (1, .ref v1)] [] μ := by
  refine j_aload_n C 1 dX6_putToBeds_0 rfl ?_
  obtain ⟨r1, h2, hm⟩ := bd_some hm
  refine call_I (run_LV C lk_X6_27 ⟨rfl, rfl, Nat.le_of_ble_eq_true rfl, Nat.le_of_ble_eq_true rfl⟩ (As := []) hv1 rfl rfl (Nat.le_of_ble_eq_true rfl) dX6_putToBeds_1 (mc_X9_takenPlaces _ _ _ _ _ hv1 h2)) ?_
  refine j_istore_n C (lv' := [(2, .int r1), (0, .ref v0), (1, .ref v1)]) dX6_putToBeds_4 (by decide) rfl ?_
  refine j_iconst C (v := 0) dX6_putToBeds_5 rfl ?_
  refine j_istore_n C (lv' := [(3, .int 0), (2, .int r1), (0, .ref v0), (1, .ref v1)]) dX6_putToBeds_6 (by decide) rfl ?_
  refine j_sub [2, 3, 1, 0] rfl ?_
  exact tl_X6_putToBeds_7 C _ _ _ _ hv0 hv1 (0, μ) hm
set_option maxRecDepth 20000 in
set_option maxHeartbeats 4000000 in
theorem mc_X6_putToBeds (l : Launch) (N : Nat) (Λ : Lay) (μ : Mem) (v0 : Nat) (v1 : Nat) (hv0 : inL Λ v0 6) (hv1 : inL Λ v1 8) {r : Mem} (hm : m_X6_putToBeds N Λ μ v0 v1 = some r) : MV l yX6_putToBeds cX6_putToBeds 8 rm_X6_putToBeds Λ [.ref v0, .ref v1] μ r := mv_of rfl (Nat.le_of_ble_eq_true rfl) (fun x C _ => tm_X6_putToBeds C _ _ _ _ hv0 hv1 hm)
abbrev rm_X6_pairedWith : Room := { frames := 0, cells := 0, slots := 0, locals := 0 }
set_option maxRecDepth 20000 in
set_option maxHeartbeats 4000000 in
theorem tj_X6_pairedWith_28 {x : Ctx} {Λ : Lay} (C : Cx x cX6_pairedWith 5 (some .int) RX6 Λ rm_X6_pairedWith) (N : Nat) (μ : Mem) {r : Int32} (hm : jn_X6_pairedWith_28 N Λ μ = some r) : J x 5 Λ (QI x Λ r μ) 28 [] [] μ := by
  refine j_iconst C (v := -1) dX6_pairedWith_28 rfl ?_
  obtain rfl := Option.some.inj hm
  exact j_ireti C dX6_pairedWith_29
set_option maxRecDepth 20000 in
set_option maxHeartbeats 4000000 in
theorem tm_X6_pairedWith {x : Ctx} {Λ : Lay} (C : Cx x cX6_pairedWith 5 (some .int) RX6 Λ rm_X6_pairedWith) (N : Nat) (μ : Mem) (v0 : Nat) (v1 : Int32) (v2 : Int32) (v3 : Int32) (v4 : Nat) (hv0 : inL Λ v0 6) (hv4 : inL Λ v4 8) {r : Int32} (hm : m_X6_pairedWith N Λ μ v0 v1 v2 v3 v4 = some r) : J x 5 Λ (QI x Λ r μ) 0 [(0, .ref v0), (1, .int v1), (2, .int v2), (3, .int v3), (4, .ref v4)] [] μ := by
  refine j_iload_n C 3 dX6_pairedWith_0 rfl ?_
  refine j_iload_n C 2 dX6_pairedWith_1 rfl ?_
  refine j_ishr C dX6_pairedWith_2 ?_
  refine j_iconst C (v := 1) dX6_pairedWith_3 rfl ?_
  refine j_iand C dX6_pairedWith_4 ?_
  refine j_if_eq C (tgt := 28) dX6_pairedWith_5 (by decide) (fun h1 => ?_) (fun h1 => ?_)
  · replace hm := if_t hm h1
    refine j_sub [] rfl ?_
    exact tj_X6_pairedWith_28 C _ _  hm
  · replace hm := if_f hm h1
    refine j_aload C 4 dX6_pairedWith_8 rfl ?_
    obtain ⟨q2, h3, hm⟩ := bd_some hm
    refine j_getR C fg_X6_76_8 hv4 (dr_spec h3).1 dX6_pairedWith_10 ?_
    refine j_iload_n C 1 dX6_pairedWith_13 rfl ?_
    obtain ⟨h4, hm⟩ := gd_some hm
    refine j_iald C ((dr_spec h3).2) h4 dX6_pairedWith_14 ?_
    refine j_aload C 4 dX6_pairedWith_15 rfl ?_
    obtain ⟨q5, h6, hm⟩ := bd_some hm
    refine j_getR C fg_X6_76_8 hv4 (dr_spec h6).1 dX6_pairedWith_17 ?_
    refine j_iload_n C 2 dX6_pairedWith_20 rfl ?_
    obtain ⟨h7, hm⟩ := gd_some hm
    refine j_iald C ((dr_spec h6).2) h7 dX6_pairedWith_21 ?_
    refine j_iadd C dX6_pairedWith_22 ?_
    refine j_bipush C (v := 12) dX6_pairedWith_23 rfl ?_
    refine j_icmp_le C (tgt := 30) dX6_pairedWith_25 (by decide) (fun h8 => ?_) (fun h8 => ?_)
    · replace hm := if_t hm h8
      refine j_aload C 4 dX6_pairedWith_30 rfl ?_
      obtain ⟨q9, h10, hm⟩ := bd_some hm
      refine j_getR C fg_X6_98_8 hv4 (dr_spec h10).1 dX6_pairedWith_32 ?_
      refine j_iload_n C 1 dX6_pairedWith_35 rfl ?_
      obtain ⟨h11, hm⟩ := gd_some hm
      refine j_iald C ((dr_spec h10).2) h11 dX6_pairedWith_36 ?_
      refine j_aload C 4 dX6_pairedWith_37 rfl ?_
      obtain ⟨q12, h13, hm⟩ := bd_some hm
      refine j_getR C fg_X6_98_8 hv4 (dr_spec h13).1 dX6_pairedWith_39 ?_
      refine j_iload_n C 2 dX6_pairedWith_42 rfl ?_
      obtain ⟨h14, hm⟩ := gd_some hm
      refine j_iald C ((dr_spec h13).2) h14 dX6_pairedWith_43 ?_
      refine j_iadd C dX6_pairedWith_44 ?_
      refine j_aload_n C 0 dX6_pairedWith_45 rfl ?_
      obtain ⟨q15, h16, hm⟩ := bd_some hm
      refine j_getR C fg_X6_21_6 hv0 (dr_spec h16).1 dX6_pairedWith_46 ?_
      refine j_iload_n C 3 dX6_pairedWith_49 rfl ?_
      refine j_iconst C (v := 1) dX6_pairedWith_50 rfl ?_
      refine j_iload_n C 2 dX6_pairedWith_51 rfl ?_
      refine j_ishl C dX6_pairedWith_52 ?_
      refine j_ixor C dX6_pairedWith_53 ?_
      obtain ⟨h17, hm⟩ := gd_some hm
      refine j_iald C ((dr_spec h16).2) h17 dX6_pairedWith_54 ?_
      refine j_iadd C dX6_pairedWith_55 ?_
      obtain rfl := Option.some.inj hm
      exact j_ireti C dX6_pairedWith_56
    · replace hm := if_f hm h8
      refine j_sub [] rfl ?_
      exact tj_X6_pairedWith_28 C _ _  hm
set_option maxRecDepth 20000 in
set_option maxHeartbeats 4000000 in
theorem mc_X6_pairedWith (l : Launch) (N : Nat) (Λ : Lay) (μ : Mem) (v0 : Nat) (v1 : Int32) (v2 : Int32) (v3 : Int32) (v4 : Nat) (hv0 : inL Λ v0 6) (hv4 : inL Λ v4 8) {r : Int32} (hm : m_X6_pairedWith N Λ μ v0 v1 v2 v3 v4 = some r) : MI l yX6_pairedWith cX6_pairedWith 5 (some .int) rm_X6_pairedWith Λ [.ref v0, .int v1, .int v2, .int v3, .ref v4] μ r μ := mi_of rfl (Nat.le_of_ble_eq_true rfl) (fun x C _ => tm_X6_pairedWith C _ _ _ _ _ _ _ hv0 hv4 hm)
abbrev rm_X6_pairedWork : Room := { frames := 1, cells := 0, slots := 0, locals := 60 }
set_option maxRecDepth 20000 in
set_option maxHeartbeats 4000000 in
theorem tb_X6_pairedWork_26 {x : Ctx} {Λ : Lay} (C : Cx x cX6_pairedWork 7 (some .int) RX6 Λ rm_X6_pairedWork) (N : Nat) (μ : Mem) (k26 : Int32 × Int32 → Option (Int32)) (v0 : Nat) (v2 : Nat) (v3 : Int32) (v4 : Int32) (v5 : Int32) (v6 : Int32) (hk26 : ∀ (s : Int32 × Int32) (r : Int32), k26 s = some r → J x 7 Λ (QI x Λ r μ) 26 [(0, .ref v0), (2, .ref v2), (3, .int v3), (4, .int v4), (5, .int s.1), (6, .int s.2)] [] (μ)) (hv0 : inL Λ v0 6) (hv2 : inL Λ v2 8) {r : Int32} (hm : bd_X6_pairedWork_26 N Λ μ k26 v0 v2 v3 v4 v5 v6 = some r) : J x 7 Λ (QI x Λ r μ) 26 [(0, .ref v0), (2, .ref v2), (3, .int v3), (4, .int v4), (5, .int v5), (6, .int v6)] [] μ := by
  refine j_iload C 5 dX6_pairedWork_26 rfl ?_
  refine j_bipush C (v := 8) dX6_pairedWork_28 rfl ?_
  refine j_icmp_ge C (tgt := 56) dX6_pairedWork_30 (by decide) (fun h1 => ?_) (fun h1 => ?_)
  · replace hm := if_t hm h1
    refine j_iload C 4 dX6_pairedWork_56 rfl ?_
    obtain rfl := Option.some.inj hm
    exact j_ireti C dX6_pairedWork_58
  · replace hm := if_f hm h1
    refine j_iload C 4 dX6_pairedWork_33 rfl ?_
    refine j_aload_n C 0 dX6_pairedWork_35 rfl ?_
    refine j_iload_n C 2 dX6_pairedWork_36 rfl ?_
    refine j_iload C 5 dX6_pairedWork_37 rfl ?_
    refine j_iload C 3 dX6_pairedWork_39 rfl ?_
    refine j_aload_n C 1 dX6_pairedWork_41 rfl ?_
    obtain ⟨r2, h3, hm⟩ := bd_some hm
    refine call_I (run_LV C lk_X6_134 ⟨rfl, rfl, Nat.le_of_ble_eq_true rfl, Nat.le_of_ble_eq_true rfl⟩ (As := [.int v3, .int v6, .int v4, .ref v2]) hv0 rfl rfl (Nat.le_of_ble_eq_true rfl) dX6_pairedWork_42 (mc_X6_pairedWith _ _ _ _ _ _ _ _ _ hv0 hv2 h3)) ?_
    refine j_mmax C wk_1402 ⟨Nat.le_of_ble_eq_true rfl, Nat.le_of_ble_eq_true rfl⟩ dX6_pairedWork_45 ?_
    obtain ⟨y4, e5, hm⟩ := lt_some hm
    refine j_topi e5 ?_
    refine j_istore C (lv' := [(5, .int y4), (0, .ref v0), (2, .ref v2), (3, .int v3), (4, .int v4), (6, .int v6)]) dX6_pairedWork_48 (by decide) rfl ?_
    obtain ⟨y6, e7, hm⟩ := lt_some hm
    refine j_iinc C 5 (v := y6) (lv' := [(6, .int y6), (5, .int y4), (0, .ref v0), (2, .ref v2), (3, .int v3), (4, .int v4)]) dX6_pairedWork_50 rfl (by rw [e7]; rfl) (by decide) rfl ?_
    refine j_goto C (tgt := 26) dX6_pairedWork_53 (by decide) ?_
    refine j_sub [2, 3, 4, 5, 1, 0] rfl ?_
    exact hk26 (y4, y6) _ hm
set_option maxRecDepth 20000 in
set_option maxHeartbeats 4000000 in
theorem tl_X6_pairedWork_26 {x : Ctx} {Λ : Lay} (C : Cx x cX6_pairedWork 7 (some .int) RX6 Λ rm_X6_pairedWork) (N : Nat) (μ : Mem) (v0 : Nat) (v2 : Nat) (v3 : Int32) (v4 : Int32) (hv0 : inL Λ v0 6) (hv2 : inL Λ v2 8) (s : Int32 × Int32) {r : Int32} (hm : lp_X6_pairedWork_26 N Λ μ v0 v2 v3 v4 s = some r) : J x 7 Λ (QI x Λ r μ) 26 [(0, .ref v0), (2, .ref v2), (3, .int v3), (4, .int v4), (5, .int s.1), (6, .int s.2)] [] (μ) :=
  cw_ind (P := fun s r => J x 7 Λ (QI x Λ r μ) 26 [(0, .ref v0), (2, .ref v2), (3, .int v3), (4, .int v4), (5, .int s.1), (6, .int s.2)] [] (μ)) (fun k hkk s r e => tb_X6_pairedWork_26 C _ _ _ _ _ _ _ _ _ hkk hv0 hv2 e) N s r hm
set_option maxRecDepth 20000 in
set_option maxHeartbeats 4000000 in
theorem tm_X6_pairedWork {x : Ctx} {Λ : Lay} (C : Cx x cX6_pairedWork 7 (some .int) RX6 Λ rm_X6_pairedWork) (N : Nat) (μ : Mem) (v0 : Nat) (v1 : Int32) (v2 : Nat) (hv0 : inL Λ v0 6) (hv2 : inL Λ v2 8) {r : Int32} (hm : m_X6_pairedWork N Λ μ v0 v1 v2 = some r) : J x 7 Λ (QI x Λ r μ) 0 [(0, .ref v0), (1, .int v1), (2, .ref v2)] [] μ := by
  refine j_iload_n C 1 dX6_pairedWork_0 rfl ?_
  obtain ⟨r1, h2, hm⟩ := bd_some hm
  refine call_I (run_LS C ls_X6_129 ⟨rfl, rfl, Nat.le_of_ble_eq_true rfl, Nat.le_of_ble_eq_true rfl⟩ (As := [.int v1]) rfl rfl (Nat.le_of_ble_eq_true rfl) dX6_pairedWork_1 (mc_XI_ntz _ _ _ _ _  h2)) ?_
  refine j_istore_n C (lv' := [(3, .int r1), (0, .ref v0), (1, .int v1), (2, .ref v2)]) dX6_pairedWork_4 (by decide) rfl ?_
  refine j_iload_n C 2 dX6_pairedWork_5 rfl ?_
  refine j_iload_n C 2 dX6_pairedWork_6 rfl ?_
  refine j_iconst C (v := 1) dX6_pairedWork_7 rfl ?_
  refine j_isub C dX6_pairedWork_8 ?_
  refine j_iand C dX6_pairedWork_9 ?_
  obtain ⟨y3, e4, hm⟩ := lt_some hm
  refine j_topi e4 ?_
  refine j_istore C (lv' := [(4, .int y3), (3, .int r1), (0, .ref v0), (1, .int v1), (2, .ref v2)]) dX6_pairedWork_10 (by decide) rfl ?_
  refine j_aload_n C 2 dX6_pairedWork_12 rfl ?_
  obtain ⟨q5, h6, hm⟩ := bd_some hm
  refine j_getR C fg_X6_21_6 hv0 (dr_spec h6).1 dX6_pairedWork_13 ?_
  refine j_iload C 0 dX6_pairedWork_16 rfl ?_
  obtain ⟨h7, hm⟩ := gd_some hm
  refine j_iald C ((dr_spec h6).2) h7 dX6_pairedWork_18 ?_
  obtain ⟨y8, e9, hm⟩ := lt_some hm
  refine j_topi e9 ?_
  refine j_istore C (lv' := [(5, .int y8), (4, .int y3), (3, .int r1), (0, .ref v0), (1, .int v1), (2, .ref v2)]) dX6_pairedWork_19 (by decide) rfl ?_
  refine j_iload_n C 2 dX6_pairedWork_21 rfl ?_
  refine j_iconst C (v := 1) dX6_pairedWork_22 rfl ?_
  refine j_iadd C dX6_pairedWork_23 ?_
  obtain ⟨y10, e11, hm⟩ := lt_some hm
  refine j_topi e11 ?_
  refine j_istore C (lv' := [(6, .int y10), (5, .int y8), (4, .int y3), (3, .int r1), (0, .ref v0), (1, .int v1), (2, .ref v2)]) dX6_pairedWork_24 (by decide) rfl ?_
  refine j_sub [4, 6, 3, 2, 1, 0] rfl ?_
  exact tl_X6_pairedWork_26 C _ _ _ _ _ _ hv0 hv2 (y8, y10) hm
set_option maxRecDepth 20000 in
set_option maxHeartbeats 4000000 in
theorem mc_X6_pairedWork (l : Launch) (N : Nat) (Λ : Lay) (μ : Mem) (v0 : Nat) (v1 : Int32) (v2 : Nat) (hv0 : inL Λ v0 6) (hv2 : inL Λ v2 8) {r : Int32} (hm : m_X6_pairedWork N Λ μ v0 v1 v2 = some r) : MI l yX6_pairedWork cX6_pairedWork 7 (some .int) rm_X6_pairedWork Λ [.ref v0, .int v1, .ref v2] μ r μ := mi_of rfl (Nat.le_of_ble_eq_true rfl) (fun x C _ => tm_X6_pairedWork C _ _ _ _ _ hv0 hv2 hm)
abbrev rm_X6_findMate : Room := { frames := 1, cells := 0, slots := 0, locals := 24 }
set_option maxRecDepth 20000 in
set_option maxHeartbeats 4000000 in
theorem tb_X6_findMate_5 {x : Ctx} {Λ : Lay} (C : Cx x cX6_findMate 6 (some .int) RX6 Λ rm_X6_findMate) (N : Nat) (μ : Mem) (k5 : Int32 × Mem → Option (Int32 × Mem)) (v0 : Nat) (v1 : Int32) (v2 : Int32) (v3 : Int32) (v4 : Nat) (v5 : Int32) (hk5 : ∀ (s : Int32 × Mem) (r : Int32 × Mem), k5 s = some r → J x 6 Λ (QI x Λ r.1 r.2) 5 [(0, .ref v0), (1, .int v1), (2, .int v2), (3, .int v3), (4, .ref v4), (5, .int s.1)] [] (s.2)) (hv0 : inL Λ v0 6) (hv4 : inL Λ v4 8) {r : Int32 × Mem} (hm : bd_X6_findMate_5 N Λ μ k5 v0 v1 v2 v3 v4 v5 = some r) : J x 6 Λ (QI x Λ r.1 r.2) 5 [(0, .ref v0), (1, .int v1), (2, .int v2), (3, .int v3), (4, .ref v4), (5, .int v5)] [] μ := by
  refine j_iload C 5 dX6_findMate_5 rfl ?_
  refine j_aload C 4 dX6_findMate_7 rfl ?_
  refine j_getI C fg_X6_41_8 hv4 dX6_findMate_9 ?_
  refine j_icmp_ge C (tgt := 54) dX6_findMate_12 (by decide) (fun h1 => ?_) (fun h1 => ?_)
  · replace hm := if_t hm h1
    refine j_iload_n C 1 dX6_findMate_54 rfl ?_
    obtain rfl := Option.some.inj hm
    exact j_ireti C dX6_findMate_55
  · replace hm := if_f hm h1
    refine j_aload_n C 0 dX6_findMate_15 rfl ?_
    refine j_iload_n C 1 dX6_findMate_16 rfl ?_
    refine j_iload C 5 dX6_findMate_17 rfl ?_
    refine j_iload_n C 2 dX6_findMate_19 rfl ?_
    refine j_aload C 4 dX6_findMate_20 rfl ?_
    obtain ⟨r2, h3, hm⟩ := bd_some hm
    refine call_I (run_LV C lk_X6_134 ⟨rfl, rfl, Nat.le_of_ble_eq_true rfl, Nat.le_of_ble_eq_true rfl⟩ (As := [.int v1, .int v5, .int v2, .ref v4]) hv0 rfl rfl (Nat.le_of_ble_eq_true rfl) dX6_findMate_22 (mc_X6_pairedWith _ _ _ _ _ _ _ _ _ hv0 hv4 h3)) ?_
    refine j_iload_n C 3 dX6_findMate_25 rfl ?_
    refine j_icmp_ne C (tgt := 48) dX6_findMate_26 (by decide) (fun h4 => ?_) (fun h4 => ?_)
    · replace hm := if_f hm h4
      obtain ⟨y5, e6, hm⟩ := lt_some hm
      refine j_iinc C 5 (v := y5) (lv' := [(5, .int y5), (0, .ref v0), (1, .int v1), (2, .int v2), (3, .int v3), (4, .ref v4)]) dX6_findMate_48 rfl (by rw [e6]; rfl) (by decide) rfl ?_
      refine j_goto C (tgt := 5) dX6_findMate_51 (by decide) ?_
      refine j_sub [1, 2, 3, 4, 5, 0] rfl ?_
      exact hk5 (y5, μ) _ hm
    · replace hm := if_t hm h4
      refine j_aload_n C 0 dX6_findMate_29 rfl ?_
      obtain ⟨q7, h8, hm⟩ := bd_some hm
      refine j_getR C fg_X6_9_6 hv0 (dr_spec h8).1 dX6_findMate_30 ?_
      refine j_iload_n C 1 dX6_findMate_33 rfl ?_
      refine j_iload C 5 dX6_findMate_34 rfl ?_
      obtain ⟨h9, hm⟩ := gd_some hm
      obtain ⟨μ10, e11, hm⟩ := lt_some hm
      refine j_iast C ((dr_spec h8).2) h9 e11 dX6_findMate_36 ?_
      refine j_aload_n C 0 dX6_findMate_37 rfl ?_
      obtain ⟨q12, h13, hm⟩ := bd_some hm
      refine j_getR C fg_X6_9_6 hv0 (dr_spec h13).1 dX6_findMate_38 ?_
      refine j_iload C 5 dX6_findMate_41 rfl ?_
      refine j_iload_n C 1 dX6_findMate_43 rfl ?_
      obtain ⟨h14, hm⟩ := gd_some hm
      obtain ⟨μ15, e16, hm⟩ := lt_some hm
      refine j_iast C ((dr_spec h13).2) h14 e16 dX6_findMate_44 ?_
      refine j_iload C 5 dX6_findMate_45 rfl ?_
      obtain rfl := Option.some.inj hm
      exact j_ireti C dX6_findMate_47
set_option maxRecDepth 20000 in
set_option maxHeartbeats 4000000 in
theorem tl_X6_findMate_5 {x : Ctx} {Λ : Lay} (C : Cx x cX6_findMate 6 (some .int) RX6 Λ rm_X6_findMate) (N : Nat) (v0 : Nat) (v1 : Int32) (v2 : Int32) (v3 : Int32) (v4 : Nat) (hv0 : inL Λ v0 6) (hv4 : inL Λ v4 8) (s : Int32 × Mem) {r : Int32 × Mem} (hm : lp_X6_findMate_5 N Λ v0 v1 v2 v3 v4 s = some r) : J x 6 Λ (QI x Λ r.1 r.2) 5 [(0, .ref v0), (1, .int v1), (2, .int v2), (3, .int v3), (4, .ref v4), (5, .int s.1)] [] (s.2) :=
  cw_ind (P := fun s r => J x 6 Λ (QI x Λ r.1 r.2) 5 [(0, .ref v0), (1, .int v1), (2, .int v2), (3, .int v3), (4, .ref v4), (5, .int s.1)] [] (s.2)) (fun k hkk s r e => tb_X6_findMate_5 C _ _ _ _ _ _ _ _ _ hkk hv0 hv4 e) N s r hm
set_option maxRecDepth 20000 in
set_option maxHeartbeats 4000000 in
theorem tm_X6_findMate {x : Ctx} {Λ : Lay} (C : Cx x cX6_findMate 6 (some .int) RX6 Λ rm_X6_findMate) (N : Nat) (μ : Mem) (v0 : Nat) (v1 : Int32) (v2 : Int32) (v3 : Int32) (v4 : Nat) (hv0 : inL Λ v0 6) (hv4 : inL Λ v4 8) {r : Int32 × Mem} (hm : m_X6_findMate N Λ μ v0 v1 v2 v3 v4 = some r) : J x 6 Λ (QI x Λ r.1 r.2) 0 [(0, .ref v0), (1, .int v1), (2, .int v2), (3, .int v3), (4, .ref v4)] [] μ := by
  refine j_iload_n C 1 dX6_findMate_0 rfl ?_
  refine j_iconst C (v := 1) dX6_findMate_1 rfl ?_
  refine j_iadd C dX6_findMate_2 ?_
  obtain ⟨y1, e2, hm⟩ := lt_some hm
  refine j_topi e2 ?_
  refine j_istore C (lv' := [(5, .int y1), (0, .ref v0), (1, .int v1), (2, .int v2), (3, .int v3), (4, .ref v4)]) dX6_findMate_3 (by decide) rfl ?_
  refine j_sub [1, 2, 3, 4, 5, 0] rfl ?_
  exact tl_X6_findMate_5 C _ _ _ _ _ _ hv0 hv4 (y1, μ) hm
set_option maxRecDepth 20000 in
set_option maxHeartbeats 4000000 in
theorem mc_X6_findMate (l : Launch) (N : Nat) (Λ : Lay) (μ : Mem) (v0 : Nat) (v1 : Int32) (v2 : Int32) (v3 : Int32) (v4 : Nat) (hv0 : inL Λ v0 6) (hv4 : inL Λ v4 8) {r : Int32 × Mem} (hm : m_X6_findMate N Λ μ v0 v1 v2 v3 v4 = some r) : MI l yX6_findMate cX6_findMate 6 (some .int) rm_X6_findMate Λ [.ref v0, .int v1, .int v2, .int v3, .ref v4] μ r.1 r.2 := mi_of rfl (Nat.le_of_ble_eq_true rfl) (fun x C _ => tm_X6_findMate C _ _ _ _ _ _ _ hv0 hv4 hm)
abbrev rm_X6_findMates : Room := { frames := 2, cells := 0, slots := 0, locals := 49 }
set_option maxRecDepth 20000 in
set_option maxHeartbeats 4000000 in
theorem tj_X6_findMates_65 {x : Ctx} {Λ : Lay} (C : Cx x cX6_findMates 6 none RX6 Λ rm_X6_findMates) (N : Nat) (μ : Mem) (k5 : Int32 × Int32 × Mem → Option (Mem)) (v0 : Nat) (v2 : Nat) (v3 : Int32) (v4 : Int32) (hk5 : ∀ (s : Int32 × Int32 × Mem) (r : Mem), k5 s = some r → J x 6 Λ (QV x Λ r) 5 [(0, .ref v0), (2, .ref v2), (3, .int s.1), (4, .int s.2.1)] [] (s.2.2)) (hv0 : inL Λ v0 6) (hv2 : inL Λ v2 8) {r : Mem} (hm : jn_X6_findMates_65 N Λ μ k5 v0 v2 v3 v4 = some r) : J x 6 Λ (QV x Λ r) 65 [(0, .ref v0), (2, .ref v2), (3, .int v3), (4, .int v4)] [] μ := by
  obtain ⟨y1, e2, hm⟩ := lt_some hm
  refine j_iinc C 3 (v := y1) (lv' := [(4, .int y1), (0, .ref v0), (2, .ref v2), (3, .int v3)]) dX6_findMates_65 rfl (by rw [e2]; rfl) (by decide) rfl ?_
  refine j_goto C (tgt := 5) dX6_findMates_68 (by decide) ?_
  refine j_sub [1, 2, 3, 0] rfl ?_
  exact hk5 (v3, y1, μ) _ hm
set_option maxRecDepth 20000 in
set_option maxHeartbeats 4000000 in
theorem tb_X6_findMates_5 {x : Ctx} {Λ : Lay} (C : Cx x cX6_findMates 6 none RX6 Λ rm_X6_findMates) (N : Nat) (μ : Mem) (k5 : Int32 × Int32 × Mem → Option (Mem)) (v0 : Nat) (v2 : Nat) (v3 : Int32) (v4 : Int32) (hk5 : ∀ (s : Int32 × Int32 × Mem) (r : Mem), k5 s = some r → J x 6 Λ (QV x Λ r) 5 [(0, .ref v0), (2, .ref v2), (3, .int s.1), (4, .int s.2.1)] [] (s.2.2)) (hv0 : inL Λ v0 6) (hv2 : inL Λ v2 8) {r : Mem} (hm : bd_X6_findMates_5 N Λ μ k5 v0 v2 v3 v4 = some r) : J x 6 Λ (QV x Λ r) 5 [(0, .ref v0), (2, .ref v2), (3, .int v3), (4, .int v4)] [] μ := by
  refine j_iload C 3 dX6_findMates_5 rfl ?_
  refine j_aload_n C 1 dX6_findMates_7 rfl ?_
  refine j_getI C fg_X6_41_8 hv2 dX6_findMates_8 ?_
  refine j_icmp_ge C (tgt := 71) dX6_findMates_11 (by decide) (fun h1 => ?_) (fun h1 => ?_)
  · replace hm := if_t hm h1
    obtain rfl := Option.some.inj hm
    exact j_vret C dX6_findMates_71
  · replace hm := if_f hm h1
    refine j_iload_n C 2 dX6_findMates_14 rfl ?_
    refine j_iload C 3 dX6_findMates_15 rfl ?_
    refine j_ishr C dX6_findMates_17 ?_
    refine j_iconst C (v := 1) dX6_findMates_18 rfl ?_
    refine j_iand C dX6_findMates_19 ?_
    refine j_iconst C (v := 1) dX6_findMates_20 rfl ?_
    refine j_icmp_ne C (tgt := 65) dX6_findMates_21 (by decide) (fun h2 => ?_) (fun h2 => ?_)
    · replace hm := if_f hm h2
      exact tj_X6_findMates_65 C _ _ _ _ _ _ _ hk5 hv0 hv2 hm
    · replace hm := if_t hm h2
      refine j_aload_n C 0 dX6_findMates_24 rfl ?_
      obtain ⟨q3, h4, hm⟩ := bd_some hm
      refine j_getR C fg_X6_21_6 hv0 (dr_spec h4).1 dX6_findMates_25 ?_
      refine j_iload_n C 2 dX6_findMates_28 rfl ?_
      obtain ⟨h5, hm⟩ := gd_some hm
      refine j_iald C ((dr_spec h4).2) h5 dX6_findMates_29 ?_
      obtain ⟨y6, e7, hm⟩ := lt_some hm
      refine j_topi e7 ?_
      refine j_istore C (lv' := [(5, .int y6), (0, .ref v0), (2, .ref v2), (3, .int v3), (4, .int v4)]) dX6_findMates_30 (by decide) rfl ?_
      refine j_iload_n C 3 dX6_findMates_32 rfl ?_
      refine j_iconst C (v := 1) dX6_findMates_33 rfl ?_
      refine j_iload C 4 dX6_findMates_34 rfl ?_
      refine j_ishl C dX6_findMates_36 ?_
      refine j_ixor C dX6_findMates_37 ?_
      obtain ⟨y8, e9, hm⟩ := lt_some hm
      refine j_topi e9 ?_
      refine j_istore_n C (lv' := [(3, .int y8), (5, .int y6), (0, .ref v0), (2, .ref v2), (4, .int v4)]) dX6_findMates_38 (by decide) rfl ?_
      refine j_aload_n C 2 dX6_findMates_39 rfl ?_
      obtain ⟨q10, h11, hm⟩ := bd_some hm
      refine j_getR C fg_X6_21_6 hv0 (dr_spec h11).1 dX6_findMates_40 ?_
      refine j_iload_n C 0 dX6_findMates_43 rfl ?_
      obtain ⟨h12, hm⟩ := gd_some hm
      refine j_iald C ((dr_spec h11).2) h12 dX6_findMates_44 ?_
      refine j_iload C 1 dX6_findMates_45 rfl ?_
      refine j_icmp_eq C (tgt := 65) dX6_findMates_47 (by decide) (fun h13 => ?_) (fun h13 => ?_)
      · replace hm := if_t hm h13
        refine j_sub [2, 3, 0, 4] rfl ?_
        exact tj_X6_findMates_65 C _ _ _ _ _ _ _ hk5 hv0 hv2 hm
      · replace hm := if_f hm h13
        refine j_iload_n C 0 dX6_findMates_50 rfl ?_
        refine j_iconst C (v := 1) dX6_findMates_51 rfl ?_
        refine j_aload_n C 2 dX6_findMates_52 rfl ?_
        refine j_iload C 4 dX6_findMates_53 rfl ?_
        refine j_iload_n C 0 dX6_findMates_55 rfl ?_
        refine j_iload C 1 dX6_findMates_56 rfl ?_
        refine j_aload_n C 3 dX6_findMates_58 rfl ?_
        obtain ⟨r14, h15, hm⟩ := bd_some hm
        refine call_I (run_LV C lk_X6_138 ⟨rfl, rfl, Nat.le_of_ble_eq_true rfl, Nat.le_of_ble_eq_true rfl⟩ (As := [.int v4, .int y8, .int y6, .ref v2]) hv0 rfl rfl (Nat.le_of_ble_eq_true rfl) dX6_findMates_59 (mc_X6_findMate _ _ _ _ _ _ _ _ _ hv0 hv2 h15)) ?_
        refine j_ishl C dX6_findMates_62 ?_
        refine j_ixor C dX6_findMates_63 ?_
        obtain ⟨y16, e17, hm⟩ := lt_some hm
        refine j_topi e17 ?_
        refine j_istore_n C (lv' := [(3, .int y16), (5, .int y6), (0, .ref v0), (2, .ref v2), (4, .int v4)]) dX6_findMates_64 (by decide) rfl ?_
        refine j_sub [2, 3, 0, 4] rfl ?_
        exact tj_X6_findMates_65 C _ _ _ _ _ _ _ hk5 hv0 hv2 hm
set_option maxRecDepth 20000 in
set_option maxHeartbeats 4000000 in
theorem tl_X6_findMates_5 {x : Ctx} {Λ : Lay} (C : Cx x cX6_findMates 6 none RX6 Λ rm_X6_findMates) (N : Nat) (v0 : Nat) (v2 : Nat) (hv0 : inL Λ v0 6) (hv2 : inL Λ v2 8) (s : Int32 × Int32 × Mem) {r : Mem} (hm : lp_X6_findMates_5 N Λ v0 v2 s = some r) : J x 6 Λ (QV x Λ r) 5 [(0, .ref v0), (2, .ref v2), (3, .int s.1), (4, .int s.2.1)] [] (s.2.2) :=
  cw_ind (P := fun s r => J x 6 Λ (QV x Λ r) 5 [(0, .ref v0), (2, .ref v2), (3, .int s.1), (4, .int s.2.1)] [] (s.2.2)) (fun k hkk s r e => tb_X6_findMates_5 C _ _ _ _ _ _ _ hkk hv0 hv2 e) N s r hm
set_option maxRecDepth 20000 in
set_option maxHeartbeats 4000000 in
theorem tm_X6_findMates {x : Ctx} {Λ : Lay} (C : Cx x cX6_findMates 6 none RX6 Λ rm_X6_findMates) (N : Nat) (μ : Mem) (v0 : Nat) (v1 : Int32) (v2 : Nat) (hv0 : inL Λ v0 6) (hv2 : inL Λ v2 8) {r : Mem} (hm : m_X6_findMates N Λ μ v0 v1 v2 = some r) : J x 6 Λ (QV x Λ r) 0 [(0, .ref v0), (1, .int v1), (2, .ref v2)] [] μ := by
  refine j_iload_n C 1 dX6_findMates_0 rfl ?_
  refine j_istore_n C (lv' := [(3, .int v1), (0, .ref v0), (1, .int v1), (2, .ref v2)]) dX6_findMates_1 (by decide) rfl ?_
  refine j_iconst C (v := 0) dX6_findMates_2 rfl ?_
  refine j_istore C (lv' := [(4, .int 0), (3, .int v1), (0, .ref v0), (1, .int v1), (2, .ref v2)]) dX6_findMates_3 (by decide) rfl ?_
  refine j_sub [2, 4, 1, 0] rfl ?_
  exact tl_X6_findMates_5 C _ _ _ hv0 hv2 (v1, 0, μ) hm
set_option maxRecDepth 20000 in
set_option maxHeartbeats 4000000 in
theorem mc_X6_findMates (l : Launch) (N : Nat) (Λ : Lay) (μ : Mem) (v0 : Nat) (v1 : Int32) (v2 : Nat) (hv0 : inL Λ v0 6) (hv2 : inL Λ v2 8) {r : Mem} (hm : m_X6_findMates N Λ μ v0 v1 v2 = some r) : MV l yX6_findMates cX6_findMates 6 rm_X6_findMates Λ [.ref v0, .int v1, .ref v2] μ r := mv_of rfl (Nat.le_of_ble_eq_true rfl) (fun x C _ => tm_X6_findMates C _ _ _ _ _ hv0 hv2 hm)
abbrev rm_X6_pairShips : Room := { frames := 3, cells := 0, slots := 0, locals := 86 }
set_option maxRecDepth 20000 in
set_option maxHeartbeats 4000000 in
theorem tj_X6_pairShips_30 {x : Ctx} {Λ : Lay} (C : Cx x cX6_pairShips 4 none RX6 Λ rm_X6_pairShips) (N : Nat) (μ : Mem) (k4 : Int32 × Int32 × Mem → Option (Mem)) (v0 : Nat) (v1 : Nat) (v3 : Int32) (s0 : Int32) (s1 : Int32) (hk4 : ∀ (s : Int32 × Int32 × Mem) (r : Mem), k4 s = some r → J x 4 Λ (QV x Λ r) 4 [(0, .ref v0), (1, .ref v1), (2, .int s.1), (3, .int s.2.1)] [] (s.2.2)) (hv0 : inL Λ v0 6) (hv1 : inL Λ v1 8) {r : Mem} (hm : jn_X6_pairShips_30 N Λ μ k4 v0 v1 v3 s0 s1 = some r) : J x 4 Λ (QV x Λ r) 30 [(0, .ref v0), (1, .ref v1), (3, .int v3)] [.int s1, .int s0] μ := by
  refine j_ior C dX6_pairShips_30 ?_
  obtain ⟨y1, e2, hm⟩ := lt_some hm
  refine j_topi e2 ?_
  refine j_istore_n C (lv' := [(2, .int y1), (0, .ref v0), (1, .ref v1), (3, .int v3)]) dX6_pairShips_31 (by decide) rfl ?_
  refine j_aload_n C 1 dX6_pairShips_32 rfl ?_
  obtain ⟨q3, h4, hm⟩ := bd_some hm
  refine j_getR C fg_X6_9_6 hv0 (dr_spec h4).1 dX6_pairShips_33 ?_
  refine j_iload_n C 3 dX6_pairShips_36 rfl ?_
  refine j_iconst C (v := -1) dX6_pairShips_37 rfl ?_
  obtain ⟨h5, hm⟩ := gd_some hm
  obtain ⟨μ6, e7, hm⟩ := lt_some hm
  refine j_iast C ((dr_spec h4).2) h5 e7 dX6_pairShips_38 ?_
  obtain ⟨y8, e9, hm⟩ := lt_some hm
  refine j_iinc C 3 (v := y8) (lv' := [(3, .int y8), (2, .int y1), (0, .ref v0), (1, .ref v1)]) dX6_pairShips_39 rfl (by rw [e9]; rfl) (by decide) rfl ?_
  refine j_goto C (tgt := 4) dX6_pairShips_42 (by decide) ?_
  refine j_sub [2, 3, 1, 0] rfl ?_
  exact hk4 (y1, y8, μ6) _ hm
set_option maxRecDepth 20000 in
set_option maxHeartbeats 4000000 in
theorem tj_X6_pairShips_79 {x : Ctx} {Λ : Lay} (C : Cx x cX6_pairShips 4 none RX6 Λ rm_X6_pairShips) (N : Nat) (μ : Mem) (k54 : Int32 × Mem → Option (Mem)) (v0 : Nat) (v1 : Nat) (v2 : Int32) (v3 : Int32) (hk54 : ∀ (s : Int32 × Mem) (r : Mem), k54 s = some r → J x 4 Λ (QV x Λ r) 54 [(0, .ref v0), (1, .ref v1), (2, .int v2), (3, .int s.1)] [] (s.2)) (hv0 : inL Λ v0 6) (hv1 : inL Λ v1 8) {r : Mem} (hm : jn_X6_pairShips_79 N Λ μ k54 v0 v1 v2 v3 = some r) : J x 4 Λ (QV x Λ r) 79 [(0, .ref v0), (1, .ref v1), (2, .int v2), (3, .int v3)] [] μ := by
  obtain ⟨y1, e2, hm⟩ := lt_some hm
  refine j_iinc C 3 (v := y1) (lv' := [(3, .int y1), (0, .ref v0), (1, .ref v1), (2, .int v2)]) dX6_pairShips_79 rfl (by rw [e2]; rfl) (by decide) rfl ?_
  refine j_goto C (tgt := 54) dX6_pairShips_82 (by decide) ?_
  refine j_sub [1, 2, 3, 0] rfl ?_
  exact hk54 (y1, μ) _ hm
set_option maxRecDepth 20000 in
set_option maxHeartbeats 4000000 in
theorem tb_X6_pairShips_54 {x : Ctx} {Λ : Lay} (C : Cx x cX6_pairShips 4 none RX6 Λ rm_X6_pairShips) (N : Nat) (μ : Mem) (k54 : Int32 × Mem → Option (Mem)) (v0 : Nat) (v1 : Nat) (v2 : Int32) (v3 : Int32) (hk54 : ∀ (s : Int32 × Mem) (r : Mem), k54 s = some r → J x 4 Λ (QV x Λ r) 54 [(0, .ref v0), (1, .ref v1), (2, .int v2), (3, .int s.1)] [] (s.2)) (hv0 : inL Λ v0 6) (hv1 : inL Λ v1 8) {r : Mem} (hm : bd_X6_pairShips_54 N Λ μ k54 v0 v1 v2 v3 = some r) : J x 4 Λ (QV x Λ r) 54 [(0, .ref v0), (1, .ref v1), (2, .int v2), (3, .int v3)] [] μ := by
  refine j_iload_n C 3 dX6_pairShips_54 rfl ?_
  refine j_iload_n C 2 dX6_pairShips_55 rfl ?_
  refine j_icmp_gt C (tgt := 85) dX6_pairShips_56 (by decide) (fun h1 => ?_) (fun h1 => ?_)
  · replace hm := if_t hm h1
    refine j_aload_n C 0 dX6_pairShips_85 rfl ?_
    refine j_aload_n C 0 dX6_pairShips_86 rfl ?_
    obtain ⟨q2, h3, hm⟩ := bd_some hm
    refine j_getR C fg_X6_21_6 hv0 (dr_spec h3).1 dX6_pairShips_87 ?_
    refine j_iload_n C 2 dX6_pairShips_90 rfl ?_
    obtain ⟨h4, hm⟩ := gd_some hm
    refine j_iald C ((dr_spec h3).2) h4 dX6_pairShips_91 ?_
    obtain ⟨μ5, e6, hm⟩ := lt_some hm
    refine j_putI C fp_X6_54_6 hv0 e6 dX6_pairShips_92 ?_
    refine j_aload_n C 0 dX6_pairShips_95 rfl ?_
    refine j_iload_n C 2 dX6_pairShips_96 rfl ?_
    refine j_aload_n C 1 dX6_pairShips_97 rfl ?_
    obtain ⟨r7, h8, hm⟩ := bd_some hm
    refine call_V (run_LV C lk_X6_125 ⟨rfl, rfl, Nat.le_of_ble_eq_true rfl, Nat.le_of_ble_eq_true rfl⟩ (As := [.int v2, .ref v1]) hv0 rfl rfl (Nat.le_of_ble_eq_true rfl) dX6_pairShips_98 (mc_X6_findMates _ _ _ _ _ _ _ hv0 hv1 h8)) ?_
    obtain rfl := Option.some.inj hm
    exact j_vret C dX6_pairShips_101
  · replace hm := if_f hm h1
    refine j_iload_n C 3 dX6_pairShips_59 rfl ?_
    refine j_iload_n C 2 dX6_pairShips_60 rfl ?_
    refine j_iconst C (v := -1) dX6_pairShips_61 rfl ?_
    refine j_ixor C dX6_pairShips_62 ?_
    refine j_iand C dX6_pairShips_63 ?_
    refine j_if_ne C (tgt := 79) dX6_pairShips_64 (by decide) (fun h9 => ?_) (fun h9 => ?_)
    · replace hm := if_f hm h9
      exact tj_X6_pairShips_79 C _ _ _ _ _ _ _ hk54 hv0 hv1 hm
    · replace hm := if_t hm h9
      refine j_aload_n C 0 dX6_pairShips_67 rfl ?_
      obtain ⟨q10, h11, hm⟩ := bd_some hm
      refine j_getR C fg_X6_21_6 hv0 (dr_spec h11).1 dX6_pairShips_68 ?_
      refine j_iload_n C 3 dX6_pairShips_71 rfl ?_
      refine j_aload_n C 0 dX6_pairShips_72 rfl ?_
      refine j_iload_n C 3 dX6_pairShips_73 rfl ?_
      refine j_aload_n C 1 dX6_pairShips_74 rfl ?_
      obtain ⟨r12, h13, hm⟩ := bd_some hm
      refine call_I (run_LV C lk_X6_122 ⟨rfl, rfl, Nat.le_of_ble_eq_true rfl, Nat.le_of_ble_eq_true rfl⟩ (As := [.int v3, .ref v1]) hv0 rfl rfl (Nat.le_of_ble_eq_true rfl) dX6_pairShips_75 (mc_X6_pairedWork _ _ _ _ _ _ _ hv0 hv1 h13)) ?_
      obtain ⟨h14, hm⟩ := gd_some hm
      obtain ⟨μ15, e16, hm⟩ := lt_some hm
      refine j_iast C ((dr_spec h11).2) h14 e16 dX6_pairShips_78 ?_
      exact tj_X6_pairShips_79 C _ _ _ _ _ _ _ hk54 hv0 hv1 hm
set_option maxRecDepth 20000 in
set_option maxHeartbeats 4000000 in
theorem tl_X6_pairShips_54 {x : Ctx} {Λ : Lay} (C : Cx x cX6_pairShips 4 none RX6 Λ rm_X6_pairShips) (N : Nat) (v0 : Nat) (v1 : Nat) (v2 : Int32) (hv0 : inL Λ v0 6) (hv1 : inL Λ v1 8) (s : Int32 × Mem) {r : Mem} (hm : lp_X6_pairShips_54 N Λ v0 v1 v2 s = some r) : J x 4 Λ (QV x Λ r) 54 [(0, .ref v0), (1, .ref v1), (2, .int v2), (3, .int s.1)] [] (s.2) :=
  cw_ind (P := fun s r => J x 4 Λ (QV x Λ r) 54 [(0, .ref v0), (1, .ref v1), (2, .int v2), (3, .int s.1)] [] (s.2)) (fun k hkk s r e => tb_X6_pairShips_54 C _ _ _ _ _ _ _ hkk hv0 hv1 e) N s r hm
set_option maxRecDepth 20000 in
set_option maxHeartbeats 4000000 in
theorem tb_X6_pairShips_4 {x : Ctx} {Λ : Lay} (C : Cx x cX6_pairShips 4 none RX6 Λ rm_X6_pairShips) (N : Nat) (μ : Mem) (k4 : Int32 × Int32 × Mem → Option (Mem)) (v0 : Nat) (v1 : Nat) (v2 : Int32) (v3 : Int32) (hk4 : ∀ (s : Int32 × Int32 × Mem) (r : Mem), k4 s = some r → J x 4 Λ (QV x Λ r) 4 [(0, .ref v0), (1, .ref v1), (2, .int s.1), (3, .int s.2.1)] [] (s.2.2)) (hv0 : inL Λ v0 6) (hv1 : inL Λ v1 8) {r : Mem} (hm : bd_X6_pairShips_4 N Λ μ k4 v0 v1 v2 v3 = some r) : J x 4 Λ (QV x Λ r) 4 [(0, .ref v0), (1, .ref v1), (2, .int v2), (3, .int v3)] [] μ := by
  refine j_iload_n C 3 dX6_pairShips_4 rfl ?_
  refine j_aload_n C 1 dX6_pairShips_5 rfl ?_
  refine j_getI C fg_X6_41_8 hv1 dX6_pairShips_6 ?_
  refine j_icmp_ge C (tgt := 45) dX6_pairShips_9 (by decide) (fun h1 => ?_) (fun h1 => ?_)
  · replace hm := if_t hm h1
    refine j_aload_n C 0 dX6_pairShips_45 rfl ?_
    obtain ⟨q2, h3, hm⟩ := bd_some hm
    refine j_getR C fg_X6_21_6 hv0 (dr_spec h3).1 dX6_pairShips_46 ?_
    refine j_iconst C (v := 0) dX6_pairShips_49 rfl ?_
    refine j_iconst C (v := 0) dX6_pairShips_50 rfl ?_
    obtain ⟨h4, hm⟩ := gd_some hm
    obtain ⟨μ5, e6, hm⟩ := lt_some hm
    refine j_iast C ((dr_spec h3).2) h4 e6 dX6_pairShips_51 ?_
    refine j_iconst C (v := 1) dX6_pairShips_52 rfl ?_
    refine j_istore_n C (lv' := [(3, .int 1), (0, .ref v0), (1, .ref v1), (2, .int v2)]) dX6_pairShips_53 (by decide) rfl ?_
    refine j_sub [1, 2, 3, 0] rfl ?_
    exact tl_X6_pairShips_54 C _ _ _ _ hv0 hv1 (1, μ5) hm
  · replace hm := if_f hm h1
    refine j_iload_n C 2 dX6_pairShips_12 rfl ?_
    refine j_aload_n C 1 dX6_pairShips_13 rfl ?_
    obtain ⟨q7, h8, hm⟩ := bd_some hm
    refine j_getR C fg_X6_45_8 hv1 (dr_spec h8).1 dX6_pairShips_14 ?_
    refine j_iload_n C 3 dX6_pairShips_17 rfl ?_
    obtain ⟨h9, hm⟩ := gd_some hm
    refine j_iald C ((dr_spec h8).2) h9 dX6_pairShips_18 ?_
    refine j_iconst C (v := 2) dX6_pairShips_19 rfl ?_
    refine j_icmp_eq C (tgt := 29) dX6_pairShips_20 (by decide) (fun h10 => ?_) (fun h10 => ?_)
    · replace hm := if_t hm h10
      refine j_iconst C (v := 0) dX6_pairShips_29 rfl ?_
      refine j_sub [0, 1, 3] rfl ?_
      exact tj_X6_pairShips_30 C _ _ _ _ _ _ _ _ hk4 hv0 hv1 hm
    · replace hm := if_f hm h10
      refine j_iconst C (v := 1) dX6_pairShips_23 rfl ?_
      refine j_iload_n C 3 dX6_pairShips_24 rfl ?_
      refine j_ishl C dX6_pairShips_25 ?_
      refine j_goto C (tgt := 30) dX6_pairShips_26 (by decide) ?_
      refine j_sub [0, 1, 3] rfl ?_
      exact tj_X6_pairShips_30 C _ _ _ _ _ _ _ _ hk4 hv0 hv1 hm
set_option maxRecDepth 20000 in
set_option maxHeartbeats 4000000 in
theorem tl_X6_pairShips_4 {x : Ctx} {Λ : Lay} (C : Cx x cX6_pairShips 4 none RX6 Λ rm_X6_pairShips) (N : Nat) (v0 : Nat) (v1 : Nat) (hv0 : inL Λ v0 6) (hv1 : inL Λ v1 8) (s : Int32 × Int32 × Mem) {r : Mem} (hm : lp_X6_pairShips_4 N Λ v0 v1 s = some r) : J x 4 Λ (QV x Λ r) 4 [(0, .ref v0), (1, .ref v1), (2, .int s.1), (3, .int s.2.1)] [] (s.2.2) :=
  cw_ind (P := fun s r => J x 4 Λ (QV x Λ r) 4 [(0, .ref v0), (1, .ref v1), (2, .int s.1), (3, .int s.2.1)] [] (s.2.2)) (fun k hkk s r e => tb_X6_pairShips_4 C _ _ _ _ _ _ _ hkk hv0 hv1 e) N s r hm
set_option maxRecDepth 20000 in
set_option maxHeartbeats 4000000 in
theorem tm_X6_pairShips {x : Ctx} {Λ : Lay} (C : Cx x cX6_pairShips 4 none RX6 Λ rm_X6_pairShips) (N : Nat) (μ : Mem) (v0 : Nat) (v1 : Nat) (hv0 : inL Λ v0 6) (hv1 : inL Λ v1 8) {r : Mem} (hm : m_X6_pairShips N Λ μ v0 v1 = some r) : J x 4 Λ (QV x Λ r) 0 [(0, .ref v0), (1, .ref v1)] [] μ := by
  refine j_iconst C (v := 0) dX6_pairShips_0 rfl ?_
  refine j_istore_n C (lv' := [(2, .int 0), (0, .ref v0), (1, .ref v1)]) dX6_pairShips_1 (by decide) rfl ?_
  refine j_iconst C (v := 0) dX6_pairShips_2 rfl ?_
  refine j_istore_n C (lv' := [(3, .int 0), (2, .int 0), (0, .ref v0), (1, .ref v1)]) dX6_pairShips_3 (by decide) rfl ?_
  refine j_sub [2, 3, 1, 0] rfl ?_
  exact tl_X6_pairShips_4 C _ _ _ hv0 hv1 (0, 0, μ) hm
set_option maxRecDepth 20000 in
set_option maxHeartbeats 4000000 in
theorem mc_X6_pairShips (l : Launch) (N : Nat) (Λ : Lay) (μ : Mem) (v0 : Nat) (v1 : Nat) (hv0 : inL Λ v0 6) (hv1 : inL Λ v1 8) {r : Mem} (hm : m_X6_pairShips N Λ μ v0 v1 = some r) : MV l yX6_pairShips cX6_pairShips 4 rm_X6_pairShips Λ [.ref v0, .ref v1] μ r := mv_of rfl (Nat.le_of_ble_eq_true rfl) (fun x C _ => tm_X6_pairShips C _ _ _ _ hv0 hv1 hm)
abbrev rm_X6_knockValue : Room := { frames := 0, cells := 0, slots := 0, locals := 0 }
set_option maxRecDepth 20000 in
set_option maxHeartbeats 4000000 in
theorem tj_X6_knockValue_43 {x : Ctx} {Λ : Lay} (C : Cx x cX6_knockValue 4 (some .int) RX6 Λ rm_X6_knockValue) (N : Nat) (μ : Mem) (k6 : Int32 × Int32 × Int32 → Option (Int32)) (v0 : Int32) (v1 : Int32) (v2 : Int32) (v3 : Int32) (hk6 : ∀ (s : Int32 × Int32 × Int32) (r : Int32), k6 s = some r → J x 4 Λ (QI x Λ r μ) 6 [(0, .int v0), (1, .int s.1), (2, .int s.2.1), (3, .int s.2.2)] [] (μ)) {r : Int32} (hm : jn_X6_knockValue_43 N Λ μ k6 v0 v1 v2 v3 = some r) : J x 4 Λ (QI x Λ r μ) 43 [(0, .int v0), (1, .int v1), (2, .int v2), (3, .int v3)] [] μ := by
  obtain ⟨y1, e2, hm⟩ := lt_some hm
  refine j_iinc C 3 (v := y1) (lv' := [(3, .int y1), (0, .int v0), (1, .int v1), (2, .int v2)]) dX6_knockValue_43 rfl (by rw [e2]; rfl) (by decide) rfl ?_
  refine j_goto C (tgt := 6) dX6_knockValue_46 (by decide) ?_
  refine j_sub [1, 2, 3, 0] rfl ?_
  exact hk6 (v1, v2, y1) _ hm
set_option maxRecDepth 20000 in
set_option maxHeartbeats 4000000 in
theorem tj_X6_knockValue_33 {x : Ctx} {Λ : Lay} (C : Cx x cX6_knockValue 4 (some .int) RX6 Λ rm_X6_knockValue) (N : Nat) (μ : Mem) (k6 : Int32 × Int32 × Int32 → Option (Int32)) (v0 : Int32) (v1 : Int32) (v2 : Int32) (v3 : Int32) (hk6 : ∀ (s : Int32 × Int32 × Int32) (r : Int32), k6 s = some r → J x 4 Λ (QI x Λ r μ) 6 [(0, .int v0), (1, .int s.1), (2, .int s.2.1), (3, .int s.2.2)] [] (μ)) {r : Int32} (hm : jn_X6_knockValue_33 N Λ μ k6 v0 v1 v2 v3 = some r) : J x 4 Λ (QI x Λ r μ) 33 [(0, .int v0), (1, .int v1), (2, .int v2), (3, .int v3)] [] μ := by
  refine j_iload_n C 1 dX6_knockValue_33 rfl ?_
  refine j_gets1 C wk_654 dX6_knockValue_34 ?_
  refine j_iload_n C 2 dX6_knockValue_37 rfl ?_
  obtain ⟨h1, hm⟩ := gd_some hm
  refine j_sald1 C h1 dX6_knockValue_38 ?_
  refine j_ixor C dX6_knockValue_39 ?_
  obtain ⟨y2, e3, hm⟩ := lt_some hm
  refine j_topi e3 ?_
  refine j_istore_n C (lv' := [(1, .int y2), (0, .int v0), (2, .int v2), (3, .int v3)]) dX6_knockValue_40 (by decide) rfl ?_
  refine j_iconst C (v := 0) dX6_knockValue_41 rfl ?_
  refine j_istore_n C (lv' := [(2, .int 0), (1, .int y2), (0, .int v0), (3, .int v3)]) dX6_knockValue_42 (by decide) rfl ?_
  refine j_sub [2, 1, 0, 3] rfl ?_
  exact tj_X6_knockValue_43 C _ _ _ _ _ _ _ hk6 hm
set_option maxRecDepth 20000 in
set_option maxHeartbeats 4000000 in
theorem tb_X6_knockValue_6 {x : Ctx} {Λ : Lay} (C : Cx x cX6_knockValue 4 (some .int) RX6 Λ rm_X6_knockValue) (N : Nat) (μ : Mem) (k6 : Int32 × Int32 × Int32 → Option (Int32)) (v0 : Int32) (v1 : Int32) (v2 : Int32) (v3 : Int32) (hk6 : ∀ (s : Int32 × Int32 × Int32) (r : Int32), k6 s = some r → J x 4 Λ (QI x Λ r μ) 6 [(0, .int v0), (1, .int s.1), (2, .int s.2.1), (3, .int s.2.2)] [] (μ)) {r : Int32} (hm : bd_X6_knockValue_6 N Λ μ k6 v0 v1 v2 v3 = some r) : J x 4 Λ (QI x Λ r μ) 6 [(0, .int v0), (1, .int v1), (2, .int v2), (3, .int v3)] [] μ := by
  refine j_iload_n C 3 dX6_knockValue_6 rfl ?_
  refine j_bipush C (v := 24) dX6_knockValue_7 rfl ?_
  refine j_icmp_gt C (tgt := 49) dX6_knockValue_9 (by decide) (fun h1 => ?_) (fun h1 => ?_)
  · replace hm := if_t hm h1
    refine j_iload_n C 1 dX6_knockValue_49 rfl ?_
    obtain rfl := Option.some.inj hm
    exact j_ireti C dX6_knockValue_50
  · replace hm := if_f hm h1
    refine j_iload_n C 3 dX6_knockValue_12 rfl ?_
    refine j_bipush C (v := 24) dX6_knockValue_13 rfl ?_
    refine j_icmp_ge C (tgt := 33) dX6_knockValue_15 (by decide) (fun h2 => ?_) (fun h2 => ?_)
    · replace hm := if_t hm h2
      exact tj_X6_knockValue_33 C _ _ _ _ _ _ _ hk6 hm
    · replace hm := if_f hm h2
      refine j_iload_n C 0 dX6_knockValue_18 rfl ?_
      refine j_iload_n C 3 dX6_knockValue_19 rfl ?_
      refine j_ishr C dX6_knockValue_20 ?_
      refine j_iconst C (v := 1) dX6_knockValue_21 rfl ?_
      refine j_iand C dX6_knockValue_22 ?_
      refine j_iconst C (v := 1) dX6_knockValue_23 rfl ?_
      refine j_icmp_ne C (tgt := 33) dX6_knockValue_24 (by decide) (fun h3 => ?_) (fun h3 => ?_)
      · replace hm := if_f hm h3
        exact tj_X6_knockValue_33 C _ _ _ _ _ _ _ hk6 hm
      · replace hm := if_t hm h3
        obtain ⟨y4, e5, hm⟩ := lt_some hm
        refine j_iinc C 2 (v := y4) (lv' := [(2, .int y4), (0, .int v0), (1, .int v1), (3, .int v3)]) dX6_knockValue_27 rfl (by rw [e5]; rfl) (by decide) rfl ?_
        refine j_goto C (tgt := 43) dX6_knockValue_30 (by decide) ?_
        refine j_sub [1, 2, 0, 3] rfl ?_
        exact tj_X6_knockValue_43 C _ _ _ _ _ _ _ hk6 hm
set_option maxRecDepth 20000 in
set_option maxHeartbeats 4000000 in
theorem tl_X6_knockValue_6 {x : Ctx} {Λ : Lay} (C : Cx x cX6_knockValue 4 (some .int) RX6 Λ rm_X6_knockValue) (N : Nat) (μ : Mem) (v0 : Int32) (s : Int32 × Int32 × Int32) {r : Int32} (hm : lp_X6_knockValue_6 N Λ μ v0 s = some r) : J x 4 Λ (QI x Λ r μ) 6 [(0, .int v0), (1, .int s.1), (2, .int s.2.1), (3, .int s.2.2)] [] (μ) :=
  cw_ind (P := fun s r => J x 4 Λ (QI x Λ r μ) 6 [(0, .int v0), (1, .int s.1), (2, .int s.2.1), (3, .int s.2.2)] [] (μ)) (fun k hkk s r e => tb_X6_knockValue_6 C _ _ _ _ _ _ _ hkk e) N s r hm
set_option maxRecDepth 20000 in
set_option maxHeartbeats 4000000 in
theorem tm_X6_knockValue {x : Ctx} {Λ : Lay} (C : Cx x cX6_knockValue 4 (some .int) RX6 Λ rm_X6_knockValue) (N : Nat) (μ : Mem) (v0 : Int32) {r : Int32} (hm : m_X6_knockValue N Λ μ v0 = some r) : J x 4 Λ (QI x Λ r μ) 0 [(0, .int v0)] [] μ := by
  refine j_iconst C (v := 0) dX6_knockValue_0 rfl ?_
  refine j_istore_n C (lv' := [(1, .int 0), (0, .int v0)]) dX6_knockValue_1 (by decide) rfl ?_
  refine j_iconst C (v := 0) dX6_knockValue_2 rfl ?_
  refine j_istore_n C (lv' := [(2, .int 0), (1, .int 0), (0, .int v0)]) dX6_knockValue_3 (by decide) rfl ?_
  refine j_iconst C (v := 0) dX6_knockValue_4 rfl ?_
  refine j_istore_n C (lv' := [(3, .int 0), (2, .int 0), (1, .int 0), (0, .int v0)]) dX6_knockValue_5 (by decide) rfl ?_
  refine j_sub [3, 2, 1, 0] rfl ?_
  exact tl_X6_knockValue_6 C _ _ _  (0, 0, 0) hm
set_option maxRecDepth 20000 in
set_option maxHeartbeats 4000000 in
theorem mc_X6_knockValue (l : Launch) (N : Nat) (Λ : Lay) (μ : Mem) (v0 : Int32) {r : Int32} (hm : m_X6_knockValue N Λ μ v0 = some r) : MI l yX6_knockValue cX6_knockValue 4 (some .int) rm_X6_knockValue Λ [.int v0] μ r μ := mi_of rfl (Nat.le_of_ble_eq_true rfl) (fun x C _ => tm_X6_knockValue C _ _ _  hm)
abbrev rm_X6_winningKnock : Room := { frames := 1, cells := 0, slots := 0, locals := 23 }
set_option maxRecDepth 20000 in
set_option maxHeartbeats 4000000 in
theorem tj_X6_winningKnock_44 {x : Ctx} {Λ : Lay} (C : Cx x cX6_winningKnock 3 (some .int) RX6 Λ rm_X6_winningKnock) (N : Nat) (μ : Mem) (k2 : Int32 → Option (Int32)) (v0 : Int32) (v1 : Int32) (hk2 : ∀ (s : Int32) (r : Int32), k2 s = some r → J x 3 Λ (QI x Λ r μ) 2 [(0, .int v0), (1, .int s)] [] (μ)) {r : Int32} (hm : jn_X6_winningKnock_44 N Λ μ k2 v0 v1 = some r) : J x 3 Λ (QI x Λ r μ) 44 [(0, .int v0), (1, .int v1)] [] μ := by
  obtain ⟨y1, e2, hm⟩ := lt_some hm
  refine j_iinc C 1 (v := y1) (lv' := [(1, .int y1), (0, .int v0)]) dX6_winningKnock_44 rfl (by rw [e2]; rfl) (by decide) rfl ?_
  refine j_goto C (tgt := 2) dX6_winningKnock_47 (by decide) ?_
  refine j_sub [1, 0] rfl ?_
  exact hk2 y1 _ hm
set_option maxRecDepth 20000 in
set_option maxHeartbeats 4000000 in
theorem tj_X6_winningKnock_19 {x : Ctx} {Λ : Lay} (C : Cx x cX6_winningKnock 3 (some .int) RX6 Λ rm_X6_winningKnock) (N : Nat) (μ : Mem) (k2 : Int32 → Option (Int32)) (v0 : Int32) (v1 : Int32) (s0 : Int32) (hk2 : ∀ (s : Int32) (r : Int32), k2 s = some r → J x 3 Λ (QI x Λ r μ) 2 [(0, .int v0), (1, .int s)] [] (μ)) {r : Int32} (hm : jn_X6_winningKnock_19 N Λ μ k2 v0 v1 s0 = some r) : J x 3 Λ (QI x Λ r μ) 19 [(0, .int v0), (1, .int v1)] [.int s0] μ := by
  refine j_iload_n C 1 dX6_winningKnock_19 rfl ?_
  refine j_iconst C (v := 2) dX6_winningKnock_20 rfl ?_
  refine j_idiv C dX6_winningKnock_21 (by decide) ?_
  refine j_ishl C dX6_winningKnock_22 ?_
  obtain ⟨y1, e2, hm⟩ := lt_some hm
  refine j_topi e2 ?_
  refine j_istore_n C (lv' := [(2, .int y1), (0, .int v0), (1, .int v1)]) dX6_winningKnock_23 (by decide) rfl ?_
  refine j_iload_n C 1 dX6_winningKnock_24 rfl ?_
  refine j_iload_n C 0 dX6_winningKnock_25 rfl ?_
  refine j_iand C dX6_winningKnock_26 ?_
  refine j_iload_n C 0 dX6_winningKnock_27 rfl ?_
  refine j_icmp_ne C (tgt := 44) dX6_winningKnock_28 (by decide) (fun h3 => ?_) (fun h3 => ?_)
  · replace hm := if_f hm h3
    refine j_sub [1, 2] rfl ?_
    exact tj_X6_winningKnock_44 C _ _ _ _ _ hk2 hm
  · replace hm := if_t hm h3
    refine j_iload_n C 1 dX6_winningKnock_31 rfl ?_
    refine j_iload_n C 0 dX6_winningKnock_32 rfl ?_
    refine j_iconst C (v := -1) dX6_winningKnock_33 rfl ?_
    refine j_ixor C dX6_winningKnock_34 ?_
    refine j_iand C dX6_winningKnock_35 ?_
    obtain ⟨r4, h5, hm⟩ := bd_some hm
    refine call_I (run_LS C ls_X6_144 ⟨rfl, rfl, Nat.le_of_ble_eq_true rfl, Nat.le_of_ble_eq_true rfl⟩ (As := [.int (v0 &&& (y1 ^^^ (-1)))]) rfl rfl (Nat.le_of_ble_eq_true rfl) dX6_winningKnock_36 (mc_X6_knockValue _ _ _ _ _  h5)) ?_
    refine j_if_ne C (tgt := 44) dX6_winningKnock_39 (by decide) (fun h6 => ?_) (fun h6 => ?_)
    · replace hm := if_f hm h6
      refine j_sub [1, 2] rfl ?_
      exact tj_X6_winningKnock_44 C _ _ _ _ _ hk2 hm
    · replace hm := if_t hm h6
      refine j_iload_n C 2 dX6_winningKnock_42 rfl ?_
      obtain rfl := Option.some.inj hm
      exact j_ireti C dX6_winningKnock_43
set_option maxRecDepth 20000 in
set_option maxHeartbeats 4000000 in
theorem tb_X6_winningKnock_2 {x : Ctx} {Λ : Lay} (C : Cx x cX6_winningKnock 3 (some .int) RX6 Λ rm_X6_winningKnock) (N : Nat) (μ : Mem) (k2 : Int32 → Option (Int32)) (v0 : Int32) (v1 : Int32) (hk2 : ∀ (s : Int32) (r : Int32), k2 s = some r → J x 3 Λ (QI x Λ r μ) 2 [(0, .int v0), (1, .int s)] [] (μ)) {r : Int32} (hm : bd_X6_winningKnock_2 N Λ μ k2 v0 v1 = some r) : J x 3 Λ (QI x Λ r μ) 2 [(0, .int v0), (1, .int v1)] [] μ := by
  refine j_iload_n C 1 dX6_winningKnock_2 rfl ?_
  refine j_bipush C (v := 48) dX6_winningKnock_3 rfl ?_
  refine j_icmp_ge C (tgt := 50) dX6_winningKnock_5 (by decide) (fun h1 => ?_) (fun h1 => ?_)
  · replace hm := if_t hm h1
    refine j_iconst C (v := -1) dX6_winningKnock_50 rfl ?_
    obtain rfl := Option.some.inj hm
    exact j_ireti C dX6_winningKnock_51
  · replace hm := if_f hm h1
    refine j_iload_n C 1 dX6_winningKnock_8 rfl ?_
    refine j_iconst C (v := 2) dX6_winningKnock_9 rfl ?_
    refine j_irem C dX6_winningKnock_10 (by decide) ?_
    refine j_if_ne C (tgt := 18) dX6_winningKnock_11 (by decide) (fun h2 => ?_) (fun h2 => ?_)
    · replace hm := if_f hm h2
      refine j_iconst C (v := 3) dX6_winningKnock_18 rfl ?_
      exact tj_X6_winningKnock_19 C _ _ _ _ _ _ hk2 hm
    · replace hm := if_t hm h2
      refine j_iconst C (v := 1) dX6_winningKnock_14 rfl ?_
      refine j_goto C (tgt := 19) dX6_winningKnock_15 (by decide) ?_
      exact tj_X6_winningKnock_19 C _ _ _ _ _ _ hk2 hm
set_option maxRecDepth 20000 in
set_option maxHeartbeats 4000000 in
theorem tl_X6_winningKnock_2 {x : Ctx} {Λ : Lay} (C : Cx x cX6_winningKnock 3 (some .int) RX6 Λ rm_X6_winningKnock) (N : Nat) (μ : Mem) (v0 : Int32) (s : Int32) {r : Int32} (hm : lp_X6_winningKnock_2 N Λ μ v0 s = some r) : J x 3 Λ (QI x Λ r μ) 2 [(0, .int v0), (1, .int s)] [] (μ) :=
  cw_ind (P := fun s r => J x 3 Λ (QI x Λ r μ) 2 [(0, .int v0), (1, .int s)] [] (μ)) (fun k hkk s r e => tb_X6_winningKnock_2 C _ _ _ _ _ hkk e) N s r hm
set_option maxRecDepth 20000 in
set_option maxHeartbeats 4000000 in
theorem tm_X6_winningKnock {x : Ctx} {Λ : Lay} (C : Cx x cX6_winningKnock 3 (some .int) RX6 Λ rm_X6_winningKnock) (N : Nat) (μ : Mem) (v0 : Int32) {r : Int32} (hm : m_X6_winningKnock N Λ μ v0 = some r) : J x 3 Λ (QI x Λ r μ) 0 [(0, .int v0)] [] μ := by
  refine j_iconst C (v := 0) dX6_winningKnock_0 rfl ?_
  refine j_istore_n C (lv' := [(1, .int 0), (0, .int v0)]) dX6_winningKnock_1 (by decide) rfl ?_
  refine j_sub [1, 0] rfl ?_
  exact tl_X6_winningKnock_2 C _ _ _  0 hm
set_option maxRecDepth 20000 in
set_option maxHeartbeats 4000000 in
theorem mc_X6_winningKnock (l : Launch) (N : Nat) (Λ : Lay) (μ : Mem) (v0 : Int32) {r : Int32} (hm : m_X6_winningKnock N Λ μ v0 = some r) : MI l yX6_winningKnock cX6_winningKnock 3 (some .int) rm_X6_winningKnock Λ [.int v0] μ r μ := mi_of rfl (Nat.le_of_ble_eq_true rfl) (fun x C _ => tm_X6_winningKnock C _ _ _  hm)
abbrev rm_X6_mastersShare : Room := { frames := 0, cells := 0, slots := 0, locals := 0 }
set_option maxRecDepth 20000 in
set_option maxHeartbeats 4000000 in
theorem tm_X6_mastersShare {x : Ctx} {Λ : Lay} (C : Cx x cX6_mastersShare 4 (some .int) RX6 Λ rm_X6_mastersShare) (N : Nat) (μ : Mem) (v0 : Int32) (v1 : Int32) (v2 : Int32) (v3 : Int32) {r : Int32} (hm : m_X6_mastersShare N Λ μ v0 v1 v2 v3 = some r) : J x 4 Λ (QI x Λ r μ) 0 [(0, .int v0), (1, .int v1), (2, .int v2), (3, .int v3)] [] μ := by
  refine j_iload_n C 0 dX6_mastersShare_0 rfl ?_
  by_cases h1 : v0 = 0
  · replace hm := if_t hm h1
    refine j_tabI C (tgt := 28) 0 dX6_mastersShare_1 (by rw [h1]; first | done | rfl) (by decide) (by decide) rfl (by decide) ?_
    refine j_iload_n C 1 dX6_mastersShare_28 rfl ?_
    obtain rfl := Option.some.inj hm
    exact j_ireti C dX6_mastersShare_29
  replace hm := if_f hm h1
  by_cases h2 : v0 = 1
  · replace hm := if_t hm h2
    refine j_tabI C (tgt := 30) 1 dX6_mastersShare_1 (by rw [h2]; first | done | rfl) (by decide) (by decide) rfl (by decide) ?_
    refine j_bipush C (v := -3) dX6_mastersShare_30 rfl ?_
    obtain rfl := Option.some.inj hm
    exact j_ireti C dX6_mastersShare_32
  replace hm := if_f hm h2
  by_cases h3 : v0 = 2
  · replace hm := if_t hm h3
    refine j_tabI C (tgt := 33) 2 dX6_mastersShare_1 (by rw [h3]; first | done | rfl) (by decide) (by decide) rfl (by decide) ?_
    refine j_iload_n C 2 dX6_mastersShare_33 rfl ?_
    refine j_ineg C dX6_mastersShare_34 ?_
    obtain rfl := Option.some.inj hm
    exact j_ireti C dX6_mastersShare_35
  replace hm := if_f hm h3
  refine j_tabO C (tgt := 36) dX6_mastersShare_1 (sw_out v0 [0, 1, 2] (by decide +kernel) ?_) (by decide) ?_
  · simp only [List.mem_cons, List.not_mem_nil, or_false, not_or]; exact ⟨h1, h2, h3⟩
  refine j_iload_n C 3 dX6_mastersShare_36 rfl ?_
  obtain rfl := Option.some.inj hm
  exact j_ireti C dX6_mastersShare_37
set_option maxRecDepth 20000 in
set_option maxHeartbeats 4000000 in
theorem mc_X6_mastersShare (l : Launch) (N : Nat) (Λ : Lay) (μ : Mem) (v0 : Int32) (v1 : Int32) (v2 : Int32) (v3 : Int32) {r : Int32} (hm : m_X6_mastersShare N Λ μ v0 v1 v2 v3 = some r) : MI l yX6_mastersShare cX6_mastersShare 4 (some .int) rm_X6_mastersShare Λ [.int v0, .int v1, .int v2, .int v3] μ r μ := mi_of rfl (Nat.le_of_ble_eq_true rfl) (fun x C _ => tm_X6_mastersShare C _ _ _ _ _ _  hm)
abbrev rm_X6_pilotsShare : Room := { frames := 0, cells := 0, slots := 0, locals := 0 }
set_option maxRecDepth 20000 in
set_option maxHeartbeats 4000000 in
theorem tm_X6_pilotsShare {x : Ctx} {Λ : Lay} (C : Cx x cX6_pilotsShare 1 (some .int) RX6 Λ rm_X6_pilotsShare) (N : Nat) (μ : Mem) (v0 : Int32) {r : Int32} (hm : m_X6_pilotsShare N Λ μ v0 = some r) : J x 1 Λ (QI x Λ r μ) 0 [(0, .int v0)] [] μ := by
  refine j_iload_n C 0 dX6_pilotsShare_0 rfl ?_
  by_cases h1 : v0 = 0
  · replace hm := if_t hm h1
    refine j_look C (tgt := 28) dX6_pilotsShare_1 (by decide) (by rw [h1]; first | done | rfl) (by decide) ?_
    refine j_iconst C (v := 2) dX6_pilotsShare_28 rfl ?_
    obtain rfl := Option.some.inj hm
    exact j_ireti C dX6_pilotsShare_29
  replace hm := if_f hm h1
  by_cases h2 : v0 = 2
  · replace hm := if_t hm h2
    refine j_look C (tgt := 30) dX6_pilotsShare_1 (by decide) (by rw [h2]; first | done | rfl) (by decide) ?_
    refine j_iconst C (v := -1) dX6_pilotsShare_30 rfl ?_
    obtain rfl := Option.some.inj hm
    exact j_ireti C dX6_pilotsShare_31
  replace hm := if_f hm h2
  refine j_look C (tgt := 32) dX6_pilotsShare_1 (by decide) (sw_look v0 [0, 2] rfl ?_) (by decide) ?_
  · simp only [List.mem_cons, List.not_mem_nil, or_false, not_or]; exact ⟨h1, h2⟩
  refine j_iconst C (v := 1) dX6_pilotsShare_32 rfl ?_
  obtain rfl := Option.some.inj hm
  exact j_ireti C dX6_pilotsShare_33
set_option maxRecDepth 20000 in
set_option maxHeartbeats 4000000 in
theorem mc_X6_pilotsShare (l : Launch) (N : Nat) (Λ : Lay) (μ : Mem) (v0 : Int32) {r : Int32} (hm : m_X6_pilotsShare N Λ μ v0 = some r) : MI l yX6_pilotsShare cX6_pilotsShare 1 (some .int) rm_X6_pilotsShare Λ [.int v0] μ r μ := mi_of rfl (Nat.le_of_ble_eq_true rfl) (fun x C _ => tm_X6_pilotsShare C _ _ _  hm)
abbrev rm_X6_restingChoices : Room := { frames := 1, cells := 0, slots := 0, locals := 23 }
set_option maxRecDepth 20000 in
set_option maxHeartbeats 4000000 in
theorem tj_X6_restingChoices_80 {x : Ctx} {Λ : Lay} (C : Cx x cX6_restingChoices 7 (some .int) RX6 Λ rm_X6_restingChoices) (N : Nat) (μ : Mem) (k5 : Int32 × Int32 → Option (Int32)) (v0 : Int32) (v1 : Int32) (v2 : Int32) (v4 : Int32) (s0 : Int32) (s1 : Int32) (hk5 : ∀ (s : Int32 × Int32) (r : Int32), k5 s = some r → J x 7 Λ (QI x Λ r μ) 5 [(0, .int v0), (1, .int v1), (2, .int v2), (3, .int s.1), (4, .int s.2)] [] (μ)) {r : Int32} (hm : jn_X6_restingChoices_80 N Λ μ k5 v0 v1 v2 v4 s0 s1 = some r) : J x 7 Λ (QI x Λ r μ) 80 [(0, .int v0), (1, .int v1), (2, .int v2), (4, .int v4)] [.int s1, .int s0] μ := by
  refine j_ior C dX6_restingChoices_80 ?_
  obtain ⟨y1, e2, hm⟩ := lt_some hm
  refine j_topi e2 ?_
  refine j_istore_n C (lv' := [(3, .int y1), (0, .int v0), (1, .int v1), (2, .int v2), (4, .int v4)]) dX6_restingChoices_81 (by decide) rfl ?_
  obtain ⟨y3, e4, hm⟩ := lt_some hm
  refine j_iinc C 4 (v := y3) (lv' := [(4, .int y3), (3, .int y1), (0, .int v0), (1, .int v1), (2, .int v2)]) dX6_restingChoices_82 rfl (by rw [e4]; rfl) (by decide) rfl ?_
  refine j_goto C (tgt := 5) dX6_restingChoices_85 (by decide) ?_
  refine j_sub [2, 3, 4, 1, 0] rfl ?_
  exact hk5 (y1, y3) _ hm
set_option maxRecDepth 20000 in
set_option maxHeartbeats 4000000 in
theorem tj_X6_restingChoices_79 {x : Ctx} {Λ : Lay} (C : Cx x cX6_restingChoices 7 (some .int) RX6 Λ rm_X6_restingChoices) (N : Nat) (μ : Mem) (k5 : Int32 × Int32 → Option (Int32)) (v0 : Int32) (v1 : Int32) (v2 : Int32) (v4 : Int32) (s0 : Int32) (hk5 : ∀ (s : Int32 × Int32) (r : Int32), k5 s = some r → J x 7 Λ (QI x Λ r μ) 5 [(0, .int v0), (1, .int v1), (2, .int v2), (3, .int s.1), (4, .int s.2)] [] (μ)) {r : Int32} (hm : jn_X6_restingChoices_79 N Λ μ k5 v0 v1 v2 v4 s0 = some r) : J x 7 Λ (QI x Λ r μ) 79 [(0, .int v0), (1, .int v1), (2, .int v2), (4, .int v4)] [.int s0] μ := by
  refine j_iconst C (v := 0) dX6_restingChoices_79 rfl ?_
  exact tj_X6_restingChoices_80 C _ _ _ _ _ _ _ _ _ hk5 hm
set_option maxRecDepth 20000 in
set_option maxHeartbeats 4000000 in
theorem tj_X6_restingChoices_59 {x : Ctx} {Λ : Lay} (C : Cx x cX6_restingChoices 7 (some .int) RX6 Λ rm_X6_restingChoices) (N : Nat) (μ : Mem) (k5 : Int32 × Int32 → Option (Int32)) (v0 : Int32) (v1 : Int32) (v2 : Int32) (v3 : Int32) (v4 : Int32) (v5 : Int32) (s0 : Int32) (hk5 : ∀ (s : Int32 × Int32) (r : Int32), k5 s = some r → J x 7 Λ (QI x Λ r μ) 5 [(0, .int v0), (1, .int v1), (2, .int v2), (3, .int s.1), (4, .int s.2)] [] (μ)) {r : Int32} (hm : jn_X6_restingChoices_59 N Λ μ k5 v0 v1 v2 v3 v4 v5 s0 = some r) : J x 7 Λ (QI x Λ r μ) 59 [(0, .int v0), (1, .int v1), (2, .int v2), (3, .int v3), (4, .int v4), (5, .int v5)] [.int s0] μ := by
  refine j_istore C (lv' := [(6, .int s0), (0, .int v0), (1, .int v1), (2, .int v2), (3, .int v3), (4, .int v4), (5, .int v5)]) dX6_restingChoices_59 (by decide) rfl ?_
  refine j_iload_n C 4 dX6_restingChoices_61 rfl ?_
  refine j_iload C 6 dX6_restingChoices_62 rfl ?_
  refine j_if_eq C (tgt := 79) dX6_restingChoices_64 (by decide) (fun h1 => ?_) (fun h1 => ?_)
  · replace hm := if_t hm h1
    refine j_sub [1, 2, 3, 5] rfl ?_
    exact tj_X6_restingChoices_79 C _ _ _ _ _ _ _ _ hk5 hm
  · replace hm := if_f hm h1
    refine j_iload C 0 dX6_restingChoices_67 rfl ?_
    refine j_if_eq C (tgt := 79) dX6_restingChoices_69 (by decide) (fun h2 => ?_) (fun h2 => ?_)
    · replace hm := if_t hm h2
      refine j_sub [1, 2, 3, 5] rfl ?_
      exact tj_X6_restingChoices_79 C _ _ _ _ _ _ _ _ hk5 hm
    · replace hm := if_f hm h2
      refine j_iconst C (v := 1) dX6_restingChoices_72 rfl ?_
      refine j_iload C 5 dX6_restingChoices_73 rfl ?_
      refine j_ishl C dX6_restingChoices_75 ?_
      refine j_goto C (tgt := 80) dX6_restingChoices_76 (by decide) ?_
      refine j_sub [1, 2, 3, 5] rfl ?_
      exact tj_X6_restingChoices_80 C _ _ _ _ _ _ _ _ _ hk5 hm
set_option maxRecDepth 20000 in
set_option maxHeartbeats 4000000 in
theorem tj_X6_restingChoices_37 {x : Ctx} {Λ : Lay} (C : Cx x cX6_restingChoices 7 (some .int) RX6 Λ rm_X6_restingChoices) (N : Nat) (μ : Mem) (k5 : Int32 × Int32 → Option (Int32)) (v0 : Int32) (v1 : Int32) (v2 : Int32) (v3 : Int32) (v4 : Int32) (s0 : Int32) (hk5 : ∀ (s : Int32 × Int32) (r : Int32), k5 s = some r → J x 7 Λ (QI x Λ r μ) 5 [(0, .int v0), (1, .int v1), (2, .int v2), (3, .int s.1), (4, .int s.2)] [] (μ)) {r : Int32} (hm : jn_X6_restingChoices_37 N Λ μ k5 v0 v1 v2 v3 v4 s0 = some r) : J x 7 Λ (QI x Λ r μ) 37 [(0, .int v0), (1, .int v1), (2, .int v2), (3, .int v3), (4, .int v4)] [.int s0] μ := by
  refine j_istore C (lv' := [(5, .int s0), (0, .int v0), (1, .int v1), (2, .int v2), (3, .int v3), (4, .int v4)]) dX6_restingChoices_37 (by decide) rfl ?_
  refine j_iload C 5 dX6_restingChoices_39 rfl ?_
  obtain ⟨r1, h2, hm⟩ := bd_some hm
  refine call_I (run_LS C ls_X6_151 ⟨rfl, rfl, Nat.le_of_ble_eq_true rfl, Nat.le_of_ble_eq_true rfl⟩ (As := [.int v4]) rfl rfl (Nat.le_of_ble_eq_true rfl) dX6_restingChoices_41 (mc_X6_pilotsShare _ _ _ _ _  h2)) ?_
  refine j_iload C 5 dX6_restingChoices_44 rfl ?_
  refine j_iconst C (v := 1) dX6_restingChoices_46 rfl ?_
  refine j_ixor C dX6_restingChoices_47 ?_
  obtain ⟨r3, h4, hm⟩ := bd_some hm
  refine call_I (run_LS C ls_X6_151 ⟨rfl, rfl, Nat.le_of_ble_eq_true rfl, Nat.le_of_ble_eq_true rfl⟩ (As := [.int (v4 ^^^ 1)]) rfl rfl (Nat.le_of_ble_eq_true rfl) dX6_restingChoices_48 (mc_X6_pilotsShare _ _ _ _ _  h4)) ?_
  refine j_icmp_lt C (tgt := 58) dX6_restingChoices_51 (by decide) (fun h5 => ?_) (fun h5 => ?_)
  · replace hm := if_t hm h5
    refine j_iconst C (v := 0) dX6_restingChoices_58 rfl ?_
    refine j_sub [1, 2, 3, 4, 5, 0] rfl ?_
    exact tj_X6_restingChoices_59 C _ _ _ _ _ _ _ _ _ _ hk5 hm
  · replace hm := if_f hm h5
    refine j_iconst C (v := 1) dX6_restingChoices_54 rfl ?_
    refine j_goto C (tgt := 59) dX6_restingChoices_55 (by decide) ?_
    refine j_sub [1, 2, 3, 4, 5, 0] rfl ?_
    exact tj_X6_restingChoices_59 C _ _ _ _ _ _ _ _ _ _ hk5 hm
set_option maxRecDepth 20000 in
set_option maxHeartbeats 4000000 in
theorem tb_X6_restingChoices_5 {x : Ctx} {Λ : Lay} (C : Cx x cX6_restingChoices 7 (some .int) RX6 Λ rm_X6_restingChoices) (N : Nat) (μ : Mem) (k5 : Int32 × Int32 → Option (Int32)) (v0 : Int32) (v1 : Int32) (v2 : Int32) (v3 : Int32) (v4 : Int32) (hk5 : ∀ (s : Int32 × Int32) (r : Int32), k5 s = some r → J x 7 Λ (QI x Λ r μ) 5 [(0, .int v0), (1, .int v1), (2, .int v2), (3, .int s.1), (4, .int s.2)] [] (μ)) {r : Int32} (hm : bd_X6_restingChoices_5 N Λ μ k5 v0 v1 v2 v3 v4 = some r) : J x 7 Λ (QI x Λ r μ) 5 [(0, .int v0), (1, .int v1), (2, .int v2), (3, .int v3), (4, .int v4)] [] μ := by
  refine j_iload C 4 dX6_restingChoices_5 rfl ?_
  refine j_iconst C (v := 4) dX6_restingChoices_7 rfl ?_
  refine j_icmp_ge C (tgt := 88) dX6_restingChoices_8 (by decide) (fun h1 => ?_) (fun h1 => ?_)
  · replace hm := if_t hm h1
    refine j_iload_n C 3 dX6_restingChoices_88 rfl ?_
    obtain rfl := Option.some.inj hm
    exact j_ireti C dX6_restingChoices_89
  · replace hm := if_f hm h1
    refine j_iload C 4 dX6_restingChoices_11 rfl ?_
    refine j_iload_n C 0 dX6_restingChoices_13 rfl ?_
    refine j_iload_n C 1 dX6_restingChoices_14 rfl ?_
    refine j_iload_n C 2 dX6_restingChoices_15 rfl ?_
    obtain ⟨r2, h3, hm⟩ := bd_some hm
    refine call_I (run_LS C ls_X6_147 ⟨rfl, rfl, Nat.le_of_ble_eq_true rfl, Nat.le_of_ble_eq_true rfl⟩ (As := [.int v4, .int v0, .int v1, .int v2]) rfl rfl (Nat.le_of_ble_eq_true rfl) dX6_restingChoices_16 (mc_X6_mastersShare _ _ _ _ _ _ _ _  h3)) ?_
    refine j_iload C 4 dX6_restingChoices_19 rfl ?_
    refine j_iconst C (v := 2) dX6_restingChoices_21 rfl ?_
    refine j_ixor C dX6_restingChoices_22 ?_
    refine j_iload_n C 0 dX6_restingChoices_23 rfl ?_
    refine j_iload_n C 1 dX6_restingChoices_24 rfl ?_
    refine j_iload_n C 2 dX6_restingChoices_25 rfl ?_
    obtain ⟨r4, h5, hm⟩ := bd_some hm
    refine call_I (run_LS C ls_X6_147 ⟨rfl, rfl, Nat.le_of_ble_eq_true rfl, Nat.le_of_ble_eq_true rfl⟩ (As := [.int (v4 ^^^ 2), .int v0, .int v1, .int v2]) rfl rfl (Nat.le_of_ble_eq_true rfl) dX6_restingChoices_26 (mc_X6_mastersShare _ _ _ _ _ _ _ _  h5)) ?_
    refine j_icmp_lt C (tgt := 36) dX6_restingChoices_29 (by decide) (fun h6 => ?_) (fun h6 => ?_)
    · replace hm := if_t hm h6
      refine j_iconst C (v := 0) dX6_restingChoices_36 rfl ?_
      exact tj_X6_restingChoices_37 C _ _ _ _ _ _ _ _ _ hk5 hm
    · replace hm := if_f hm h6
      refine j_iconst C (v := 1) dX6_restingChoices_32 rfl ?_
      refine j_goto C (tgt := 37) dX6_restingChoices_33 (by decide) ?_
      exact tj_X6_restingChoices_37 C _ _ _ _ _ _ _ _ _ hk5 hm
set_option maxRecDepth 20000 in
set_option maxHeartbeats 4000000 in
theorem tl_X6_restingChoices_5 {x : Ctx} {Λ : Lay} (C : Cx x cX6_restingChoices 7 (some .int) RX6 Λ rm_X6_restingChoices) (N : Nat) (μ : Mem) (v0 : Int32) (v1 : Int32) (v2 : Int32) (s : Int32 × Int32) {r : Int32} (hm : lp_X6_restingChoices_5 N Λ μ v0 v1 v2 s = some r) : J x 7 Λ (QI x Λ r μ) 5 [(0, .int v0), (1, .int v1), (2, .int v2), (3, .int s.1), (4, .int s.2)] [] (μ) :=
  cw_ind (P := fun s r => J x 7 Λ (QI x Λ r μ) 5 [(0, .int v0), (1, .int v1), (2, .int v2), (3, .int s.1), (4, .int s.2)] [] (μ)) (fun k hkk s r e => tb_X6_restingChoices_5 C _ _ _ _ _ _ _ _ hkk e) N s r hm
set_option maxRecDepth 20000 in
set_option maxHeartbeats 4000000 in
theorem tm_X6_restingChoices {x : Ctx} {Λ : Lay} (C : Cx x cX6_restingChoices 7 (some .int) RX6 Λ rm_X6_restingChoices) (N : Nat) (μ : Mem) (v0 : Int32) (v1 : Int32) (v2 : Int32) {r : Int32} (hm : m_X6_restingChoices N Λ μ v0 v1 v2 = some r) : J x 7 Λ (QI x Λ r μ) 0 [(0, .int v0), (1, .int v1), (2, .int v2)] [] μ := by
  refine j_iconst C (v := 0) dX6_restingChoices_0 rfl ?_
  refine j_istore_n C (lv' := [(3, .int 0), (0, .int v0), (1, .int v1), (2, .int v2)]) dX6_restingChoices_1 (by decide) rfl ?_
  refine j_iconst C (v := 0) dX6_restingChoices_2 rfl ?_
  refine j_istore C (lv' := [(4, .int 0), (3, .int 0), (0, .int v0), (1, .int v1), (2, .int v2)]) dX6_restingChoices_3 (by decide) rfl ?_
  refine j_sub [2, 3, 4, 1, 0] rfl ?_
  exact tl_X6_restingChoices_5 C _ _ _ _ _  (0, 0) hm
set_option maxRecDepth 20000 in
set_option maxHeartbeats 4000000 in
theorem mc_X6_restingChoices (l : Launch) (N : Nat) (Λ : Lay) (μ : Mem) (v0 : Int32) (v1 : Int32) (v2 : Int32) {r : Int32} (hm : m_X6_restingChoices N Λ μ v0 v1 v2 = some r) : MI l yX6_restingChoices cX6_restingChoices 7 (some .int) rm_X6_restingChoices Λ [.int v0, .int v1, .int v2] μ r μ := mi_of rfl (Nat.le_of_ble_eq_true rfl) (fun x C _ => tm_X6_restingChoices C _ _ _ _ _  hm)
abbrev rm_X6_choices : Room := { frames := 0, cells := 0, slots := 0, locals := 0 }
set_option maxRecDepth 20000 in
set_option maxHeartbeats 4000000 in
theorem tb_X6_choices_4 {x : Ctx} {Λ : Lay} (C : Cx x cX6_choices 4 (some .int) RX6 Λ rm_X6_choices) (N : Nat) (μ : Mem) (k4 : Int32 × Int32 → Option (Int32)) (v0 : Int32) (v1 : Int32) (v2 : Int32) (v3 : Int32) (hk4 : ∀ (s : Int32 × Int32) (r : Int32), k4 s = some r → J x 4 Λ (QI x Λ r μ) 4 [(0, .int v0), (1, .int v1), (2, .int s.1), (3, .int s.2)] [] (μ)) {r : Int32} (hm : bd_X6_choices_4 N Λ μ k4 v0 v1 v2 v3 = some r) : J x 4 Λ (QI x Λ r μ) 4 [(0, .int v0), (1, .int v1), (2, .int v2), (3, .int v3)] [] μ := by
  refine j_iload_n C 3 dX6_choices_4 rfl ?_
  refine j_iload_n C 1 dX6_choices_5 rfl ?_
  refine j_icmp_gt C (tgt := 25) dX6_choices_6 (by decide) (fun h1 => ?_) (fun h1 => ?_)
  · replace hm := if_t hm h1
    refine j_iload_n C 2 dX6_choices_25 rfl ?_
    obtain rfl := Option.some.inj hm
    exact j_ireti C dX6_choices_26
  · replace hm := if_f hm h1
    refine j_iload_n C 2 dX6_choices_9 rfl ?_
    refine j_iload_n C 0 dX6_choices_10 rfl ?_
    refine j_iload_n C 1 dX6_choices_11 rfl ?_
    refine j_isub C dX6_choices_12 ?_
    refine j_iload_n C 3 dX6_choices_13 rfl ?_
    refine j_iadd C dX6_choices_14 ?_
    refine j_imul C dX6_choices_15 ?_
    refine j_iload_n C 3 dX6_choices_16 rfl ?_
    obtain ⟨h2, hm⟩ := gd_some hm
    refine j_idiv C dX6_choices_17 (of_decide_eq_true h2) ?_
    obtain ⟨y3, e4, hm⟩ := lt_some hm
    refine j_topi e4 ?_
    refine j_istore_n C (lv' := [(2, .int y3), (0, .int v0), (1, .int v1), (3, .int v3)]) dX6_choices_18 (by decide) rfl ?_
    obtain ⟨y5, e6, hm⟩ := lt_some hm
    refine j_iinc C 3 (v := y5) (lv' := [(3, .int y5), (2, .int y3), (0, .int v0), (1, .int v1)]) dX6_choices_19 rfl (by rw [e6]; rfl) (by decide) rfl ?_
    refine j_goto C (tgt := 4) dX6_choices_22 (by decide) ?_
    refine j_sub [2, 3, 1, 0] rfl ?_
    exact hk4 (y3, y5) _ hm
set_option maxRecDepth 20000 in
set_option maxHeartbeats 4000000 in
theorem tl_X6_choices_4 {x : Ctx} {Λ : Lay} (C : Cx x cX6_choices 4 (some .int) RX6 Λ rm_X6_choices) (N : Nat) (μ : Mem) (v0 : Int32) (v1 : Int32) (s : Int32 × Int32) {r : Int32} (hm : lp_X6_choices_4 N Λ μ v0 v1 s = some r) : J x 4 Λ (QI x Λ r μ) 4 [(0, .int v0), (1, .int v1), (2, .int s.1), (3, .int s.2)] [] (μ) :=
  cw_ind (P := fun s r => J x 4 Λ (QI x Λ r μ) 4 [(0, .int v0), (1, .int v1), (2, .int s.1), (3, .int s.2)] [] (μ)) (fun k hkk s r e => tb_X6_choices_4 C _ _ _ _ _ _ _ hkk e) N s r hm
set_option maxRecDepth 20000 in
set_option maxHeartbeats 4000000 in
theorem tm_X6_choices {x : Ctx} {Λ : Lay} (C : Cx x cX6_choices 4 (some .int) RX6 Λ rm_X6_choices) (N : Nat) (μ : Mem) (v0 : Int32) (v1 : Int32) {r : Int32} (hm : m_X6_choices N Λ μ v0 v1 = some r) : J x 4 Λ (QI x Λ r μ) 0 [(0, .int v0), (1, .int v1)] [] μ := by
  refine j_iconst C (v := 1) dX6_choices_0 rfl ?_
  refine j_istore_n C (lv' := [(2, .int 1), (0, .int v0), (1, .int v1)]) dX6_choices_1 (by decide) rfl ?_
  refine j_iconst C (v := 1) dX6_choices_2 rfl ?_
  refine j_istore_n C (lv' := [(3, .int 1), (2, .int 1), (0, .int v0), (1, .int v1)]) dX6_choices_3 (by decide) rfl ?_
  refine j_sub [2, 3, 1, 0] rfl ?_
  exact tl_X6_choices_4 C _ _ _ _  (1, 1) hm
set_option maxRecDepth 20000 in
set_option maxHeartbeats 4000000 in
theorem mc_X6_choices (l : Launch) (N : Nat) (Λ : Lay) (μ : Mem) (v0 : Int32) (v1 : Int32) {r : Int32} (hm : m_X6_choices N Λ μ v0 v1 = some r) : MI l yX6_choices cX6_choices 4 (some .int) rm_X6_choices Λ [.int v0, .int v1] μ r μ := mi_of rfl (Nat.le_of_ble_eq_true rfl) (fun x C _ => tm_X6_choices C _ _ _ _  hm)
abbrev rm_X6_power : Room := { frames := 0, cells := 0, slots := 0, locals := 0 }
set_option maxRecDepth 20000 in
set_option maxHeartbeats 4000000 in
theorem tb_X6_power_4 {x : Ctx} {Λ : Lay} (C : Cx x cX6_power 4 (some .int) RX6 Λ rm_X6_power) (N : Nat) (μ : Mem) (k4 : Int32 × Int32 → Option (Int32)) (v0 : Int32) (v1 : Int32) (v2 : Int32) (v3 : Int32) (hk4 : ∀ (s : Int32 × Int32) (r : Int32), k4 s = some r → J x 4 Λ (QI x Λ r μ) 4 [(0, .int v0), (1, .int v1), (2, .int s.1), (3, .int s.2)] [] (μ)) {r : Int32} (hm : bd_X6_power_4 N Λ μ k4 v0 v1 v2 v3 = some r) : J x 4 Λ (QI x Λ r μ) 4 [(0, .int v0), (1, .int v1), (2, .int v2), (3, .int v3)] [] μ := by
  refine j_iload_n C 3 dX6_power_4 rfl ?_
  refine j_iload_n C 1 dX6_power_5 rfl ?_
  refine j_icmp_ge C (tgt := 19) dX6_power_6 (by decide) (fun h1 => ?_) (fun h1 => ?_)
  · replace hm := if_t hm h1
    refine j_iload_n C 2 dX6_power_19 rfl ?_
    obtain rfl := Option.some.inj hm
    exact j_ireti C dX6_power_20
  · replace hm := if_f hm h1
    refine j_iload_n C 2 dX6_power_9 rfl ?_
    refine j_iload_n C 0 dX6_power_10 rfl ?_
    refine j_imul C dX6_power_11 ?_
    obtain ⟨y2, e3, hm⟩ := lt_some hm
    refine j_topi e3 ?_
    refine j_istore_n C (lv' := [(2, .int y2), (0, .int v0), (1, .int v1), (3, .int v3)]) dX6_power_12 (by decide) rfl ?_
    obtain ⟨y4, e5, hm⟩ := lt_some hm
    refine j_iinc C 3 (v := y4) (lv' := [(3, .int y4), (2, .int y2), (0, .int v0), (1, .int v1)]) dX6_power_13 rfl (by rw [e5]; rfl) (by decide) rfl ?_
    refine j_goto C (tgt := 4) dX6_power_16 (by decide) ?_
    refine j_sub [2, 3, 1, 0] rfl ?_
    exact hk4 (y2, y4) _ hm
set_option maxRecDepth 20000 in
set_option maxHeartbeats 4000000 in
theorem tl_X6_power_4 {x : Ctx} {Λ : Lay} (C : Cx x cX6_power 4 (some .int) RX6 Λ rm_X6_power) (N : Nat) (μ : Mem) (v0 : Int32) (v1 : Int32) (s : Int32 × Int32) {r : Int32} (hm : lp_X6_power_4 N Λ μ v0 v1 s = some r) : J x 4 Λ (QI x Λ r μ) 4 [(0, .int v0), (1, .int v1), (2, .int s.1), (3, .int s.2)] [] (μ) :=
  cw_ind (P := fun s r => J x 4 Λ (QI x Λ r μ) 4 [(0, .int v0), (1, .int v1), (2, .int s.1), (3, .int s.2)] [] (μ)) (fun k hkk s r e => tb_X6_power_4 C _ _ _ _ _ _ _ hkk e) N s r hm
set_option maxRecDepth 20000 in
set_option maxHeartbeats 4000000 in
theorem tm_X6_power {x : Ctx} {Λ : Lay} (C : Cx x cX6_power 4 (some .int) RX6 Λ rm_X6_power) (N : Nat) (μ : Mem) (v0 : Int32) (v1 : Int32) {r : Int32} (hm : m_X6_power N Λ μ v0 v1 = some r) : J x 4 Λ (QI x Λ r μ) 0 [(0, .int v0), (1, .int v1)] [] μ := by
  refine j_iconst C (v := 1) dX6_power_0 rfl ?_
  refine j_istore_n C (lv' := [(2, .int 1), (0, .int v0), (1, .int v1)]) dX6_power_1 (by decide) rfl ?_
  refine j_iconst C (v := 0) dX6_power_2 rfl ?_
  refine j_istore_n C (lv' := [(3, .int 0), (2, .int 1), (0, .int v0), (1, .int v1)]) dX6_power_3 (by decide) rfl ?_
  refine j_sub [2, 3, 1, 0] rfl ?_
  exact tl_X6_power_4 C _ _ _ _  (1, 0) hm
set_option maxRecDepth 20000 in
set_option maxHeartbeats 4000000 in
theorem mc_X6_power (l : Launch) (N : Nat) (Λ : Lay) (μ : Mem) (v0 : Int32) (v1 : Int32) {r : Int32} (hm : m_X6_power N Λ μ v0 v1 = some r) : MI l yX6_power cX6_power 4 (some .int) rm_X6_power Λ [.int v0, .int v1] μ r μ := mi_of rfl (Nat.le_of_ble_eq_true rfl) (fun x C _ => tm_X6_power C _ _ _ _  hm)
abbrev rm_X6_oddsOf : Room := { frames := 1, cells := 0, slots := 0, locals := 23 }
set_option maxRecDepth 20000 in
set_option maxHeartbeats 4000000 in
theorem tj_X6_oddsOf_75 {x : Ctx} {Λ : Lay} (C : Cx x cX6_oddsOf 6 (some .int) RX6 Λ rm_X6_oddsOf) (N : Nat) (μ : Mem) (s0 : Int32) {r : Int32} (hm : jn_X6_oddsOf_75 N Λ μ s0 = some r) : J x 6 Λ (QI x Λ r μ) 75 [] [.int s0] μ := by
  obtain rfl := Option.some.inj hm
  exact j_ireti C dX6_oddsOf_75
set_option maxRecDepth 20000 in
set_option maxHeartbeats 4000000 in
theorem tb_X6_oddsOf_29 {x : Ctx} {Λ : Lay} (C : Cx x cX6_oddsOf 6 (some .int) RX6 Λ rm_X6_oddsOf) (N : Nat) (μ : Mem) (k29 : Int32 × Int32 → Option (Int32)) (v0 : Int32) (v2 : Int32) (v3 : Int32) (v4 : Int32) (v5 : Int32) (hk29 : ∀ (s : Int32 × Int32) (r : Int32), k29 s = some r → J x 6 Λ (QI x Λ r μ) 29 [(0, .int v0), (2, .int v2), (3, .int v3), (4, .int s.1), (5, .int s.2)] [] (μ)) {r : Int32} (hm : bd_X6_oddsOf_29 N Λ μ k29 v0 v2 v3 v4 v5 = some r) : J x 6 Λ (QI x Λ r μ) 29 [(0, .int v0), (2, .int v2), (3, .int v3), (4, .int v4), (5, .int v5)] [] μ := by
  refine j_iload C 4 dX6_oddsOf_29 rfl ?_
  refine j_iload_n C 0 dX6_oddsOf_31 rfl ?_
  refine j_icmp_gt C (tgt := 59) dX6_oddsOf_32 (by decide) (fun h1 => ?_) (fun h1 => ?_)
  · replace hm := if_t hm h1
    refine j_iload_n C 2 dX6_oddsOf_59 rfl ?_
    refine j_if_le C (tgt := 74) dX6_oddsOf_60 (by decide) (fun h2 => ?_) (fun h2 => ?_)
    · replace hm := if_t hm h2
      refine j_iconst C (v := 0) dX6_oddsOf_74 rfl ?_
      refine j_sub [] rfl ?_
      exact tj_X6_oddsOf_75 C _ _ _  hm
    · replace hm := if_f hm h2
      refine j_sipush C (v := 10000) dX6_oddsOf_63 rfl ?_
      refine j_iload C 3 dX6_oddsOf_66 rfl ?_
      refine j_imul C dX6_oddsOf_68 ?_
      refine j_iload_n C 2 dX6_oddsOf_69 rfl ?_
      obtain ⟨h3, hm⟩ := gd_some hm
      refine j_idiv C dX6_oddsOf_70 (of_decide_eq_true h3) ?_
      refine j_goto C (tgt := 75) dX6_oddsOf_71 (by decide) ?_
      refine j_sub [] rfl ?_
      exact tj_X6_oddsOf_75 C _ _ _  hm
  · replace hm := if_f hm h1
    refine j_iload C 3 dX6_oddsOf_35 rfl ?_
    refine j_iload_n C 0 dX6_oddsOf_37 rfl ?_
    refine j_iload C 4 dX6_oddsOf_38 rfl ?_
    obtain ⟨r4, h5, hm⟩ := bd_some hm
    refine call_I (run_LS C ls_X6_154 ⟨rfl, rfl, Nat.le_of_ble_eq_true rfl, Nat.le_of_ble_eq_true rfl⟩ (As := [.int v0, .int v5]) rfl rfl (Nat.le_of_ble_eq_true rfl) dX6_oddsOf_40 (mc_X6_choices _ _ _ _ _ _  h5)) ?_
    refine j_iload_n C 1 dX6_oddsOf_43 rfl ?_
    refine j_iload C 4 dX6_oddsOf_44 rfl ?_
    obtain ⟨r6, h7, hm⟩ := bd_some hm
    refine call_I (run_LS C ls_X6_157 ⟨rfl, rfl, Nat.le_of_ble_eq_true rfl, Nat.le_of_ble_eq_true rfl⟩ (As := [.int v2, .int v5]) rfl rfl (Nat.le_of_ble_eq_true rfl) dX6_oddsOf_46 (mc_X6_power _ _ _ _ _ _  h7)) ?_
    refine j_imul C dX6_oddsOf_49 ?_
    refine j_iadd C dX6_oddsOf_50 ?_
    obtain ⟨y8, e9, hm⟩ := lt_some hm
    refine j_topi e9 ?_
    refine j_istore C (lv' := [(4, .int y8), (0, .int v0), (2, .int v2), (3, .int v3), (5, .int v5)]) dX6_oddsOf_51 (by decide) rfl ?_
    obtain ⟨y10, e11, hm⟩ := lt_some hm
    refine j_iinc C 4 (v := y10) (lv' := [(5, .int y10), (4, .int y8), (0, .int v0), (2, .int v2), (3, .int v3)]) dX6_oddsOf_53 rfl (by rw [e11]; rfl) (by decide) rfl ?_
    refine j_goto C (tgt := 29) dX6_oddsOf_56 (by decide) ?_
    refine j_sub [2, 3, 4, 1, 0] rfl ?_
    exact hk29 (y8, y10) _ hm
set_option maxRecDepth 20000 in
set_option maxHeartbeats 4000000 in
theorem tl_X6_oddsOf_29 {x : Ctx} {Λ : Lay} (C : Cx x cX6_oddsOf 6 (some .int) RX6 Λ rm_X6_oddsOf) (N : Nat) (μ : Mem) (v0 : Int32) (v2 : Int32) (v3 : Int32) (s : Int32 × Int32) {r : Int32} (hm : lp_X6_oddsOf_29 N Λ μ v0 v2 v3 s = some r) : J x 6 Λ (QI x Λ r μ) 29 [(0, .int v0), (2, .int v2), (3, .int v3), (4, .int s.1), (5, .int s.2)] [] (μ) :=
  cw_ind (P := fun s r => J x 6 Λ (QI x Λ r μ) 29 [(0, .int v0), (2, .int v2), (3, .int v3), (4, .int s.1), (5, .int s.2)] [] (μ)) (fun k hkk s r e => tb_X6_oddsOf_29 C _ _ _ _ _ _ _ _ hkk e) N s r hm
set_option maxRecDepth 20000 in
set_option maxHeartbeats 4000000 in
theorem tb_X6_oddsOf_5 {x : Ctx} {Λ : Lay} (C : Cx x cX6_oddsOf 6 (some .int) RX6 Λ rm_X6_oddsOf) (N : Nat) (μ : Mem) (k5 : Int32 × Int32 → Option (Int32)) (v0 : Int32) (v1 : Int32) (v2 : Int32) (v3 : Int32) (v4 : Int32) (hk5 : ∀ (s : Int32 × Int32) (r : Int32), k5 s = some r → J x 6 Λ (QI x Λ r μ) 5 [(0, .int v0), (1, .int v1), (2, .int v2), (3, .int s.1), (4, .int s.2)] [] (μ)) {r : Int32} (hm : bd_X6_oddsOf_5 N Λ μ k5 v0 v1 v2 v3 v4 = some r) : J x 6 Λ (QI x Λ r μ) 5 [(0, .int v0), (1, .int v1), (2, .int v2), (3, .int v3), (4, .int v4)] [] μ := by
  refine j_iload C 4 dX6_oddsOf_5 rfl ?_
  refine j_iload_n C 0 dX6_oddsOf_7 rfl ?_
  refine j_icmp_ge C (tgt := 23) dX6_oddsOf_8 (by decide) (fun h1 => ?_) (fun h1 => ?_)
  · replace hm := if_t hm h1
    refine j_iconst C (v := 0) dX6_oddsOf_23 rfl ?_
    refine j_istore C (lv' := [(4, .int 0), (0, .int v0), (1, .int v1), (2, .int v2), (3, .int v3)]) dX6_oddsOf_24 (by decide) rfl ?_
    refine j_iload_n C 2 dX6_oddsOf_26 rfl ?_
    refine j_istore C (lv' := [(5, .int v1), (4, .int 0), (0, .int v0), (1, .int v1), (2, .int v2), (3, .int v3)]) dX6_oddsOf_27 (by decide) rfl ?_
    refine j_sub [2, 4, 5, 1, 0] rfl ?_
    exact tl_X6_oddsOf_29 C _ _ _ _ _  (0, v1) hm
  · replace hm := if_f hm h1
    refine j_iload_n C 3 dX6_oddsOf_11 rfl ?_
    refine j_iload_n C 2 dX6_oddsOf_12 rfl ?_
    refine j_iconst C (v := 1) dX6_oddsOf_13 rfl ?_
    refine j_iadd C dX6_oddsOf_14 ?_
    refine j_imul C dX6_oddsOf_15 ?_
    obtain ⟨y2, e3, hm⟩ := lt_some hm
    refine j_topi e3 ?_
    refine j_istore_n C (lv' := [(3, .int y2), (0, .int v0), (1, .int v1), (2, .int v2), (4, .int v4)]) dX6_oddsOf_16 (by decide) rfl ?_
    obtain ⟨y4, e5, hm⟩ := lt_some hm
    refine j_iinc C 4 (v := y4) (lv' := [(4, .int y4), (3, .int y2), (0, .int v0), (1, .int v1), (2, .int v2)]) dX6_oddsOf_17 rfl (by rw [e5]; rfl) (by decide) rfl ?_
    refine j_goto C (tgt := 5) dX6_oddsOf_20 (by decide) ?_
    refine j_sub [2, 3, 4, 1, 0] rfl ?_
    exact hk5 (y2, y4) _ hm
set_option maxRecDepth 20000 in
set_option maxHeartbeats 4000000 in
theorem tl_X6_oddsOf_5 {x : Ctx} {Λ : Lay} (C : Cx x cX6_oddsOf 6 (some .int) RX6 Λ rm_X6_oddsOf) (N : Nat) (μ : Mem) (v0 : Int32) (v1 : Int32) (v2 : Int32) (s : Int32 × Int32) {r : Int32} (hm : lp_X6_oddsOf_5 N Λ μ v0 v1 v2 s = some r) : J x 6 Λ (QI x Λ r μ) 5 [(0, .int v0), (1, .int v1), (2, .int v2), (3, .int s.1), (4, .int s.2)] [] (μ) :=
  cw_ind (P := fun s r => J x 6 Λ (QI x Λ r μ) 5 [(0, .int v0), (1, .int v1), (2, .int v2), (3, .int s.1), (4, .int s.2)] [] (μ)) (fun k hkk s r e => tb_X6_oddsOf_5 C _ _ _ _ _ _ _ _ hkk e) N s r hm
set_option maxRecDepth 20000 in
set_option maxHeartbeats 4000000 in
theorem tm_X6_oddsOf {x : Ctx} {Λ : Lay} (C : Cx x cX6_oddsOf 6 (some .int) RX6 Λ rm_X6_oddsOf) (N : Nat) (μ : Mem) (v0 : Int32) (v1 : Int32) (v2 : Int32) {r : Int32} (hm : m_X6_oddsOf N Λ μ v0 v1 v2 = some r) : J x 6 Λ (QI x Λ r μ) 0 [(0, .int v0), (1, .int v1), (2, .int v2)] [] μ := by
  refine j_iconst C (v := 1) dX6_oddsOf_0 rfl ?_
  refine j_istore_n C (lv' := [(3, .int 1), (0, .int v0), (1, .int v1), (2, .int v2)]) dX6_oddsOf_1 (by decide) rfl ?_
  refine j_iconst C (v := 0) dX6_oddsOf_2 rfl ?_
  refine j_istore C (lv' := [(4, .int 0), (3, .int 1), (0, .int v0), (1, .int v1), (2, .int v2)]) dX6_oddsOf_3 (by decide) rfl ?_
  refine j_sub [2, 3, 4, 1, 0] rfl ?_
  exact tl_X6_oddsOf_5 C _ _ _ _ _  (1, 0) hm
set_option maxRecDepth 20000 in
set_option maxHeartbeats 4000000 in
theorem mc_X6_oddsOf (l : Launch) (N : Nat) (Λ : Lay) (μ : Mem) (v0 : Int32) (v1 : Int32) (v2 : Int32) {r : Int32} (hm : m_X6_oddsOf N Λ μ v0 v1 v2 = some r) : MI l yX6_oddsOf cX6_oddsOf 6 (some .int) rm_X6_oddsOf Λ [.int v0, .int v1, .int v2] μ r μ := mi_of rfl (Nat.le_of_ble_eq_true rfl) (fun x C _ => tm_X6_oddsOf C _ _ _ _ _  hm)

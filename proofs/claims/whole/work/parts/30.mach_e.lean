abbrev rm_X7_takeWord : Room := { frames := 4, cells := 0, slots := 0, locals := 90 }
set_option maxRecDepth 20000 in
set_option maxHeartbeats 4000000 in
theorem tj_X7_takeWord_43_1 {x : Ctx} {Λ : Lay} (C : Cx x cX7_takeWord 5 (some .boolean) RX7 Λ rm_X7_takeWord) (N : Nat) (μ : Mem) {r : Int32 × Mem} (hm : jn_X7_takeWord_43 N Λ μ = some r) : J x 5 Λ (QI x Λ r.1 r.2) 43 [] [] μ := by
  refine j_iconst C (v := 0) dX7_takeWord_43 rfl ?_
  obtain rfl := Option.some.inj hm
  exact j_iretz C rfl dX7_takeWord_44
set_option maxRecDepth 20000 in
set_option maxHeartbeats 4000000 in
theorem tb_X7_takeWord_48_1 {x : Ctx} {Λ : Lay} (C : Cx x cX7_takeWord 5 (some .boolean) RX7 Λ rm_X7_takeWord) (N : Nat) (μ : Mem) (k48 : Int32 × Mem → Option (Int32 × Mem)) (v0 : Nat) (v1 : Nat) (v2 : Int32) (v3 : Int32) (v4 : Int32) (hk48 : ∀ (s : Int32 × Mem) (r : Int32 × Mem), k48 s = some r → J x 5 Λ (QI x Λ r.1 r.2) 48 [(0, .ref v0), (1, .ref (sK Λ v1)), (2, .int v2), (3, .int v3), (4, .int s.1)] [] (s.2)) (hv0 : inL Λ v0 1) (hv1 : v1 < nWS) {r : Int32 × Mem} (hm : bd_X7_takeWord_48 N Λ μ k48 v0 v1 v2 v3 v4 = some r) : J x 5 Λ (QI x Λ r.1 r.2) 48 [(0, .ref v0), (1, .ref (sK Λ v1)), (2, .int v2), (3, .int v3), (4, .int v4)] [] μ := by
  refine j_iload C 4 dX7_takeWord_48 rfl ?_
  refine j_iload_n C 3 dX7_takeWord_50 rfl ?_
  refine j_icmp_ge C (tgt := 83) dX7_takeWord_51 (by decide) (fun h1 => ?_) (fun h1 => ?_)
  · replace hm := if_t hm h1
    refine j_aload_n C 0 dX7_takeWord_83 rfl ?_
    refine j_dup C dX7_takeWord_84 rfl ?_
    refine j_getI C fg_X7_36_1 hv0 dX7_takeWord_85 ?_
    refine j_iconst C (v := 1) dX7_takeWord_88 rfl ?_
    refine j_iadd C dX7_takeWord_89 ?_
    obtain ⟨μ2, e3, hm⟩ := lt_some hm
    refine j_putI C fp_X7_36_1 hv0 e3 dX7_takeWord_90 ?_
    refine j_iconst C (v := 1) dX7_takeWord_93 rfl ?_
    obtain rfl := Option.some.inj hm
    exact j_iretz C rfl dX7_takeWord_94
  · replace hm := if_f hm h1
    refine j_aload_n C 0 dX7_takeWord_54 rfl ?_
    obtain ⟨q4, h5, hm⟩ := bd_some hm
    refine j_getR C fg_X7_21_1 hv0 (dr_spec h5).1 dX7_takeWord_55 ?_
    obtain ⟨q6, h7, hm⟩ := bd_some hm
    refine j_getR C fg_X7_48_9 ((dr_spec h5).2) (dr_spec h7).1 dX7_takeWord_58 ?_
    refine j_iload_n C 2 dX7_takeWord_61 rfl ?_
    refine j_iload C 4 dX7_takeWord_62 rfl ?_
    refine j_iadd C dX7_takeWord_64 ?_
    obtain ⟨h8, hm⟩ := gd_some hm
    refine j_bald C ((dr_spec h7).2) h8 dX7_takeWord_65 ?_
    refine j_aload_n C 1 dX7_takeWord_66 rfl ?_
    refine j_iload C 4 dX7_takeWord_67 rfl ?_
    obtain ⟨h9, hm⟩ := gd_some hm
    refine call_I (run_Str C hv1 lx_X7_chr (by decide) (As := [.int v4]) rfl rfl (Nat.le_of_ble_eq_true rfl) dX7_takeWord_69 (mc_XS_charAt _ _ _ _ _ hv1 h9)) ?_
    refine j_icmp_eq C (tgt := 77) dX7_takeWord_72 (by decide) (fun h10 => ?_) (fun h10 => ?_)
    · replace hm := if_t hm h10
      obtain ⟨y11, e12, hm⟩ := lt_some hm
      refine j_iinc C 4 (v := y11) (lv' := [(4, .int y11), (0, .ref v0), (1, .ref (sK Λ v1)), (2, .int v2), (3, .int v3)]) dX7_takeWord_77 rfl (by rw [e12]; rfl) (by decide) rfl ?_
      refine j_goto C (tgt := 48) dX7_takeWord_80 (by decide) ?_
      refine j_sub [1, 2, 3, 4, 0] rfl ?_
      exact hk48 (y11, μ) _ hm
    · replace hm := if_f hm h10
      refine j_iconst C (v := 0) dX7_takeWord_75 rfl ?_
      obtain rfl := Option.some.inj hm
      exact j_iretz C rfl dX7_takeWord_76
set_option maxRecDepth 20000 in
set_option maxHeartbeats 4000000 in
theorem tl_X7_takeWord_48_1 {x : Ctx} {Λ : Lay} (C : Cx x cX7_takeWord 5 (some .boolean) RX7 Λ rm_X7_takeWord) (N : Nat) (v0 : Nat) (v1 : Nat) (v2 : Int32) (v3 : Int32) (hv0 : inL Λ v0 1) (hv1 : v1 < nWS) (s : Int32 × Mem) {r : Int32 × Mem} (hm : lp_X7_takeWord_48 N Λ v0 v1 v2 v3 s = some r) : J x 5 Λ (QI x Λ r.1 r.2) 48 [(0, .ref v0), (1, .ref (sK Λ v1)), (2, .int v2), (3, .int v3), (4, .int s.1)] [] (s.2) :=
  cw_ind (P := fun s r => J x 5 Λ (QI x Λ r.1 r.2) 48 [(0, .ref v0), (1, .ref (sK Λ v1)), (2, .int v2), (3, .int v3), (4, .int s.1)] [] (s.2)) (fun k hkk s r e => tb_X7_takeWord_48_1 C _ _ _ _ _ _ _ _ hkk hv0 hv1 e) N s r hm
set_option maxRecDepth 20000 in
set_option maxHeartbeats 4000000 in
theorem tm_X7_takeWord_1 {x : Ctx} {Λ : Lay} (C : Cx x cX7_takeWord 5 (some .boolean) RX7 Λ rm_X7_takeWord) (N : Nat) (μ : Mem) (v0 : Nat) (v1 : Nat) (hv0 : inL Λ v0 1) (hv1 : v1 < nWS) {r : Int32 × Mem} (hm : m_X7_takeWord N Λ μ v0 v1 = some r) : J x 5 Λ (QI x Λ r.1 r.2) 0 [(0, .ref v0), (1, .ref (sK Λ v1))] [] μ := by
  refine j_aload_n C 0 dX7_takeWord_0 rfl ?_
  obtain ⟨q1, h2, hm⟩ := bd_some hm
  refine j_getR C fg_X7_15_1 hv0 (dr_spec h2).1 dX7_takeWord_1 ?_
  refine j_aload_n C 0 dX7_takeWord_4 rfl ?_
  refine j_getI C fg_X7_36_1 hv0 dX7_takeWord_5 ?_
  obtain ⟨h3, hm⟩ := gd_some hm
  refine j_iald C ((dr_spec h2).2) h3 dX7_takeWord_8 ?_
  obtain ⟨y4, e5, hm⟩ := lt_some hm
  refine j_topi e5 ?_
  refine j_istore_n C (lv' := [(2, .int y4), (0, .ref v0), (1, .ref (sK Λ v1))]) dX7_takeWord_9 (by decide) rfl ?_
  refine j_aload_n C 1 dX7_takeWord_10 rfl ?_
  obtain ⟨q6, h7, hm⟩ := bd_some hm
  refine j_getR C fg_X7_18_1 hv0 (dr_spec h7).1 dX7_takeWord_11 ?_
  refine j_aload_n C 1 dX7_takeWord_14 rfl ?_
  refine j_getI C fg_X7_36_1 hv0 dX7_takeWord_15 ?_
  obtain ⟨h8, hm⟩ := gd_some hm
  refine j_iald C ((dr_spec h7).2) h8 dX7_takeWord_18 ?_
  refine j_iload_n C 0 dX7_takeWord_19 rfl ?_
  refine j_isub C dX7_takeWord_20 ?_
  obtain ⟨y9, e10, hm⟩ := lt_some hm
  refine j_topi e10 ?_
  refine j_istore_n C (lv' := [(3, .int y9), (2, .int y4), (0, .ref v0), (1, .ref (sK Λ v1))]) dX7_takeWord_21 (by decide) rfl ?_
  refine j_aload_n C 2 dX7_takeWord_22 rfl ?_
  obtain ⟨q11, h12, hm⟩ := bd_some hm
  refine j_getR C fg_X7_9_1 hv0 (dr_spec h12).1 dX7_takeWord_23 ?_
  refine j_aload_n C 2 dX7_takeWord_26 rfl ?_
  refine j_getI C fg_X7_36_1 hv0 dX7_takeWord_27 ?_
  obtain ⟨h13, hm⟩ := gd_some hm
  refine j_iald C ((dr_spec h12).2) h13 dX7_takeWord_30 ?_
  refine j_iconst C (v := 1) dX7_takeWord_31 rfl ?_
  refine j_icmp_ne C (tgt := 43) dX7_takeWord_32 (by decide) (fun h14 => ?_) (fun h14 => ?_)
  · replace hm := if_f hm h14
    refine j_sub [] rfl ?_
    exact tj_X7_takeWord_43_1 C _ _  hm
  · replace hm := if_t hm h14
    refine j_iload_n C 0 dX7_takeWord_35 rfl ?_
    refine j_aload_n C 3 dX7_takeWord_36 rfl ?_
    refine call_I (run_Str C hv1 lx_X7_len (by decide) (As := []) rfl rfl (Nat.le_of_ble_eq_true rfl) dX7_takeWord_37 (mc_XS_length _ _ _ _ hv1)) ?_
    refine j_icmp_eq C (tgt := 45) dX7_takeWord_40 (by decide) (fun h15 => ?_) (fun h15 => ?_)
    · replace hm := if_t hm h15
      refine j_iconst C (v := 0) dX7_takeWord_45 rfl ?_
      refine j_istore C (lv' := [(4, .int 0), (3, .int y9), (2, .int y4), (0, .ref v0), (1, .ref (sK Λ v1))]) dX7_takeWord_46 (by decide) rfl ?_
      refine j_sub [3, 4, 2, 1, 0] rfl ?_
      exact tl_X7_takeWord_48_1 C _ _ _ _ _ hv0 hv1 (0, μ) hm
    · replace hm := if_f hm h15
      refine j_sub [] rfl ?_
      exact tj_X7_takeWord_43_1 C _ _  hm
set_option maxRecDepth 20000 in
set_option maxHeartbeats 4000000 in
theorem mc_X7_takeWord_1 (l : Launch) (N : Nat) (Λ : Lay) (μ : Mem) (v0 : Nat) (v1 : Nat) (hv0 : inL Λ v0 1) (hv1 : v1 < nWS) {r : Int32 × Mem} (hm : m_X7_takeWord N Λ μ v0 v1 = some r) : MI l yX7_takeWord cX7_takeWord 5 (some .boolean) rm_X7_takeWord Λ [.ref v0, .ref (sK Λ v1)] μ r.1 r.2 := mi_of rfl (Nat.le_of_ble_eq_true rfl) (fun x C _ => tm_X7_takeWord_1 C _ _ _ _ hv0 hv1 hm)
set_option maxRecDepth 20000 in
set_option maxHeartbeats 4000000 in
theorem tj_X7_takeWord_43_3 {x : Ctx} {Λ : Lay} (C : Cx x cX7_takeWord 5 (some .boolean) RX7 Λ rm_X7_takeWord) (N : Nat) (μ : Mem) {r : Int32 × Mem} (hm : jn_X7_takeWord_43 N Λ μ = some r) : J x 5 Λ (QI x Λ r.1 r.2) 43 [] [] μ := by
  refine j_iconst C (v := 0) dX7_takeWord_43 rfl ?_
  obtain rfl := Option.some.inj hm
  exact j_iretz C rfl dX7_takeWord_44
set_option maxRecDepth 20000 in
set_option maxHeartbeats 4000000 in
theorem tb_X7_takeWord_48_3 {x : Ctx} {Λ : Lay} (C : Cx x cX7_takeWord 5 (some .boolean) RX7 Λ rm_X7_takeWord) (N : Nat) (μ : Mem) (k48 : Int32 × Mem → Option (Int32 × Mem)) (v0 : Nat) (v1 : Nat) (v2 : Int32) (v3 : Int32) (v4 : Int32) (hk48 : ∀ (s : Int32 × Mem) (r : Int32 × Mem), k48 s = some r → J x 5 Λ (QI x Λ r.1 r.2) 48 [(0, .ref v0), (1, .ref (sK Λ v1)), (2, .int v2), (3, .int v3), (4, .int s.1)] [] (s.2)) (hv0 : inL Λ v0 3) (hv1 : v1 < nWS) {r : Int32 × Mem} (hm : bd_X7_takeWord_48 N Λ μ k48 v0 v1 v2 v3 v4 = some r) : J x 5 Λ (QI x Λ r.1 r.2) 48 [(0, .ref v0), (1, .ref (sK Λ v1)), (2, .int v2), (3, .int v3), (4, .int v4)] [] μ := by
  refine j_iload C 4 dX7_takeWord_48 rfl ?_
  refine j_iload_n C 3 dX7_takeWord_50 rfl ?_
  refine j_icmp_ge C (tgt := 83) dX7_takeWord_51 (by decide) (fun h1 => ?_) (fun h1 => ?_)
  · replace hm := if_t hm h1
    refine j_aload_n C 0 dX7_takeWord_83 rfl ?_
    refine j_dup C dX7_takeWord_84 rfl ?_
    refine j_getI C fg_X7_36_3 hv0 dX7_takeWord_85 ?_
    refine j_iconst C (v := 1) dX7_takeWord_88 rfl ?_
    refine j_iadd C dX7_takeWord_89 ?_
    obtain ⟨μ2, e3, hm⟩ := lt_some hm
    refine j_putI C fp_X7_36_3 hv0 e3 dX7_takeWord_90 ?_
    refine j_iconst C (v := 1) dX7_takeWord_93 rfl ?_
    obtain rfl := Option.some.inj hm
    exact j_iretz C rfl dX7_takeWord_94
  · replace hm := if_f hm h1
    refine j_aload_n C 0 dX7_takeWord_54 rfl ?_
    obtain ⟨q4, h5, hm⟩ := bd_some hm
    refine j_getR C fg_X7_21_3 hv0 (dr_spec h5).1 dX7_takeWord_55 ?_
    obtain ⟨q6, h7, hm⟩ := bd_some hm
    refine j_getR C fg_X7_48_9 ((dr_spec h5).2) (dr_spec h7).1 dX7_takeWord_58 ?_
    refine j_iload_n C 2 dX7_takeWord_61 rfl ?_
    refine j_iload C 4 dX7_takeWord_62 rfl ?_
    refine j_iadd C dX7_takeWord_64 ?_
    obtain ⟨h8, hm⟩ := gd_some hm
    refine j_bald C ((dr_spec h7).2) h8 dX7_takeWord_65 ?_
    refine j_aload_n C 1 dX7_takeWord_66 rfl ?_
    refine j_iload C 4 dX7_takeWord_67 rfl ?_
    obtain ⟨h9, hm⟩ := gd_some hm
    refine call_I (run_Str C hv1 lx_X7_chr (by decide) (As := [.int v4]) rfl rfl (Nat.le_of_ble_eq_true rfl) dX7_takeWord_69 (mc_XS_charAt _ _ _ _ _ hv1 h9)) ?_
    refine j_icmp_eq C (tgt := 77) dX7_takeWord_72 (by decide) (fun h10 => ?_) (fun h10 => ?_)
    · replace hm := if_t hm h10
      obtain ⟨y11, e12, hm⟩ := lt_some hm
      refine j_iinc C 4 (v := y11) (lv' := [(4, .int y11), (0, .ref v0), (1, .ref (sK Λ v1)), (2, .int v2), (3, .int v3)]) dX7_takeWord_77 rfl (by rw [e12]; rfl) (by decide) rfl ?_
      refine j_goto C (tgt := 48) dX7_takeWord_80 (by decide) ?_
      refine j_sub [1, 2, 3, 4, 0] rfl ?_
      exact hk48 (y11, μ) _ hm
    · replace hm := if_f hm h10
      refine j_iconst C (v := 0) dX7_takeWord_75 rfl ?_
      obtain rfl := Option.some.inj hm
      exact j_iretz C rfl dX7_takeWord_76
set_option maxRecDepth 20000 in
set_option maxHeartbeats 4000000 in
theorem tl_X7_takeWord_48_3 {x : Ctx} {Λ : Lay} (C : Cx x cX7_takeWord 5 (some .boolean) RX7 Λ rm_X7_takeWord) (N : Nat) (v0 : Nat) (v1 : Nat) (v2 : Int32) (v3 : Int32) (hv0 : inL Λ v0 3) (hv1 : v1 < nWS) (s : Int32 × Mem) {r : Int32 × Mem} (hm : lp_X7_takeWord_48 N Λ v0 v1 v2 v3 s = some r) : J x 5 Λ (QI x Λ r.1 r.2) 48 [(0, .ref v0), (1, .ref (sK Λ v1)), (2, .int v2), (3, .int v3), (4, .int s.1)] [] (s.2) :=
  cw_ind (P := fun s r => J x 5 Λ (QI x Λ r.1 r.2) 48 [(0, .ref v0), (1, .ref (sK Λ v1)), (2, .int v2), (3, .int v3), (4, .int s.1)] [] (s.2)) (fun k hkk s r e => tb_X7_takeWord_48_3 C _ _ _ _ _ _ _ _ hkk hv0 hv1 e) N s r hm
set_option maxRecDepth 20000 in
set_option maxHeartbeats 4000000 in
theorem tm_X7_takeWord_3 {x : Ctx} {Λ : Lay} (C : Cx x cX7_takeWord 5 (some .boolean) RX7 Λ rm_X7_takeWord) (N : Nat) (μ : Mem) (v0 : Nat) (v1 : Nat) (hv0 : inL Λ v0 3) (hv1 : v1 < nWS) {r : Int32 × Mem} (hm : m_X7_takeWord N Λ μ v0 v1 = some r) : J x 5 Λ (QI x Λ r.1 r.2) 0 [(0, .ref v0), (1, .ref (sK Λ v1))] [] μ := by
  refine j_aload_n C 0 dX7_takeWord_0 rfl ?_
  obtain ⟨q1, h2, hm⟩ := bd_some hm
  refine j_getR C fg_X7_15_3 hv0 (dr_spec h2).1 dX7_takeWord_1 ?_
  refine j_aload_n C 0 dX7_takeWord_4 rfl ?_
  refine j_getI C fg_X7_36_3 hv0 dX7_takeWord_5 ?_
  obtain ⟨h3, hm⟩ := gd_some hm
  refine j_iald C ((dr_spec h2).2) h3 dX7_takeWord_8 ?_
  obtain ⟨y4, e5, hm⟩ := lt_some hm
  refine j_topi e5 ?_
  refine j_istore_n C (lv' := [(2, .int y4), (0, .ref v0), (1, .ref (sK Λ v1))]) dX7_takeWord_9 (by decide) rfl ?_
  refine j_aload_n C 1 dX7_takeWord_10 rfl ?_
  obtain ⟨q6, h7, hm⟩ := bd_some hm
  refine j_getR C fg_X7_18_3 hv0 (dr_spec h7).1 dX7_takeWord_11 ?_
  refine j_aload_n C 1 dX7_takeWord_14 rfl ?_
  refine j_getI C fg_X7_36_3 hv0 dX7_takeWord_15 ?_
  obtain ⟨h8, hm⟩ := gd_some hm
  refine j_iald C ((dr_spec h7).2) h8 dX7_takeWord_18 ?_
  refine j_iload_n C 0 dX7_takeWord_19 rfl ?_
  refine j_isub C dX7_takeWord_20 ?_
  obtain ⟨y9, e10, hm⟩ := lt_some hm
  refine j_topi e10 ?_
  refine j_istore_n C (lv' := [(3, .int y9), (2, .int y4), (0, .ref v0), (1, .ref (sK Λ v1))]) dX7_takeWord_21 (by decide) rfl ?_
  refine j_aload_n C 2 dX7_takeWord_22 rfl ?_
  obtain ⟨q11, h12, hm⟩ := bd_some hm
  refine j_getR C fg_X7_9_3 hv0 (dr_spec h12).1 dX7_takeWord_23 ?_
  refine j_aload_n C 2 dX7_takeWord_26 rfl ?_
  refine j_getI C fg_X7_36_3 hv0 dX7_takeWord_27 ?_
  obtain ⟨h13, hm⟩ := gd_some hm
  refine j_iald C ((dr_spec h12).2) h13 dX7_takeWord_30 ?_
  refine j_iconst C (v := 1) dX7_takeWord_31 rfl ?_
  refine j_icmp_ne C (tgt := 43) dX7_takeWord_32 (by decide) (fun h14 => ?_) (fun h14 => ?_)
  · replace hm := if_f hm h14
    refine j_sub [] rfl ?_
    exact tj_X7_takeWord_43_3 C _ _  hm
  · replace hm := if_t hm h14
    refine j_iload_n C 0 dX7_takeWord_35 rfl ?_
    refine j_aload_n C 3 dX7_takeWord_36 rfl ?_
    refine call_I (run_Str C hv1 lx_X7_len (by decide) (As := []) rfl rfl (Nat.le_of_ble_eq_true rfl) dX7_takeWord_37 (mc_XS_length _ _ _ _ hv1)) ?_
    refine j_icmp_eq C (tgt := 45) dX7_takeWord_40 (by decide) (fun h15 => ?_) (fun h15 => ?_)
    · replace hm := if_t hm h15
      refine j_iconst C (v := 0) dX7_takeWord_45 rfl ?_
      refine j_istore C (lv' := [(4, .int 0), (3, .int y9), (2, .int y4), (0, .ref v0), (1, .ref (sK Λ v1))]) dX7_takeWord_46 (by decide) rfl ?_
      refine j_sub [3, 4, 2, 1, 0] rfl ?_
      exact tl_X7_takeWord_48_3 C _ _ _ _ _ hv0 hv1 (0, μ) hm
    · replace hm := if_f hm h15
      refine j_sub [] rfl ?_
      exact tj_X7_takeWord_43_3 C _ _  hm
set_option maxRecDepth 20000 in
set_option maxHeartbeats 4000000 in
theorem mc_X7_takeWord_3 (l : Launch) (N : Nat) (Λ : Lay) (μ : Mem) (v0 : Nat) (v1 : Nat) (hv0 : inL Λ v0 3) (hv1 : v1 < nWS) {r : Int32 × Mem} (hm : m_X7_takeWord N Λ μ v0 v1 = some r) : MI l yX7_takeWord cX7_takeWord 5 (some .boolean) rm_X7_takeWord Λ [.ref v0, .ref (sK Λ v1)] μ r.1 r.2 := mi_of rfl (Nat.le_of_ble_eq_true rfl) (fun x C _ => tm_X7_takeWord_3 C _ _ _ _ hv0 hv1 hm)
abbrev rm_X7_takeNumber : Room := { frames := 0, cells := 0, slots := 0, locals := 0 }
set_option maxRecDepth 20000 in
set_option maxHeartbeats 4000000 in
theorem tj_X7_takeNumber_42_1 {x : Ctx} {Λ : Lay} (C : Cx x cX7_takeNumber 7 (some .boolean) RX7 Λ rm_X7_takeNumber) (N : Nat) (μ : Mem) {r : Int32 × Mem} (hm : jn_X7_takeNumber_42 N Λ μ = some r) : J x 7 Λ (QI x Λ r.1 r.2) 42 [] [] μ := by
  refine j_iconst C (v := 0) dX7_takeNumber_42 rfl ?_
  obtain rfl := Option.some.inj hm
  exact j_iretz C rfl dX7_takeNumber_43
set_option maxRecDepth 20000 in
set_option maxHeartbeats 4000000 in
theorem tj_X7_takeNumber_98_1 {x : Ctx} {Λ : Lay} (C : Cx x cX7_takeNumber 7 (some .boolean) RX7 Λ rm_X7_takeNumber) (N : Nat) (μ : Mem) {r : Int32 × Mem} (hm : jn_X7_takeNumber_98 N Λ μ = some r) : J x 7 Λ (QI x Λ r.1 r.2) 98 [] [] μ := by
  refine j_iconst C (v := 0) dX7_takeNumber_98 rfl ?_
  obtain rfl := Option.some.inj hm
  exact j_iretz C rfl dX7_takeNumber_99
set_option maxRecDepth 20000 in
set_option maxHeartbeats 4000000 in
theorem tb_X7_takeNumber_50_1 {x : Ctx} {Λ : Lay} (C : Cx x cX7_takeNumber 7 (some .boolean) RX7 Λ rm_X7_takeNumber) (N : Nat) (μ : Mem) (k50 : Int32 × Int32 × Mem → Option (Int32 × Mem)) (v0 : Nat) (v1 : Int32) (v2 : Int32) (v3 : Int32) (v4 : Int32) (v5 : Int32) (v6 : Int32) (hk50 : ∀ (s : Int32 × Int32 × Mem) (r : Int32 × Mem), k50 s = some r → J x 7 Λ (QI x Λ r.1 r.2) 50 [(0, .ref v0), (1, .int v1), (2, .int v2), (3, .int v3), (4, .int v4), (5, .int s.1), (6, .int s.2.1)] [] (s.2.2)) (hv0 : inL Λ v0 1) {r : Int32 × Mem} (hm : bd_X7_takeNumber_50 N Λ μ k50 v0 v1 v2 v3 v4 v5 v6 = some r) : J x 7 Λ (QI x Λ r.1 r.2) 50 [(0, .ref v0), (1, .int v1), (2, .int v2), (3, .int v3), (4, .int v4), (5, .int v5), (6, .int v6)] [] μ := by
  refine j_iload C 6 dX7_takeNumber_50 rfl ?_
  refine j_iload C 4 dX7_takeNumber_52 rfl ?_
  refine j_icmp_ge C (tgt := 86) dX7_takeNumber_54 (by decide) (fun h1 => ?_) (fun h1 => ?_)
  · replace hm := if_t hm h1
    refine j_iload C 5 dX7_takeNumber_86 rfl ?_
    refine j_iload_n C 1 dX7_takeNumber_88 rfl ?_
    refine j_icmp_lt C (tgt := 98) dX7_takeNumber_89 (by decide) (fun h2 => ?_) (fun h2 => ?_)
    · replace hm := if_t hm h2
      refine j_sub [] rfl ?_
      exact tj_X7_takeNumber_98_1 C _ _  hm
    · replace hm := if_f hm h2
      refine j_iload C 5 dX7_takeNumber_92 rfl ?_
      refine j_iload_n C 2 dX7_takeNumber_94 rfl ?_
      refine j_icmp_le C (tgt := 100) dX7_takeNumber_95 (by decide) (fun h3 => ?_) (fun h3 => ?_)
      · replace hm := if_t hm h3
        refine j_aload_n C 0 dX7_takeNumber_100 rfl ?_
        refine j_iload C 5 dX7_takeNumber_101 rfl ?_
        obtain ⟨μ4, e5, hm⟩ := lt_some hm
        refine j_putI C fp_X7_66_1 hv0 e5 dX7_takeNumber_103 ?_
        refine j_aload_n C 0 dX7_takeNumber_106 rfl ?_
        refine j_dup C dX7_takeNumber_107 rfl ?_
        refine j_getI C fg_X7_36_1 hv0 dX7_takeNumber_108 ?_
        refine j_iconst C (v := 1) dX7_takeNumber_111 rfl ?_
        refine j_iadd C dX7_takeNumber_112 ?_
        obtain ⟨μ6, e7, hm⟩ := lt_some hm
        refine j_putI C fp_X7_36_1 hv0 e7 dX7_takeNumber_113 ?_
        refine j_iconst C (v := 1) dX7_takeNumber_116 rfl ?_
        obtain rfl := Option.some.inj hm
        exact j_iretz C rfl dX7_takeNumber_117
      · replace hm := if_f hm h3
        refine j_sub [] rfl ?_
        exact tj_X7_takeNumber_98_1 C _ _  hm
  · replace hm := if_f hm h1
    refine j_bipush C (v := 10) dX7_takeNumber_57 rfl ?_
    refine j_iload C 5 dX7_takeNumber_59 rfl ?_
    refine j_imul C dX7_takeNumber_61 ?_
    refine j_aload_n C 0 dX7_takeNumber_62 rfl ?_
    obtain ⟨q8, h9, hm⟩ := bd_some hm
    refine j_getR C fg_X7_21_1 hv0 (dr_spec h9).1 dX7_takeNumber_63 ?_
    obtain ⟨q10, h11, hm⟩ := bd_some hm
    refine j_getR C fg_X7_48_9 ((dr_spec h9).2) (dr_spec h11).1 dX7_takeNumber_66 ?_
    refine j_iload_n C 3 dX7_takeNumber_69 rfl ?_
    refine j_iload C 6 dX7_takeNumber_70 rfl ?_
    refine j_iadd C dX7_takeNumber_72 ?_
    obtain ⟨h12, hm⟩ := gd_some hm
    refine j_bald C ((dr_spec h11).2) h12 dX7_takeNumber_73 ?_
    refine j_iadd C dX7_takeNumber_74 ?_
    refine j_bipush C (v := 48) dX7_takeNumber_75 rfl ?_
    refine j_isub C dX7_takeNumber_77 ?_
    obtain ⟨y13, e14, hm⟩ := lt_some hm
    refine j_topi e14 ?_
    refine j_istore C (lv' := [(5, .int y13), (0, .ref v0), (1, .int v1), (2, .int v2), (3, .int v3), (4, .int v4), (6, .int v6)]) dX7_takeNumber_78 (by decide) rfl ?_
    obtain ⟨y15, e16, hm⟩ := lt_some hm
    refine j_iinc C 6 (v := y15) (lv' := [(6, .int y15), (5, .int y13), (0, .ref v0), (1, .int v1), (2, .int v2), (3, .int v3), (4, .int v4)]) dX7_takeNumber_80 rfl (by rw [e16]; rfl) (by decide) rfl ?_
    refine j_goto C (tgt := 50) dX7_takeNumber_83 (by decide) ?_
    refine j_sub [2, 3, 4, 5, 6, 1, 0] rfl ?_
    exact hk50 (y13, y15, μ) _ hm
set_option maxRecDepth 20000 in
set_option maxHeartbeats 4000000 in
theorem tl_X7_takeNumber_50_1 {x : Ctx} {Λ : Lay} (C : Cx x cX7_takeNumber 7 (some .boolean) RX7 Λ rm_X7_takeNumber) (N : Nat) (v0 : Nat) (v1 : Int32) (v2 : Int32) (v3 : Int32) (v4 : Int32) (hv0 : inL Λ v0 1) (s : Int32 × Int32 × Mem) {r : Int32 × Mem} (hm : lp_X7_takeNumber_50 N Λ v0 v1 v2 v3 v4 s = some r) : J x 7 Λ (QI x Λ r.1 r.2) 50 [(0, .ref v0), (1, .int v1), (2, .int v2), (3, .int v3), (4, .int v4), (5, .int s.1), (6, .int s.2.1)] [] (s.2.2) :=
  cw_ind (P := fun s r => J x 7 Λ (QI x Λ r.1 r.2) 50 [(0, .ref v0), (1, .int v1), (2, .int v2), (3, .int v3), (4, .int v4), (5, .int s.1), (6, .int s.2.1)] [] (s.2.2)) (fun k hkk s r e => tb_X7_takeNumber_50_1 C _ _ _ _ _ _ _ _ _ _ hkk hv0 e) N s r hm
set_option maxRecDepth 20000 in
set_option maxHeartbeats 4000000 in
theorem tm_X7_takeNumber_1 {x : Ctx} {Λ : Lay} (C : Cx x cX7_takeNumber 7 (some .boolean) RX7 Λ rm_X7_takeNumber) (N : Nat) (μ : Mem) (v0 : Nat) (v1 : Int32) (v2 : Int32) (hv0 : inL Λ v0 1) {r : Int32 × Mem} (hm : m_X7_takeNumber N Λ μ v0 v1 v2 = some r) : J x 7 Λ (QI x Λ r.1 r.2) 0 [(0, .ref v0), (1, .int v1), (2, .int v2)] [] μ := by
  refine j_aload_n C 0 dX7_takeNumber_0 rfl ?_
  obtain ⟨q1, h2, hm⟩ := bd_some hm
  refine j_getR C fg_X7_15_1 hv0 (dr_spec h2).1 dX7_takeNumber_1 ?_
  refine j_aload_n C 0 dX7_takeNumber_4 rfl ?_
  refine j_getI C fg_X7_36_1 hv0 dX7_takeNumber_5 ?_
  obtain ⟨h3, hm⟩ := gd_some hm
  refine j_iald C ((dr_spec h2).2) h3 dX7_takeNumber_8 ?_
  obtain ⟨y4, e5, hm⟩ := lt_some hm
  refine j_topi e5 ?_
  refine j_istore_n C (lv' := [(3, .int y4), (0, .ref v0), (1, .int v1), (2, .int v2)]) dX7_takeNumber_9 (by decide) rfl ?_
  refine j_aload_n C 1 dX7_takeNumber_10 rfl ?_
  obtain ⟨q6, h7, hm⟩ := bd_some hm
  refine j_getR C fg_X7_18_1 hv0 (dr_spec h7).1 dX7_takeNumber_11 ?_
  refine j_aload_n C 1 dX7_takeNumber_14 rfl ?_
  refine j_getI C fg_X7_36_1 hv0 dX7_takeNumber_15 ?_
  obtain ⟨h8, hm⟩ := gd_some hm
  refine j_iald C ((dr_spec h7).2) h8 dX7_takeNumber_18 ?_
  refine j_iload_n C 0 dX7_takeNumber_19 rfl ?_
  refine j_isub C dX7_takeNumber_20 ?_
  obtain ⟨y9, e10, hm⟩ := lt_some hm
  refine j_topi e10 ?_
  refine j_istore C (lv' := [(4, .int y9), (3, .int y4), (0, .ref v0), (1, .int v1), (2, .int v2)]) dX7_takeNumber_21 (by decide) rfl ?_
  refine j_aload_n C 2 dX7_takeNumber_23 rfl ?_
  obtain ⟨q11, h12, hm⟩ := bd_some hm
  refine j_getR C fg_X7_9_1 hv0 (dr_spec h12).1 dX7_takeNumber_24 ?_
  refine j_aload_n C 2 dX7_takeNumber_27 rfl ?_
  refine j_getI C fg_X7_36_1 hv0 dX7_takeNumber_28 ?_
  obtain ⟨h13, hm⟩ := gd_some hm
  refine j_iald C ((dr_spec h12).2) h13 dX7_takeNumber_31 ?_
  refine j_iconst C (v := 2) dX7_takeNumber_32 rfl ?_
  refine j_icmp_ne C (tgt := 42) dX7_takeNumber_33 (by decide) (fun h14 => ?_) (fun h14 => ?_)
  · replace hm := if_f hm h14
    refine j_sub [] rfl ?_
    exact tj_X7_takeNumber_42_1 C _ _  hm
  · replace hm := if_t hm h14
    refine j_iload C 0 dX7_takeNumber_36 rfl ?_
    refine j_iconst C (v := 3) dX7_takeNumber_38 rfl ?_
    refine j_icmp_le C (tgt := 44) dX7_takeNumber_39 (by decide) (fun h15 => ?_) (fun h15 => ?_)
    · replace hm := if_t hm h15
      refine j_iconst C (v := 0) dX7_takeNumber_44 rfl ?_
      refine j_istore C (lv' := [(5, .int 0), (4, .int y9), (3, .int y4), (0, .ref v0), (1, .int v1), (2, .int v2)]) dX7_takeNumber_45 (by decide) rfl ?_
      refine j_iconst C (v := 0) dX7_takeNumber_47 rfl ?_
      refine j_istore C (lv' := [(6, .int 0), (5, .int 0), (4, .int y9), (3, .int y4), (0, .ref v0), (1, .int v1), (2, .int v2)]) dX7_takeNumber_48 (by decide) rfl ?_
      refine j_sub [4, 5, 6, 3, 2, 1, 0] rfl ?_
      exact tl_X7_takeNumber_50_1 C _ _ _ _ _ _ hv0 (0, 0, μ) hm
    · replace hm := if_f hm h15
      refine j_sub [] rfl ?_
      exact tj_X7_takeNumber_42_1 C _ _  hm
set_option maxRecDepth 20000 in
set_option maxHeartbeats 4000000 in
theorem mc_X7_takeNumber_1 (l : Launch) (N : Nat) (Λ : Lay) (μ : Mem) (v0 : Nat) (v1 : Int32) (v2 : Int32) (hv0 : inL Λ v0 1) {r : Int32 × Mem} (hm : m_X7_takeNumber N Λ μ v0 v1 v2 = some r) : MI l yX7_takeNumber cX7_takeNumber 7 (some .boolean) rm_X7_takeNumber Λ [.ref v0, .int v1, .int v2] μ r.1 r.2 := mi_of rfl (Nat.le_of_ble_eq_true rfl) (fun x C _ => tm_X7_takeNumber_1 C _ _ _ _ _ hv0 hm)
set_option maxRecDepth 20000 in
set_option maxHeartbeats 4000000 in
theorem tj_X7_takeNumber_42_3 {x : Ctx} {Λ : Lay} (C : Cx x cX7_takeNumber 7 (some .boolean) RX7 Λ rm_X7_takeNumber) (N : Nat) (μ : Mem) {r : Int32 × Mem} (hm : jn_X7_takeNumber_42 N Λ μ = some r) : J x 7 Λ (QI x Λ r.1 r.2) 42 [] [] μ := by
  refine j_iconst C (v := 0) dX7_takeNumber_42 rfl ?_
  obtain rfl := Option.some.inj hm
  exact j_iretz C rfl dX7_takeNumber_43
set_option maxRecDepth 20000 in
set_option maxHeartbeats 4000000 in
theorem tj_X7_takeNumber_98_3 {x : Ctx} {Λ : Lay} (C : Cx x cX7_takeNumber 7 (some .boolean) RX7 Λ rm_X7_takeNumber) (N : Nat) (μ : Mem) {r : Int32 × Mem} (hm : jn_X7_takeNumber_98 N Λ μ = some r) : J x 7 Λ (QI x Λ r.1 r.2) 98 [] [] μ := by
  refine j_iconst C (v := 0) dX7_takeNumber_98 rfl ?_
  obtain rfl := Option.some.inj hm
  exact j_iretz C rfl dX7_takeNumber_99
set_option maxRecDepth 20000 in
set_option maxHeartbeats 4000000 in
theorem tb_X7_takeNumber_50_3 {x : Ctx} {Λ : Lay} (C : Cx x cX7_takeNumber 7 (some .boolean) RX7 Λ rm_X7_takeNumber) (N : Nat) (μ : Mem) (k50 : Int32 × Int32 × Mem → Option (Int32 × Mem)) (v0 : Nat) (v1 : Int32) (v2 : Int32) (v3 : Int32) (v4 : Int32) (v5 : Int32) (v6 : Int32) (hk50 : ∀ (s : Int32 × Int32 × Mem) (r : Int32 × Mem), k50 s = some r → J x 7 Λ (QI x Λ r.1 r.2) 50 [(0, .ref v0), (1, .int v1), (2, .int v2), (3, .int v3), (4, .int v4), (5, .int s.1), (6, .int s.2.1)] [] (s.2.2)) (hv0 : inL Λ v0 3) {r : Int32 × Mem} (hm : bd_X7_takeNumber_50 N Λ μ k50 v0 v1 v2 v3 v4 v5 v6 = some r) : J x 7 Λ (QI x Λ r.1 r.2) 50 [(0, .ref v0), (1, .int v1), (2, .int v2), (3, .int v3), (4, .int v4), (5, .int v5), (6, .int v6)] [] μ := by
  refine j_iload C 6 dX7_takeNumber_50 rfl ?_
  refine j_iload C 4 dX7_takeNumber_52 rfl ?_
  refine j_icmp_ge C (tgt := 86) dX7_takeNumber_54 (by decide) (fun h1 => ?_) (fun h1 => ?_)
  · replace hm := if_t hm h1
    refine j_iload C 5 dX7_takeNumber_86 rfl ?_
    refine j_iload_n C 1 dX7_takeNumber_88 rfl ?_
    refine j_icmp_lt C (tgt := 98) dX7_takeNumber_89 (by decide) (fun h2 => ?_) (fun h2 => ?_)
    · replace hm := if_t hm h2
      refine j_sub [] rfl ?_
      exact tj_X7_takeNumber_98_3 C _ _  hm
    · replace hm := if_f hm h2
      refine j_iload C 5 dX7_takeNumber_92 rfl ?_
      refine j_iload_n C 2 dX7_takeNumber_94 rfl ?_
      refine j_icmp_le C (tgt := 100) dX7_takeNumber_95 (by decide) (fun h3 => ?_) (fun h3 => ?_)
      · replace hm := if_t hm h3
        refine j_aload_n C 0 dX7_takeNumber_100 rfl ?_
        refine j_iload C 5 dX7_takeNumber_101 rfl ?_
        obtain ⟨μ4, e5, hm⟩ := lt_some hm
        refine j_putI C fp_X7_66_3 hv0 e5 dX7_takeNumber_103 ?_
        refine j_aload_n C 0 dX7_takeNumber_106 rfl ?_
        refine j_dup C dX7_takeNumber_107 rfl ?_
        refine j_getI C fg_X7_36_3 hv0 dX7_takeNumber_108 ?_
        refine j_iconst C (v := 1) dX7_takeNumber_111 rfl ?_
        refine j_iadd C dX7_takeNumber_112 ?_
        obtain ⟨μ6, e7, hm⟩ := lt_some hm
        refine j_putI C fp_X7_36_3 hv0 e7 dX7_takeNumber_113 ?_
        refine j_iconst C (v := 1) dX7_takeNumber_116 rfl ?_
        obtain rfl := Option.some.inj hm
        exact j_iretz C rfl dX7_takeNumber_117
      · replace hm := if_f hm h3
        refine j_sub [] rfl ?_
        exact tj_X7_takeNumber_98_3 C _ _  hm
  · replace hm := if_f hm h1
    refine j_bipush C (v := 10) dX7_takeNumber_57 rfl ?_
    refine j_iload C 5 dX7_takeNumber_59 rfl ?_
    refine j_imul C dX7_takeNumber_61 ?_
    refine j_aload_n C 0 dX7_takeNumber_62 rfl ?_
    obtain ⟨q8, h9, hm⟩ := bd_some hm
    refine j_getR C fg_X7_21_3 hv0 (dr_spec h9).1 dX7_takeNumber_63 ?_
    obtain ⟨q10, h11, hm⟩ := bd_some hm
    refine j_getR C fg_X7_48_9 ((dr_spec h9).2) (dr_spec h11).1 dX7_takeNumber_66 ?_
    refine j_iload_n C 3 dX7_takeNumber_69 rfl ?_
    refine j_iload C 6 dX7_takeNumber_70 rfl ?_
    refine j_iadd C dX7_takeNumber_72 ?_
    obtain ⟨h12, hm⟩ := gd_some hm
    refine j_bald C ((dr_spec h11).2) h12 dX7_takeNumber_73 ?_
    refine j_iadd C dX7_takeNumber_74 ?_
    refine j_bipush C (v := 48) dX7_takeNumber_75 rfl ?_
    refine j_isub C dX7_takeNumber_77 ?_
    obtain ⟨y13, e14, hm⟩ := lt_some hm
    refine j_topi e14 ?_
    refine j_istore C (lv' := [(5, .int y13), (0, .ref v0), (1, .int v1), (2, .int v2), (3, .int v3), (4, .int v4), (6, .int v6)]) dX7_takeNumber_78 (by decide) rfl ?_
    obtain ⟨y15, e16, hm⟩ := lt_some hm
    refine j_iinc C 6 (v := y15) (lv' := [(6, .int y15), (5, .int y13), (0, .ref v0), (1, .int v1), (2, .int v2), (3, .int v3), (4, .int v4)]) dX7_takeNumber_80 rfl (by rw [e16]; rfl) (by decide) rfl ?_
    refine j_goto C (tgt := 50) dX7_takeNumber_83 (by decide) ?_
    refine j_sub [2, 3, 4, 5, 6, 1, 0] rfl ?_
    exact hk50 (y13, y15, μ) _ hm
set_option maxRecDepth 20000 in
set_option maxHeartbeats 4000000 in
theorem tl_X7_takeNumber_50_3 {x : Ctx} {Λ : Lay} (C : Cx x cX7_takeNumber 7 (some .boolean) RX7 Λ rm_X7_takeNumber) (N : Nat) (v0 : Nat) (v1 : Int32) (v2 : Int32) (v3 : Int32) (v4 : Int32) (hv0 : inL Λ v0 3) (s : Int32 × Int32 × Mem) {r : Int32 × Mem} (hm : lp_X7_takeNumber_50 N Λ v0 v1 v2 v3 v4 s = some r) : J x 7 Λ (QI x Λ r.1 r.2) 50 [(0, .ref v0), (1, .int v1), (2, .int v2), (3, .int v3), (4, .int v4), (5, .int s.1), (6, .int s.2.1)] [] (s.2.2) :=
  cw_ind (P := fun s r => J x 7 Λ (QI x Λ r.1 r.2) 50 [(0, .ref v0), (1, .int v1), (2, .int v2), (3, .int v3), (4, .int v4), (5, .int s.1), (6, .int s.2.1)] [] (s.2.2)) (fun k hkk s r e => tb_X7_takeNumber_50_3 C _ _ _ _ _ _ _ _ _ _ hkk hv0 e) N s r hm
set_option maxRecDepth 20000 in
set_option maxHeartbeats 4000000 in
theorem tm_X7_takeNumber_3 {x : Ctx} {Λ : Lay} (C : Cx x cX7_takeNumber 7 (some .boolean) RX7 Λ rm_X7_takeNumber) (N : Nat) (μ : Mem) (v0 : Nat) (v1 : Int32) (v2 : Int32) (hv0 : inL Λ v0 3) {r : Int32 × Mem} (hm : m_X7_takeNumber N Λ μ v0 v1 v2 = some r) : J x 7 Λ (QI x Λ r.1 r.2) 0 [(0, .ref v0), (1, .int v1), (2, .int v2)] [] μ := by
  refine j_aload_n C 0 dX7_takeNumber_0 rfl ?_
  obtain ⟨q1, h2, hm⟩ := bd_some hm
  refine j_getR C fg_X7_15_3 hv0 (dr_spec h2).1 dX7_takeNumber_1 ?_
  refine j_aload_n C 0 dX7_takeNumber_4 rfl ?_
  refine j_getI C fg_X7_36_3 hv0 dX7_takeNumber_5 ?_
  obtain ⟨h3, hm⟩ := gd_some hm
  refine j_iald C ((dr_spec h2).2) h3 dX7_takeNumber_8 ?_
  obtain ⟨y4, e5, hm⟩ := lt_some hm
  refine j_topi e5 ?_
  refine j_istore_n C (lv' := [(3, .int y4), (0, .ref v0), (1, .int v1), (2, .int v2)]) dX7_takeNumber_9 (by decide) rfl ?_
  refine j_aload_n C 1 dX7_takeNumber_10 rfl ?_
  obtain ⟨q6, h7, hm⟩ := bd_some hm
  refine j_getR C fg_X7_18_3 hv0 (dr_spec h7).1 dX7_takeNumber_11 ?_
  refine j_aload_n C 1 dX7_takeNumber_14 rfl ?_
  refine j_getI C fg_X7_36_3 hv0 dX7_takeNumber_15 ?_
  obtain ⟨h8, hm⟩ := gd_some hm
  refine j_iald C ((dr_spec h7).2) h8 dX7_takeNumber_18 ?_
  refine j_iload_n C 0 dX7_takeNumber_19 rfl ?_
  refine j_isub C dX7_takeNumber_20 ?_
  obtain ⟨y9, e10, hm⟩ := lt_some hm
  refine j_topi e10 ?_
  refine j_istore C (lv' := [(4, .int y9), (3, .int y4), (0, .ref v0), (1, .int v1), (2, .int v2)]) dX7_takeNumber_21 (by decide) rfl ?_
  refine j_aload_n C 2 dX7_takeNumber_23 rfl ?_
  obtain ⟨q11, h12, hm⟩ := bd_some hm
  refine j_getR C fg_X7_9_3 hv0 (dr_spec h12).1 dX7_takeNumber_24 ?_
  refine j_aload_n C 2 dX7_takeNumber_27 rfl ?_
  refine j_getI C fg_X7_36_3 hv0 dX7_takeNumber_28 ?_
  obtain ⟨h13, hm⟩ := gd_some hm
  refine j_iald C ((dr_spec h12).2) h13 dX7_takeNumber_31 ?_
  refine j_iconst C (v := 2) dX7_takeNumber_32 rfl ?_
  refine j_icmp_ne C (tgt := 42) dX7_takeNumber_33 (by decide) (fun h14 => ?_) (fun h14 => ?_)
  · replace hm := if_f hm h14
    refine j_sub [] rfl ?_
    exact tj_X7_takeNumber_42_3 C _ _  hm
  · replace hm := if_t hm h14
    refine j_iload C 0 dX7_takeNumber_36 rfl ?_
    refine j_iconst C (v := 3) dX7_takeNumber_38 rfl ?_
    refine j_icmp_le C (tgt := 44) dX7_takeNumber_39 (by decide) (fun h15 => ?_) (fun h15 => ?_)
    · replace hm := if_t hm h15
      refine j_iconst C (v := 0) dX7_takeNumber_44 rfl ?_
      refine j_istore C (lv' := [(5, .int 0), (4, .int y9), (3, .int y4), (0, .ref v0), (1, .int v1), (2, .int v2)]) dX7_takeNumber_45 (by decide) rfl ?_
      refine j_iconst C (v := 0) dX7_takeNumber_47 rfl ?_
      refine j_istore C (lv' := [(6, .int 0), (5, .int 0), (4, .int y9), (3, .int y4), (0, .ref v0), (1, .int v1), (2, .int v2)]) dX7_takeNumber_48 (by decide) rfl ?_
      refine j_sub [4, 5, 6, 3, 2, 1, 0] rfl ?_
      exact tl_X7_takeNumber_50_3 C _ _ _ _ _ _ hv0 (0, 0, μ) hm
    · replace hm := if_f hm h15
      refine j_sub [] rfl ?_
      exact tj_X7_takeNumber_42_3 C _ _  hm
set_option maxRecDepth 20000 in
set_option maxHeartbeats 4000000 in
theorem mc_X7_takeNumber_3 (l : Launch) (N : Nat) (Λ : Lay) (μ : Mem) (v0 : Nat) (v1 : Int32) (v2 : Int32) (hv0 : inL Λ v0 3) {r : Int32 × Mem} (hm : m_X7_takeNumber N Λ μ v0 v1 v2 = some r) : MI l yX7_takeNumber cX7_takeNumber 7 (some .boolean) rm_X7_takeNumber Λ [.ref v0, .int v1, .int v2] μ r.1 r.2 := mi_of rfl (Nat.le_of_ble_eq_true rfl) (fun x C _ => tm_X7_takeNumber_3 C _ _ _ _ _ hv0 hm)
abbrev rm_X1_takeFreePlace : Room := { frames := 2, cells := 0, slots := 0, locals := 43 }
set_option maxRecDepth 20000 in
set_option maxHeartbeats 4000000 in
theorem tm_X1_takeFreePlace {x : Ctx} {Λ : Lay} (C : Cx x cX1_takeFreePlace 3 (some .boolean) RX1 Λ rm_X1_takeFreePlace) (N : Nat) (μ : Mem) (v0 : Nat) (v1 : Int32) (hv0 : inL Λ v0 1) {r : Int32 × Mem} (hm : m_X1_takeFreePlace N Λ μ v0 v1 = some r) : J x 3 Λ (QI x Λ r.1 r.2) 0 [(0, .ref v0), (1, .int v1)] [] μ := by
  refine j_aload_n C 0 dX1_takeFreePlace_0 rfl ?_
  refine j_getI C fg_X1_15_1 hv0 dX1_takeFreePlace_1 ?_
  obtain ⟨y1, e2, hm⟩ := lt_some hm
  refine j_topi e2 ?_
  refine j_istore_n C (lv' := [(2, .int y1), (0, .ref v0), (1, .int v1)]) dX1_takeFreePlace_4 (by decide) rfl ?_
  refine j_aload_n C 1 dX1_takeFreePlace_5 rfl ?_
  refine j_iconst C (v := 0) dX1_takeFreePlace_6 rfl ?_
  refine j_bipush C (v := 23) dX1_takeFreePlace_7 rfl ?_
  obtain ⟨r3, h4, hm⟩ := bd_some hm
  refine call_I (run_LU C lu_X1_76_1 ⟨rfl, rfl, Nat.le_of_ble_eq_true rfl, Nat.le_of_ble_eq_true rfl⟩ (As := [.int 0, .int 23]) hv0 rfl rfl (Nat.le_of_ble_eq_true rfl) dX1_takeFreePlace_9 (mc_X7_takeNumber_1 _ _ _ _ _ _ _ hv0 h4)) ?_
  refine j_if_ne C (tgt := 17) dX1_takeFreePlace_12 (by decide) (fun h5 => ?_) (fun h5 => ?_)
  · replace hm := if_f hm h5
    refine j_aload_n C 1 dX1_takeFreePlace_17 rfl ?_
    obtain ⟨q6, h7, hm⟩ := bd_some hm
    refine j_getR C fg_X1_9_1 hv0 (dr_spec h7).1 dX1_takeFreePlace_18 ?_
    obtain ⟨r8, h9, hm⟩ := bd_some hm
    refine call_I (run_LV C lk_X1_111 ⟨rfl, rfl, Nat.le_of_ble_eq_true rfl, Nat.le_of_ble_eq_true rfl⟩ (As := []) ((dr_spec h7).2) rfl rfl (Nat.le_of_ble_eq_true rfl) dX1_takeFreePlace_21 (mc_X9_takenPlaces _ _ _ _ _ ((dr_spec h7).2) h9)) ?_
    refine j_aload_n C 1 dX1_takeFreePlace_24 rfl ?_
    refine j_getI C fg_X1_80_1 hv0 dX1_takeFreePlace_25 ?_
    refine j_iload_n C 2 dX1_takeFreePlace_28 rfl ?_
    obtain ⟨r10, h11, hm⟩ := bd_some hm
    refine call_I (run_LN C ln_X1_115 ⟨rfl, rfl, Nat.le_of_ble_eq_true rfl, Nat.le_of_ble_eq_true rfl⟩ (As := [.int r8, .int (r3.2.1 v0 2), .int v1]) rfl rfl (Nat.le_of_ble_eq_true rfl) dX1_takeFreePlace_29 (mc_X11_isRoom _ _ _ _ _ _ _  h11)) ?_
    refine j_if_ne C (tgt := 42) dX1_takeFreePlace_32 (by decide) (fun h12 => ?_) (fun h12 => ?_)
    · replace hm := if_f hm h12
      refine j_iconst C (v := 1) dX1_takeFreePlace_42 rfl ?_
      obtain rfl := Option.some.inj hm
      exact j_iretz C rfl dX1_takeFreePlace_43
    · replace hm := if_t hm h12
      refine j_aload_n C 1 dX1_takeFreePlace_35 rfl ?_
      refine j_iload_n C 0 dX1_takeFreePlace_36 rfl ?_
      obtain ⟨μ13, e14, hm⟩ := lt_some hm
      refine j_putI C fp_X1_15_1 hv0 e14 dX1_takeFreePlace_37 ?_
      refine j_iconst C (v := 0) dX1_takeFreePlace_40 rfl ?_
      obtain rfl := Option.some.inj hm
      exact j_iretz C rfl dX1_takeFreePlace_41
  · replace hm := if_t hm h5
    refine j_iconst C (v := 0) dX1_takeFreePlace_15 rfl ?_
    obtain rfl := Option.some.inj hm
    exact j_iretz C rfl dX1_takeFreePlace_16
set_option maxRecDepth 20000 in
set_option maxHeartbeats 4000000 in
theorem mc_X1_takeFreePlace (l : Launch) (N : Nat) (Λ : Lay) (μ : Mem) (v0 : Nat) (v1 : Int32) (hv0 : inL Λ v0 1) {r : Int32 × Mem} (hm : m_X1_takeFreePlace N Λ μ v0 v1 = some r) : MI l yX1_takeFreePlace cX1_takeFreePlace 3 (some .boolean) rm_X1_takeFreePlace Λ [.ref v0, .int v1] μ r.1 r.2 := mi_of rfl (Nat.le_of_ble_eq_true rfl) (fun x C _ => tm_X1_takeFreePlace C _ _ _ _ hv0 hm)
abbrev rm_X1_readShip : Room := { frames := 5, cells := 0, slots := 0, locals := 114 }
set_option maxRecDepth 20000 in
set_option maxHeartbeats 4000000 in
theorem tj_X1_readShip_38 {x : Ctx} {Λ : Lay} (C : Cx x cX1_readShip 6 (some .boolean) RX1 Λ rm_X1_readShip) (N : Nat) (μ : Mem) {r : Int32 × Mem} (hm : jn_X1_readShip_38 N Λ μ = some r) : J x 6 Λ (QI x Λ r.1 r.2) 38 [] [] μ := by
  refine j_iconst C (v := 0) dX1_readShip_38 rfl ?_
  obtain rfl := Option.some.inj hm
  exact j_iretz C rfl dX1_readShip_39
set_option maxRecDepth 20000 in
set_option maxHeartbeats 4000000 in
theorem tj_X1_readShip_64 {x : Ctx} {Λ : Lay} (C : Cx x cX1_readShip 6 (some .boolean) RX1 Λ rm_X1_readShip) (N : Nat) (μ : Mem) {r : Int32 × Mem} (hm : jn_X1_readShip_64 N Λ μ = some r) : J x 6 Λ (QI x Λ r.1 r.2) 64 [] [] μ := by
  refine j_iconst C (v := 0) dX1_readShip_64 rfl ?_
  obtain rfl := Option.some.inj hm
  exact j_iretz C rfl dX1_readShip_65
set_option maxRecDepth 20000 in
set_option maxHeartbeats 4000000 in
theorem tj_X1_readShip_129 {x : Ctx} {Λ : Lay} (C : Cx x cX1_readShip 6 (some .boolean) RX1 Λ rm_X1_readShip) (N : Nat) (μ : Mem) (v0 : Nat) (v2 : Int32) (v3 : Int32) (v4 : Int32) (v5 : Int32) (hv0 : inL Λ v0 1) {r : Int32 × Mem} (hm : jn_X1_readShip_129 N Λ μ v0 v2 v3 v4 v5 = some r) : J x 6 Λ (QI x Λ r.1 r.2) 129 [(0, .ref v0), (2, .int v2), (3, .int v3), (4, .int v4), (5, .int v5)] [] μ := by
  refine j_aload_n C 0 dX1_readShip_129 rfl ?_
  obtain ⟨q1, h2, hm⟩ := bd_some hm
  refine j_getR C fg_X1_9_1 hv0 (dr_spec h2).1 dX1_readShip_130 ?_
  refine j_iload_n C 1 dX1_readShip_133 rfl ?_
  refine j_iload_n C 2 dX1_readShip_134 rfl ?_
  refine j_iload C 3 dX1_readShip_135 rfl ?_
  refine j_iload C 4 dX1_readShip_137 rfl ?_
  obtain ⟨r3, h4, hm⟩ := bd_some hm
  refine call_I (run_LV C lk_X1_107 ⟨rfl, rfl, Nat.le_of_ble_eq_true rfl, Nat.le_of_ble_eq_true rfl⟩ (As := [.int v2, .int v3, .int v4, .int v5]) ((dr_spec h2).2) rfl rfl (Nat.le_of_ble_eq_true rfl) dX1_readShip_139 (mc_X9_addShip _ _ _ _ _ _ _ _ _ ((dr_spec h2).2) h4)) ?_
  refine j_pop C dX1_readShip_142 rfl ?_
  refine j_iconst C (v := 1) dX1_readShip_143 rfl ?_
  obtain rfl := Option.some.inj hm
  exact j_iretz C rfl dX1_readShip_144
set_option maxRecDepth 20000 in
set_option maxHeartbeats 4000000 in
theorem tj_X1_readShip_101 {x : Ctx} {Λ : Lay} (C : Cx x cX1_readShip 6 (some .boolean) RX1 Λ rm_X1_readShip) (N : Nat) (μ : Mem) (v0 : Nat) (v2 : Int32) (v3 : Int32) (v4 : Int32) (hv0 : inL Λ v0 1) {r : Int32 × Mem} (hm : jn_X1_readShip_101 N Λ μ v0 v2 v3 v4 = some r) : J x 6 Λ (QI x Λ r.1 r.2) 101 [(0, .ref v0), (2, .int v2), (3, .int v3), (4, .int v4)] [] μ := by
  refine j_iconst C (v := -1) dX1_readShip_101 rfl ?_
  refine j_istore C (lv' := [(5, .int (-1)), (0, .ref v0), (2, .int v2), (3, .int v3), (4, .int v4)]) dX1_readShip_102 (by decide) rfl ?_
  refine j_aload_n C 1 dX1_readShip_104 rfl ?_
  refine j_ldcS C (i := 1) (tx := "at") (List.mem_of_getElem? (i := 4) rfl) dX1_readShip_105 ?_
  obtain ⟨r1, h2, hm⟩ := bd_some hm
  refine call_I (run_LU C lu_X1_21_1 ⟨rfl, rfl, Nat.le_of_ble_eq_true rfl, Nat.le_of_ble_eq_true rfl⟩ (As := [.ref (sK Λ 1)]) hv0 rfl rfl (Nat.le_of_ble_eq_true rfl) dX1_readShip_107 (mc_X7_takeWord_1 _ _ _ _ _ _ hv0 ((by decide)) h2)) ?_
  refine j_if_eq C (tgt := 129) dX1_readShip_110 (by decide) (fun h3 => ?_) (fun h3 => ?_)
  · replace hm := if_t hm h3
    refine j_sub [1, 2, 3, 4, 0] rfl ?_
    exact tj_X1_readShip_129 C _ _ _ _ _ _ _ hv0 hm
  · replace hm := if_f hm h3
    refine j_aload_n C 1 dX1_readShip_113 rfl ?_
    refine j_iload_n C 2 dX1_readShip_114 rfl ?_
    obtain ⟨r4, h5, hm⟩ := bd_some hm
    refine call_I (run_LV C lk_X1_104 ⟨rfl, rfl, Nat.le_of_ble_eq_true rfl, Nat.le_of_ble_eq_true rfl⟩ (As := [.int v2]) hv0 rfl rfl (Nat.le_of_ble_eq_true rfl) dX1_readShip_115 (mc_X1_takeFreePlace _ _ _ _ _ _ hv0 h5)) ?_
    refine j_if_ne C (tgt := 123) dX1_readShip_118 (by decide) (fun h6 => ?_) (fun h6 => ?_)
    · replace hm := if_f hm h6
      refine j_aload_n C 1 dX1_readShip_123 rfl ?_
      refine j_getI C fg_X1_80_1 hv0 dX1_readShip_124 ?_
      obtain ⟨y7, e8, hm⟩ := lt_some hm
      refine j_topi e8 ?_
      refine j_istore C (lv' := [(5, .int y7), (0, .ref v0), (2, .int v2), (3, .int v3), (4, .int v4)]) dX1_readShip_127 (by decide) rfl ?_
      refine j_sub [1, 2, 3, 4, 0] rfl ?_
      exact tj_X1_readShip_129 C _ _ _ _ _ _ _ hv0 hm
    · replace hm := if_t hm h6
      refine j_iconst C (v := 0) dX1_readShip_121 rfl ?_
      obtain rfl := Option.some.inj hm
      exact j_iretz C rfl dX1_readShip_122
set_option maxRecDepth 20000 in
set_option maxHeartbeats 4000000 in
theorem tm_X1_readShip {x : Ctx} {Λ : Lay} (C : Cx x cX1_readShip 6 (some .boolean) RX1 Λ rm_X1_readShip) (N : Nat) (μ : Mem) (v0 : Nat) (v1 : Int32) (hv0 : inL Λ v0 1) {r : Int32 × Mem} (hm : m_X1_readShip N Λ μ v0 v1 = some r) : J x 6 Λ (QI x Λ r.1 r.2) 0 [(0, .ref v0), (1, .int v1)] [] μ := by
  refine j_aload_n C 0 dX1_readShip_0 rfl ?_
  obtain ⟨q1, h2, hm⟩ := bd_some hm
  refine j_getR C fg_X1_9_1 hv0 (dr_spec h2).1 dX1_readShip_1 ?_
  refine j_getI C fg_X1_93_8 ((dr_spec h2).2) dX1_readShip_4 ?_
  refine j_bipush C (v := 8) dX1_readShip_7 rfl ?_
  refine j_icmp_lt C (tgt := 19) dX1_readShip_9 (by decide) (fun h3 => ?_) (fun h3 => ?_)
  · replace hm := if_t hm h3
    refine j_aload_n C 0 dX1_readShip_19 rfl ?_
    refine j_ldcS C (i := 11) (tx := "length") (List.mem_of_getElem? (i := 1) rfl) dX1_readShip_20 ?_
    obtain ⟨r4, h5, hm⟩ := bd_some hm
    refine call_I (run_LU C lu_X1_21_1 ⟨rfl, rfl, Nat.le_of_ble_eq_true rfl, Nat.le_of_ble_eq_true rfl⟩ (As := [.ref (sK Λ 11)]) hv0 rfl rfl (Nat.le_of_ble_eq_true rfl) dX1_readShip_22 (mc_X7_takeWord_1 _ _ _ _ _ _ hv0 ((by decide)) h5)) ?_
    refine j_if_eq C (tgt := 38) dX1_readShip_25 (by decide) (fun h6 => ?_) (fun h6 => ?_)
    · replace hm := if_t hm h6
      refine j_sub [] rfl ?_
      exact tj_X1_readShip_38 C _ _  hm
    · replace hm := if_f hm h6
      refine j_aload_n C 0 dX1_readShip_28 rfl ?_
      refine j_iconst C (v := 1) dX1_readShip_29 rfl ?_
      refine j_bipush C (v := 12) dX1_readShip_30 rfl ?_
      obtain ⟨r7, h8, hm⟩ := bd_some hm
      refine call_I (run_LU C lu_X1_76_1 ⟨rfl, rfl, Nat.le_of_ble_eq_true rfl, Nat.le_of_ble_eq_true rfl⟩ (As := [.int 1, .int 12]) hv0 rfl rfl (Nat.le_of_ble_eq_true rfl) dX1_readShip_32 (mc_X7_takeNumber_1 _ _ _ _ _ _ _ hv0 h8)) ?_
      refine j_if_ne C (tgt := 40) dX1_readShip_35 (by decide) (fun h9 => ?_) (fun h9 => ?_)
      · replace hm := if_f hm h9
        refine j_aload_n C 0 dX1_readShip_40 rfl ?_
        refine j_getI C fg_X1_80_1 hv0 dX1_readShip_41 ?_
        obtain ⟨y10, e11, hm⟩ := lt_some hm
        refine j_topi e11 ?_
        refine j_istore_n C (lv' := [(2, .int y10), (0, .ref v0), (1, .int v1)]) dX1_readShip_44 (by decide) rfl ?_
        refine j_aload_n C 1 dX1_readShip_45 rfl ?_
        refine j_ldcS C (i := 3) (tx := "draught") (List.mem_of_getElem? (i := 2) rfl) dX1_readShip_46 ?_
        obtain ⟨r12, h13, hm⟩ := bd_some hm
        refine call_I (run_LU C lu_X1_21_1 ⟨rfl, rfl, Nat.le_of_ble_eq_true rfl, Nat.le_of_ble_eq_true rfl⟩ (As := [.ref (sK Λ 3)]) hv0 rfl rfl (Nat.le_of_ble_eq_true rfl) dX1_readShip_48 (mc_X7_takeWord_1 _ _ _ _ _ _ hv0 ((by decide)) h13)) ?_
        refine j_if_eq C (tgt := 64) dX1_readShip_51 (by decide) (fun h14 => ?_) (fun h14 => ?_)
        · replace hm := if_t hm h14
          refine j_sub [] rfl ?_
          exact tj_X1_readShip_64 C _ _  hm
        · replace hm := if_f hm h14
          refine j_aload_n C 1 dX1_readShip_54 rfl ?_
          refine j_iconst C (v := 1) dX1_readShip_55 rfl ?_
          refine j_bipush C (v := 20) dX1_readShip_56 rfl ?_
          obtain ⟨r15, h16, hm⟩ := bd_some hm
          refine call_I (run_LU C lu_X1_76_1 ⟨rfl, rfl, Nat.le_of_ble_eq_true rfl, Nat.le_of_ble_eq_true rfl⟩ (As := [.int 1, .int 20]) hv0 rfl rfl (Nat.le_of_ble_eq_true rfl) dX1_readShip_58 (mc_X7_takeNumber_1 _ _ _ _ _ _ _ hv0 h16)) ?_
          refine j_if_ne C (tgt := 66) dX1_readShip_61 (by decide) (fun h17 => ?_) (fun h17 => ?_)
          · replace hm := if_f hm h17
            refine j_aload_n C 1 dX1_readShip_66 rfl ?_
            refine j_getI C fg_X1_80_1 hv0 dX1_readShip_67 ?_
            obtain ⟨y18, e19, hm⟩ := lt_some hm
            refine j_topi e19 ?_
            refine j_istore_n C (lv' := [(3, .int y18), (2, .int y10), (0, .ref v0), (1, .int v1)]) dX1_readShip_70 (by decide) rfl ?_
            refine j_iconst C (v := 0) dX1_readShip_71 rfl ?_
            refine j_istore C (lv' := [(4, .int 0), (3, .int y18), (2, .int y10), (0, .ref v0), (1, .int v1)]) dX1_readShip_72 (by decide) rfl ?_
            refine j_aload_n C 3 dX1_readShip_74 rfl ?_
            refine j_ldcS C (i := 22) (tx := "work") (List.mem_of_getElem? (i := 3) rfl) dX1_readShip_75 ?_
            obtain ⟨r20, h21, hm⟩ := bd_some hm
            refine call_I (run_LU C lu_X1_21_1 ⟨rfl, rfl, Nat.le_of_ble_eq_true rfl, Nat.le_of_ble_eq_true rfl⟩ (As := [.ref (sK Λ 22)]) hv0 rfl rfl (Nat.le_of_ble_eq_true rfl) dX1_readShip_77 (mc_X7_takeWord_1 _ _ _ _ _ _ hv0 ((by decide)) h21)) ?_
            refine j_if_eq C (tgt := 101) dX1_readShip_80 (by decide) (fun h22 => ?_) (fun h22 => ?_)
            · replace hm := if_t hm h22
              refine j_sub [3, 2, 1, 0] rfl ?_
              exact tj_X1_readShip_101 C _ _ _ _ _ _ hv0 hm
            · replace hm := if_f hm h22
              refine j_aload_n C 3 dX1_readShip_83 rfl ?_
              refine j_iconst C (v := 0) dX1_readShip_84 rfl ?_
              refine j_bipush C (v := 99) dX1_readShip_85 rfl ?_
              obtain ⟨r23, h24, hm⟩ := bd_some hm
              refine call_I (run_LU C lu_X1_76_1 ⟨rfl, rfl, Nat.le_of_ble_eq_true rfl, Nat.le_of_ble_eq_true rfl⟩ (As := [.int 0, .int 99]) hv0 rfl rfl (Nat.le_of_ble_eq_true rfl) dX1_readShip_87 (mc_X7_takeNumber_1 _ _ _ _ _ _ _ hv0 h24)) ?_
              refine j_if_ne C (tgt := 95) dX1_readShip_90 (by decide) (fun h25 => ?_) (fun h25 => ?_)
              · replace hm := if_f hm h25
                refine j_aload_n C 3 dX1_readShip_95 rfl ?_
                refine j_getI C fg_X1_80_1 hv0 dX1_readShip_96 ?_
                obtain ⟨y26, e27, hm⟩ := lt_some hm
                refine j_topi e27 ?_
                refine j_istore C (lv' := [(4, .int y26), (3, .int y18), (2, .int y10), (0, .ref v0), (1, .int v1)]) dX1_readShip_99 (by decide) rfl ?_
                refine j_sub [3, 2, 1, 0] rfl ?_
                exact tj_X1_readShip_101 C _ _ _ _ _ _ hv0 hm
              · replace hm := if_t hm h25
                refine j_iconst C (v := 0) dX1_readShip_93 rfl ?_
                obtain rfl := Option.some.inj hm
                exact j_iretz C rfl dX1_readShip_94
          · replace hm := if_t hm h17
            refine j_sub [] rfl ?_
            exact tj_X1_readShip_64 C _ _  hm
      · replace hm := if_t hm h9
        refine j_sub [] rfl ?_
        exact tj_X1_readShip_38 C _ _  hm
  · replace hm := if_f hm h3
    refine j_aload_n C 0 dX1_readShip_12 rfl ?_
    refine j_iload_n C 1 dX1_readShip_13 rfl ?_
    obtain ⟨μ28, e29, hm⟩ := lt_some hm
    refine j_putI C fp_X1_15_1 hv0 e29 dX1_readShip_14 ?_
    refine j_iconst C (v := 0) dX1_readShip_17 rfl ?_
    obtain rfl := Option.some.inj hm
    exact j_iretz C rfl dX1_readShip_18
set_option maxRecDepth 20000 in
set_option maxHeartbeats 4000000 in
theorem mc_X1_readShip (l : Launch) (N : Nat) (Λ : Lay) (μ : Mem) (v0 : Nat) (v1 : Int32) (hv0 : inL Λ v0 1) {r : Int32 × Mem} (hm : m_X1_readShip N Λ μ v0 v1 = some r) : MI l yX1_readShip cX1_readShip 6 (some .boolean) rm_X1_readShip Λ [.ref v0, .int v1] μ r.1 r.2 := mi_of rfl (Nat.le_of_ble_eq_true rfl) (fun x C _ => tm_X1_readShip C _ _ _ _ hv0 hm)
abbrev rm_X7_atNumber : Room := { frames := 0, cells := 0, slots := 0, locals := 0 }
set_option maxRecDepth 20000 in
set_option maxHeartbeats 4000000 in
theorem tj_X7_atNumber_18_1 {x : Ctx} {Λ : Lay} (C : Cx x cX7_atNumber 1 (some .boolean) RX7 Λ rm_X7_atNumber) (N : Nat) (μ : Mem) (s0 : Int32) {r : Int32} (hm : jn_X7_atNumber_18 N Λ μ s0 = some r) : J x 1 Λ (QI x Λ r μ) 18 [] [.int s0] μ := by
  obtain ⟨h1, hm⟩ := gd_some hm
  obtain rfl := Option.some.inj hm
  exact j_iretz C h1 dX7_atNumber_18
set_option maxRecDepth 20000 in
set_option maxHeartbeats 4000000 in
theorem tm_X7_atNumber_1 {x : Ctx} {Λ : Lay} (C : Cx x cX7_atNumber 1 (some .boolean) RX7 Λ rm_X7_atNumber) (N : Nat) (μ : Mem) (v0 : Nat) (hv0 : inL Λ v0 1) {r : Int32} (hm : m_X7_atNumber N Λ μ v0 = some r) : J x 1 Λ (QI x Λ r μ) 0 [(0, .ref v0)] [] μ := by
  refine j_aload_n C 0 dX7_atNumber_0 rfl ?_
  obtain ⟨q1, h2, hm⟩ := bd_some hm
  refine j_getR C fg_X7_9_1 hv0 (dr_spec h2).1 dX7_atNumber_1 ?_
  refine j_aload_n C 0 dX7_atNumber_4 rfl ?_
  refine j_getI C fg_X7_36_1 hv0 dX7_atNumber_5 ?_
  obtain ⟨h3, hm⟩ := gd_some hm
  refine j_iald C ((dr_spec h2).2) h3 dX7_atNumber_8 ?_
  refine j_iconst C (v := 2) dX7_atNumber_9 rfl ?_
  refine j_icmp_ne C (tgt := 17) dX7_atNumber_10 (by decide) (fun h4 => ?_) (fun h4 => ?_)
  · replace hm := if_f hm h4
    refine j_iconst C (v := 0) dX7_atNumber_17 rfl ?_
    refine j_sub [] rfl ?_
    exact tj_X7_atNumber_18_1 C _ _ _  hm
  · replace hm := if_t hm h4
    refine j_iconst C (v := 1) dX7_atNumber_13 rfl ?_
    refine j_goto C (tgt := 18) dX7_atNumber_14 (by decide) ?_
    refine j_sub [] rfl ?_
    exact tj_X7_atNumber_18_1 C _ _ _  hm
set_option maxRecDepth 20000 in
set_option maxHeartbeats 4000000 in
theorem mc_X7_atNumber_1 (l : Launch) (N : Nat) (Λ : Lay) (μ : Mem) (v0 : Nat) (hv0 : inL Λ v0 1) {r : Int32} (hm : m_X7_atNumber N Λ μ v0 = some r) : MI l yX7_atNumber cX7_atNumber 1 (some .boolean) rm_X7_atNumber Λ [.ref v0] μ r μ := mi_of rfl (Nat.le_of_ble_eq_true rfl) (fun x C _ => tm_X7_atNumber_1 C _ _ _ hv0 hm)
set_option maxRecDepth 20000 in
set_option maxHeartbeats 4000000 in
theorem tj_X7_atNumber_18_3 {x : Ctx} {Λ : Lay} (C : Cx x cX7_atNumber 1 (some .boolean) RX7 Λ rm_X7_atNumber) (N : Nat) (μ : Mem) (s0 : Int32) {r : Int32} (hm : jn_X7_atNumber_18 N Λ μ s0 = some r) : J x 1 Λ (QI x Λ r μ) 18 [] [.int s0] μ := by
  obtain ⟨h1, hm⟩ := gd_some hm
  obtain rfl := Option.some.inj hm
  exact j_iretz C h1 dX7_atNumber_18
set_option maxRecDepth 20000 in
set_option maxHeartbeats 4000000 in
theorem tm_X7_atNumber_3 {x : Ctx} {Λ : Lay} (C : Cx x cX7_atNumber 1 (some .boolean) RX7 Λ rm_X7_atNumber) (N : Nat) (μ : Mem) (v0 : Nat) (hv0 : inL Λ v0 3) {r : Int32} (hm : m_X7_atNumber N Λ μ v0 = some r) : J x 1 Λ (QI x Λ r μ) 0 [(0, .ref v0)] [] μ := by
  refine j_aload_n C 0 dX7_atNumber_0 rfl ?_
  obtain ⟨q1, h2, hm⟩ := bd_some hm
  refine j_getR C fg_X7_9_3 hv0 (dr_spec h2).1 dX7_atNumber_1 ?_
  refine j_aload_n C 0 dX7_atNumber_4 rfl ?_
  refine j_getI C fg_X7_36_3 hv0 dX7_atNumber_5 ?_
  obtain ⟨h3, hm⟩ := gd_some hm
  refine j_iald C ((dr_spec h2).2) h3 dX7_atNumber_8 ?_
  refine j_iconst C (v := 2) dX7_atNumber_9 rfl ?_
  refine j_icmp_ne C (tgt := 17) dX7_atNumber_10 (by decide) (fun h4 => ?_) (fun h4 => ?_)
  · replace hm := if_f hm h4
    refine j_iconst C (v := 0) dX7_atNumber_17 rfl ?_
    refine j_sub [] rfl ?_
    exact tj_X7_atNumber_18_3 C _ _ _  hm
  · replace hm := if_t hm h4
    refine j_iconst C (v := 1) dX7_atNumber_13 rfl ?_
    refine j_goto C (tgt := 18) dX7_atNumber_14 (by decide) ?_
    refine j_sub [] rfl ?_
    exact tj_X7_atNumber_18_3 C _ _ _  hm
set_option maxRecDepth 20000 in
set_option maxHeartbeats 4000000 in
theorem mc_X7_atNumber_3 (l : Launch) (N : Nat) (Λ : Lay) (μ : Mem) (v0 : Nat) (hv0 : inL Λ v0 3) {r : Int32} (hm : m_X7_atNumber N Λ μ v0 = some r) : MI l yX7_atNumber cX7_atNumber 1 (some .boolean) rm_X7_atNumber Λ [.ref v0] μ r μ := mi_of rfl (Nat.le_of_ble_eq_true rfl) (fun x C _ => tm_X7_atNumber_3 C _ _ _ hv0 hm)
abbrev rm_X1_readTides : Room := { frames := 1, cells := 0, slots := 0, locals := 26 }
set_option maxRecDepth 20000 in
set_option maxHeartbeats 4000000 in
theorem tb_X1_readTides_2 {x : Ctx} {Λ : Lay} (C : Cx x cX1_readTides 2 (some .boolean) RX1 Λ rm_X1_readTides) (N : Nat) (μ : Mem) (k2 : Int32 × Mem → Option (Int32 × Mem)) (v0 : Nat) (v1 : Int32) (hk2 : ∀ (s : Int32 × Mem) (r : Int32 × Mem), k2 s = some r → J x 2 Λ (QI x Λ r.1 r.2) 2 [(0, .ref v0), (1, .int s.1)] [] (s.2)) (hv0 : inL Λ v0 1) {r : Int32 × Mem} (hm : bd_X1_readTides_2 N Λ μ k2 v0 v1 = some r) : J x 2 Λ (QI x Λ r.1 r.2) 2 [(0, .ref v0), (1, .int v1)] [] μ := by
  refine j_iload_n C 1 dX1_readTides_2 rfl ?_
  refine j_bipush C (v := 12) dX1_readTides_3 rfl ?_
  refine j_icmp_ge C (tgt := 48) dX1_readTides_5 (by decide) (fun h1 => ?_) (fun h1 => ?_)
  · replace hm := if_t hm h1
    refine j_iconst C (v := 0) dX1_readTides_48 rfl ?_
    obtain rfl := Option.some.inj hm
    exact j_iretz C rfl dX1_readTides_49
  · replace hm := if_f hm h1
    refine j_aload_n C 0 dX1_readTides_8 rfl ?_
    refine j_iconst C (v := 0) dX1_readTides_9 rfl ?_
    refine j_bipush C (v := 30) dX1_readTides_10 rfl ?_
    obtain ⟨r2, h3, hm⟩ := bd_some hm
    refine call_I (run_LU C lu_X1_76_1 ⟨rfl, rfl, Nat.le_of_ble_eq_true rfl, Nat.le_of_ble_eq_true rfl⟩ (As := [.int 0, .int 30]) hv0 rfl rfl (Nat.le_of_ble_eq_true rfl) dX1_readTides_12 (mc_X7_takeNumber_1 _ _ _ _ _ _ _ hv0 h3)) ?_
    refine j_if_ne C (tgt := 20) dX1_readTides_15 (by decide) (fun h4 => ?_) (fun h4 => ?_)
    · replace hm := if_f hm h4
      refine j_aload_n C 0 dX1_readTides_20 rfl ?_
      obtain ⟨q5, h6, hm⟩ := bd_some hm
      refine j_getR C fg_X1_9_1 hv0 (dr_spec h6).1 dX1_readTides_21 ?_
      obtain ⟨q7, h8, hm⟩ := bd_some hm
      refine j_getR C fg_X1_119_8 ((dr_spec h6).2) (dr_spec h8).1 dX1_readTides_24 ?_
      refine j_iload_n C 1 dX1_readTides_27 rfl ?_
      refine j_aload_n C 0 dX1_readTides_28 rfl ?_
      refine j_getI C fg_X1_80_1 hv0 dX1_readTides_29 ?_
      obtain ⟨h9, hm⟩ := gd_some hm
      obtain ⟨μ10, e11, hm⟩ := lt_some hm
      refine j_iast C ((dr_spec h8).2) h9 e11 dX1_readTides_32 ?_
      refine j_aload_n C 0 dX1_readTides_33 rfl ?_
      obtain ⟨r12, h13, hm⟩ := bd_some hm
      refine call_I (run_LU C lu_X1_123_1 ⟨rfl, rfl, Nat.le_of_ble_eq_true rfl, Nat.le_of_ble_eq_true rfl⟩ (As := []) hv0 rfl rfl (Nat.le_of_ble_eq_true rfl) dX1_readTides_34 (mc_X7_atNumber_1 _ _ _ _ _ hv0 h13)) ?_
      refine j_if_ne C (tgt := 42) dX1_readTides_37 (by decide) (fun h14 => ?_) (fun h14 => ?_)
      · replace hm := if_f hm h14
        obtain ⟨y15, e16, hm⟩ := lt_some hm
        refine j_iinc C 1 (v := y15) (lv' := [(1, .int y15), (0, .ref v0)]) dX1_readTides_42 rfl (by rw [e16]; rfl) (by decide) rfl ?_
        refine j_goto C (tgt := 2) dX1_readTides_45 (by decide) ?_
        refine j_sub [1, 0] rfl ?_
        exact hk2 (y15, μ10) _ hm
      · replace hm := if_t hm h14
        refine j_iconst C (v := 1) dX1_readTides_40 rfl ?_
        obtain rfl := Option.some.inj hm
        exact j_iretz C rfl dX1_readTides_41
    · replace hm := if_t hm h4
      refine j_iconst C (v := 0) dX1_readTides_18 rfl ?_
      obtain rfl := Option.some.inj hm
      exact j_iretz C rfl dX1_readTides_19
set_option maxRecDepth 20000 in
set_option maxHeartbeats 4000000 in
theorem tl_X1_readTides_2 {x : Ctx} {Λ : Lay} (C : Cx x cX1_readTides 2 (some .boolean) RX1 Λ rm_X1_readTides) (N : Nat) (v0 : Nat) (hv0 : inL Λ v0 1) (s : Int32 × Mem) {r : Int32 × Mem} (hm : lp_X1_readTides_2 N Λ v0 s = some r) : J x 2 Λ (QI x Λ r.1 r.2) 2 [(0, .ref v0), (1, .int s.1)] [] (s.2) :=
  cw_ind (P := fun s r => J x 2 Λ (QI x Λ r.1 r.2) 2 [(0, .ref v0), (1, .int s.1)] [] (s.2)) (fun k hkk s r e => tb_X1_readTides_2 C _ _ _ _ _ hkk hv0 e) N s r hm
set_option maxRecDepth 20000 in
set_option maxHeartbeats 4000000 in
theorem tm_X1_readTides {x : Ctx} {Λ : Lay} (C : Cx x cX1_readTides 2 (some .boolean) RX1 Λ rm_X1_readTides) (N : Nat) (μ : Mem) (v0 : Nat) (hv0 : inL Λ v0 1) {r : Int32 × Mem} (hm : m_X1_readTides N Λ μ v0 = some r) : J x 2 Λ (QI x Λ r.1 r.2) 0 [(0, .ref v0)] [] μ := by
  refine j_iconst C (v := 0) dX1_readTides_0 rfl ?_
  refine j_istore_n C (lv' := [(1, .int 0), (0, .ref v0)]) dX1_readTides_1 (by decide) rfl ?_
  refine j_sub [1, 0] rfl ?_
  exact tl_X1_readTides_2 C _ _ hv0 (0, μ) hm
set_option maxRecDepth 20000 in
set_option maxHeartbeats 4000000 in
theorem mc_X1_readTides (l : Launch) (N : Nat) (Λ : Lay) (μ : Mem) (v0 : Nat) (hv0 : inL Λ v0 1) {r : Int32 × Mem} (hm : m_X1_readTides N Λ μ v0 = some r) : MI l yX1_readTides cX1_readTides 2 (some .boolean) rm_X1_readTides Λ [.ref v0] μ r.1 r.2 := mi_of rfl (Nat.le_of_ble_eq_true rfl) (fun x C _ => tm_X1_readTides C _ _ _ hv0 hm)
abbrev rm_X1_readBlocks : Room := { frames := 1, cells := 0, slots := 0, locals := 26 }
set_option maxRecDepth 20000 in
set_option maxHeartbeats 4000000 in
theorem tb_X1_readBlocks_2 {x : Ctx} {Λ : Lay} (C : Cx x cX1_readBlocks 2 (some .boolean) RX1 Λ rm_X1_readBlocks) (N : Nat) (μ : Mem) (k2 : Int32 × Mem → Option (Int32 × Mem)) (v0 : Nat) (v1 : Int32) (hk2 : ∀ (s : Int32 × Mem) (r : Int32 × Mem), k2 s = some r → J x 2 Λ (QI x Λ r.1 r.2) 2 [(0, .ref v0), (1, .int s.1)] [] (s.2)) (hv0 : inL Λ v0 1) {r : Int32 × Mem} (hm : bd_X1_readBlocks_2 N Λ μ k2 v0 v1 = some r) : J x 2 Λ (QI x Λ r.1 r.2) 2 [(0, .ref v0), (1, .int v1)] [] μ := by
  refine j_iload_n C 1 dX1_readBlocks_2 rfl ?_
  refine j_bipush C (v := 12) dX1_readBlocks_3 rfl ?_
  refine j_icmp_ge C (tgt := 53) dX1_readBlocks_5 (by decide) (fun h1 => ?_) (fun h1 => ?_)
  · replace hm := if_t hm h1
    refine j_iconst C (v := 0) dX1_readBlocks_53 rfl ?_
    obtain rfl := Option.some.inj hm
    exact j_iretz C rfl dX1_readBlocks_54
  · replace hm := if_f hm h1
    refine j_aload_n C 0 dX1_readBlocks_8 rfl ?_
    refine j_iconst C (v := 0) dX1_readBlocks_9 rfl ?_
    refine j_bipush C (v := 23) dX1_readBlocks_10 rfl ?_
    obtain ⟨r2, h3, hm⟩ := bd_some hm
    refine call_I (run_LU C lu_X1_76_1 ⟨rfl, rfl, Nat.le_of_ble_eq_true rfl, Nat.le_of_ble_eq_true rfl⟩ (As := [.int 0, .int 23]) hv0 rfl rfl (Nat.le_of_ble_eq_true rfl) dX1_readBlocks_12 (mc_X7_takeNumber_1 _ _ _ _ _ _ _ hv0 h3)) ?_
    refine j_if_ne C (tgt := 20) dX1_readBlocks_15 (by decide) (fun h4 => ?_) (fun h4 => ?_)
    · replace hm := if_f hm h4
      refine j_aload_n C 0 dX1_readBlocks_20 rfl ?_
      obtain ⟨q5, h6, hm⟩ := bd_some hm
      refine j_getR C fg_X1_9_1 hv0 (dr_spec h6).1 dX1_readBlocks_21 ?_
      refine j_dup C dX1_readBlocks_24 rfl ?_
      refine j_getI C fg_X1_126_8 ((dr_spec h6).2) dX1_readBlocks_25 ?_
      refine j_iconst C (v := 1) dX1_readBlocks_28 rfl ?_
      refine j_aload_n C 0 dX1_readBlocks_29 rfl ?_
      refine j_getI C fg_X1_80_1 hv0 dX1_readBlocks_30 ?_
      refine j_ishl C dX1_readBlocks_33 ?_
      refine j_ior C dX1_readBlocks_34 ?_
      obtain ⟨μ7, e8, hm⟩ := lt_some hm
      refine j_putI C fp_X1_126_8 ((dr_spec h6).2) e8 dX1_readBlocks_35 ?_
      refine j_aload_n C 0 dX1_readBlocks_38 rfl ?_
      obtain ⟨r9, h10, hm⟩ := bd_some hm
      refine call_I (run_LU C lu_X1_123_1 ⟨rfl, rfl, Nat.le_of_ble_eq_true rfl, Nat.le_of_ble_eq_true rfl⟩ (As := []) hv0 rfl rfl (Nat.le_of_ble_eq_true rfl) dX1_readBlocks_39 (mc_X7_atNumber_1 _ _ _ _ _ hv0 h10)) ?_
      refine j_if_ne C (tgt := 47) dX1_readBlocks_42 (by decide) (fun h11 => ?_) (fun h11 => ?_)
      · replace hm := if_f hm h11
        obtain ⟨y12, e13, hm⟩ := lt_some hm
        refine j_iinc C 1 (v := y12) (lv' := [(1, .int y12), (0, .ref v0)]) dX1_readBlocks_47 rfl (by rw [e13]; rfl) (by decide) rfl ?_
        refine j_goto C (tgt := 2) dX1_readBlocks_50 (by decide) ?_
        refine j_sub [1, 0] rfl ?_
        exact hk2 (y12, μ7) _ hm
      · replace hm := if_t hm h11
        refine j_iconst C (v := 1) dX1_readBlocks_45 rfl ?_
        obtain rfl := Option.some.inj hm
        exact j_iretz C rfl dX1_readBlocks_46
    · replace hm := if_t hm h4
      refine j_iconst C (v := 0) dX1_readBlocks_18 rfl ?_
      obtain rfl := Option.some.inj hm
      exact j_iretz C rfl dX1_readBlocks_19
set_option maxRecDepth 20000 in
set_option maxHeartbeats 4000000 in
theorem tl_X1_readBlocks_2 {x : Ctx} {Λ : Lay} (C : Cx x cX1_readBlocks 2 (some .boolean) RX1 Λ rm_X1_readBlocks) (N : Nat) (v0 : Nat) (hv0 : inL Λ v0 1) (s : Int32 × Mem) {r : Int32 × Mem} (hm : lp_X1_readBlocks_2 N Λ v0 s = some r) : J x 2 Λ (QI x Λ r.1 r.2) 2 [(0, .ref v0), (1, .int s.1)] [] (s.2) :=
  cw_ind (P := fun s r => J x 2 Λ (QI x Λ r.1 r.2) 2 [(0, .ref v0), (1, .int s.1)] [] (s.2)) (fun k hkk s r e => tb_X1_readBlocks_2 C _ _ _ _ _ hkk hv0 e) N s r hm
set_option maxRecDepth 20000 in
set_option maxHeartbeats 4000000 in
theorem tm_X1_readBlocks {x : Ctx} {Λ : Lay} (C : Cx x cX1_readBlocks 2 (some .boolean) RX1 Λ rm_X1_readBlocks) (N : Nat) (μ : Mem) (v0 : Nat) (hv0 : inL Λ v0 1) {r : Int32 × Mem} (hm : m_X1_readBlocks N Λ μ v0 = some r) : J x 2 Λ (QI x Λ r.1 r.2) 0 [(0, .ref v0)] [] μ := by
  refine j_iconst C (v := 0) dX1_readBlocks_0 rfl ?_
  refine j_istore_n C (lv' := [(1, .int 0), (0, .ref v0)]) dX1_readBlocks_1 (by decide) rfl ?_
  refine j_sub [1, 0] rfl ?_
  exact tl_X1_readBlocks_2 C _ _ hv0 (0, μ) hm
set_option maxRecDepth 20000 in
set_option maxHeartbeats 4000000 in
theorem mc_X1_readBlocks (l : Launch) (N : Nat) (Λ : Lay) (μ : Mem) (v0 : Nat) (hv0 : inL Λ v0 1) {r : Int32 × Mem} (hm : m_X1_readBlocks N Λ μ v0 = some r) : MI l yX1_readBlocks cX1_readBlocks 2 (some .boolean) rm_X1_readBlocks Λ [.ref v0] μ r.1 r.2 := mi_of rfl (Nat.le_of_ble_eq_true rfl) (fun x C _ => tm_X1_readBlocks C _ _ _ hv0 hm)
abbrev rm_X1_setLevel : Room := { frames := 1, cells := 0, slots := 0, locals := 26 }
set_option maxRecDepth 20000 in
set_option maxHeartbeats 4000000 in
theorem tj_X1_setLevel_30 {x : Ctx} {Λ : Lay} (C : Cx x cX1_setLevel 2 (some .boolean) RX1 Λ rm_X1_setLevel) (N : Nat) (μ : Mem) (v1 : Int32) (s0 : Nat) (s1 : Int32) (hs0 : inL Λ s0 8) {r : Int32 × Mem} (hm : jn_X1_setLevel_30 N Λ μ v1 s0 s1 = some r) : J x 2 Λ (QI x Λ r.1 r.2) 30 [(1, .int v1)] [.int s1, .ref s0] μ := by
  obtain ⟨μ1, e2, hm⟩ := lt_some hm
  refine j_putI C fp_X1_83_8 hs0 e2 dX1_setLevel_30 ?_
  refine j_iload_n C 0 dX1_setLevel_33 rfl ?_
  obtain ⟨h3, hm⟩ := gd_some hm
  obtain rfl := Option.some.inj hm
  exact j_iretz C h3 dX1_setLevel_34
set_option maxRecDepth 20000 in
set_option maxHeartbeats 4000000 in
theorem tm_X1_setLevel {x : Ctx} {Λ : Lay} (C : Cx x cX1_setLevel 2 (some .boolean) RX1 Λ rm_X1_setLevel) (N : Nat) (μ : Mem) (v0 : Nat) (hv0 : inL Λ v0 1) {r : Int32 × Mem} (hm : m_X1_setLevel N Λ μ v0 = some r) : J x 2 Λ (QI x Λ r.1 r.2) 0 [(0, .ref v0)] [] μ := by
  refine j_aload_n C 0 dX1_setLevel_0 rfl ?_
  refine j_iconst C (v := 0) dX1_setLevel_1 rfl ?_
  refine j_bipush C (v := 40) dX1_setLevel_2 rfl ?_
  obtain ⟨r1, h2, hm⟩ := bd_some hm
  refine call_I (run_LU C lu_X1_76_1 ⟨rfl, rfl, Nat.le_of_ble_eq_true rfl, Nat.le_of_ble_eq_true rfl⟩ (As := [.int 0, .int 40]) hv0 rfl rfl (Nat.le_of_ble_eq_true rfl) dX1_setLevel_4 (mc_X7_takeNumber_1 _ _ _ _ _ _ _ hv0 h2)) ?_
  refine j_istore_n C (lv' := [(1, .int r1.1), (0, .ref v0)]) dX1_setLevel_7 (by decide) rfl ?_
  refine j_aload_n C 1 dX1_setLevel_8 rfl ?_
  obtain ⟨q3, h4, hm⟩ := bd_some hm
  refine j_getR C fg_X1_9_1 hv0 (dr_spec h4).1 dX1_setLevel_9 ?_
  refine j_iload_n C 0 dX1_setLevel_12 rfl ?_
  refine j_if_eq C (tgt := 23) dX1_setLevel_13 (by decide) (fun h5 => ?_) (fun h5 => ?_)
  · replace hm := if_t hm h5
    refine j_aload_n C 1 dX1_setLevel_23 rfl ?_
    obtain ⟨q6, h7, hm⟩ := bd_some hm
    refine j_getR C fg_X1_9_1 hv0 (dr_spec h7).1 dX1_setLevel_24 ?_
    refine j_getI C fg_X1_83_8 ((dr_spec h7).2) dX1_setLevel_27 ?_
    refine j_sub [0] rfl ?_
    exact tj_X1_setLevel_30 C _ _ _ _ _ ((dr_spec h4).2) hm
  · replace hm := if_f hm h5
    refine j_aload_n C 1 dX1_setLevel_16 rfl ?_
    refine j_getI C fg_X1_80_1 hv0 dX1_setLevel_17 ?_
    refine j_goto C (tgt := 30) dX1_setLevel_20 (by decide) ?_
    refine j_sub [0] rfl ?_
    exact tj_X1_setLevel_30 C _ _ _ _ _ ((dr_spec h4).2) hm
set_option maxRecDepth 20000 in
set_option maxHeartbeats 4000000 in
theorem mc_X1_setLevel (l : Launch) (N : Nat) (Λ : Lay) (μ : Mem) (v0 : Nat) (hv0 : inL Λ v0 1) {r : Int32 × Mem} (hm : m_X1_setLevel N Λ μ v0 = some r) : MI l yX1_setLevel cX1_setLevel 2 (some .boolean) rm_X1_setLevel Λ [.ref v0] μ r.1 r.2 := mi_of rfl (Nat.le_of_ble_eq_true rfl) (fun x C _ => tm_X1_setLevel C _ _ _ hv0 hm)
abbrev rm_X1_setPumps : Room := { frames := 1, cells := 0, slots := 0, locals := 26 }
set_option maxRecDepth 20000 in
set_option maxHeartbeats 4000000 in
theorem tj_X1_setPumps_30 {x : Ctx} {Λ : Lay} (C : Cx x cX1_setPumps 2 (some .boolean) RX1 Λ rm_X1_setPumps) (N : Nat) (μ : Mem) (v1 : Int32) (s0 : Nat) (s1 : Int32) (hs0 : inL Λ s0 8) {r : Int32 × Mem} (hm : jn_X1_setPumps_30 N Λ μ v1 s0 s1 = some r) : J x 2 Λ (QI x Λ r.1 r.2) 30 [(1, .int v1)] [.int s1, .ref s0] μ := by
  obtain ⟨μ1, e2, hm⟩ := lt_some hm
  refine j_putI C fp_X1_85_8 hs0 e2 dX1_setPumps_30 ?_
  refine j_iload_n C 0 dX1_setPumps_33 rfl ?_
  obtain ⟨h3, hm⟩ := gd_some hm
  obtain rfl := Option.some.inj hm
  exact j_iretz C h3 dX1_setPumps_34
set_option maxRecDepth 20000 in
set_option maxHeartbeats 4000000 in
theorem tm_X1_setPumps {x : Ctx} {Λ : Lay} (C : Cx x cX1_setPumps 2 (some .boolean) RX1 Λ rm_X1_setPumps) (N : Nat) (μ : Mem) (v0 : Nat) (hv0 : inL Λ v0 1) {r : Int32 × Mem} (hm : m_X1_setPumps N Λ μ v0 = some r) : J x 2 Λ (QI x Λ r.1 r.2) 0 [(0, .ref v0)] [] μ := by
  refine j_aload_n C 0 dX1_setPumps_0 rfl ?_
  refine j_iconst C (v := 0) dX1_setPumps_1 rfl ?_
  refine j_bipush C (v := 9) dX1_setPumps_2 rfl ?_
  obtain ⟨r1, h2, hm⟩ := bd_some hm
  refine call_I (run_LU C lu_X1_76_1 ⟨rfl, rfl, Nat.le_of_ble_eq_true rfl, Nat.le_of_ble_eq_true rfl⟩ (As := [.int 0, .int 9]) hv0 rfl rfl (Nat.le_of_ble_eq_true rfl) dX1_setPumps_4 (mc_X7_takeNumber_1 _ _ _ _ _ _ _ hv0 h2)) ?_
  refine j_istore_n C (lv' := [(1, .int r1.1), (0, .ref v0)]) dX1_setPumps_7 (by decide) rfl ?_
  refine j_aload_n C 1 dX1_setPumps_8 rfl ?_
  obtain ⟨q3, h4, hm⟩ := bd_some hm
  refine j_getR C fg_X1_9_1 hv0 (dr_spec h4).1 dX1_setPumps_9 ?_
  refine j_iload_n C 0 dX1_setPumps_12 rfl ?_
  refine j_if_eq C (tgt := 23) dX1_setPumps_13 (by decide) (fun h5 => ?_) (fun h5 => ?_)
  · replace hm := if_t hm h5
    refine j_aload_n C 1 dX1_setPumps_23 rfl ?_
    obtain ⟨q6, h7, hm⟩ := bd_some hm
    refine j_getR C fg_X1_9_1 hv0 (dr_spec h7).1 dX1_setPumps_24 ?_
    refine j_getI C fg_X1_85_8 ((dr_spec h7).2) dX1_setPumps_27 ?_
    refine j_sub [0] rfl ?_
    exact tj_X1_setPumps_30 C _ _ _ _ _ ((dr_spec h4).2) hm
  · replace hm := if_f hm h5
    refine j_aload_n C 1 dX1_setPumps_16 rfl ?_
    refine j_getI C fg_X1_80_1 hv0 dX1_setPumps_17 ?_
    refine j_goto C (tgt := 30) dX1_setPumps_20 (by decide) ?_
    refine j_sub [0] rfl ?_
    exact tj_X1_setPumps_30 C _ _ _ _ _ ((dr_spec h4).2) hm
set_option maxRecDepth 20000 in
set_option maxHeartbeats 4000000 in
theorem mc_X1_setPumps (l : Launch) (N : Nat) (Λ : Lay) (μ : Mem) (v0 : Nat) (hv0 : inL Λ v0 1) {r : Int32 × Mem} (hm : m_X1_setPumps N Λ μ v0 = some r) : MI l yX1_setPumps cX1_setPumps 2 (some .boolean) rm_X1_setPumps Λ [.ref v0] μ r.1 r.2 := mi_of rfl (Nat.le_of_ble_eq_true rfl) (fun x C _ => tm_X1_setPumps C _ _ _ hv0 hm)
abbrev rm_X1_setHands : Room := { frames := 1, cells := 0, slots := 0, locals := 26 }
set_option maxRecDepth 20000 in
set_option maxHeartbeats 4000000 in
theorem tj_X1_setHands_30 {x : Ctx} {Λ : Lay} (C : Cx x cX1_setHands 2 (some .boolean) RX1 Λ rm_X1_setHands) (N : Nat) (μ : Mem) (v1 : Int32) (s0 : Nat) (s1 : Int32) (hs0 : inL Λ s0 8) {r : Int32 × Mem} (hm : jn_X1_setHands_30 N Λ μ v1 s0 s1 = some r) : J x 2 Λ (QI x Λ r.1 r.2) 30 [(1, .int v1)] [.int s1, .ref s0] μ := by
  obtain ⟨μ1, e2, hm⟩ := lt_some hm
  refine j_putI C fp_X1_87_8 hs0 e2 dX1_setHands_30 ?_
  refine j_iload_n C 0 dX1_setHands_33 rfl ?_
  obtain ⟨h3, hm⟩ := gd_some hm
  obtain rfl := Option.some.inj hm
  exact j_iretz C h3 dX1_setHands_34
set_option maxRecDepth 20000 in
set_option maxHeartbeats 4000000 in
theorem tm_X1_setHands {x : Ctx} {Λ : Lay} (C : Cx x cX1_setHands 2 (some .boolean) RX1 Λ rm_X1_setHands) (N : Nat) (μ : Mem) (v0 : Nat) (hv0 : inL Λ v0 1) {r : Int32 × Mem} (hm : m_X1_setHands N Λ μ v0 = some r) : J x 2 Λ (QI x Λ r.1 r.2) 0 [(0, .ref v0)] [] μ := by
  refine j_aload_n C 0 dX1_setHands_0 rfl ?_
  refine j_iconst C (v := 0) dX1_setHands_1 rfl ?_
  refine j_bipush C (v := 9) dX1_setHands_2 rfl ?_
  obtain ⟨r1, h2, hm⟩ := bd_some hm
  refine call_I (run_LU C lu_X1_76_1 ⟨rfl, rfl, Nat.le_of_ble_eq_true rfl, Nat.le_of_ble_eq_true rfl⟩ (As := [.int 0, .int 9]) hv0 rfl rfl (Nat.le_of_ble_eq_true rfl) dX1_setHands_4 (mc_X7_takeNumber_1 _ _ _ _ _ _ _ hv0 h2)) ?_
  refine j_istore_n C (lv' := [(1, .int r1.1), (0, .ref v0)]) dX1_setHands_7 (by decide) rfl ?_
  refine j_aload_n C 1 dX1_setHands_8 rfl ?_
  obtain ⟨q3, h4, hm⟩ := bd_some hm
  refine j_getR C fg_X1_9_1 hv0 (dr_spec h4).1 dX1_setHands_9 ?_
  refine j_iload_n C 0 dX1_setHands_12 rfl ?_
  refine j_if_eq C (tgt := 23) dX1_setHands_13 (by decide) (fun h5 => ?_) (fun h5 => ?_)
  · replace hm := if_t hm h5
    refine j_aload_n C 1 dX1_setHands_23 rfl ?_
    obtain ⟨q6, h7, hm⟩ := bd_some hm
    refine j_getR C fg_X1_9_1 hv0 (dr_spec h7).1 dX1_setHands_24 ?_
    refine j_getI C fg_X1_87_8 ((dr_spec h7).2) dX1_setHands_27 ?_
    refine j_sub [0] rfl ?_
    exact tj_X1_setHands_30 C _ _ _ _ _ ((dr_spec h4).2) hm
  · replace hm := if_f hm h5
    refine j_aload_n C 1 dX1_setHands_16 rfl ?_
    refine j_getI C fg_X1_80_1 hv0 dX1_setHands_17 ?_
    refine j_goto C (tgt := 30) dX1_setHands_20 (by decide) ?_
    refine j_sub [0] rfl ?_
    exact tj_X1_setHands_30 C _ _ _ _ _ ((dr_spec h4).2) hm
set_option maxRecDepth 20000 in
set_option maxHeartbeats 4000000 in
theorem mc_X1_setHands (l : Launch) (N : Nat) (Λ : Lay) (μ : Mem) (v0 : Nat) (hv0 : inL Λ v0 1) {r : Int32 × Mem} (hm : m_X1_setHands N Λ μ v0 = some r) : MI l yX1_setHands cX1_setHands 2 (some .boolean) rm_X1_setHands Λ [.ref v0] μ r.1 r.2 := mi_of rfl (Nat.le_of_ble_eq_true rfl) (fun x C _ => tm_X1_setHands C _ _ _ hv0 hm)
abbrev rm_X1_setSurge : Room := { frames := 1, cells := 0, slots := 0, locals := 26 }
set_option maxRecDepth 20000 in
set_option maxHeartbeats 4000000 in
theorem tj_X1_setSurge_29 {x : Ctx} {Λ : Lay} (C : Cx x cX1_setSurge 2 (some .boolean) RX1 Λ rm_X1_setSurge) (N : Nat) (μ : Mem) (v1 : Int32) (s0 : Nat) (s1 : Int32) (hs0 : inL Λ s0 8) {r : Int32 × Mem} (hm : jn_X1_setSurge_29 N Λ μ v1 s0 s1 = some r) : J x 2 Λ (QI x Λ r.1 r.2) 29 [(1, .int v1)] [.int s1, .ref s0] μ := by
  obtain ⟨μ1, e2, hm⟩ := lt_some hm
  refine j_putI C fp_X1_89_8 hs0 e2 dX1_setSurge_29 ?_
  refine j_iload_n C 0 dX1_setSurge_32 rfl ?_
  obtain ⟨h3, hm⟩ := gd_some hm
  obtain rfl := Option.some.inj hm
  exact j_iretz C h3 dX1_setSurge_33
set_option maxRecDepth 20000 in
set_option maxHeartbeats 4000000 in
theorem tm_X1_setSurge {x : Ctx} {Λ : Lay} (C : Cx x cX1_setSurge 2 (some .boolean) RX1 Λ rm_X1_setSurge) (N : Nat) (μ : Mem) (v0 : Nat) (hv0 : inL Λ v0 1) {r : Int32 × Mem} (hm : m_X1_setSurge N Λ μ v0 = some r) : J x 2 Λ (QI x Λ r.1 r.2) 0 [(0, .ref v0)] [] μ := by
  refine j_aload_n C 0 dX1_setSurge_0 rfl ?_
  refine j_iconst C (v := 0) dX1_setSurge_1 rfl ?_
  refine j_iconst C (v := 5) dX1_setSurge_2 rfl ?_
  obtain ⟨r1, h2, hm⟩ := bd_some hm
  refine call_I (run_LU C lu_X1_76_1 ⟨rfl, rfl, Nat.le_of_ble_eq_true rfl, Nat.le_of_ble_eq_true rfl⟩ (As := [.int 0, .int 5]) hv0 rfl rfl (Nat.le_of_ble_eq_true rfl) dX1_setSurge_3 (mc_X7_takeNumber_1 _ _ _ _ _ _ _ hv0 h2)) ?_
  refine j_istore_n C (lv' := [(1, .int r1.1), (0, .ref v0)]) dX1_setSurge_6 (by decide) rfl ?_
  refine j_aload_n C 1 dX1_setSurge_7 rfl ?_
  obtain ⟨q3, h4, hm⟩ := bd_some hm
  refine j_getR C fg_X1_9_1 hv0 (dr_spec h4).1 dX1_setSurge_8 ?_
  refine j_iload_n C 0 dX1_setSurge_11 rfl ?_
  refine j_if_eq C (tgt := 22) dX1_setSurge_12 (by decide) (fun h5 => ?_) (fun h5 => ?_)
  · replace hm := if_t hm h5
    refine j_aload_n C 1 dX1_setSurge_22 rfl ?_
    obtain ⟨q6, h7, hm⟩ := bd_some hm
    refine j_getR C fg_X1_9_1 hv0 (dr_spec h7).1 dX1_setSurge_23 ?_
    refine j_getI C fg_X1_89_8 ((dr_spec h7).2) dX1_setSurge_26 ?_
    refine j_sub [0] rfl ?_
    exact tj_X1_setSurge_29 C _ _ _ _ _ ((dr_spec h4).2) hm
  · replace hm := if_f hm h5
    refine j_aload_n C 1 dX1_setSurge_15 rfl ?_
    refine j_getI C fg_X1_80_1 hv0 dX1_setSurge_16 ?_
    refine j_goto C (tgt := 29) dX1_setSurge_19 (by decide) ?_
    refine j_sub [0] rfl ?_
    exact tj_X1_setSurge_29 C _ _ _ _ _ ((dr_spec h4).2) hm
set_option maxRecDepth 20000 in
set_option maxHeartbeats 4000000 in
theorem mc_X1_setSurge (l : Launch) (N : Nat) (Λ : Lay) (μ : Mem) (v0 : Nat) (hv0 : inL Λ v0 1) {r : Int32 × Mem} (hm : m_X1_setSurge N Λ μ v0 = some r) : MI l yX1_setSurge cX1_setSurge 2 (some .boolean) rm_X1_setSurge Λ [.ref v0] μ r.1 r.2 := mi_of rfl (Nat.le_of_ble_eq_true rfl) (fun x C _ => tm_X1_setSurge C _ _ _ hv0 hm)
abbrev rm_X1_setHour : Room := { frames := 1, cells := 0, slots := 0, locals := 26 }
set_option maxRecDepth 20000 in
set_option maxHeartbeats 4000000 in
theorem tj_X1_setHour_31 {x : Ctx} {Λ : Lay} (C : Cx x cX1_setHour 2 (some .boolean) RX1 Λ rm_X1_setHour) (N : Nat) (μ : Mem) (v1 : Int32) (s0 : Nat) (s1 : Int32) (hs0 : inL Λ s0 8) {r : Int32 × Mem} (hm : jn_X1_setHour_31 N Λ μ v1 s0 s1 = some r) : J x 2 Λ (QI x Λ r.1 r.2) 31 [(1, .int v1)] [.int s1, .ref s0] μ := by
  obtain ⟨μ1, e2, hm⟩ := lt_some hm
  refine j_putI C fp_X1_91_8 hs0 e2 dX1_setHour_31 ?_
  refine j_iload_n C 0 dX1_setHour_34 rfl ?_
  obtain ⟨h3, hm⟩ := gd_some hm
  obtain rfl := Option.some.inj hm
  exact j_iretz C h3 dX1_setHour_35
set_option maxRecDepth 20000 in
set_option maxHeartbeats 4000000 in
theorem tm_X1_setHour {x : Ctx} {Λ : Lay} (C : Cx x cX1_setHour 2 (some .boolean) RX1 Λ rm_X1_setHour) (N : Nat) (μ : Mem) (v0 : Nat) (hv0 : inL Λ v0 1) {r : Int32 × Mem} (hm : m_X1_setHour N Λ μ v0 = some r) : J x 2 Λ (QI x Λ r.1 r.2) 0 [(0, .ref v0)] [] μ := by
  refine j_aload_n C 0 dX1_setHour_0 rfl ?_
  refine j_iconst C (v := 0) dX1_setHour_1 rfl ?_
  refine j_sipush C (v := 999) dX1_setHour_2 rfl ?_
  obtain ⟨r1, h2, hm⟩ := bd_some hm
  refine call_I (run_LU C lu_X1_76_1 ⟨rfl, rfl, Nat.le_of_ble_eq_true rfl, Nat.le_of_ble_eq_true rfl⟩ (As := [.int 0, .int 999]) hv0 rfl rfl (Nat.le_of_ble_eq_true rfl) dX1_setHour_5 (mc_X7_takeNumber_1 _ _ _ _ _ _ _ hv0 h2)) ?_
  refine j_istore_n C (lv' := [(1, .int r1.1), (0, .ref v0)]) dX1_setHour_8 (by decide) rfl ?_
  refine j_aload_n C 1 dX1_setHour_9 rfl ?_
  obtain ⟨q3, h4, hm⟩ := bd_some hm
  refine j_getR C fg_X1_9_1 hv0 (dr_spec h4).1 dX1_setHour_10 ?_
  refine j_iload_n C 0 dX1_setHour_13 rfl ?_
  refine j_if_eq C (tgt := 24) dX1_setHour_14 (by decide) (fun h5 => ?_) (fun h5 => ?_)
  · replace hm := if_t hm h5
    refine j_aload_n C 1 dX1_setHour_24 rfl ?_
    obtain ⟨q6, h7, hm⟩ := bd_some hm
    refine j_getR C fg_X1_9_1 hv0 (dr_spec h7).1 dX1_setHour_25 ?_
    refine j_getI C fg_X1_91_8 ((dr_spec h7).2) dX1_setHour_28 ?_
    refine j_sub [0] rfl ?_
    exact tj_X1_setHour_31 C _ _ _ _ _ ((dr_spec h4).2) hm
  · replace hm := if_f hm h5
    refine j_aload_n C 1 dX1_setHour_17 rfl ?_
    refine j_getI C fg_X1_80_1 hv0 dX1_setHour_18 ?_
    refine j_goto C (tgt := 31) dX1_setHour_21 (by decide) ?_
    refine j_sub [0] rfl ?_
    exact tj_X1_setHour_31 C _ _ _ _ _ ((dr_spec h4).2) hm
set_option maxRecDepth 20000 in
set_option maxHeartbeats 4000000 in
theorem mc_X1_setHour (l : Launch) (N : Nat) (Λ : Lay) (μ : Mem) (v0 : Nat) (hv0 : inL Λ v0 1) {r : Int32 × Mem} (hm : m_X1_setHour N Λ μ v0 = some r) : MI l yX1_setHour cX1_setHour 2 (some .boolean) rm_X1_setHour Λ [.ref v0] μ r.1 r.2 := mi_of rfl (Nat.le_of_ble_eq_true rfl) (fun x C _ => tm_X1_setHour C _ _ _ hv0 hm)
abbrev rm_X1_readSetting : Room := { frames := 5, cells := 0, slots := 0, locals := 114 }
set_option maxRecDepth 20000 in
set_option maxHeartbeats 4000000 in
theorem tj_X1_readSetting_77 {x : Ctx} {Λ : Lay} (C : Cx x cX1_readSetting 1 (some .boolean) RX1 Λ rm_X1_readSetting) (N : Nat) (μ : Mem) (s0 : Int32) {r : Int32 × Mem} (hm : jn_X1_readSetting_77 N Λ μ s0 = some r) : J x 1 Λ (QI x Λ r.1 r.2) 77 [] [.int s0] μ := by
  obtain ⟨h1, hm⟩ := gd_some hm
  obtain rfl := Option.some.inj hm
  exact j_iretz C h1 dX1_readSetting_77
set_option maxRecDepth 20000 in
set_option maxHeartbeats 4000000 in
theorem tj_X1_readSetting_76 {x : Ctx} {Λ : Lay} (C : Cx x cX1_readSetting 1 (some .boolean) RX1 Λ rm_X1_readSetting) (N : Nat) (μ : Mem) {r : Int32 × Mem} (hm : jn_X1_readSetting_76 N Λ μ = some r) : J x 1 Λ (QI x Λ r.1 r.2) 76 [] [] μ := by
  refine j_iconst C (v := 0) dX1_readSetting_76 rfl ?_
  exact tj_X1_readSetting_77 C _ _ _  hm
set_option maxRecDepth 20000 in
set_option maxHeartbeats 4000000 in
theorem tm_X1_readSetting {x : Ctx} {Λ : Lay} (C : Cx x cX1_readSetting 1 (some .boolean) RX1 Λ rm_X1_readSetting) (N : Nat) (μ : Mem) (v0 : Nat) (hv0 : inL Λ v0 1) {r : Int32 × Mem} (hm : m_X1_readSetting N Λ μ v0 = some r) : J x 1 Λ (QI x Λ r.1 r.2) 0 [(0, .ref v0)] [] μ := by
  refine j_aload_n C 0 dX1_readSetting_0 rfl ?_
  refine j_ldcS C (i := 12) (tx := "level") (List.mem_of_getElem? (i := 8) rfl) dX1_readSetting_1 ?_
  obtain ⟨r1, h2, hm⟩ := bd_some hm
  refine call_I (run_LU C lu_X1_21_1 ⟨rfl, rfl, Nat.le_of_ble_eq_true rfl, Nat.le_of_ble_eq_true rfl⟩ (As := [.ref (sK Λ 12)]) hv0 rfl rfl (Nat.le_of_ble_eq_true rfl) dX1_readSetting_3 (mc_X7_takeWord_1 _ _ _ _ _ _ hv0 ((by decide)) h2)) ?_
  refine j_if_eq C (tgt := 14) dX1_readSetting_6 (by decide) (fun h3 => ?_) (fun h3 => ?_)
  · replace hm := if_t hm h3
    refine j_aload_n C 0 dX1_readSetting_14 rfl ?_
    refine j_ldcS C (i := 17) (tx := "pumps") (List.mem_of_getElem? (i := 9) rfl) dX1_readSetting_15 ?_
    obtain ⟨r4, h5, hm⟩ := bd_some hm
    refine call_I (run_LU C lu_X1_21_1 ⟨rfl, rfl, Nat.le_of_ble_eq_true rfl, Nat.le_of_ble_eq_true rfl⟩ (As := [.ref (sK Λ 17)]) hv0 rfl rfl (Nat.le_of_ble_eq_true rfl) dX1_readSetting_17 (mc_X7_takeWord_1 _ _ _ _ _ _ hv0 ((by decide)) h5)) ?_
    refine j_if_eq C (tgt := 28) dX1_readSetting_20 (by decide) (fun h6 => ?_) (fun h6 => ?_)
    · replace hm := if_t hm h6
      refine j_aload_n C 0 dX1_readSetting_28 rfl ?_
      refine j_ldcS C (i := 6) (tx := "hands") (List.mem_of_getElem? (i := 10) rfl) dX1_readSetting_29 ?_
      obtain ⟨r7, h8, hm⟩ := bd_some hm
      refine call_I (run_LU C lu_X1_21_1 ⟨rfl, rfl, Nat.le_of_ble_eq_true rfl, Nat.le_of_ble_eq_true rfl⟩ (As := [.ref (sK Λ 6)]) hv0 rfl rfl (Nat.le_of_ble_eq_true rfl) dX1_readSetting_31 (mc_X7_takeWord_1 _ _ _ _ _ _ hv0 ((by decide)) h8)) ?_
      refine j_if_eq C (tgt := 42) dX1_readSetting_34 (by decide) (fun h9 => ?_) (fun h9 => ?_)
      · replace hm := if_t hm h9
        refine j_aload_n C 0 dX1_readSetting_42 rfl ?_
        refine j_ldcS C (i := 20) (tx := "surge") (List.mem_of_getElem? (i := 11) rfl) dX1_readSetting_43 ?_
        obtain ⟨r10, h11, hm⟩ := bd_some hm
        refine call_I (run_LU C lu_X1_21_1 ⟨rfl, rfl, Nat.le_of_ble_eq_true rfl, Nat.le_of_ble_eq_true rfl⟩ (As := [.ref (sK Λ 20)]) hv0 rfl rfl (Nat.le_of_ble_eq_true rfl) dX1_readSetting_45 (mc_X7_takeWord_1 _ _ _ _ _ _ hv0 ((by decide)) h11)) ?_
        refine j_if_eq C (tgt := 56) dX1_readSetting_48 (by decide) (fun h12 => ?_) (fun h12 => ?_)
        · replace hm := if_t hm h12
          refine j_aload_n C 0 dX1_readSetting_56 rfl ?_
          refine j_ldcS C (i := 7) (tx := "hour") (List.mem_of_getElem? (i := 12) rfl) dX1_readSetting_57 ?_
          obtain ⟨r13, h14, hm⟩ := bd_some hm
          refine call_I (run_LU C lu_X1_21_1 ⟨rfl, rfl, Nat.le_of_ble_eq_true rfl, Nat.le_of_ble_eq_true rfl⟩ (As := [.ref (sK Λ 7)]) hv0 rfl rfl (Nat.le_of_ble_eq_true rfl) dX1_readSetting_59 (mc_X7_takeWord_1 _ _ _ _ _ _ hv0 ((by decide)) h14)) ?_
          refine j_if_eq C (tgt := 76) dX1_readSetting_62 (by decide) (fun h15 => ?_) (fun h15 => ?_)
          · replace hm := if_t hm h15
            refine j_sub [] rfl ?_
            exact tj_X1_readSetting_76 C _ _  hm
          · replace hm := if_f hm h15
            refine j_aload_n C 0 dX1_readSetting_65 rfl ?_
            obtain ⟨r16, h17, hm⟩ := bd_some hm
            refine call_I (run_LV C lk_X1_73 ⟨rfl, rfl, Nat.le_of_ble_eq_true rfl, Nat.le_of_ble_eq_true rfl⟩ (As := []) hv0 rfl rfl (Nat.le_of_ble_eq_true rfl) dX1_readSetting_66 (mc_X1_setHour _ _ _ _ _ hv0 h17)) ?_
            refine j_if_eq C (tgt := 76) dX1_readSetting_69 (by decide) (fun h18 => ?_) (fun h18 => ?_)
            · replace hm := if_t hm h18
              refine j_sub [] rfl ?_
              exact tj_X1_readSetting_76 C _ _  hm
            · replace hm := if_f hm h18
              refine j_iconst C (v := 1) dX1_readSetting_72 rfl ?_
              refine j_goto C (tgt := 77) dX1_readSetting_73 (by decide) ?_
              refine j_sub [] rfl ?_
              exact tj_X1_readSetting_77 C _ _ _  hm
        · replace hm := if_f hm h12
          refine j_aload_n C 0 dX1_readSetting_51 rfl ?_
          obtain ⟨r19, h20, hm⟩ := bd_some hm
          refine call_I (run_LV C lk_X1_68 ⟨rfl, rfl, Nat.le_of_ble_eq_true rfl, Nat.le_of_ble_eq_true rfl⟩ (As := []) hv0 rfl rfl (Nat.le_of_ble_eq_true rfl) dX1_readSetting_52 (mc_X1_setSurge _ _ _ _ _ hv0 h20)) ?_
          obtain ⟨h21, hm⟩ := gd_some hm
          obtain rfl := Option.some.inj hm
          exact j_iretz C h21 dX1_readSetting_55
      · replace hm := if_f hm h9
        refine j_aload_n C 0 dX1_readSetting_37 rfl ?_
        obtain ⟨r22, h23, hm⟩ := bd_some hm
        refine call_I (run_LV C lk_X1_63 ⟨rfl, rfl, Nat.le_of_ble_eq_true rfl, Nat.le_of_ble_eq_true rfl⟩ (As := []) hv0 rfl rfl (Nat.le_of_ble_eq_true rfl) dX1_readSetting_38 (mc_X1_setHands _ _ _ _ _ hv0 h23)) ?_
        obtain ⟨h24, hm⟩ := gd_some hm
        obtain rfl := Option.some.inj hm
        exact j_iretz C h24 dX1_readSetting_41
    · replace hm := if_f hm h6
      refine j_aload_n C 0 dX1_readSetting_23 rfl ?_
      obtain ⟨r25, h26, hm⟩ := bd_some hm
      refine call_I (run_LV C lk_X1_58 ⟨rfl, rfl, Nat.le_of_ble_eq_true rfl, Nat.le_of_ble_eq_true rfl⟩ (As := []) hv0 rfl rfl (Nat.le_of_ble_eq_true rfl) dX1_readSetting_24 (mc_X1_setPumps _ _ _ _ _ hv0 h26)) ?_
      obtain ⟨h27, hm⟩ := gd_some hm
      obtain rfl := Option.some.inj hm
      exact j_iretz C h27 dX1_readSetting_27
  · replace hm := if_f hm h3
    refine j_aload_n C 0 dX1_readSetting_9 rfl ?_
    obtain ⟨r28, h29, hm⟩ := bd_some hm
    refine call_I (run_LV C lk_X1_53 ⟨rfl, rfl, Nat.le_of_ble_eq_true rfl, Nat.le_of_ble_eq_true rfl⟩ (As := []) hv0 rfl rfl (Nat.le_of_ble_eq_true rfl) dX1_readSetting_10 (mc_X1_setLevel _ _ _ _ _ hv0 h29)) ?_
    obtain ⟨h30, hm⟩ := gd_some hm
    obtain rfl := Option.some.inj hm
    exact j_iretz C h30 dX1_readSetting_13
set_option maxRecDepth 20000 in
set_option maxHeartbeats 4000000 in
theorem mc_X1_readSetting (l : Launch) (N : Nat) (Λ : Lay) (μ : Mem) (v0 : Nat) (hv0 : inL Λ v0 1) {r : Int32 × Mem} (hm : m_X1_readSetting N Λ μ v0 = some r) : MI l yX1_readSetting cX1_readSetting 1 (some .boolean) rm_X1_readSetting Λ [.ref v0] μ r.1 r.2 := mi_of rfl (Nat.le_of_ble_eq_true rfl) (fun x C _ => tm_X1_readSetting C _ _ _ hv0 hm)
abbrev rm_X1_readLine : Room := { frames := 6, cells := 0, slots := 0, locals := 139 }
set_option maxRecDepth 20000 in
set_option maxHeartbeats 4000000 in
theorem tm_X1_readLine {x : Ctx} {Λ : Lay} (C : Cx x cX1_readLine 2 (some .boolean) RX1 Λ rm_X1_readLine) (N : Nat) (μ : Mem) (v0 : Nat) (hv0 : inL Λ v0 1) {r : Int32 × Mem} (hm : m_X1_readLine N Λ μ v0 = some r) : J x 2 Λ (QI x Λ r.1 r.2) 0 [(0, .ref v0)] [] μ := by
  refine j_aload_n C 0 dX1_readLine_0 rfl ?_
  refine j_getI C fg_X1_15_1 hv0 dX1_readLine_1 ?_
  obtain ⟨y1, e2, hm⟩ := lt_some hm
  refine j_topi e2 ?_
  refine j_istore_n C (lv' := [(1, .int y1), (0, .ref v0)]) dX1_readLine_4 (by decide) rfl ?_
  refine j_aload_n C 1 dX1_readLine_5 rfl ?_
  refine j_ldcS C (i := 18) (tx := "ship") (List.mem_of_getElem? (i := 0) rfl) dX1_readLine_6 ?_
  obtain ⟨r3, h4, hm⟩ := bd_some hm
  refine call_I (run_LU C lu_X1_21_1 ⟨rfl, rfl, Nat.le_of_ble_eq_true rfl, Nat.le_of_ble_eq_true rfl⟩ (As := [.ref (sK Λ 18)]) hv0 rfl rfl (Nat.le_of_ble_eq_true rfl) dX1_readLine_8 (mc_X7_takeWord_1 _ _ _ _ _ _ hv0 ((by decide)) h4)) ?_
  refine j_if_eq C (tgt := 20) dX1_readLine_11 (by decide) (fun h5 => ?_) (fun h5 => ?_)
  · replace hm := if_t hm h5
    refine j_aload_n C 1 dX1_readLine_20 rfl ?_
    refine j_ldcS C (i := 21) (tx := "tide") (List.mem_of_getElem? (i := 5) rfl) dX1_readLine_21 ?_
    obtain ⟨r6, h7, hm⟩ := bd_some hm
    refine call_I (run_LU C lu_X1_21_1 ⟨rfl, rfl, Nat.le_of_ble_eq_true rfl, Nat.le_of_ble_eq_true rfl⟩ (As := [.ref (sK Λ 21)]) hv0 rfl rfl (Nat.le_of_ble_eq_true rfl) dX1_readLine_23 (mc_X7_takeWord_1 _ _ _ _ _ _ hv0 ((by decide)) h7)) ?_
    refine j_if_eq C (tgt := 34) dX1_readLine_26 (by decide) (fun h8 => ?_) (fun h8 => ?_)
    · replace hm := if_t hm h8
      refine j_aload_n C 1 dX1_readLine_34 rfl ?_
      refine j_ldcS C (i := 2) (tx := "blocks") (List.mem_of_getElem? (i := 6) rfl) dX1_readLine_35 ?_
      obtain ⟨r9, h10, hm⟩ := bd_some hm
      refine call_I (run_LU C lu_X1_21_1 ⟨rfl, rfl, Nat.le_of_ble_eq_true rfl, Nat.le_of_ble_eq_true rfl⟩ (As := [.ref (sK Λ 2)]) hv0 rfl rfl (Nat.le_of_ble_eq_true rfl) dX1_readLine_37 (mc_X7_takeWord_1 _ _ _ _ _ _ hv0 ((by decide)) h10)) ?_
      refine j_if_eq C (tgt := 48) dX1_readLine_40 (by decide) (fun h11 => ?_) (fun h11 => ?_)
      · replace hm := if_t hm h11
        refine j_aload_n C 1 dX1_readLine_48 rfl ?_
        refine j_ldcS C (i := 19) (tx := "shut") (List.mem_of_getElem? (i := 7) rfl) dX1_readLine_49 ?_
        obtain ⟨r12, h13, hm⟩ := bd_some hm
        refine call_I (run_LU C lu_X1_21_1 ⟨rfl, rfl, Nat.le_of_ble_eq_true rfl, Nat.le_of_ble_eq_true rfl⟩ (As := [.ref (sK Λ 19)]) hv0 rfl rfl (Nat.le_of_ble_eq_true rfl) dX1_readLine_51 (mc_X7_takeWord_1 _ _ _ _ _ _ hv0 ((by decide)) h13)) ?_
        refine j_if_eq C (tgt := 67) dX1_readLine_54 (by decide) (fun h14 => ?_) (fun h14 => ?_)
        · replace hm := if_t hm h14
          refine j_aload_n C 1 dX1_readLine_67 rfl ?_
          obtain ⟨r15, h16, hm⟩ := bd_some hm
          refine call_I (run_LV C lk_X1_48 ⟨rfl, rfl, Nat.le_of_ble_eq_true rfl, Nat.le_of_ble_eq_true rfl⟩ (As := []) hv0 rfl rfl (Nat.le_of_ble_eq_true rfl) dX1_readLine_68 (mc_X1_readSetting _ _ _ _ _ hv0 h16)) ?_
          obtain ⟨h17, hm⟩ := gd_some hm
          obtain rfl := Option.some.inj hm
          exact j_iretz C h17 dX1_readLine_71
        · replace hm := if_f hm h14
          refine j_aload_n C 1 dX1_readLine_57 rfl ?_
          obtain ⟨q18, h19, hm⟩ := bd_some hm
          refine j_getR C fg_X1_9_1 hv0 (dr_spec h19).1 dX1_readLine_58 ?_
          refine j_iconst C (v := 0) dX1_readLine_61 rfl ?_
          obtain ⟨μ20, e21, hm⟩ := lt_some hm
          refine j_putZ C fp_X1_42_8 rfl ((dr_spec h19).2) e21 dX1_readLine_62 ?_
          refine j_iconst C (v := 1) dX1_readLine_65 rfl ?_
          obtain rfl := Option.some.inj hm
          exact j_iretz C rfl dX1_readLine_66
      · replace hm := if_f hm h11
        refine j_aload_n C 1 dX1_readLine_43 rfl ?_
        obtain ⟨r22, h23, hm⟩ := bd_some hm
        refine call_I (run_LV C lk_X1_37 ⟨rfl, rfl, Nat.le_of_ble_eq_true rfl, Nat.le_of_ble_eq_true rfl⟩ (As := []) hv0 rfl rfl (Nat.le_of_ble_eq_true rfl) dX1_readLine_44 (mc_X1_readBlocks _ _ _ _ _ hv0 h23)) ?_
        obtain ⟨h24, hm⟩ := gd_some hm
        obtain rfl := Option.some.inj hm
        exact j_iretz C h24 dX1_readLine_47
    · replace hm := if_f hm h8
      refine j_aload_n C 1 dX1_readLine_29 rfl ?_
      obtain ⟨r25, h26, hm⟩ := bd_some hm
      refine call_I (run_LV C lk_X1_31 ⟨rfl, rfl, Nat.le_of_ble_eq_true rfl, Nat.le_of_ble_eq_true rfl⟩ (As := []) hv0 rfl rfl (Nat.le_of_ble_eq_true rfl) dX1_readLine_30 (mc_X1_readTides _ _ _ _ _ hv0 h26)) ?_
      obtain ⟨h27, hm⟩ := gd_some hm
      obtain rfl := Option.some.inj hm
      exact j_iretz C h27 dX1_readLine_33
  · replace hm := if_f hm h5
    refine j_aload_n C 1 dX1_readLine_14 rfl ?_
    refine j_iload_n C 0 dX1_readLine_15 rfl ?_
    obtain ⟨r28, h29, hm⟩ := bd_some hm
    refine call_I (run_LV C lk_X1_25 ⟨rfl, rfl, Nat.le_of_ble_eq_true rfl, Nat.le_of_ble_eq_true rfl⟩ (As := [.int y1]) hv0 rfl rfl (Nat.le_of_ble_eq_true rfl) dX1_readLine_16 (mc_X1_readShip _ _ _ _ _ _ hv0 h29)) ?_
    obtain ⟨h30, hm⟩ := gd_some hm
    obtain rfl := Option.some.inj hm
    exact j_iretz C h30 dX1_readLine_19
set_option maxRecDepth 20000 in
set_option maxHeartbeats 4000000 in
theorem mc_X1_readLine (l : Launch) (N : Nat) (Λ : Lay) (μ : Mem) (v0 : Nat) (hv0 : inL Λ v0 1) {r : Int32 × Mem} (hm : m_X1_readLine N Λ μ v0 = some r) : MI l yX1_readLine cX1_readLine 2 (some .boolean) rm_X1_readLine Λ [.ref v0] μ r.1 r.2 := mi_of rfl (Nat.le_of_ble_eq_true rfl) (fun x C _ => tm_X1_readLine C _ _ _ hv0 hm)
abbrev rm_X7_takeSign : Room := { frames := 0, cells := 0, slots := 0, locals := 0 }
set_option maxRecDepth 20000 in
set_option maxHeartbeats 4000000 in
theorem tj_X7_takeSign_36_1 {x : Ctx} {Λ : Lay} (C : Cx x cX7_takeSign 3 (some .boolean) RX7 Λ rm_X7_takeSign) (N : Nat) (μ : Mem) {r : Int32 × Mem} (hm : jn_X7_takeSign_36 N Λ μ = some r) : J x 3 Λ (QI x Λ r.1 r.2) 36 [] [] μ := by
  refine j_iconst C (v := 0) dX7_takeSign_36 rfl ?_
  obtain rfl := Option.some.inj hm
  exact j_iretz C rfl dX7_takeSign_37
set_option maxRecDepth 20000 in
set_option maxHeartbeats 4000000 in
theorem tm_X7_takeSign_1 {x : Ctx} {Λ : Lay} (C : Cx x cX7_takeSign 3 (some .boolean) RX7 Λ rm_X7_takeSign) (N : Nat) (μ : Mem) (v0 : Nat) (v1 : Int32) (hv0 : inL Λ v0 1) {r : Int32 × Mem} (hm : m_X7_takeSign N Λ μ v0 v1 = some r) : J x 3 Λ (QI x Λ r.1 r.2) 0 [(0, .ref v0), (1, .int v1)] [] μ := by
  refine j_aload_n C 0 dX7_takeSign_0 rfl ?_
  obtain ⟨q1, h2, hm⟩ := bd_some hm
  refine j_getR C fg_X7_15_1 hv0 (dr_spec h2).1 dX7_takeSign_1 ?_
  refine j_aload_n C 0 dX7_takeSign_4 rfl ?_
  refine j_getI C fg_X7_36_1 hv0 dX7_takeSign_5 ?_
  obtain ⟨h3, hm⟩ := gd_some hm
  refine j_iald C ((dr_spec h2).2) h3 dX7_takeSign_8 ?_
  obtain ⟨y4, e5, hm⟩ := lt_some hm
  refine j_topi e5 ?_
  refine j_istore_n C (lv' := [(2, .int y4), (0, .ref v0), (1, .int v1)]) dX7_takeSign_9 (by decide) rfl ?_
  refine j_aload_n C 1 dX7_takeSign_10 rfl ?_
  obtain ⟨q6, h7, hm⟩ := bd_some hm
  refine j_getR C fg_X7_9_1 hv0 (dr_spec h7).1 dX7_takeSign_11 ?_
  refine j_aload_n C 1 dX7_takeSign_14 rfl ?_
  refine j_getI C fg_X7_36_1 hv0 dX7_takeSign_15 ?_
  obtain ⟨h8, hm⟩ := gd_some hm
  refine j_iald C ((dr_spec h7).2) h8 dX7_takeSign_18 ?_
  refine j_iconst C (v := 3) dX7_takeSign_19 rfl ?_
  refine j_icmp_ne C (tgt := 36) dX7_takeSign_20 (by decide) (fun h9 => ?_) (fun h9 => ?_)
  · replace hm := if_f hm h9
    refine j_sub [] rfl ?_
    exact tj_X7_takeSign_36_1 C _ _  hm
  · replace hm := if_t hm h9
    refine j_aload_n C 1 dX7_takeSign_23 rfl ?_
    obtain ⟨q10, h11, hm⟩ := bd_some hm
    refine j_getR C fg_X7_21_1 hv0 (dr_spec h11).1 dX7_takeSign_24 ?_
    obtain ⟨q12, h13, hm⟩ := bd_some hm
    refine j_getR C fg_X7_48_9 ((dr_spec h11).2) (dr_spec h13).1 dX7_takeSign_27 ?_
    refine j_iload_n C 0 dX7_takeSign_30 rfl ?_
    obtain ⟨h14, hm⟩ := gd_some hm
    refine j_bald C ((dr_spec h13).2) h14 dX7_takeSign_31 ?_
    refine j_iload_n C 2 dX7_takeSign_32 rfl ?_
    refine j_icmp_eq C (tgt := 38) dX7_takeSign_33 (by decide) (fun h15 => ?_) (fun h15 => ?_)
    · replace hm := if_t hm h15
      refine j_aload_n C 1 dX7_takeSign_38 rfl ?_
      refine j_dup C dX7_takeSign_39 rfl ?_
      refine j_getI C fg_X7_36_1 hv0 dX7_takeSign_40 ?_
      refine j_iconst C (v := 1) dX7_takeSign_43 rfl ?_
      refine j_iadd C dX7_takeSign_44 ?_
      obtain ⟨μ16, e17, hm⟩ := lt_some hm
      refine j_putI C fp_X7_36_1 hv0 e17 dX7_takeSign_45 ?_
      refine j_iconst C (v := 1) dX7_takeSign_48 rfl ?_
      obtain rfl := Option.some.inj hm
      exact j_iretz C rfl dX7_takeSign_49
    · replace hm := if_f hm h15
      refine j_sub [] rfl ?_
      exact tj_X7_takeSign_36_1 C _ _  hm
set_option maxRecDepth 20000 in
set_option maxHeartbeats 4000000 in
theorem mc_X7_takeSign_1 (l : Launch) (N : Nat) (Λ : Lay) (μ : Mem) (v0 : Nat) (v1 : Int32) (hv0 : inL Λ v0 1) {r : Int32 × Mem} (hm : m_X7_takeSign N Λ μ v0 v1 = some r) : MI l yX7_takeSign cX7_takeSign 3 (some .boolean) rm_X7_takeSign Λ [.ref v0, .int v1] μ r.1 r.2 := mi_of rfl (Nat.le_of_ble_eq_true rfl) (fun x C _ => tm_X7_takeSign_1 C _ _ _ _ hv0 hm)
set_option maxRecDepth 20000 in
set_option maxHeartbeats 4000000 in
theorem tj_X7_takeSign_36_3 {x : Ctx} {Λ : Lay} (C : Cx x cX7_takeSign 3 (some .boolean) RX7 Λ rm_X7_takeSign) (N : Nat) (μ : Mem) {r : Int32 × Mem} (hm : jn_X7_takeSign_36 N Λ μ = some r) : J x 3 Λ (QI x Λ r.1 r.2) 36 [] [] μ := by
  refine j_iconst C (v := 0) dX7_takeSign_36 rfl ?_
  obtain rfl := Option.some.inj hm
  exact j_iretz C rfl dX7_takeSign_37
set_option maxRecDepth 20000 in
set_option maxHeartbeats 4000000 in
theorem tm_X7_takeSign_3 {x : Ctx} {Λ : Lay} (C : Cx x cX7_takeSign 3 (some .boolean) RX7 Λ rm_X7_takeSign) (N : Nat) (μ : Mem) (v0 : Nat) (v1 : Int32) (hv0 : inL Λ v0 3) {r : Int32 × Mem} (hm : m_X7_takeSign N Λ μ v0 v1 = some r) : J x 3 Λ (QI x Λ r.1 r.2) 0 [(0, .ref v0), (1, .int v1)] [] μ := by
  refine j_aload_n C 0 dX7_takeSign_0 rfl ?_
  obtain ⟨q1, h2, hm⟩ := bd_some hm
  refine j_getR C fg_X7_15_3 hv0 (dr_spec h2).1 dX7_takeSign_1 ?_
  refine j_aload_n C 0 dX7_takeSign_4 rfl ?_
  refine j_getI C fg_X7_36_3 hv0 dX7_takeSign_5 ?_
  obtain ⟨h3, hm⟩ := gd_some hm
  refine j_iald C ((dr_spec h2).2) h3 dX7_takeSign_8 ?_
  obtain ⟨y4, e5, hm⟩ := lt_some hm
  refine j_topi e5 ?_
  refine j_istore_n C (lv' := [(2, .int y4), (0, .ref v0), (1, .int v1)]) dX7_takeSign_9 (by decide) rfl ?_
  refine j_aload_n C 1 dX7_takeSign_10 rfl ?_
  obtain ⟨q6, h7, hm⟩ := bd_some hm
  refine j_getR C fg_X7_9_3 hv0 (dr_spec h7).1 dX7_takeSign_11 ?_
  refine j_aload_n C 1 dX7_takeSign_14 rfl ?_
  refine j_getI C fg_X7_36_3 hv0 dX7_takeSign_15 ?_
  obtain ⟨h8, hm⟩ := gd_some hm
  refine j_iald C ((dr_spec h7).2) h8 dX7_takeSign_18 ?_
  refine j_iconst C (v := 3) dX7_takeSign_19 rfl ?_
  refine j_icmp_ne C (tgt := 36) dX7_takeSign_20 (by decide) (fun h9 => ?_) (fun h9 => ?_)
  · replace hm := if_f hm h9
    refine j_sub [] rfl ?_
    exact tj_X7_takeSign_36_3 C _ _  hm
  · replace hm := if_t hm h9
    refine j_aload_n C 1 dX7_takeSign_23 rfl ?_
    obtain ⟨q10, h11, hm⟩ := bd_some hm
    refine j_getR C fg_X7_21_3 hv0 (dr_spec h11).1 dX7_takeSign_24 ?_
    obtain ⟨q12, h13, hm⟩ := bd_some hm
    refine j_getR C fg_X7_48_9 ((dr_spec h11).2) (dr_spec h13).1 dX7_takeSign_27 ?_
    refine j_iload_n C 0 dX7_takeSign_30 rfl ?_
    obtain ⟨h14, hm⟩ := gd_some hm
    refine j_bald C ((dr_spec h13).2) h14 dX7_takeSign_31 ?_
    refine j_iload_n C 2 dX7_takeSign_32 rfl ?_
    refine j_icmp_eq C (tgt := 38) dX7_takeSign_33 (by decide) (fun h15 => ?_) (fun h15 => ?_)
    · replace hm := if_t hm h15
      refine j_aload_n C 1 dX7_takeSign_38 rfl ?_
      refine j_dup C dX7_takeSign_39 rfl ?_
      refine j_getI C fg_X7_36_3 hv0 dX7_takeSign_40 ?_
      refine j_iconst C (v := 1) dX7_takeSign_43 rfl ?_
      refine j_iadd C dX7_takeSign_44 ?_
      obtain ⟨μ16, e17, hm⟩ := lt_some hm
      refine j_putI C fp_X7_36_3 hv0 e17 dX7_takeSign_45 ?_
      refine j_iconst C (v := 1) dX7_takeSign_48 rfl ?_
      obtain rfl := Option.some.inj hm
      exact j_iretz C rfl dX7_takeSign_49
    · replace hm := if_f hm h15
      refine j_sub [] rfl ?_
      exact tj_X7_takeSign_36_3 C _ _  hm
set_option maxRecDepth 20000 in
set_option maxHeartbeats 4000000 in
theorem mc_X7_takeSign_3 (l : Launch) (N : Nat) (Λ : Lay) (μ : Mem) (v0 : Nat) (v1 : Int32) (hv0 : inL Λ v0 3) {r : Int32 × Mem} (hm : m_X7_takeSign N Λ μ v0 v1 = some r) : MI l yX7_takeSign cX7_takeSign 3 (some .boolean) rm_X7_takeSign Λ [.ref v0, .int v1] μ r.1 r.2 := mi_of rfl (Nat.le_of_ble_eq_true rfl) (fun x C _ => tm_X7_takeSign_3 C _ _ _ _ hv0 hm)
abbrev rm_X7_kindOf : Room := { frames := 0, cells := 0, slots := 0, locals := 0 }
set_option maxRecDepth 20000 in
set_option maxHeartbeats 4000000 in
theorem tj_X7_kindOf_39 {x : Ctx} {Λ : Lay} (C : Cx x cX7_kindOf 1 (some .int) RX7 Λ rm_X7_kindOf) (N : Nat) (μ : Mem) (s0 : Int32) {r : Int32} (hm : jn_X7_kindOf_39 N Λ μ s0 = some r) : J x 1 Λ (QI x Λ r μ) 39 [] [.int s0] μ := by
  obtain rfl := Option.some.inj hm
  exact j_ireti C dX7_kindOf_39
set_option maxRecDepth 20000 in
set_option maxHeartbeats 4000000 in
theorem tj_X7_kindOf_28 {x : Ctx} {Λ : Lay} (C : Cx x cX7_kindOf 1 (some .int) RX7 Λ rm_X7_kindOf) (N : Nat) (μ : Mem) (v0 : Int32) {r : Int32} (hm : jn_X7_kindOf_28 N Λ μ v0 = some r) : J x 1 Λ (QI x Λ r μ) 28 [(0, .int v0)] [] μ := by
  refine j_iload_n C 0 dX7_kindOf_28 rfl ?_
  refine j_bipush C (v := 32) dX7_kindOf_29 rfl ?_
  refine j_icmp_ne C (tgt := 38) dX7_kindOf_31 (by decide) (fun h1 => ?_) (fun h1 => ?_)
  · replace hm := if_f hm h1
    refine j_iconst C (v := 3) dX7_kindOf_38 rfl ?_
    refine j_sub [] rfl ?_
    exact tj_X7_kindOf_39 C _ _ _  hm
  · replace hm := if_t hm h1
    refine j_iconst C (v := 0) dX7_kindOf_34 rfl ?_
    refine j_goto C (tgt := 39) dX7_kindOf_35 (by decide) ?_
    refine j_sub [] rfl ?_
    exact tj_X7_kindOf_39 C _ _ _  hm
set_option maxRecDepth 20000 in
set_option maxHeartbeats 4000000 in
theorem tj_X7_kindOf_14 {x : Ctx} {Λ : Lay} (C : Cx x cX7_kindOf 1 (some .int) RX7 Λ rm_X7_kindOf) (N : Nat) (μ : Mem) (v0 : Int32) {r : Int32} (hm : jn_X7_kindOf_14 N Λ μ v0 = some r) : J x 1 Λ (QI x Λ r μ) 14 [(0, .int v0)] [] μ := by
  refine j_iload_n C 0 dX7_kindOf_14 rfl ?_
  refine j_bipush C (v := 48) dX7_kindOf_15 rfl ?_
  refine j_icmp_lt C (tgt := 28) dX7_kindOf_17 (by decide) (fun h1 => ?_) (fun h1 => ?_)
  · replace hm := if_t hm h1
    exact tj_X7_kindOf_28 C _ _ _  hm
  · replace hm := if_f hm h1
    refine j_iload_n C 0 dX7_kindOf_20 rfl ?_
    refine j_bipush C (v := 57) dX7_kindOf_21 rfl ?_
    refine j_icmp_gt C (tgt := 28) dX7_kindOf_23 (by decide) (fun h2 => ?_) (fun h2 => ?_)
    · replace hm := if_t hm h2
      exact tj_X7_kindOf_28 C _ _ _  hm
    · replace hm := if_f hm h2
      refine j_iconst C (v := 2) dX7_kindOf_26 rfl ?_
      obtain rfl := Option.some.inj hm
      exact j_ireti C dX7_kindOf_27
set_option maxRecDepth 20000 in
set_option maxHeartbeats 4000000 in
theorem tm_X7_kindOf {x : Ctx} {Λ : Lay} (C : Cx x cX7_kindOf 1 (some .int) RX7 Λ rm_X7_kindOf) (N : Nat) (μ : Mem) (v0 : Int32) {r : Int32} (hm : m_X7_kindOf N Λ μ v0 = some r) : J x 1 Λ (QI x Λ r μ) 0 [(0, .int v0)] [] μ := by
  refine j_iload_n C 0 dX7_kindOf_0 rfl ?_
  refine j_bipush C (v := 97) dX7_kindOf_1 rfl ?_
  refine j_icmp_lt C (tgt := 14) dX7_kindOf_3 (by decide) (fun h1 => ?_) (fun h1 => ?_)
  · replace hm := if_t hm h1
    exact tj_X7_kindOf_14 C _ _ _  hm
  · replace hm := if_f hm h1
    refine j_iload_n C 0 dX7_kindOf_6 rfl ?_
    refine j_bipush C (v := 122) dX7_kindOf_7 rfl ?_
    refine j_icmp_gt C (tgt := 14) dX7_kindOf_9 (by decide) (fun h2 => ?_) (fun h2 => ?_)
    · replace hm := if_t hm h2
      exact tj_X7_kindOf_14 C _ _ _  hm
    · replace hm := if_f hm h2
      refine j_iconst C (v := 1) dX7_kindOf_12 rfl ?_
      obtain rfl := Option.some.inj hm
      exact j_ireti C dX7_kindOf_13
set_option maxRecDepth 20000 in
set_option maxHeartbeats 4000000 in
theorem mc_X7_kindOf (l : Launch) (N : Nat) (Λ : Lay) (μ : Mem) (v0 : Int32) {r : Int32} (hm : m_X7_kindOf N Λ μ v0 = some r) : MI l yX7_kindOf cX7_kindOf 1 (some .int) rm_X7_kindOf Λ [.int v0] μ r μ := mi_of rfl (Nat.le_of_ble_eq_true rfl) (fun x C _ => tm_X7_kindOf C _ _ _  hm)
abbrev rm_X7_split : Room := { frames := 1, cells := 0, slots := 0, locals := 20 }
set_option maxRecDepth 20000 in
set_option maxHeartbeats 4000000 in
theorem tj_X7_split_123_1 {x : Ctx} {Λ : Lay} (C : Cx x cX7_split 4 none RX7 Λ rm_X7_split) (N : Nat) (μ : Mem) (k14 : Int32 × Int32 × Mem → Option (Mem)) (v0 : Nat) (v2 : Int32) (v3 : Int32) (hk14 : ∀ (s : Int32 × Int32 × Mem) (r : Mem), k14 s = some r → J x 4 Λ (QV x Λ r) 14 [(0, .ref v0), (1, .int s.1), (2, .int s.2.1)] [] (s.2.2)) (hv0 : inL Λ v0 1) {r : Mem} (hm : jn_X7_split_123 N Λ μ k14 v0 v2 v3 = some r) : J x 4 Λ (QV x Λ r) 123 [(0, .ref v0), (2, .int v2), (3, .int v3)] [] μ := by
  refine j_iload_n C 2 dX7_split_123 rfl ?_
  refine j_istore_n C (lv' := [(1, .int v3), (0, .ref v0), (2, .int v2), (3, .int v3)]) dX7_split_124 (by decide) rfl ?_
  obtain ⟨y1, e2, hm⟩ := lt_some hm
  refine j_iinc C 2 (v := y1) (lv' := [(2, .int y1), (1, .int v3), (0, .ref v0), (3, .int v3)]) dX7_split_125 rfl (by rw [e2]; rfl) (by decide) rfl ?_
  refine j_goto C (tgt := 14) dX7_split_128 (by decide) ?_
  refine j_sub [2, 1, 0] rfl ?_
  exact hk14 (v3, y1, μ) _ hm
set_option maxRecDepth 20000 in
set_option maxHeartbeats 4000000 in
theorem tj_X7_split_60_1 {x : Ctx} {Λ : Lay} (C : Cx x cX7_split 4 none RX7 Λ rm_X7_split) (N : Nat) (μ : Mem) (k14 : Int32 × Int32 × Mem → Option (Mem)) (v0 : Nat) (v2 : Int32) (v3 : Int32) (hk14 : ∀ (s : Int32 × Int32 × Mem) (r : Mem), k14 s = some r → J x 4 Λ (QV x Λ r) 14 [(0, .ref v0), (1, .int s.1), (2, .int s.2.1)] [] (s.2.2)) (hv0 : inL Λ v0 1) {r : Mem} (hm : jn_X7_split_60 N Λ μ k14 v0 v2 v3 = some r) : J x 4 Λ (QV x Λ r) 60 [(0, .ref v0), (2, .int v2), (3, .int v3)] [] μ := by
  refine j_aload_n C 0 dX7_split_60 rfl ?_
  obtain ⟨q1, h2, hm⟩ := bd_some hm
  refine j_getR C fg_X7_18_1 hv0 (dr_spec h2).1 dX7_split_61 ?_
  refine j_aload_n C 0 dX7_split_64 rfl ?_
  refine j_getI C fg_X7_28_1 hv0 dX7_split_65 ?_
  refine j_iconst C (v := 1) dX7_split_68 rfl ?_
  refine j_isub C dX7_split_69 ?_
  refine j_iload_n C 1 dX7_split_70 rfl ?_
  refine j_iconst C (v := 1) dX7_split_71 rfl ?_
  refine j_iadd C dX7_split_72 ?_
  obtain ⟨h3, hm⟩ := gd_some hm
  obtain ⟨μ4, e5, hm⟩ := lt_some hm
  refine j_iast C ((dr_spec h2).2) h3 e5 dX7_split_73 ?_
  refine j_goto C (tgt := 123) dX7_split_74 (by decide) ?_
  exact tj_X7_split_123_1 C _ _ _ _ _ _ hk14 hv0 hm
set_option maxRecDepth 20000 in
set_option maxHeartbeats 4000000 in
theorem tj_X7_split_77_1 {x : Ctx} {Λ : Lay} (C : Cx x cX7_split 4 none RX7 Λ rm_X7_split) (N : Nat) (μ : Mem) (k14 : Int32 × Int32 × Mem → Option (Mem)) (v0 : Nat) (v2 : Int32) (v3 : Int32) (hk14 : ∀ (s : Int32 × Int32 × Mem) (r : Mem), k14 s = some r → J x 4 Λ (QV x Λ r) 14 [(0, .ref v0), (1, .int s.1), (2, .int s.2.1)] [] (s.2.2)) (hv0 : inL Λ v0 1) {r : Mem} (hm : jn_X7_split_77 N Λ μ k14 v0 v2 v3 = some r) : J x 4 Λ (QV x Λ r) 77 [(0, .ref v0), (2, .int v2), (3, .int v3)] [] μ := by
  refine j_iload_n C 2 dX7_split_77 rfl ?_
  refine j_if_eq C (tgt := 123) dX7_split_78 (by decide) (fun h1 => ?_) (fun h1 => ?_)
  · replace hm := if_t hm h1
    exact tj_X7_split_123_1 C _ _ _ _ _ _ hk14 hv0 hm
  · replace hm := if_f hm h1
    refine j_aload_n C 0 dX7_split_81 rfl ?_
    obtain ⟨q2, h3, hm⟩ := bd_some hm
    refine j_getR C fg_X7_9_1 hv0 (dr_spec h3).1 dX7_split_82 ?_
    refine j_aload_n C 0 dX7_split_85 rfl ?_
    refine j_getI C fg_X7_28_1 hv0 dX7_split_86 ?_
    refine j_iload_n C 2 dX7_split_89 rfl ?_
    obtain ⟨h4, hm⟩ := gd_some hm
    obtain ⟨μ5, e6, hm⟩ := lt_some hm
    refine j_iast C ((dr_spec h3).2) h4 e6 dX7_split_90 ?_
    refine j_aload_n C 0 dX7_split_91 rfl ?_
    obtain ⟨q7, h8, hm⟩ := bd_some hm
    refine j_getR C fg_X7_15_1 hv0 (dr_spec h8).1 dX7_split_92 ?_
    refine j_aload_n C 0 dX7_split_95 rfl ?_
    refine j_getI C fg_X7_28_1 hv0 dX7_split_96 ?_
    refine j_iload_n C 1 dX7_split_99 rfl ?_
    obtain ⟨h9, hm⟩ := gd_some hm
    obtain ⟨μ10, e11, hm⟩ := lt_some hm
    refine j_iast C ((dr_spec h8).2) h9 e11 dX7_split_100 ?_
    refine j_aload_n C 0 dX7_split_101 rfl ?_
    obtain ⟨q12, h13, hm⟩ := bd_some hm
    refine j_getR C fg_X7_18_1 hv0 (dr_spec h13).1 dX7_split_102 ?_
    refine j_aload_n C 0 dX7_split_105 rfl ?_
    refine j_getI C fg_X7_28_1 hv0 dX7_split_106 ?_
    refine j_iload_n C 1 dX7_split_109 rfl ?_
    refine j_iconst C (v := 1) dX7_split_110 rfl ?_
    refine j_iadd C dX7_split_111 ?_
    obtain ⟨h14, hm⟩ := gd_some hm
    obtain ⟨μ15, e16, hm⟩ := lt_some hm
    refine j_iast C ((dr_spec h13).2) h14 e16 dX7_split_112 ?_
    refine j_aload_n C 0 dX7_split_113 rfl ?_
    refine j_dup C dX7_split_114 rfl ?_
    refine j_getI C fg_X7_28_1 hv0 dX7_split_115 ?_
    refine j_iconst C (v := 1) dX7_split_118 rfl ?_
    refine j_iadd C dX7_split_119 ?_
    obtain ⟨μ17, e18, hm⟩ := lt_some hm
    refine j_putI C fp_X7_28_1 hv0 e18 dX7_split_120 ?_
    exact tj_X7_split_123_1 C _ _ _ _ _ _ hk14 hv0 hm
set_option maxRecDepth 20000 in
set_option maxHeartbeats 4000000 in
theorem tb_X7_split_14_1 {x : Ctx} {Λ : Lay} (C : Cx x cX7_split 4 none RX7 Λ rm_X7_split) (N : Nat) (μ : Mem) (k14 : Int32 × Int32 × Mem → Option (Mem)) (v0 : Nat) (v1 : Int32) (v2 : Int32) (hk14 : ∀ (s : Int32 × Int32 × Mem) (r : Mem), k14 s = some r → J x 4 Λ (QV x Λ r) 14 [(0, .ref v0), (1, .int s.1), (2, .int s.2.1)] [] (s.2.2)) (hv0 : inL Λ v0 1) {r : Mem} (hm : bd_X7_split_14 N Λ μ k14 v0 v1 v2 = some r) : J x 4 Λ (QV x Λ r) 14 [(0, .ref v0), (1, .int v1), (2, .int v2)] [] μ := by
  refine j_iload_n C 2 dX7_split_14 rfl ?_
  refine j_aload_n C 0 dX7_split_15 rfl ?_
  obtain ⟨q1, h2, hm⟩ := bd_some hm
  refine j_getR C fg_X7_21_1 hv0 (dr_spec h2).1 dX7_split_16 ?_
  refine j_getI C fg_X7_43_9 ((dr_spec h2).2) dX7_split_19 ?_
  refine j_icmp_ge C (tgt := 131) dX7_split_22 (by decide) (fun h3 => ?_) (fun h3 => ?_)
  · replace hm := if_t hm h3
    refine j_aload_n C 0 dX7_split_131 rfl ?_
    obtain ⟨q4, h5, hm⟩ := bd_some hm
    refine j_getR C fg_X7_9_1 hv0 (dr_spec h5).1 dX7_split_132 ?_
    refine j_aload_n C 0 dX7_split_135 rfl ?_
    refine j_getI C fg_X7_28_1 hv0 dX7_split_136 ?_
    refine j_iconst C (v := 0) dX7_split_139 rfl ?_
    obtain ⟨h6, hm⟩ := gd_some hm
    obtain ⟨μ7, e8, hm⟩ := lt_some hm
    refine j_iast C ((dr_spec h5).2) h6 e8 dX7_split_140 ?_
    refine j_aload_n C 0 dX7_split_141 rfl ?_
    obtain ⟨q9, h10, hm⟩ := bd_some hm
    refine j_getR C fg_X7_15_1 hv0 (dr_spec h10).1 dX7_split_142 ?_
    refine j_aload_n C 0 dX7_split_145 rfl ?_
    refine j_getI C fg_X7_28_1 hv0 dX7_split_146 ?_
    refine j_aload_n C 0 dX7_split_149 rfl ?_
    obtain ⟨q11, h12, hm⟩ := bd_some hm
    refine j_getR C fg_X7_21_1 hv0 (dr_spec h12).1 dX7_split_150 ?_
    refine j_getI C fg_X7_43_9 ((dr_spec h12).2) dX7_split_153 ?_
    obtain ⟨h13, hm⟩ := gd_some hm
    obtain ⟨μ14, e15, hm⟩ := lt_some hm
    refine j_iast C ((dr_spec h10).2) h13 e15 dX7_split_156 ?_
    refine j_aload_n C 0 dX7_split_157 rfl ?_
    obtain ⟨q16, h17, hm⟩ := bd_some hm
    refine j_getR C fg_X7_18_1 hv0 (dr_spec h17).1 dX7_split_158 ?_
    refine j_aload_n C 0 dX7_split_161 rfl ?_
    refine j_getI C fg_X7_28_1 hv0 dX7_split_162 ?_
    refine j_aload_n C 0 dX7_split_165 rfl ?_
    obtain ⟨q18, h19, hm⟩ := bd_some hm
    refine j_getR C fg_X7_21_1 hv0 (dr_spec h19).1 dX7_split_166 ?_
    refine j_getI C fg_X7_43_9 ((dr_spec h19).2) dX7_split_169 ?_
    obtain ⟨h20, hm⟩ := gd_some hm
    obtain ⟨μ21, e22, hm⟩ := lt_some hm
    refine j_iast C ((dr_spec h17).2) h20 e22 dX7_split_172 ?_
    obtain rfl := Option.some.inj hm
    exact j_vret C dX7_split_173
  · replace hm := if_f hm h3
    refine j_aload_n C 0 dX7_split_25 rfl ?_
    obtain ⟨q23, h24, hm⟩ := bd_some hm
    refine j_getR C fg_X7_21_1 hv0 (dr_spec h24).1 dX7_split_26 ?_
    obtain ⟨q25, h26, hm⟩ := bd_some hm
    refine j_getR C fg_X7_48_9 ((dr_spec h24).2) (dr_spec h26).1 dX7_split_29 ?_
    refine j_iload_n C 2 dX7_split_32 rfl ?_
    obtain ⟨h27, hm⟩ := gd_some hm
    refine j_bald C ((dr_spec h26).2) h27 dX7_split_33 ?_
    obtain ⟨r28, h29, hm⟩ := bd_some hm
    refine call_I (run_LS C ls_X7_52 ⟨rfl, rfl, Nat.le_of_ble_eq_true rfl, Nat.le_of_ble_eq_true rfl⟩ (As := [.int (μ.1 q25 v2.toNatClampNeg)]) rfl rfl (Nat.le_of_ble_eq_true rfl) dX7_split_34 (mc_X7_kindOf _ _ _ _ _  h29)) ?_
    refine j_istore_n C (lv' := [(3, .int r28), (0, .ref v0), (1, .int v1), (2, .int v2)]) dX7_split_37 (by decide) rfl ?_
    refine j_aload_n C 1 dX7_split_38 rfl ?_
    refine j_getI C fg_X7_28_1 hv0 dX7_split_39 ?_
    refine j_if_le C (tgt := 77) dX7_split_42 (by decide) (fun h30 => ?_) (fun h30 => ?_)
    · replace hm := if_t hm h30
      refine j_sub [1, 3, 0] rfl ?_
      exact tj_X7_split_77_1 C _ _ _ _ _ _ hk14 hv0 hm
    · replace hm := if_f hm h30
      refine j_iload_n C 0 dX7_split_45 rfl ?_
      refine j_iload_n C 2 dX7_split_46 rfl ?_
      refine j_icmp_ne C (tgt := 77) dX7_split_47 (by decide) (fun h31 => ?_) (fun h31 => ?_)
      · replace hm := if_f hm h31
        refine j_sub [1, 3, 0] rfl ?_
        exact tj_X7_split_77_1 C _ _ _ _ _ _ hk14 hv0 hm
      · replace hm := if_t hm h31
        refine j_iload_n C 0 dX7_split_50 rfl ?_
        refine j_iconst C (v := 1) dX7_split_51 rfl ?_
        refine j_icmp_eq C (tgt := 60) dX7_split_52 (by decide) (fun h32 => ?_) (fun h32 => ?_)
        · replace hm := if_t hm h32
          refine j_sub [1, 3, 0] rfl ?_
          exact tj_X7_split_60_1 C _ _ _ _ _ _ hk14 hv0 hm
        · replace hm := if_f hm h32
          refine j_iload_n C 0 dX7_split_55 rfl ?_
          refine j_iconst C (v := 2) dX7_split_56 rfl ?_
          refine j_icmp_ne C (tgt := 77) dX7_split_57 (by decide) (fun h33 => ?_) (fun h33 => ?_)
          · replace hm := if_f hm h33
            refine j_sub [1, 3, 0] rfl ?_
            exact tj_X7_split_77_1 C _ _ _ _ _ _ hk14 hv0 hm
          · replace hm := if_t hm h33
            refine j_sub [1, 3, 0] rfl ?_
            exact tj_X7_split_60_1 C _ _ _ _ _ _ hk14 hv0 hm
set_option maxRecDepth 20000 in
set_option maxHeartbeats 4000000 in
theorem tl_X7_split_14_1 {x : Ctx} {Λ : Lay} (C : Cx x cX7_split 4 none RX7 Λ rm_X7_split) (N : Nat) (v0 : Nat) (hv0 : inL Λ v0 1) (s : Int32 × Int32 × Mem) {r : Mem} (hm : lp_X7_split_14 N Λ v0 s = some r) : J x 4 Λ (QV x Λ r) 14 [(0, .ref v0), (1, .int s.1), (2, .int s.2.1)] [] (s.2.2) :=
  cw_ind (P := fun s r => J x 4 Λ (QV x Λ r) 14 [(0, .ref v0), (1, .int s.1), (2, .int s.2.1)] [] (s.2.2)) (fun k hkk s r e => tb_X7_split_14_1 C _ _ _ _ _ _ hkk hv0 e) N s r hm
set_option maxRecDepth 20000 in
set_option maxHeartbeats 4000000 in
theorem tm_X7_split_1 {x : Ctx} {Λ : Lay} (C : Cx x cX7_split 4 none RX7 Λ rm_X7_split) (N : Nat) (μ : Mem) (v0 : Nat) (hv0 : inL Λ v0 1) {r : Mem} (hm : m_X7_split N Λ μ v0 = some r) : J x 4 Λ (QV x Λ r) 0 [(0, .ref v0)] [] μ := by
  refine j_aload_n C 0 dX7_split_0 rfl ?_
  refine j_iconst C (v := 0) dX7_split_1 rfl ?_
  obtain ⟨μ1, e2, hm⟩ := lt_some hm
  refine j_putI C fp_X7_36_1 hv0 e2 dX7_split_2 ?_
  refine j_aload_n C 0 dX7_split_5 rfl ?_
  refine j_iconst C (v := 0) dX7_split_6 rfl ?_
  obtain ⟨μ3, e4, hm⟩ := lt_some hm
  refine j_putI C fp_X7_28_1 hv0 e4 dX7_split_7 ?_
  refine j_iconst C (v := 0) dX7_split_10 rfl ?_
  refine j_istore_n C (lv' := [(1, .int 0), (0, .ref v0)]) dX7_split_11 (by decide) rfl ?_
  refine j_iconst C (v := 0) dX7_split_12 rfl ?_
  refine j_istore_n C (lv' := [(2, .int 0), (1, .int 0), (0, .ref v0)]) dX7_split_13 (by decide) rfl ?_
  refine j_sub [2, 1, 0] rfl ?_
  exact tl_X7_split_14_1 C _ _ hv0 (0, 0, μ3) hm
set_option maxRecDepth 20000 in
set_option maxHeartbeats 4000000 in
theorem mc_X7_split_1 (l : Launch) (N : Nat) (Λ : Lay) (μ : Mem) (v0 : Nat) (hv0 : inL Λ v0 1) {r : Mem} (hm : m_X7_split N Λ μ v0 = some r) : MV l yX7_split cX7_split 4 rm_X7_split Λ [.ref v0] μ r := mv_of rfl (Nat.le_of_ble_eq_true rfl) (fun x C _ => tm_X7_split_1 C _ _ _ hv0 hm)
set_option maxRecDepth 20000 in
set_option maxHeartbeats 4000000 in
theorem tj_X7_split_123_3 {x : Ctx} {Λ : Lay} (C : Cx x cX7_split 4 none RX7 Λ rm_X7_split) (N : Nat) (μ : Mem) (k14 : Int32 × Int32 × Mem → Option (Mem)) (v0 : Nat) (v2 : Int32) (v3 : Int32) (hk14 : ∀ (s : Int32 × Int32 × Mem) (r : Mem), k14 s = some r → J x 4 Λ (QV x Λ r) 14 [(0, .ref v0), (1, .int s.1), (2, .int s.2.1)] [] (s.2.2)) (hv0 : inL Λ v0 3) {r : Mem} (hm : jn_X7_split_123 N Λ μ k14 v0 v2 v3 = some r) : J x 4 Λ (QV x Λ r) 123 [(0, .ref v0), (2, .int v2), (3, .int v3)] [] μ := by
  refine j_iload_n C 2 dX7_split_123 rfl ?_
  refine j_istore_n C (lv' := [(1, .int v3), (0, .ref v0), (2, .int v2), (3, .int v3)]) dX7_split_124 (by decide) rfl ?_
  obtain ⟨y1, e2, hm⟩ := lt_some hm
  refine j_iinc C 2 (v := y1) (lv' := [(2, .int y1), (1, .int v3), (0, .ref v0), (3, .int v3)]) dX7_split_125 rfl (by rw [e2]; rfl) (by decide) rfl ?_
  refine j_goto C (tgt := 14) dX7_split_128 (by decide) ?_
  refine j_sub [2, 1, 0] rfl ?_
  exact hk14 (v3, y1, μ) _ hm
set_option maxRecDepth 20000 in
set_option maxHeartbeats 4000000 in
theorem tj_X7_split_60_3 {x : Ctx} {Λ : Lay} (C : Cx x cX7_split 4 none RX7 Λ rm_X7_split) (N : Nat) (μ : Mem) (k14 : Int32 × Int32 × Mem → Option (Mem)) (v0 : Nat) (v2 : Int32) (v3 : Int32) (hk14 : ∀ (s : Int32 × Int32 × Mem) (r : Mem), k14 s = some r → J x 4 Λ (QV x Λ r) 14 [(0, .ref v0), (1, .int s.1), (2, .int s.2.1)] [] (s.2.2)) (hv0 : inL Λ v0 3) {r : Mem} (hm : jn_X7_split_60 N Λ μ k14 v0 v2 v3 = some r) : J x 4 Λ (QV x Λ r) 60 [(0, .ref v0), (2, .int v2), (3, .int v3)] [] μ := by
  refine j_aload_n C 0 dX7_split_60 rfl ?_
  obtain ⟨q1, h2, hm⟩ := bd_some hm
  refine j_getR C fg_X7_18_3 hv0 (dr_spec h2).1 dX7_split_61 ?_
  refine j_aload_n C 0 dX7_split_64 rfl ?_
  refine j_getI C fg_X7_28_3 hv0 dX7_split_65 ?_
  refine j_iconst C (v := 1) dX7_split_68 rfl ?_
  refine j_isub C dX7_split_69 ?_
  refine j_iload_n C 1 dX7_split_70 rfl ?_
  refine j_iconst C (v := 1) dX7_split_71 rfl ?_
  refine j_iadd C dX7_split_72 ?_
  obtain ⟨h3, hm⟩ := gd_some hm
  obtain ⟨μ4, e5, hm⟩ := lt_some hm
  refine j_iast C ((dr_spec h2).2) h3 e5 dX7_split_73 ?_
  refine j_goto C (tgt := 123) dX7_split_74 (by decide) ?_
  exact tj_X7_split_123_3 C _ _ _ _ _ _ hk14 hv0 hm
set_option maxRecDepth 20000 in
set_option maxHeartbeats 4000000 in
theorem tj_X7_split_77_3 {x : Ctx} {Λ : Lay} (C : Cx x cX7_split 4 none RX7 Λ rm_X7_split) (N : Nat) (μ : Mem) (k14 : Int32 × Int32 × Mem → Option (Mem)) (v0 : Nat) (v2 : Int32) (v3 : Int32) (hk14 : ∀ (s : Int32 × Int32 × Mem) (r : Mem), k14 s = some r → J x 4 Λ (QV x Λ r) 14 [(0, .ref v0), (1, .int s.1), (2, .int s.2.1)] [] (s.2.2)) (hv0 : inL Λ v0 3) {r : Mem} (hm : jn_X7_split_77 N Λ μ k14 v0 v2 v3 = some r) : J x 4 Λ (QV x Λ r) 77 [(0, .ref v0), (2, .int v2), (3, .int v3)] [] μ := by
  refine j_iload_n C 2 dX7_split_77 rfl ?_
  refine j_if_eq C (tgt := 123) dX7_split_78 (by decide) (fun h1 => ?_) (fun h1 => ?_)
  · replace hm := if_t hm h1
    exact tj_X7_split_123_3 C _ _ _ _ _ _ hk14 hv0 hm
  · replace hm := if_f hm h1
    refine j_aload_n C 0 dX7_split_81 rfl ?_
    obtain ⟨q2, h3, hm⟩ := bd_some hm
    refine j_getR C fg_X7_9_3 hv0 (dr_spec h3).1 dX7_split_82 ?_
    refine j_aload_n C 0 dX7_split_85 rfl ?_
    refine j_getI C fg_X7_28_3 hv0 dX7_split_86 ?_
    refine j_iload_n C 2 dX7_split_89 rfl ?_
    obtain ⟨h4, hm⟩ := gd_some hm
    obtain ⟨μ5, e6, hm⟩ := lt_some hm
    refine j_iast C ((dr_spec h3).2) h4 e6 dX7_split_90 ?_
    refine j_aload_n C 0 dX7_split_91 rfl ?_
    obtain ⟨q7, h8, hm⟩ := bd_some hm
    refine j_getR C fg_X7_15_3 hv0 (dr_spec h8).1 dX7_split_92 ?_
    refine j_aload_n C 0 dX7_split_95 rfl ?_
    refine j_getI C fg_X7_28_3 hv0 dX7_split_96 ?_
    refine j_iload_n C 1 dX7_split_99 rfl ?_
    obtain ⟨h9, hm⟩ := gd_some hm
    obtain ⟨μ10, e11, hm⟩ := lt_some hm
    refine j_iast C ((dr_spec h8).2) h9 e11 dX7_split_100 ?_
    refine j_aload_n C 0 dX7_split_101 rfl ?_
    obtain ⟨q12, h13, hm⟩ := bd_some hm
    refine j_getR C fg_X7_18_3 hv0 (dr_spec h13).1 dX7_split_102 ?_
    refine j_aload_n C 0 dX7_split_105 rfl ?_
    refine j_getI C fg_X7_28_3 hv0 dX7_split_106 ?_
    refine j_iload_n C 1 dX7_split_109 rfl ?_
    refine j_iconst C (v := 1) dX7_split_110 rfl ?_
    refine j_iadd C dX7_split_111 ?_
    obtain ⟨h14, hm⟩ := gd_some hm
    obtain ⟨μ15, e16, hm⟩ := lt_some hm
    refine j_iast C ((dr_spec h13).2) h14 e16 dX7_split_112 ?_
    refine j_aload_n C 0 dX7_split_113 rfl ?_
    refine j_dup C dX7_split_114 rfl ?_
    refine j_getI C fg_X7_28_3 hv0 dX7_split_115 ?_
    refine j_iconst C (v := 1) dX7_split_118 rfl ?_
    refine j_iadd C dX7_split_119 ?_
    obtain ⟨μ17, e18, hm⟩ := lt_some hm
    refine j_putI C fp_X7_28_3 hv0 e18 dX7_split_120 ?_
    exact tj_X7_split_123_3 C _ _ _ _ _ _ hk14 hv0 hm
set_option maxRecDepth 20000 in
set_option maxHeartbeats 4000000 in
theorem tb_X7_split_14_3 {x : Ctx} {Λ : Lay} (C : Cx x cX7_split 4 none RX7 Λ rm_X7_split) (N : Nat) (μ : Mem) (k14 : Int32 × Int32 × Mem → Option (Mem)) (v0 : Nat) (v1 : Int32) (v2 : Int32) (hk14 : ∀ (s : Int32 × Int32 × Mem) (r : Mem), k14 s = some r → J x 4 Λ (QV x Λ r) 14 [(0, .ref v0), (1, .int s.1), (2, .int s.2.1)] [] (s.2.2)) (hv0 : inL Λ v0 3) {r : Mem} (hm : bd_X7_split_14 N Λ μ k14 v0 v1 v2 = some r) : J x 4 Λ (QV x Λ r) 14 [(0, .ref v0), (1, .int v1), (2, .int v2)] [] μ := by
  refine j_iload_n C 2 dX7_split_14 rfl ?_
  refine j_aload_n C 0 dX7_split_15 rfl ?_
  obtain ⟨q1, h2, hm⟩ := bd_some hm
  refine j_getR C fg_X7_21_3 hv0 (dr_spec h2).1 dX7_split_16 ?_
  refine j_getI C fg_X7_43_9 ((dr_spec h2).2) dX7_split_19 ?_
  refine j_icmp_ge C (tgt := 131) dX7_split_22 (by decide) (fun h3 => ?_) (fun h3 => ?_)
  · replace hm := if_t hm h3
    refine j_aload_n C 0 dX7_split_131 rfl ?_
    obtain ⟨q4, h5, hm⟩ := bd_some hm
    refine j_getR C fg_X7_9_3 hv0 (dr_spec h5).1 dX7_split_132 ?_
    refine j_aload_n C 0 dX7_split_135 rfl ?_
    refine j_getI C fg_X7_28_3 hv0 dX7_split_136 ?_
    refine j_iconst C (v := 0) dX7_split_139 rfl ?_
    obtain ⟨h6, hm⟩ := gd_some hm
    obtain ⟨μ7, e8, hm⟩ := lt_some hm
    refine j_iast C ((dr_spec h5).2) h6 e8 dX7_split_140 ?_
    refine j_aload_n C 0 dX7_split_141 rfl ?_
    obtain ⟨q9, h10, hm⟩ := bd_some hm
    refine j_getR C fg_X7_15_3 hv0 (dr_spec h10).1 dX7_split_142 ?_
    refine j_aload_n C 0 dX7_split_145 rfl ?_
    refine j_getI C fg_X7_28_3 hv0 dX7_split_146 ?_
    refine j_aload_n C 0 dX7_split_149 rfl ?_
    obtain ⟨q11, h12, hm⟩ := bd_some hm
    refine j_getR C fg_X7_21_3 hv0 (dr_spec h12).1 dX7_split_150 ?_
    refine j_getI C fg_X7_43_9 ((dr_spec h12).2) dX7_split_153 ?_
    obtain ⟨h13, hm⟩ := gd_some hm
    obtain ⟨μ14, e15, hm⟩ := lt_some hm
    refine j_iast C ((dr_spec h10).2) h13 e15 dX7_split_156 ?_
    refine j_aload_n C 0 dX7_split_157 rfl ?_
    obtain ⟨q16, h17, hm⟩ := bd_some hm
    refine j_getR C fg_X7_18_3 hv0 (dr_spec h17).1 dX7_split_158 ?_
    refine j_aload_n C 0 dX7_split_161 rfl ?_
    refine j_getI C fg_X7_28_3 hv0 dX7_split_162 ?_
    refine j_aload_n C 0 dX7_split_165 rfl ?_
    obtain ⟨q18, h19, hm⟩ := bd_some hm
    refine j_getR C fg_X7_21_3 hv0 (dr_spec h19).1 dX7_split_166 ?_
    refine j_getI C fg_X7_43_9 ((dr_spec h19).2) dX7_split_169 ?_
    obtain ⟨h20, hm⟩ := gd_some hm
    obtain ⟨μ21, e22, hm⟩ := lt_some hm
    refine j_iast C ((dr_spec h17).2) h20 e22 dX7_split_172 ?_
    obtain rfl := Option.some.inj hm
    exact j_vret C dX7_split_173
  · replace hm := if_f hm h3
    refine j_aload_n C 0 dX7_split_25 rfl ?_
    obtain ⟨q23, h24, hm⟩ := bd_some hm
    refine j_getR C fg_X7_21_3 hv0 (dr_spec h24).1 dX7_split_26 ?_
    obtain ⟨q25, h26, hm⟩ := bd_some hm
    refine j_getR C fg_X7_48_9 ((dr_spec h24).2) (dr_spec h26).1 dX7_split_29 ?_
    refine j_iload_n C 2 dX7_split_32 rfl ?_
    obtain ⟨h27, hm⟩ := gd_some hm
    refine j_bald C ((dr_spec h26).2) h27 dX7_split_33 ?_
    obtain ⟨r28, h29, hm⟩ := bd_some hm
    refine call_I (run_LS C ls_X7_52 ⟨rfl, rfl, Nat.le_of_ble_eq_true rfl, Nat.le_of_ble_eq_true rfl⟩ (As := [.int (μ.1 q25 v2.toNatClampNeg)]) rfl rfl (Nat.le_of_ble_eq_true rfl) dX7_split_34 (mc_X7_kindOf _ _ _ _ _  h29)) ?_
    refine j_istore_n C (lv' := [(3, .int r28), (0, .ref v0), (1, .int v1), (2, .int v2)]) dX7_split_37 (by decide) rfl ?_
    refine j_aload_n C 1 dX7_split_38 rfl ?_
    refine j_getI C fg_X7_28_3 hv0 dX7_split_39 ?_
    refine j_if_le C (tgt := 77) dX7_split_42 (by decide) (fun h30 => ?_) (fun h30 => ?_)
    · replace hm := if_t hm h30
      refine j_sub [1, 3, 0] rfl ?_
      exact tj_X7_split_77_3 C _ _ _ _ _ _ hk14 hv0 hm
    · replace hm := if_f hm h30
      refine j_iload_n C 0 dX7_split_45 rfl ?_
      refine j_iload_n C 2 dX7_split_46 rfl ?_
      refine j_icmp_ne C (tgt := 77) dX7_split_47 (by decide) (fun h31 => ?_) (fun h31 => ?_)
      · replace hm := if_f hm h31
        refine j_sub [1, 3, 0] rfl ?_
        exact tj_X7_split_77_3 C _ _ _ _ _ _ hk14 hv0 hm
      · replace hm := if_t hm h31
        refine j_iload_n C 0 dX7_split_50 rfl ?_
        refine j_iconst C (v := 1) dX7_split_51 rfl ?_
        refine j_icmp_eq C (tgt := 60) dX7_split_52 (by decide) (fun h32 => ?_) (fun h32 => ?_)
        · replace hm := if_t hm h32
          refine j_sub [1, 3, 0] rfl ?_
          exact tj_X7_split_60_3 C _ _ _ _ _ _ hk14 hv0 hm
        · replace hm := if_f hm h32
          refine j_iload_n C 0 dX7_split_55 rfl ?_
          refine j_iconst C (v := 2) dX7_split_56 rfl ?_
          refine j_icmp_ne C (tgt := 77) dX7_split_57 (by decide) (fun h33 => ?_) (fun h33 => ?_)
          · replace hm := if_f hm h33
            refine j_sub [1, 3, 0] rfl ?_
            exact tj_X7_split_77_3 C _ _ _ _ _ _ hk14 hv0 hm
          · replace hm := if_t hm h33
            refine j_sub [1, 3, 0] rfl ?_
            exact tj_X7_split_60_3 C _ _ _ _ _ _ hk14 hv0 hm
set_option maxRecDepth 20000 in
set_option maxHeartbeats 4000000 in
theorem tl_X7_split_14_3 {x : Ctx} {Λ : Lay} (C : Cx x cX7_split 4 none RX7 Λ rm_X7_split) (N : Nat) (v0 : Nat) (hv0 : inL Λ v0 3) (s : Int32 × Int32 × Mem) {r : Mem} (hm : lp_X7_split_14 N Λ v0 s = some r) : J x 4 Λ (QV x Λ r) 14 [(0, .ref v0), (1, .int s.1), (2, .int s.2.1)] [] (s.2.2) :=
  cw_ind (P := fun s r => J x 4 Λ (QV x Λ r) 14 [(0, .ref v0), (1, .int s.1), (2, .int s.2.1)] [] (s.2.2)) (fun k hkk s r e => tb_X7_split_14_3 C _ _ _ _ _ _ hkk hv0 e) N s r hm
set_option maxRecDepth 20000 in
set_option maxHeartbeats 4000000 in
theorem tm_X7_split_3 {x : Ctx} {Λ : Lay} (C : Cx x cX7_split 4 none RX7 Λ rm_X7_split) (N : Nat) (μ : Mem) (v0 : Nat) (hv0 : inL Λ v0 3) {r : Mem} (hm : m_X7_split N Λ μ v0 = some r) : J x 4 Λ (QV x Λ r) 0 [(0, .ref v0)] [] μ := by
  refine j_aload_n C 0 dX7_split_0 rfl ?_
  refine j_iconst C (v := 0) dX7_split_1 rfl ?_
  obtain ⟨μ1, e2, hm⟩ := lt_some hm
  refine j_putI C fp_X7_36_3 hv0 e2 dX7_split_2 ?_
  refine j_aload_n C 0 dX7_split_5 rfl ?_
  refine j_iconst C (v := 0) dX7_split_6 rfl ?_
  obtain ⟨μ3, e4, hm⟩ := lt_some hm
  refine j_putI C fp_X7_28_3 hv0 e4 dX7_split_7 ?_
  refine j_iconst C (v := 0) dX7_split_10 rfl ?_
  refine j_istore_n C (lv' := [(1, .int 0), (0, .ref v0)]) dX7_split_11 (by decide) rfl ?_
  refine j_iconst C (v := 0) dX7_split_12 rfl ?_
  refine j_istore_n C (lv' := [(2, .int 0), (1, .int 0), (0, .ref v0)]) dX7_split_13 (by decide) rfl ?_
  refine j_sub [2, 1, 0] rfl ?_
  exact tl_X7_split_14_3 C _ _ hv0 (0, 0, μ3) hm
set_option maxRecDepth 20000 in
set_option maxHeartbeats 4000000 in
theorem mc_X7_split_3 (l : Launch) (N : Nat) (Λ : Lay) (μ : Mem) (v0 : Nat) (hv0 : inL Λ v0 3) {r : Mem} (hm : m_X7_split N Λ μ v0 = some r) : MV l yX7_split cX7_split 4 rm_X7_split Λ [.ref v0] μ r := mv_of rfl (Nat.le_of_ble_eq_true rfl) (fun x C _ => tm_X7_split_3 C _ _ _ hv0 hm)

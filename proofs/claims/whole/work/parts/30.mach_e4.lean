set_option maxRecDepth 20000 in
set_option maxHeartbeats 4000000 in
theorem tj_X3_readAtom_85 {x : Ctx} {Λ : Lay} {d : Nat} (C : Cx x cX3_readAtom 5 (some .boolean) RX3 Λ (rm_X3_readAtom (d + 1))) (N : Nat) (fA : Mem → Nat → Int32 → Option (Int32 × Mem)) (μ : Mem) (s0 : Int32) (hfA : ∀ (ν : Mem) (a : Nat) (a0 : Int32) (r : Int32 × Mem), inL Λ a 3 → fA ν a a0 = some r → MI x.2.1 yX3_readAtom cX3_readAtom 5 (some .boolean) (rm_X3_readAtom d) Λ [.ref a, .int a0] ν r.1 r.2) {r : Int32 × Mem} (hm : jn_X3_readAtom_85 N Λ fA μ s0 = some r) : J x 5 Λ (QI x Λ r.1 r.2) 85 [] [.int s0] μ := by
  obtain ⟨h1, hm⟩ := gd_some hm
  obtain rfl := Option.some.inj hm
  exact j_iretz C h1 dX3_readAtom_85
set_option maxRecDepth 20000 in
set_option maxHeartbeats 4000000 in
theorem tj_X3_readAtom_84 {x : Ctx} {Λ : Lay} {d : Nat} (C : Cx x cX3_readAtom 5 (some .boolean) RX3 Λ (rm_X3_readAtom (d + 1))) (N : Nat) (fA : Mem → Nat → Int32 → Option (Int32 × Mem)) (μ : Mem) (hfA : ∀ (ν : Mem) (a : Nat) (a0 : Int32) (r : Int32 × Mem), inL Λ a 3 → fA ν a a0 = some r → MI x.2.1 yX3_readAtom cX3_readAtom 5 (some .boolean) (rm_X3_readAtom d) Λ [.ref a, .int a0] ν r.1 r.2) {r : Int32 × Mem} (hm : jn_X3_readAtom_84 N Λ fA μ = some r) : J x 5 Λ (QI x Λ r.1 r.2) 84 [] [] μ := by
  refine j_iconst C (v := 0) dX3_readAtom_84 rfl ?_
  exact tj_X3_readAtom_85 C _ _ _ _ hfA hm
set_option maxRecDepth 20000 in
set_option maxHeartbeats 4000000 in
theorem tj_X3_readAtom_115 {x : Ctx} {Λ : Lay} {d : Nat} (C : Cx x cX3_readAtom 5 (some .boolean) RX3 Λ (rm_X3_readAtom (d + 1))) (N : Nat) (fA : Mem → Nat → Int32 → Option (Int32 × Mem)) (μ : Mem) (s0 : Int32) (hfA : ∀ (ν : Mem) (a : Nat) (a0 : Int32) (r : Int32 × Mem), inL Λ a 3 → fA ν a a0 = some r → MI x.2.1 yX3_readAtom cX3_readAtom 5 (some .boolean) (rm_X3_readAtom d) Λ [.ref a, .int a0] ν r.1 r.2) {r : Int32 × Mem} (hm : jn_X3_readAtom_115 N Λ fA μ s0 = some r) : J x 5 Λ (QI x Λ r.1 r.2) 115 [] [.int s0] μ := by
  obtain ⟨h1, hm⟩ := gd_some hm
  obtain rfl := Option.some.inj hm
  exact j_iretz C h1 dX3_readAtom_115
set_option maxRecDepth 20000 in
set_option maxHeartbeats 4000000 in
theorem tj_X3_readAtom_114 {x : Ctx} {Λ : Lay} {d : Nat} (C : Cx x cX3_readAtom 5 (some .boolean) RX3 Λ (rm_X3_readAtom (d + 1))) (N : Nat) (fA : Mem → Nat → Int32 → Option (Int32 × Mem)) (μ : Mem) (hfA : ∀ (ν : Mem) (a : Nat) (a0 : Int32) (r : Int32 × Mem), inL Λ a 3 → fA ν a a0 = some r → MI x.2.1 yX3_readAtom cX3_readAtom 5 (some .boolean) (rm_X3_readAtom d) Λ [.ref a, .int a0] ν r.1 r.2) {r : Int32 × Mem} (hm : jn_X3_readAtom_114 N Λ fA μ = some r) : J x 5 Λ (QI x Λ r.1 r.2) 114 [] [] μ := by
  refine j_iconst C (v := 0) dX3_readAtom_114 rfl ?_
  exact tj_X3_readAtom_115 C _ _ _ _ hfA hm
set_option maxRecDepth 20000 in
set_option maxHeartbeats 4000000 in
theorem tj_X3_readAtom_54 {x : Ctx} {Λ : Lay} {d : Nat} (C : Cx x cX3_readAtom 5 (some .boolean) RX3 Λ (rm_X3_readAtom (d + 1))) (N : Nat) (fA : Mem → Nat → Int32 → Option (Int32 × Mem)) (μ : Mem) (v0 : Nat) (v1 : Int32) (v3 : Int32) (v4 : Int32) (hfA : ∀ (ν : Mem) (a : Nat) (a0 : Int32) (r : Int32 × Mem), inL Λ a 3 → fA ν a a0 = some r → MI x.2.1 yX3_readAtom cX3_readAtom 5 (some .boolean) (rm_X3_readAtom d) Λ [.ref a, .int a0] ν r.1 r.2) (hv0 : inL Λ v0 3) {r : Int32 × Mem} (hm : jn_X3_readAtom_54 N Λ fA μ v0 v1 v3 v4 = some r) : J x 5 Λ (QI x Λ r.1 r.2) 54 [(0, .ref v0), (1, .int v1), (3, .int v3), (4, .int v4)] [] μ := by
  refine j_iload_n C 2 dX3_readAtom_54 rfl ?_
  refine j_if_eq C (tgt := 86) dX3_readAtom_55 (by decide) (fun h1 => ?_) (fun h1 => ?_)
  · replace hm := if_t hm h1
    refine j_iload C 3 dX3_readAtom_86 rfl ?_
    refine j_if_eq C (tgt := 116) dX3_readAtom_88 (by decide) (fun h2 => ?_) (fun h2 => ?_)
    · replace hm := if_t hm h2
      refine j_aload_n C 0 dX3_readAtom_116 rfl ?_
      refine j_ldcS C (i := 14) (tx := "open") (List.mem_of_getElem? (i := 18) rfl) dX3_readAtom_117 ?_
      obtain ⟨r3, h4, hm⟩ := bd_some hm
      refine call_I (run_LU C lu_X3_35_3 (by refine ⟨rfl, rfl, ?_, ?_⟩ <;> (simp only [rm_X7_takeWord, rm_X3_readAtom]; omega)) (As := [.ref (sK Λ 14)]) hv0 rfl rfl (Nat.le_of_ble_eq_true rfl) dX3_readAtom_119 (mc_X7_takeWord_3 _ _ _ _ _ _ hv0 ((by decide)) h4)) ?_
      refine j_if_eq C (tgt := 135) dX3_readAtom_122 (by decide) (fun h5 => ?_) (fun h5 => ?_)
      · replace hm := if_t hm h5
        refine j_aload_n C 0 dX3_readAtom_135 rfl ?_
        refine j_ldcS C (i := 4) (tx := "dry") (List.mem_of_getElem? (i := 19) rfl) dX3_readAtom_136 ?_
        obtain ⟨r6, h7, hm⟩ := bd_some hm
        refine call_I (run_LU C lu_X3_35_3 (by refine ⟨rfl, rfl, ?_, ?_⟩ <;> (simp only [rm_X7_takeWord, rm_X3_readAtom]; omega)) (As := [.ref (sK Λ 4)]) hv0 rfl rfl (Nat.le_of_ble_eq_true rfl) dX3_readAtom_138 (mc_X7_takeWord_3 _ _ _ _ _ _ hv0 ((by decide)) h7)) ?_
        refine j_if_eq C (tgt := 154) dX3_readAtom_141 (by decide) (fun h8 => ?_) (fun h8 => ?_)
        · replace hm := if_t hm h8
          refine j_aload_n C 0 dX3_readAtom_154 rfl ?_
          refine j_ldcS C (i := 8) (tx := "hurt") (List.mem_of_getElem? (i := 20) rfl) dX3_readAtom_155 ?_
          obtain ⟨r9, h10, hm⟩ := bd_some hm
          refine call_I (run_LU C lu_X3_35_3 (by refine ⟨rfl, rfl, ?_, ?_⟩ <;> (simp only [rm_X7_takeWord, rm_X3_readAtom]; omega)) (As := [.ref (sK Λ 8)]) hv0 rfl rfl (Nat.le_of_ble_eq_true rfl) dX3_readAtom_157 (mc_X7_takeWord_3 _ _ _ _ _ _ hv0 ((by decide)) h10)) ?_
          refine j_if_eq C (tgt := 173) dX3_readAtom_160 (by decide) (fun h11 => ?_) (fun h11 => ?_)
          · replace hm := if_t hm h11
            refine j_aload_n C 0 dX3_readAtom_173 rfl ?_
            obtain ⟨r12, h13, hm⟩ := bd_some hm
            refine call_I (run_LV C lk_X3_81 (by refine ⟨rfl, rfl, ?_, ?_⟩ <;> (simp only [rm_X3_readComparison, rm_X3_readAtom]; omega)) (As := []) hv0 rfl rfl (Nat.le_of_ble_eq_true rfl) dX3_readAtom_174 (mc_X3_readComparison _ _ _ _ _ hv0 h13)) ?_
            obtain ⟨h14, hm⟩ := gd_some hm
            obtain rfl := Option.some.inj hm
            exact j_iretz C h14 dX3_readAtom_177
          · replace hm := if_f hm h11
            refine j_aload_n C 0 dX3_readAtom_163 rfl ?_
            obtain ⟨q15, h16, hm⟩ := bd_some hm
            refine j_getR C fg_X3_9_3 hv0 (dr_spec h16).1 dX3_readAtom_164 ?_
            refine j_bipush C (v := -10) dX3_readAtom_167 rfl ?_
            obtain ⟨r17, h18, hm⟩ := bd_some hm
            refine call_I (run_LV C lk_X3_58 (by refine ⟨rfl, rfl, ?_, ?_⟩ <;> (simp only [rm_X2_add, rm_X3_readAtom]; omega)) (As := [.int (-10)]) ((dr_spec h16).2) rfl rfl (Nat.le_of_ble_eq_true rfl) dX3_readAtom_169 (mc_X2_add _ _ _ _ _ _ ((dr_spec h16).2) h18)) ?_
            obtain ⟨h19, hm⟩ := gd_some hm
            obtain rfl := Option.some.inj hm
            exact j_iretz C h19 dX3_readAtom_172
        · replace hm := if_f hm h8
          refine j_aload_n C 0 dX3_readAtom_144 rfl ?_
          obtain ⟨q20, h21, hm⟩ := bd_some hm
          refine j_getR C fg_X3_9_3 hv0 (dr_spec h21).1 dX3_readAtom_145 ?_
          refine j_bipush C (v := -9) dX3_readAtom_148 rfl ?_
          obtain ⟨r22, h23, hm⟩ := bd_some hm
          refine call_I (run_LV C lk_X3_58 (by refine ⟨rfl, rfl, ?_, ?_⟩ <;> (simp only [rm_X2_add, rm_X3_readAtom]; omega)) (As := [.int (-9)]) ((dr_spec h21).2) rfl rfl (Nat.le_of_ble_eq_true rfl) dX3_readAtom_150 (mc_X2_add _ _ _ _ _ _ ((dr_spec h21).2) h23)) ?_
          obtain ⟨h24, hm⟩ := gd_some hm
          obtain rfl := Option.some.inj hm
          exact j_iretz C h24 dX3_readAtom_153
      · replace hm := if_f hm h5
        refine j_aload_n C 0 dX3_readAtom_125 rfl ?_
        obtain ⟨q25, h26, hm⟩ := bd_some hm
        refine j_getR C fg_X3_9_3 hv0 (dr_spec h26).1 dX3_readAtom_126 ?_
        refine j_bipush C (v := -8) dX3_readAtom_129 rfl ?_
        obtain ⟨r27, h28, hm⟩ := bd_some hm
        refine call_I (run_LV C lk_X3_58 (by refine ⟨rfl, rfl, ?_, ?_⟩ <;> (simp only [rm_X2_add, rm_X3_readAtom]; omega)) (As := [.int (-8)]) ((dr_spec h26).2) rfl rfl (Nat.le_of_ble_eq_true rfl) dX3_readAtom_131 (mc_X2_add _ _ _ _ _ _ ((dr_spec h26).2) h28)) ?_
        obtain ⟨h29, hm⟩ := gd_some hm
        obtain rfl := Option.some.inj hm
        exact j_iretz C h29 dX3_readAtom_134
    · replace hm := if_f hm h2
      refine j_aload_n C 0 dX3_readAtom_91 rfl ?_
      refine j_iload_n C 1 dX3_readAtom_92 rfl ?_
      refine j_iconst C (v := 1) dX3_readAtom_93 rfl ?_
      refine j_iadd C dX3_readAtom_94 ?_
      obtain ⟨r30, h31, hm⟩ := bd_some hm
      refine call_I (run_LV C lk_X3_39 (by refine ⟨rfl, rfl, ?_, ?_⟩ <;> (simp only [rm_X3_readAny, rm_X3_readAtom]; omega)) (As := [.int (v1 + 1)]) hv0 rfl rfl (Nat.le_of_ble_eq_true rfl) dX3_readAtom_95 (mc_X3_readAny _ _ _ _ _ hfA _ _ _ hv0 h31)) ?_
      refine j_if_eq C (tgt := 114) dX3_readAtom_98 (by decide) (fun h32 => ?_) (fun h32 => ?_)
      · replace hm := if_t hm h32
        refine j_sub [] rfl ?_
        exact tj_X3_readAtom_114 C _ _ _ hfA hm
      · replace hm := if_f hm h32
        refine j_aload_n C 0 dX3_readAtom_101 rfl ?_
        refine j_bipush C (v := 41) dX3_readAtom_102 rfl ?_
        obtain ⟨r33, h34, hm⟩ := bd_some hm
        refine call_I (run_LU C lu_X3_71_3 (by refine ⟨rfl, rfl, ?_, ?_⟩ <;> (simp only [rm_X7_takeSign, rm_X3_readAtom]; omega)) (As := [.int 41]) hv0 rfl rfl (Nat.le_of_ble_eq_true rfl) dX3_readAtom_104 (mc_X7_takeSign_3 _ _ _ _ _ _ hv0 h34)) ?_
        refine j_if_eq C (tgt := 114) dX3_readAtom_107 (by decide) (fun h35 => ?_) (fun h35 => ?_)
        · replace hm := if_t hm h35
          refine j_sub [] rfl ?_
          exact tj_X3_readAtom_114 C _ _ _ hfA hm
        · replace hm := if_f hm h35
          refine j_iconst C (v := 1) dX3_readAtom_110 rfl ?_
          refine j_goto C (tgt := 115) dX3_readAtom_111 (by decide) ?_
          refine j_sub [] rfl ?_
          exact tj_X3_readAtom_115 C _ _ _ _ hfA hm
  · replace hm := if_f hm h1
    refine j_aload_n C 0 dX3_readAtom_58 rfl ?_
    refine j_iload_n C 1 dX3_readAtom_59 rfl ?_
    refine j_iconst C (v := 1) dX3_readAtom_60 rfl ?_
    refine j_iadd C dX3_readAtom_61 ?_
    obtain ⟨r36, h37, hm⟩ := bd_some hm
    refine call_I (run_LV C lk_X3_61 (by refine ⟨rfl, rfl, ?_, ?_⟩ <;> (simp only [rm_X3_readAtom]; omega)) (As := [.int (v1 + 1)]) hv0 rfl rfl (Nat.le_of_ble_eq_true rfl) dX3_readAtom_62 (hfA _ _ _ _ hv0 h37)) ?_
    refine j_if_eq C (tgt := 84) dX3_readAtom_65 (by decide) (fun h38 => ?_) (fun h38 => ?_)
    · replace hm := if_t hm h38
      refine j_sub [] rfl ?_
      exact tj_X3_readAtom_84 C _ _ _ hfA hm
    · replace hm := if_f hm h38
      refine j_aload_n C 0 dX3_readAtom_68 rfl ?_
      obtain ⟨q39, h40, hm⟩ := bd_some hm
      refine j_getR C fg_X3_9_3 hv0 (dr_spec h40).1 dX3_readAtom_69 ?_
      refine j_bipush C (v := -11) dX3_readAtom_72 rfl ?_
      obtain ⟨r41, h42, hm⟩ := bd_some hm
      refine call_I (run_LV C lk_X3_58 (by refine ⟨rfl, rfl, ?_, ?_⟩ <;> (simp only [rm_X2_add, rm_X3_readAtom]; omega)) (As := [.int (-11)]) ((dr_spec h40).2) rfl rfl (Nat.le_of_ble_eq_true rfl) dX3_readAtom_74 (mc_X2_add _ _ _ _ _ _ ((dr_spec h40).2) h42)) ?_
      refine j_if_eq C (tgt := 84) dX3_readAtom_77 (by decide) (fun h43 => ?_) (fun h43 => ?_)
      · replace hm := if_t hm h43
        refine j_sub [] rfl ?_
        exact tj_X3_readAtom_84 C _ _ _ hfA hm
      · replace hm := if_f hm h43
        refine j_iconst C (v := 1) dX3_readAtom_80 rfl ?_
        refine j_goto C (tgt := 85) dX3_readAtom_81 (by decide) ?_
        refine j_sub [] rfl ?_
        exact tj_X3_readAtom_85 C _ _ _ _ hfA hm
set_option maxRecDepth 20000 in
set_option maxHeartbeats 4000000 in
theorem tj_X3_readAtom_41 {x : Ctx} {Λ : Lay} {d : Nat} (C : Cx x cX3_readAtom 5 (some .boolean) RX3 Λ (rm_X3_readAtom (d + 1))) (N : Nat) (fA : Mem → Nat → Int32 → Option (Int32 × Mem)) (μ : Mem) (v0 : Nat) (v1 : Int32) (v2 : Int32) (v3 : Int32) (v4 : Int32) (hfA : ∀ (ν : Mem) (a : Nat) (a0 : Int32) (r : Int32 × Mem), inL Λ a 3 → fA ν a a0 = some r → MI x.2.1 yX3_readAtom cX3_readAtom 5 (some .boolean) (rm_X3_readAtom d) Λ [.ref a, .int a0] ν r.1 r.2) (hv0 : inL Λ v0 3) {r : Int32 × Mem} (hm : jn_X3_readAtom_41 N Λ fA μ v0 v1 v2 v3 v4 = some r) : J x 5 Λ (QI x Λ r.1 r.2) 41 [(0, .ref v0), (1, .int v1), (2, .int v2), (3, .int v3), (4, .int v4)] [] μ := by
  refine j_iload_n C 1 dX3_readAtom_41 rfl ?_
  refine j_bipush C (v := 6) dX3_readAtom_42 rfl ?_
  refine j_icmp_lt C (tgt := 54) dX3_readAtom_44 (by decide) (fun h1 => ?_) (fun h1 => ?_)
  · replace hm := if_t hm h1
    refine j_sub [0, 1, 3, 4] rfl ?_
    exact tj_X3_readAtom_54 C _ _ _ _ _ _ _ hfA hv0 hm
  · replace hm := if_f hm h1
    refine j_aload_n C 0 dX3_readAtom_47 rfl ?_
    refine j_iload_n C 2 dX3_readAtom_48 rfl ?_
    obtain ⟨μ2, e3, hm⟩ := lt_some hm
    refine j_putI C fp_X3_66_3 hv0 e3 dX3_readAtom_49 ?_
    refine j_iconst C (v := 0) dX3_readAtom_52 rfl ?_
    obtain rfl := Option.some.inj hm
    exact j_iretz C rfl dX3_readAtom_53
set_option maxRecDepth 20000 in
set_option maxHeartbeats 4000000 in
theorem tj_X3_readAtom_30 {x : Ctx} {Λ : Lay} {d : Nat} (C : Cx x cX3_readAtom 5 (some .boolean) RX3 Λ (rm_X3_readAtom (d + 1))) (N : Nat) (fA : Mem → Nat → Int32 → Option (Int32 × Mem)) (μ : Mem) (v0 : Nat) (v1 : Int32) (v2 : Int32) (v3 : Int32) (s0 : Int32) (hfA : ∀ (ν : Mem) (a : Nat) (a0 : Int32) (r : Int32 × Mem), inL Λ a 3 → fA ν a a0 = some r → MI x.2.1 yX3_readAtom cX3_readAtom 5 (some .boolean) (rm_X3_readAtom d) Λ [.ref a, .int a0] ν r.1 r.2) (hv0 : inL Λ v0 3) {r : Int32 × Mem} (hm : jn_X3_readAtom_30 N Λ fA μ v0 v1 v2 v3 s0 = some r) : J x 5 Λ (QI x Λ r.1 r.2) 30 [(0, .ref v0), (1, .int v1), (2, .int v2), (3, .int v3)] [.int s0] μ := by
  refine j_istore C (lv' := [(4, .int s0), (0, .ref v0), (1, .int v1), (2, .int v2), (3, .int v3)]) dX3_readAtom_30 (by decide) rfl ?_
  refine j_iload_n C 4 dX3_readAtom_32 rfl ?_
  refine j_if_ne C (tgt := 41) dX3_readAtom_33 (by decide) (fun h1 => ?_) (fun h1 => ?_)
  · replace hm := if_f hm h1
    refine j_sub [1, 2, 3, 4, 0] rfl ?_
    exact tj_X3_readAtom_41 C _ _ _ _ _ _ _ _ hfA hv0 hm
  · replace hm := if_t hm h1
    refine j_iload C 0 dX3_readAtom_36 rfl ?_
    refine j_if_eq C (tgt := 54) dX3_readAtom_38 (by decide) (fun h2 => ?_) (fun h2 => ?_)
    · replace hm := if_t hm h2
      refine j_sub [1, 2, 4, 0] rfl ?_
      exact tj_X3_readAtom_54 C _ _ _ _ _ _ _ hfA hv0 hm
    · replace hm := if_f hm h2
      refine j_sub [1, 2, 3, 4, 0] rfl ?_
      exact tj_X3_readAtom_41 C _ _ _ _ _ _ _ _ hfA hv0 hm
set_option maxRecDepth 20000 in
set_option maxHeartbeats 4000000 in
theorem tj_X3_readAtom_29 {x : Ctx} {Λ : Lay} {d : Nat} (C : Cx x cX3_readAtom 5 (some .boolean) RX3 Λ (rm_X3_readAtom (d + 1))) (N : Nat) (fA : Mem → Nat → Int32 → Option (Int32 × Mem)) (μ : Mem) (v0 : Nat) (v1 : Int32) (v2 : Int32) (v3 : Int32) (hfA : ∀ (ν : Mem) (a : Nat) (a0 : Int32) (r : Int32 × Mem), inL Λ a 3 → fA ν a a0 = some r → MI x.2.1 yX3_readAtom cX3_readAtom 5 (some .boolean) (rm_X3_readAtom d) Λ [.ref a, .int a0] ν r.1 r.2) (hv0 : inL Λ v0 3) {r : Int32 × Mem} (hm : jn_X3_readAtom_29 N Λ fA μ v0 v1 v2 v3 = some r) : J x 5 Λ (QI x Λ r.1 r.2) 29 [(0, .ref v0), (1, .int v1), (2, .int v2), (3, .int v3)] [] μ := by
  refine j_iconst C (v := 0) dX3_readAtom_29 rfl ?_
  exact tj_X3_readAtom_30 C _ _ _ _ _ _ _ _ hfA hv0 hm
set_option maxRecDepth 20000 in
set_option maxHeartbeats 4000000 in
theorem tm_X3_readAtom {x : Ctx} {Λ : Lay} {d : Nat} (C : Cx x cX3_readAtom 5 (some .boolean) RX3 Λ (rm_X3_readAtom (d + 1))) (N : Nat) (fA : Mem → Nat → Int32 → Option (Int32 × Mem)) (μ : Mem) (v0 : Nat) (v1 : Int32) (hfA : ∀ (ν : Mem) (a : Nat) (a0 : Int32) (r : Int32 × Mem), inL Λ a 3 → fA ν a a0 = some r → MI x.2.1 yX3_readAtom cX3_readAtom 5 (some .boolean) (rm_X3_readAtom d) Λ [.ref a, .int a0] ν r.1 r.2) (hv0 : inL Λ v0 3) {r : Int32 × Mem} (hm : o_X3_readAtom N Λ fA μ v0 v1 = some r) : J x 5 Λ (QI x Λ r.1 r.2) 0 [(0, .ref v0), (1, .int v1)] [] μ := by
  refine j_aload_n C 0 dX3_readAtom_0 rfl ?_
  refine j_getI C fg_X3_66_3 hv0 dX3_readAtom_1 ?_
  obtain ⟨y1, e2, hm⟩ := lt_some hm
  refine j_topi e2 ?_
  refine j_istore_n C (lv' := [(2, .int y1), (0, .ref v0), (1, .int v1)]) dX3_readAtom_4 (by decide) rfl ?_
  refine j_aload_n C 1 dX3_readAtom_5 rfl ?_
  refine j_ldcS C (i := 13) (tx := "not") (List.mem_of_getElem? (i := 17) rfl) dX3_readAtom_6 ?_
  obtain ⟨r3, h4, hm⟩ := bd_some hm
  refine call_I (run_LU C lu_X3_35_3 (by refine ⟨rfl, rfl, ?_, ?_⟩ <;> (simp only [rm_X7_takeWord, rm_X3_readAtom]; omega)) (As := [.ref (sK Λ 13)]) hv0 rfl rfl (Nat.le_of_ble_eq_true rfl) dX3_readAtom_8 (mc_X7_takeWord_3 _ _ _ _ _ _ hv0 ((by decide)) h4)) ?_
  refine j_istore_n C (lv' := [(3, .int r3.1), (2, .int y1), (0, .ref v0), (1, .int v1)]) dX3_readAtom_11 (by decide) rfl ?_
  refine j_iload_n C 0 dX3_readAtom_12 rfl ?_
  refine j_if_ne C (tgt := 29) dX3_readAtom_13 (by decide) (fun h5 => ?_) (fun h5 => ?_)
  · replace hm := if_f hm h5
    refine j_sub [2, 3, 1, 0] rfl ?_
    exact tj_X3_readAtom_29 C _ _ _ _ _ _ _ hfA hv0 hm
  · replace hm := if_t hm h5
    refine j_aload_n C 2 dX3_readAtom_16 rfl ?_
    refine j_bipush C (v := 40) dX3_readAtom_17 rfl ?_
    obtain ⟨r6, h7, hm⟩ := bd_some hm
    refine call_I (run_LU C lu_X3_71_3 (by refine ⟨rfl, rfl, ?_, ?_⟩ <;> (simp only [rm_X7_takeSign, rm_X3_readAtom]; omega)) (As := [.int 40]) hv0 rfl rfl (Nat.le_of_ble_eq_true rfl) dX3_readAtom_19 (mc_X7_takeSign_3 _ _ _ _ _ _ hv0 h7)) ?_
    refine j_if_eq C (tgt := 29) dX3_readAtom_22 (by decide) (fun h8 => ?_) (fun h8 => ?_)
    · replace hm := if_t hm h8
      refine j_sub [2, 3, 1, 0] rfl ?_
      exact tj_X3_readAtom_29 C _ _ _ _ _ _ _ hfA hv0 hm
    · replace hm := if_f hm h8
      refine j_iconst C (v := 1) dX3_readAtom_25 rfl ?_
      refine j_goto C (tgt := 30) dX3_readAtom_26 (by decide) ?_
      refine j_sub [2, 3, 1, 0] rfl ?_
      exact tj_X3_readAtom_30 C _ _ _ _ _ _ _ _ hfA hv0 hm
set_option maxRecDepth 20000 in
set_option maxHeartbeats 4000000 in
theorem oc_X3_readAtom (l : Launch) (N : Nat) (Λ : Lay) (fA : Mem → Nat → Int32 → Option (Int32 × Mem)) (d : Nat) (hfA : ∀ (ν : Mem) (a : Nat) (a0 : Int32) (r : Int32 × Mem), inL Λ a 3 → fA ν a a0 = some r → MI l yX3_readAtom cX3_readAtom 5 (some .boolean) (rm_X3_readAtom d) Λ [.ref a, .int a0] ν r.1 r.2) (μ : Mem) (v0 : Nat) (v1 : Int32) (hv0 : inL Λ v0 3) {r : Int32 × Mem} (hm : o_X3_readAtom N Λ fA μ v0 v1 = some r) : MI l yX3_readAtom cX3_readAtom 5 (some .boolean) (rm_X3_readAtom (d + 1)) Λ [.ref v0, .int v1] μ r.1 r.2 := mi_of rfl (Nat.le_of_ble_eq_true rfl) (fun x C hxl => tm_X3_readAtom C _ _ _ _ _ (by subst hxl; exact hfA) hv0 hm)
set_option maxRecDepth 20000 in
set_option maxHeartbeats 4000000 in
theorem md_X3_readAtom (l : Launch) (N : Nat) (Λ : Lay) : ∀ (d : Nat), ∀ (ν : Mem) (a : Nat) (a0 : Int32) (r : Int32 × Mem), inL Λ a 3 → m_X3_readAtom N Λ d ν a a0 = some r → MI l yX3_readAtom cX3_readAtom 5 (some .boolean) (rm_X3_readAtom d) Λ [.ref a, .int a0] ν r.1 r.2
  | 0 => fun _ _ _ _ _ h => by cases h
  | d + 1 => fun _ _ _ _ hi h => oc_X3_readAtom l N Λ _ d (md_X3_readAtom l N Λ d) _ _ _ hi h
set_option maxRecDepth 20000 in
set_option maxHeartbeats 4000000 in
theorem mc_X3_readAll_8 (l : Launch) (N : Nat) (Λ : Lay) (μ : Mem) (v0 : Nat) (v1 : Int32) (hv0 : inL Λ v0 3) {r : Int32 × Mem} (hm : m_X3_readAll N Λ (m_X3_readAtom N Λ 8) μ v0 v1 = some r) : MI l yX3_readAll cX3_readAll 3 (some .boolean) (rm_X3_readAll 8) Λ [.ref v0, .int v1] μ r.1 r.2 := mc_X3_readAll l N Λ _ 8 (md_X3_readAtom l N Λ 8) _ _ _ hv0 hm
set_option maxRecDepth 20000 in
set_option maxHeartbeats 4000000 in
theorem mc_X3_readAny_8 (l : Launch) (N : Nat) (Λ : Lay) (μ : Mem) (v0 : Nat) (v1 : Int32) (hv0 : inL Λ v0 3) {r : Int32 × Mem} (hm : m_X3_readAny N Λ (m_X3_readAtom N Λ 8) μ v0 v1 = some r) : MI l yX3_readAny cX3_readAny 3 (some .boolean) (rm_X3_readAny 8) Λ [.ref v0, .int v1] μ r.1 r.2 := mc_X3_readAny l N Λ _ 8 (md_X3_readAtom l N Λ 8) _ _ _ hv0 hm

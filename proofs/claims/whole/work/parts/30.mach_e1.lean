abbrev rm_X3_takeKind : Room := { frames := 5, cells := 0, slots := 0, locals := 114 }
set_option maxRecDepth 20000 in
set_option maxHeartbeats 4000000 in
theorem tj_X3_takeKind_36 {x : Ctx} {Λ : Lay} (C : Cx x cX3_takeKind 1 (some .int) RX3 Λ rm_X3_takeKind) (N : Nat) (μ : Mem) (s0 : Int32) {r : Int32 × Mem} (hm : jn_X3_takeKind_36 N Λ μ s0 = some r) : J x 1 Λ (QI x Λ r.1 r.2) 36 [] [.int s0] μ := by
  obtain rfl := Option.some.inj hm
  exact j_ireti C dX3_takeKind_36
set_option maxRecDepth 20000 in
set_option maxHeartbeats 4000000 in
theorem tm_X3_takeKind {x : Ctx} {Λ : Lay} (C : Cx x cX3_takeKind 1 (some .int) RX3 Λ rm_X3_takeKind) (N : Nat) (μ : Mem) (v0 : Nat) (hv0 : inL Λ v0 3) {r : Int32 × Mem} (hm : m_X3_takeKind N Λ μ v0 = some r) : J x 1 Λ (QI x Λ r.1 r.2) 0 [(0, .ref v0)] [] μ := by
  refine j_aload_n C 0 dX3_takeKind_0 rfl ?_
  refine j_ldcS C (i := 16) (tx := "pull") (List.mem_of_getElem? (i := 13) rfl) dX3_takeKind_1 ?_
  obtain ⟨r1, h2, hm⟩ := bd_some hm
  refine call_I (run_LU C lu_X3_35_3 ⟨rfl, rfl, Nat.le_of_ble_eq_true rfl, Nat.le_of_ble_eq_true rfl⟩ (As := [.ref (sK Λ 16)]) hv0 rfl rfl (Nat.le_of_ble_eq_true rfl) dX3_takeKind_3 (mc_X7_takeWord_3 _ _ _ _ _ _ hv0 ((by decide)) h2)) ?_
  refine j_if_eq C (tgt := 11) dX3_takeKind_6 (by decide) (fun h3 => ?_) (fun h3 => ?_)
  · replace hm := if_t hm h3
    refine j_aload_n C 0 dX3_takeKind_11 rfl ?_
    refine j_ldcS C (i := 10) (tx := "leak") (List.mem_of_getElem? (i := 14) rfl) dX3_takeKind_12 ?_
    obtain ⟨r4, h5, hm⟩ := bd_some hm
    refine call_I (run_LU C lu_X3_35_3 ⟨rfl, rfl, Nat.le_of_ble_eq_true rfl, Nat.le_of_ble_eq_true rfl⟩ (As := [.ref (sK Λ 10)]) hv0 rfl rfl (Nat.le_of_ble_eq_true rfl) dX3_takeKind_14 (mc_X7_takeWord_3 _ _ _ _ _ _ hv0 ((by decide)) h5)) ?_
    refine j_if_eq C (tgt := 22) dX3_takeKind_17 (by decide) (fun h6 => ?_) (fun h6 => ?_)
    · replace hm := if_t hm h6
      refine j_aload_n C 0 dX3_takeKind_22 rfl ?_
      refine j_ldcS C (i := 5) (tx := "fee") (List.mem_of_getElem? (i := 15) rfl) dX3_takeKind_23 ?_
      obtain ⟨r7, h8, hm⟩ := bd_some hm
      refine call_I (run_LU C lu_X3_35_3 ⟨rfl, rfl, Nat.le_of_ble_eq_true rfl, Nat.le_of_ble_eq_true rfl⟩ (As := [.ref (sK Λ 5)]) hv0 rfl rfl (Nat.le_of_ble_eq_true rfl) dX3_takeKind_25 (mc_X7_takeWord_3 _ _ _ _ _ _ hv0 ((by decide)) h8)) ?_
      refine j_if_eq C (tgt := 35) dX3_takeKind_28 (by decide) (fun h9 => ?_) (fun h9 => ?_)
      · replace hm := if_t hm h9
        refine j_iconst C (v := -1) dX3_takeKind_35 rfl ?_
        refine j_sub [] rfl ?_
        exact tj_X3_takeKind_36 C _ _ _  hm
      · replace hm := if_f hm h9
        refine j_iconst C (v := 2) dX3_takeKind_31 rfl ?_
        refine j_goto C (tgt := 36) dX3_takeKind_32 (by decide) ?_
        refine j_sub [] rfl ?_
        exact tj_X3_takeKind_36 C _ _ _  hm
    · replace hm := if_f hm h6
      refine j_iconst C (v := 1) dX3_takeKind_20 rfl ?_
      obtain rfl := Option.some.inj hm
      exact j_ireti C dX3_takeKind_21
  · replace hm := if_f hm h3
    refine j_iconst C (v := 0) dX3_takeKind_9 rfl ?_
    obtain rfl := Option.some.inj hm
    exact j_ireti C dX3_takeKind_10
set_option maxRecDepth 20000 in
set_option maxHeartbeats 4000000 in
theorem mc_X3_takeKind (l : Launch) (N : Nat) (Λ : Lay) (μ : Mem) (v0 : Nat) (hv0 : inL Λ v0 3) {r : Int32 × Mem} (hm : m_X3_takeKind N Λ μ v0 = some r) : MI l yX3_takeKind cX3_takeKind 1 (some .int) rm_X3_takeKind Λ [.ref v0] μ r.1 r.2 := mi_of rfl (Nat.le_of_ble_eq_true rfl) (fun x C _ => tm_X3_takeKind C _ _ _ hv0 hm)
abbrev rm_X3_readPart : Room := { frames := 5, cells := 0, slots := 0, locals := 114 }
set_option maxRecDepth 20000 in
set_option maxHeartbeats 4000000 in
theorem tj_X3_readPart_162 {x : Ctx} {Λ : Lay} (C : Cx x cX3_readPart 1 (some .boolean) RX3 Λ rm_X3_readPart) (N : Nat) (μ : Mem) (s0 : Int32) {r : Int32 × Mem} (hm : jn_X3_readPart_162 N Λ μ s0 = some r) : J x 1 Λ (QI x Λ r.1 r.2) 162 [] [.int s0] μ := by
  obtain ⟨h1, hm⟩ := gd_some hm
  obtain rfl := Option.some.inj hm
  exact j_iretz C h1 dX3_readPart_162
set_option maxRecDepth 20000 in
set_option maxHeartbeats 4000000 in
theorem tj_X3_readPart_161 {x : Ctx} {Λ : Lay} (C : Cx x cX3_readPart 1 (some .boolean) RX3 Λ rm_X3_readPart) (N : Nat) (μ : Mem) {r : Int32 × Mem} (hm : jn_X3_readPart_161 N Λ μ = some r) : J x 1 Λ (QI x Λ r.1 r.2) 161 [] [] μ := by
  refine j_iconst C (v := 0) dX3_readPart_161 rfl ?_
  exact tj_X3_readPart_162 C _ _ _  hm
set_option maxRecDepth 20000 in
set_option maxHeartbeats 4000000 in
theorem tm_X3_readPart {x : Ctx} {Λ : Lay} (C : Cx x cX3_readPart 1 (some .boolean) RX3 Λ rm_X3_readPart) (N : Nat) (μ : Mem) (v0 : Nat) (hv0 : inL Λ v0 3) {r : Int32 × Mem} (hm : m_X3_readPart N Λ μ v0 = some r) : J x 1 Λ (QI x Λ r.1 r.2) 0 [(0, .ref v0)] [] μ := by
  refine j_aload_n C 0 dX3_readPart_0 rfl ?_
  refine j_iconst C (v := 0) dX3_readPart_1 rfl ?_
  refine j_sipush C (v := 999) dX3_readPart_2 rfl ?_
  obtain ⟨r1, h2, hm⟩ := bd_some hm
  refine call_I (run_LU C lu_X3_19_3 ⟨rfl, rfl, Nat.le_of_ble_eq_true rfl, Nat.le_of_ble_eq_true rfl⟩ (As := [.int 0, .int 999]) hv0 rfl rfl (Nat.le_of_ble_eq_true rfl) dX3_readPart_5 (mc_X7_takeNumber_3 _ _ _ _ _ _ _ hv0 h2)) ?_
  refine j_if_eq C (tgt := 23) dX3_readPart_8 (by decide) (fun h3 => ?_) (fun h3 => ?_)
  · replace hm := if_t hm h3
    refine j_aload_n C 0 dX3_readPart_23 rfl ?_
    refine j_ldcS C (i := 18) (tx := "ship") (List.mem_of_getElem? (i := 21) rfl) dX3_readPart_24 ?_
    obtain ⟨r4, h5, hm⟩ := bd_some hm
    refine call_I (run_LU C lu_X3_35_3 ⟨rfl, rfl, Nat.le_of_ble_eq_true rfl, Nat.le_of_ble_eq_true rfl⟩ (As := [.ref (sK Λ 18)]) hv0 rfl rfl (Nat.le_of_ble_eq_true rfl) dX3_readPart_26 (mc_X7_takeWord_3 _ _ _ _ _ _ hv0 ((by decide)) h5)) ?_
    refine j_if_eq C (tgt := 41) dX3_readPart_29 (by decide) (fun h6 => ?_) (fun h6 => ?_)
    · replace hm := if_t hm h6
      refine j_aload_n C 0 dX3_readPart_41 rfl ?_
      refine j_ldcS C (i := 11) (tx := "length") (List.mem_of_getElem? (i := 22) rfl) dX3_readPart_42 ?_
      obtain ⟨r7, h8, hm⟩ := bd_some hm
      refine call_I (run_LU C lu_X3_35_3 ⟨rfl, rfl, Nat.le_of_ble_eq_true rfl, Nat.le_of_ble_eq_true rfl⟩ (As := [.ref (sK Λ 11)]) hv0 rfl rfl (Nat.le_of_ble_eq_true rfl) dX3_readPart_44 (mc_X7_takeWord_3 _ _ _ _ _ _ hv0 ((by decide)) h8)) ?_
      refine j_if_eq C (tgt := 60) dX3_readPart_47 (by decide) (fun h9 => ?_) (fun h9 => ?_)
      · replace hm := if_t hm h9
        refine j_aload_n C 0 dX3_readPart_60 rfl ?_
        refine j_ldcS C (i := 3) (tx := "draught") (List.mem_of_getElem? (i := 23) rfl) dX3_readPart_61 ?_
        obtain ⟨r10, h11, hm⟩ := bd_some hm
        refine call_I (run_LU C lu_X3_35_3 ⟨rfl, rfl, Nat.le_of_ble_eq_true rfl, Nat.le_of_ble_eq_true rfl⟩ (As := [.ref (sK Λ 3)]) hv0 rfl rfl (Nat.le_of_ble_eq_true rfl) dX3_readPart_63 (mc_X7_takeWord_3 _ _ _ _ _ _ hv0 ((by decide)) h11)) ?_
        refine j_if_eq C (tgt := 79) dX3_readPart_66 (by decide) (fun h12 => ?_) (fun h12 => ?_)
        · replace hm := if_t hm h12
          refine j_aload_n C 0 dX3_readPart_79 rfl ?_
          refine j_ldcS C (i := 22) (tx := "work") (List.mem_of_getElem? (i := 24) rfl) dX3_readPart_80 ?_
          obtain ⟨r13, h14, hm⟩ := bd_some hm
          refine call_I (run_LU C lu_X3_35_3 ⟨rfl, rfl, Nat.le_of_ble_eq_true rfl, Nat.le_of_ble_eq_true rfl⟩ (As := [.ref (sK Λ 22)]) hv0 rfl rfl (Nat.le_of_ble_eq_true rfl) dX3_readPart_82 (mc_X7_takeWord_3 _ _ _ _ _ _ hv0 ((by decide)) h14)) ?_
          refine j_if_eq C (tgt := 98) dX3_readPart_85 (by decide) (fun h15 => ?_) (fun h15 => ?_)
          · replace hm := if_t hm h15
            refine j_aload_n C 0 dX3_readPart_98 rfl ?_
            refine j_ldcS C (i := 12) (tx := "level") (List.mem_of_getElem? (i := 25) rfl) dX3_readPart_99 ?_
            obtain ⟨r16, h17, hm⟩ := bd_some hm
            refine call_I (run_LU C lu_X3_35_3 ⟨rfl, rfl, Nat.le_of_ble_eq_true rfl, Nat.le_of_ble_eq_true rfl⟩ (As := [.ref (sK Λ 12)]) hv0 rfl rfl (Nat.le_of_ble_eq_true rfl) dX3_readPart_101 (mc_X7_takeWord_3 _ _ _ _ _ _ hv0 ((by decide)) h17)) ?_
            refine j_if_eq C (tgt := 117) dX3_readPart_104 (by decide) (fun h18 => ?_) (fun h18 => ?_)
            · replace hm := if_t hm h18
              refine j_aload_n C 0 dX3_readPart_117 rfl ?_
              refine j_ldcS C (i := 21) (tx := "tide") (List.mem_of_getElem? (i := 26) rfl) dX3_readPart_118 ?_
              obtain ⟨r19, h20, hm⟩ := bd_some hm
              refine call_I (run_LU C lu_X3_35_3 ⟨rfl, rfl, Nat.le_of_ble_eq_true rfl, Nat.le_of_ble_eq_true rfl⟩ (As := [.ref (sK Λ 21)]) hv0 rfl rfl (Nat.le_of_ble_eq_true rfl) dX3_readPart_120 (mc_X7_takeWord_3 _ _ _ _ _ _ hv0 ((by decide)) h20)) ?_
              refine j_if_eq C (tgt := 136) dX3_readPart_123 (by decide) (fun h21 => ?_) (fun h21 => ?_)
              · replace hm := if_t hm h21
                refine j_aload_n C 0 dX3_readPart_136 rfl ?_
                refine j_ldcS C (i := 7) (tx := "hour") (List.mem_of_getElem? (i := 27) rfl) dX3_readPart_137 ?_
                obtain ⟨r22, h23, hm⟩ := bd_some hm
                refine call_I (run_LU C lu_X3_35_3 ⟨rfl, rfl, Nat.le_of_ble_eq_true rfl, Nat.le_of_ble_eq_true rfl⟩ (As := [.ref (sK Λ 7)]) hv0 rfl rfl (Nat.le_of_ble_eq_true rfl) dX3_readPart_139 (mc_X7_takeWord_3 _ _ _ _ _ _ hv0 ((by decide)) h23)) ?_
                refine j_if_eq C (tgt := 161) dX3_readPart_142 (by decide) (fun h24 => ?_) (fun h24 => ?_)
                · replace hm := if_t hm h24
                  refine j_sub [] rfl ?_
                  exact tj_X3_readPart_161 C _ _  hm
                · replace hm := if_f hm h24
                  refine j_aload_n C 0 dX3_readPart_145 rfl ?_
                  obtain ⟨q25, h26, hm⟩ := bd_some hm
                  refine j_getR C fg_X3_9_3 hv0 (dr_spec h26).1 dX3_readPart_146 ?_
                  refine j_bipush C (v := -7) dX3_readPart_149 rfl ?_
                  obtain ⟨r27, h28, hm⟩ := bd_some hm
                  refine call_I (run_LV C lk_X3_58 ⟨rfl, rfl, Nat.le_of_ble_eq_true rfl, Nat.le_of_ble_eq_true rfl⟩ (As := [.int (-7)]) ((dr_spec h26).2) rfl rfl (Nat.le_of_ble_eq_true rfl) dX3_readPart_151 (mc_X2_add _ _ _ _ _ _ ((dr_spec h26).2) h28)) ?_
                  refine j_if_eq C (tgt := 161) dX3_readPart_154 (by decide) (fun h29 => ?_) (fun h29 => ?_)
                  · replace hm := if_t hm h29
                    refine j_sub [] rfl ?_
                    exact tj_X3_readPart_161 C _ _  hm
                  · replace hm := if_f hm h29
                    refine j_iconst C (v := 1) dX3_readPart_157 rfl ?_
                    refine j_goto C (tgt := 162) dX3_readPart_158 (by decide) ?_
                    refine j_sub [] rfl ?_
                    exact tj_X3_readPart_162 C _ _ _  hm
              · replace hm := if_f hm h21
                refine j_aload_n C 0 dX3_readPart_126 rfl ?_
                obtain ⟨q30, h31, hm⟩ := bd_some hm
                refine j_getR C fg_X3_9_3 hv0 (dr_spec h31).1 dX3_readPart_127 ?_
                refine j_bipush C (v := -6) dX3_readPart_130 rfl ?_
                obtain ⟨r32, h33, hm⟩ := bd_some hm
                refine call_I (run_LV C lk_X3_58 ⟨rfl, rfl, Nat.le_of_ble_eq_true rfl, Nat.le_of_ble_eq_true rfl⟩ (As := [.int (-6)]) ((dr_spec h31).2) rfl rfl (Nat.le_of_ble_eq_true rfl) dX3_readPart_132 (mc_X2_add _ _ _ _ _ _ ((dr_spec h31).2) h33)) ?_
                obtain ⟨h34, hm⟩ := gd_some hm
                obtain rfl := Option.some.inj hm
                exact j_iretz C h34 dX3_readPart_135
            · replace hm := if_f hm h18
              refine j_aload_n C 0 dX3_readPart_107 rfl ?_
              obtain ⟨q35, h36, hm⟩ := bd_some hm
              refine j_getR C fg_X3_9_3 hv0 (dr_spec h36).1 dX3_readPart_108 ?_
              refine j_bipush C (v := -5) dX3_readPart_111 rfl ?_
              obtain ⟨r37, h38, hm⟩ := bd_some hm
              refine call_I (run_LV C lk_X3_58 ⟨rfl, rfl, Nat.le_of_ble_eq_true rfl, Nat.le_of_ble_eq_true rfl⟩ (As := [.int (-5)]) ((dr_spec h36).2) rfl rfl (Nat.le_of_ble_eq_true rfl) dX3_readPart_113 (mc_X2_add _ _ _ _ _ _ ((dr_spec h36).2) h38)) ?_
              obtain ⟨h39, hm⟩ := gd_some hm
              obtain rfl := Option.some.inj hm
              exact j_iretz C h39 dX3_readPart_116
          · replace hm := if_f hm h15
            refine j_aload_n C 0 dX3_readPart_88 rfl ?_
            obtain ⟨q40, h41, hm⟩ := bd_some hm
            refine j_getR C fg_X3_9_3 hv0 (dr_spec h41).1 dX3_readPart_89 ?_
            refine j_bipush C (v := -4) dX3_readPart_92 rfl ?_
            obtain ⟨r42, h43, hm⟩ := bd_some hm
            refine call_I (run_LV C lk_X3_58 ⟨rfl, rfl, Nat.le_of_ble_eq_true rfl, Nat.le_of_ble_eq_true rfl⟩ (As := [.int (-4)]) ((dr_spec h41).2) rfl rfl (Nat.le_of_ble_eq_true rfl) dX3_readPart_94 (mc_X2_add _ _ _ _ _ _ ((dr_spec h41).2) h43)) ?_
            obtain ⟨h44, hm⟩ := gd_some hm
            obtain rfl := Option.some.inj hm
            exact j_iretz C h44 dX3_readPart_97
        · replace hm := if_f hm h12
          refine j_aload_n C 0 dX3_readPart_69 rfl ?_
          obtain ⟨q45, h46, hm⟩ := bd_some hm
          refine j_getR C fg_X3_9_3 hv0 (dr_spec h46).1 dX3_readPart_70 ?_
          refine j_bipush C (v := -3) dX3_readPart_73 rfl ?_
          obtain ⟨r47, h48, hm⟩ := bd_some hm
          refine call_I (run_LV C lk_X3_58 ⟨rfl, rfl, Nat.le_of_ble_eq_true rfl, Nat.le_of_ble_eq_true rfl⟩ (As := [.int (-3)]) ((dr_spec h46).2) rfl rfl (Nat.le_of_ble_eq_true rfl) dX3_readPart_75 (mc_X2_add _ _ _ _ _ _ ((dr_spec h46).2) h48)) ?_
          obtain ⟨h49, hm⟩ := gd_some hm
          obtain rfl := Option.some.inj hm
          exact j_iretz C h49 dX3_readPart_78
      · replace hm := if_f hm h9
        refine j_aload_n C 0 dX3_readPart_50 rfl ?_
        obtain ⟨q50, h51, hm⟩ := bd_some hm
        refine j_getR C fg_X3_9_3 hv0 (dr_spec h51).1 dX3_readPart_51 ?_
        refine j_bipush C (v := -2) dX3_readPart_54 rfl ?_
        obtain ⟨r52, h53, hm⟩ := bd_some hm
        refine call_I (run_LV C lk_X3_58 ⟨rfl, rfl, Nat.le_of_ble_eq_true rfl, Nat.le_of_ble_eq_true rfl⟩ (As := [.int (-2)]) ((dr_spec h51).2) rfl rfl (Nat.le_of_ble_eq_true rfl) dX3_readPart_56 (mc_X2_add _ _ _ _ _ _ ((dr_spec h51).2) h53)) ?_
        obtain ⟨h54, hm⟩ := gd_some hm
        obtain rfl := Option.some.inj hm
        exact j_iretz C h54 dX3_readPart_59
    · replace hm := if_f hm h6
      refine j_aload_n C 0 dX3_readPart_32 rfl ?_
      obtain ⟨q55, h56, hm⟩ := bd_some hm
      refine j_getR C fg_X3_9_3 hv0 (dr_spec h56).1 dX3_readPart_33 ?_
      refine j_iconst C (v := -1) dX3_readPart_36 rfl ?_
      obtain ⟨r57, h58, hm⟩ := bd_some hm
      refine call_I (run_LV C lk_X3_58 ⟨rfl, rfl, Nat.le_of_ble_eq_true rfl, Nat.le_of_ble_eq_true rfl⟩ (As := [.int (-1)]) ((dr_spec h56).2) rfl rfl (Nat.le_of_ble_eq_true rfl) dX3_readPart_37 (mc_X2_add _ _ _ _ _ _ ((dr_spec h56).2) h58)) ?_
      obtain ⟨h59, hm⟩ := gd_some hm
      obtain rfl := Option.some.inj hm
      exact j_iretz C h59 dX3_readPart_40
  · replace hm := if_f hm h3
    refine j_aload_n C 0 dX3_readPart_11 rfl ?_
    obtain ⟨q60, h61, hm⟩ := bd_some hm
    refine j_getR C fg_X3_9_3 hv0 (dr_spec h61).1 dX3_readPart_12 ?_
    refine j_aload_n C 0 dX3_readPart_15 rfl ?_
    refine j_getI C fg_X3_23_3 hv0 dX3_readPart_16 ?_
    obtain ⟨r62, h63, hm⟩ := bd_some hm
    refine call_I (run_LV C lk_X3_58 ⟨rfl, rfl, Nat.le_of_ble_eq_true rfl, Nat.le_of_ble_eq_true rfl⟩ (As := [.int (r1.2.1 v0 2)]) ((dr_spec h61).2) rfl rfl (Nat.le_of_ble_eq_true rfl) dX3_readPart_19 (mc_X2_add _ _ _ _ _ _ ((dr_spec h61).2) h63)) ?_
    obtain ⟨h64, hm⟩ := gd_some hm
    obtain rfl := Option.some.inj hm
    exact j_iretz C h64 dX3_readPart_22
set_option maxRecDepth 20000 in
set_option maxHeartbeats 4000000 in
theorem mc_X3_readPart (l : Launch) (N : Nat) (Λ : Lay) (μ : Mem) (v0 : Nat) (hv0 : inL Λ v0 3) {r : Int32 × Mem} (hm : m_X3_readPart N Λ μ v0 = some r) : MI l yX3_readPart cX3_readPart 1 (some .boolean) rm_X3_readPart Λ [.ref v0] μ r.1 r.2 := mi_of rfl (Nat.le_of_ble_eq_true rfl) (fun x C _ => tm_X3_readPart C _ _ _ hv0 hm)
abbrev rm_X3_readSum : Room := { frames := 6, cells := 0, slots := 0, locals := 134 }
set_option maxRecDepth 20000 in
set_option maxHeartbeats 4000000 in
theorem tj_X3_readSum_52 {x : Ctx} {Λ : Lay} (C : Cx x cX3_readSum 2 (some .boolean) RX3 Λ rm_X3_readSum) (N : Nat) (μ : Mem) {r : Int32 × Mem} (hm : jn_X3_readSum_52 N Λ μ = some r) : J x 2 Λ (QI x Λ r.1 r.2) 52 [] [] μ := by
  refine j_iconst C (v := 1) dX3_readSum_52 rfl ?_
  obtain rfl := Option.some.inj hm
  exact j_iretz C rfl dX3_readSum_53
set_option maxRecDepth 20000 in
set_option maxHeartbeats 4000000 in
theorem tb_X3_readSum_11 {x : Ctx} {Λ : Lay} (C : Cx x cX3_readSum 2 (some .boolean) RX3 Λ rm_X3_readSum) (N : Nat) (μ : Mem) (k11 : Int32 × Mem → Option (Int32 × Mem)) (v0 : Nat) (v1 : Int32) (hk11 : ∀ (s : Int32 × Mem) (r : Int32 × Mem), k11 s = some r → J x 2 Λ (QI x Λ r.1 r.2) 11 [(0, .ref v0), (1, .int s.1)] [] (s.2)) (hv0 : inL Λ v0 3) {r : Int32 × Mem} (hm : bd_X3_readSum_11 N Λ μ k11 v0 v1 = some r) : J x 2 Λ (QI x Λ r.1 r.2) 11 [(0, .ref v0), (1, .int v1)] [] μ := by
  refine j_iload_n C 1 dX3_readSum_11 rfl ?_
  refine j_sipush C (v := 400) dX3_readSum_12 rfl ?_
  refine j_icmp_ge C (tgt := 52) dX3_readSum_15 (by decide) (fun h1 => ?_) (fun h1 => ?_)
  · replace hm := if_t hm h1
    refine j_sub [] rfl ?_
    exact tj_X3_readSum_52 C _ _  hm
  · replace hm := if_f hm h1
    refine j_aload_n C 0 dX3_readSum_18 rfl ?_
    refine j_bipush C (v := 43) dX3_readSum_19 rfl ?_
    obtain ⟨r2, h3, hm⟩ := bd_some hm
    refine call_I (run_LU C lu_X3_71_3 ⟨rfl, rfl, Nat.le_of_ble_eq_true rfl, Nat.le_of_ble_eq_true rfl⟩ (As := [.int 43]) hv0 rfl rfl (Nat.le_of_ble_eq_true rfl) dX3_readSum_21 (mc_X7_takeSign_3 _ _ _ _ _ _ hv0 h3)) ?_
    refine j_if_eq C (tgt := 52) dX3_readSum_24 (by decide) (fun h4 => ?_) (fun h4 => ?_)
    · replace hm := if_t hm h4
      refine j_sub [] rfl ?_
      exact tj_X3_readSum_52 C _ _  hm
    · replace hm := if_f hm h4
      refine j_aload_n C 0 dX3_readSum_27 rfl ?_
      obtain ⟨r5, h6, hm⟩ := bd_some hm
      refine call_I (run_LV C lk_X3_88 ⟨rfl, rfl, Nat.le_of_ble_eq_true rfl, Nat.le_of_ble_eq_true rfl⟩ (As := []) hv0 rfl rfl (Nat.le_of_ble_eq_true rfl) dX3_readSum_28 (mc_X3_readPart _ _ _ _ _ hv0 h6)) ?_
      refine j_if_ne C (tgt := 36) dX3_readSum_31 (by decide) (fun h7 => ?_) (fun h7 => ?_)
      · replace hm := if_f hm h7
        refine j_aload_n C 0 dX3_readSum_36 rfl ?_
        obtain ⟨q8, h9, hm⟩ := bd_some hm
        refine j_getR C fg_X3_9_3 hv0 (dr_spec h9).1 dX3_readSum_37 ?_
        refine j_bipush C (v := -14) dX3_readSum_40 rfl ?_
        obtain ⟨r10, h11, hm⟩ := bd_some hm
        refine call_I (run_LV C lk_X3_58 ⟨rfl, rfl, Nat.le_of_ble_eq_true rfl, Nat.le_of_ble_eq_true rfl⟩ (As := [.int (-14)]) ((dr_spec h9).2) rfl rfl (Nat.le_of_ble_eq_true rfl) dX3_readSum_42 (mc_X2_add _ _ _ _ _ _ ((dr_spec h9).2) h11)) ?_
        refine j_pop C dX3_readSum_45 rfl ?_
        obtain ⟨y12, e13, hm⟩ := lt_some hm
        refine j_iinc C 1 (v := y12) (lv' := [(1, .int y12), (0, .ref v0)]) dX3_readSum_46 rfl (by rw [e13]; rfl) (by decide) rfl ?_
        refine j_goto C (tgt := 11) dX3_readSum_49 (by decide) ?_
        refine j_sub [1, 0] rfl ?_
        exact hk11 (y12, r10.2) _ hm
      · replace hm := if_t hm h7
        refine j_iconst C (v := 0) dX3_readSum_34 rfl ?_
        obtain rfl := Option.some.inj hm
        exact j_iretz C rfl dX3_readSum_35
set_option maxRecDepth 20000 in
set_option maxHeartbeats 4000000 in
theorem tl_X3_readSum_11 {x : Ctx} {Λ : Lay} (C : Cx x cX3_readSum 2 (some .boolean) RX3 Λ rm_X3_readSum) (N : Nat) (v0 : Nat) (hv0 : inL Λ v0 3) (s : Int32 × Mem) {r : Int32 × Mem} (hm : lp_X3_readSum_11 N Λ v0 s = some r) : J x 2 Λ (QI x Λ r.1 r.2) 11 [(0, .ref v0), (1, .int s.1)] [] (s.2) :=
  cw_ind (P := fun s r => J x 2 Λ (QI x Λ r.1 r.2) 11 [(0, .ref v0), (1, .int s.1)] [] (s.2)) (fun k hkk s r e => tb_X3_readSum_11 C _ _ _ _ _ hkk hv0 e) N s r hm
set_option maxRecDepth 20000 in
set_option maxHeartbeats 4000000 in
theorem tm_X3_readSum {x : Ctx} {Λ : Lay} (C : Cx x cX3_readSum 2 (some .boolean) RX3 Λ rm_X3_readSum) (N : Nat) (μ : Mem) (v0 : Nat) (hv0 : inL Λ v0 3) {r : Int32 × Mem} (hm : m_X3_readSum N Λ μ v0 = some r) : J x 2 Λ (QI x Λ r.1 r.2) 0 [(0, .ref v0)] [] μ := by
  refine j_aload_n C 0 dX3_readSum_0 rfl ?_
  obtain ⟨r1, h2, hm⟩ := bd_some hm
  refine call_I (run_LV C lk_X3_88 ⟨rfl, rfl, Nat.le_of_ble_eq_true rfl, Nat.le_of_ble_eq_true rfl⟩ (As := []) hv0 rfl rfl (Nat.le_of_ble_eq_true rfl) dX3_readSum_1 (mc_X3_readPart _ _ _ _ _ hv0 h2)) ?_
  refine j_if_ne C (tgt := 9) dX3_readSum_4 (by decide) (fun h3 => ?_) (fun h3 => ?_)
  · replace hm := if_f hm h3
    refine j_iconst C (v := 0) dX3_readSum_9 rfl ?_
    refine j_istore_n C (lv' := [(1, .int 0), (0, .ref v0)]) dX3_readSum_10 (by decide) rfl ?_
    refine j_sub [1, 0] rfl ?_
    exact tl_X3_readSum_11 C _ _ hv0 (0, r1.2) hm
  · replace hm := if_t hm h3
    refine j_iconst C (v := 0) dX3_readSum_7 rfl ?_
    obtain rfl := Option.some.inj hm
    exact j_iretz C rfl dX3_readSum_8
set_option maxRecDepth 20000 in
set_option maxHeartbeats 4000000 in
theorem mc_X3_readSum (l : Launch) (N : Nat) (Λ : Lay) (μ : Mem) (v0 : Nat) (hv0 : inL Λ v0 3) {r : Int32 × Mem} (hm : m_X3_readSum N Λ μ v0 = some r) : MI l yX3_readSum cX3_readSum 2 (some .boolean) rm_X3_readSum Λ [.ref v0] μ r.1 r.2 := mi_of rfl (Nat.le_of_ble_eq_true rfl) (fun x C _ => tm_X3_readSum C _ _ _ hv0 hm)
abbrev rm_X3_readComparison : Room := { frames := 7, cells := 0, slots := 0, locals := 155 }
set_option maxRecDepth 20000 in
set_option maxHeartbeats 4000000 in
theorem tj_X3_readComparison_64 {x : Ctx} {Λ : Lay} (C : Cx x cX3_readComparison 2 (some .boolean) RX3 Λ rm_X3_readComparison) (N : Nat) (μ : Mem) (s0 : Int32) {r : Int32 × Mem} (hm : jn_X3_readComparison_64 N Λ μ s0 = some r) : J x 2 Λ (QI x Λ r.1 r.2) 64 [] [.int s0] μ := by
  obtain ⟨h1, hm⟩ := gd_some hm
  obtain rfl := Option.some.inj hm
  exact j_iretz C h1 dX3_readComparison_64
set_option maxRecDepth 20000 in
set_option maxHeartbeats 4000000 in
theorem tj_X3_readComparison_63 {x : Ctx} {Λ : Lay} (C : Cx x cX3_readComparison 2 (some .boolean) RX3 Λ rm_X3_readComparison) (N : Nat) (μ : Mem) {r : Int32 × Mem} (hm : jn_X3_readComparison_63 N Λ μ = some r) : J x 2 Λ (QI x Λ r.1 r.2) 63 [] [] μ := by
  refine j_iconst C (v := 0) dX3_readComparison_63 rfl ?_
  exact tj_X3_readComparison_64 C _ _ _  hm
set_option maxRecDepth 20000 in
set_option maxHeartbeats 4000000 in
theorem tj_X3_readComparison_53 {x : Ctx} {Λ : Lay} (C : Cx x cX3_readComparison 2 (some .boolean) RX3 Λ rm_X3_readComparison) (N : Nat) (μ : Mem) (s0 : Nat) (s1 : Int32) (hs0 : inL Λ s0 2) {r : Int32 × Mem} (hm : jn_X3_readComparison_53 N Λ μ s0 s1 = some r) : J x 2 Λ (QI x Λ r.1 r.2) 53 [] [.int s1, .ref s0] μ := by
  obtain ⟨r1, h2, hm⟩ := bd_some hm
  refine call_I (run_LV C lk_X3_58 ⟨rfl, rfl, Nat.le_of_ble_eq_true rfl, Nat.le_of_ble_eq_true rfl⟩ (As := [.int s1]) hs0 rfl rfl (Nat.le_of_ble_eq_true rfl) dX3_readComparison_53 (mc_X2_add _ _ _ _ _ _ hs0 h2)) ?_
  refine j_if_eq C (tgt := 63) dX3_readComparison_56 (by decide) (fun h3 => ?_) (fun h3 => ?_)
  · replace hm := if_t hm h3
    exact tj_X3_readComparison_63 C _ _  hm
  · replace hm := if_f hm h3
    refine j_iconst C (v := 1) dX3_readComparison_59 rfl ?_
    refine j_goto C (tgt := 64) dX3_readComparison_60 (by decide) ?_
    exact tj_X3_readComparison_64 C _ _ _  hm
set_option maxRecDepth 20000 in
set_option maxHeartbeats 4000000 in
theorem tj_X3_readComparison_31 {x : Ctx} {Λ : Lay} (C : Cx x cX3_readComparison 2 (some .boolean) RX3 Λ rm_X3_readComparison) (N : Nat) (μ : Mem) (v0 : Nat) (v1 : Int32) (hv0 : inL Λ v0 3) {r : Int32 × Mem} (hm : jn_X3_readComparison_31 N Λ μ v0 v1 = some r) : J x 2 Λ (QI x Λ r.1 r.2) 31 [(0, .ref v0), (1, .int v1)] [] μ := by
  refine j_aload_n C 0 dX3_readComparison_31 rfl ?_
  obtain ⟨r1, h2, hm⟩ := bd_some hm
  refine call_I (run_LV C lk_X3_85 ⟨rfl, rfl, Nat.le_of_ble_eq_true rfl, Nat.le_of_ble_eq_true rfl⟩ (As := []) hv0 rfl rfl (Nat.le_of_ble_eq_true rfl) dX3_readComparison_32 (mc_X3_readSum _ _ _ _ _ hv0 h2)) ?_
  refine j_if_eq C (tgt := 63) dX3_readComparison_35 (by decide) (fun h3 => ?_) (fun h3 => ?_)
  · replace hm := if_t hm h3
    refine j_sub [] rfl ?_
    exact tj_X3_readComparison_63 C _ _  hm
  · replace hm := if_f hm h3
    refine j_aload_n C 0 dX3_readComparison_38 rfl ?_
    obtain ⟨q4, h5, hm⟩ := bd_some hm
    refine j_getR C fg_X3_9_3 hv0 (dr_spec h5).1 dX3_readComparison_39 ?_
    refine j_iload_n C 1 dX3_readComparison_42 rfl ?_
    refine j_if_eq C (tgt := 51) dX3_readComparison_43 (by decide) (fun h6 => ?_) (fun h6 => ?_)
    · replace hm := if_t hm h6
      refine j_bipush C (v := -16) dX3_readComparison_51 rfl ?_
      refine j_sub [] rfl ?_
      exact tj_X3_readComparison_53 C _ _ _ _ ((dr_spec h5).2) hm
    · replace hm := if_f hm h6
      refine j_bipush C (v := -15) dX3_readComparison_46 rfl ?_
      refine j_goto C (tgt := 53) dX3_readComparison_48 (by decide) ?_
      refine j_sub [] rfl ?_
      exact tj_X3_readComparison_53 C _ _ _ _ ((dr_spec h5).2) hm
set_option maxRecDepth 20000 in
set_option maxHeartbeats 4000000 in
theorem tm_X3_readComparison {x : Ctx} {Λ : Lay} (C : Cx x cX3_readComparison 2 (some .boolean) RX3 Λ rm_X3_readComparison) (N : Nat) (μ : Mem) (v0 : Nat) (hv0 : inL Λ v0 3) {r : Int32 × Mem} (hm : m_X3_readComparison N Λ μ v0 = some r) : J x 2 Λ (QI x Λ r.1 r.2) 0 [(0, .ref v0)] [] μ := by
  refine j_aload_n C 0 dX3_readComparison_0 rfl ?_
  obtain ⟨r1, h2, hm⟩ := bd_some hm
  refine call_I (run_LV C lk_X3_85 ⟨rfl, rfl, Nat.le_of_ble_eq_true rfl, Nat.le_of_ble_eq_true rfl⟩ (As := []) hv0 rfl rfl (Nat.le_of_ble_eq_true rfl) dX3_readComparison_1 (mc_X3_readSum _ _ _ _ _ hv0 h2)) ?_
  refine j_if_ne C (tgt := 9) dX3_readComparison_4 (by decide) (fun h3 => ?_) (fun h3 => ?_)
  · replace hm := if_f hm h3
    refine j_aload_n C 0 dX3_readComparison_9 rfl ?_
    refine j_bipush C (v := 60) dX3_readComparison_10 rfl ?_
    obtain ⟨r4, h5, hm⟩ := bd_some hm
    refine call_I (run_LU C lu_X3_71_3 ⟨rfl, rfl, Nat.le_of_ble_eq_true rfl, Nat.le_of_ble_eq_true rfl⟩ (As := [.int 60]) hv0 rfl rfl (Nat.le_of_ble_eq_true rfl) dX3_readComparison_12 (mc_X7_takeSign_3 _ _ _ _ _ _ hv0 h5)) ?_
    refine j_istore_n C (lv' := [(1, .int r4.1), (0, .ref v0)]) dX3_readComparison_15 (by decide) rfl ?_
    refine j_iload_n C 0 dX3_readComparison_16 rfl ?_
    refine j_if_ne C (tgt := 31) dX3_readComparison_17 (by decide) (fun h6 => ?_) (fun h6 => ?_)
    · replace hm := if_f hm h6
      refine j_sub [1, 0] rfl ?_
      exact tj_X3_readComparison_31 C _ _ _ _ hv0 hm
    · replace hm := if_t hm h6
      refine j_aload_n C 1 dX3_readComparison_20 rfl ?_
      refine j_bipush C (v := 62) dX3_readComparison_21 rfl ?_
      obtain ⟨r7, h8, hm⟩ := bd_some hm
      refine call_I (run_LU C lu_X3_71_3 ⟨rfl, rfl, Nat.le_of_ble_eq_true rfl, Nat.le_of_ble_eq_true rfl⟩ (As := [.int 62]) hv0 rfl rfl (Nat.le_of_ble_eq_true rfl) dX3_readComparison_23 (mc_X7_takeSign_3 _ _ _ _ _ _ hv0 h8)) ?_
      refine j_if_ne C (tgt := 31) dX3_readComparison_26 (by decide) (fun h9 => ?_) (fun h9 => ?_)
      · replace hm := if_f hm h9
        refine j_sub [1, 0] rfl ?_
        exact tj_X3_readComparison_31 C _ _ _ _ hv0 hm
      · replace hm := if_t hm h9
        refine j_iconst C (v := 0) dX3_readComparison_29 rfl ?_
        obtain rfl := Option.some.inj hm
        exact j_iretz C rfl dX3_readComparison_30
  · replace hm := if_t hm h3
    refine j_iconst C (v := 0) dX3_readComparison_7 rfl ?_
    obtain rfl := Option.some.inj hm
    exact j_iretz C rfl dX3_readComparison_8
set_option maxRecDepth 20000 in
set_option maxHeartbeats 4000000 in
theorem mc_X3_readComparison (l : Launch) (N : Nat) (Λ : Lay) (μ : Mem) (v0 : Nat) (hv0 : inL Λ v0 3) {r : Int32 × Mem} (hm : m_X3_readComparison N Λ μ v0 = some r) : MI l yX3_readComparison cX3_readComparison 2 (some .boolean) rm_X3_readComparison Λ [.ref v0] μ r.1 r.2 := mi_of rfl (Nat.le_of_ble_eq_true rfl) (fun x C _ => tm_X3_readComparison C _ _ _ hv0 hm)

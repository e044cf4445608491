abbrev rm_X3_readLine : Room := { frames := 55, cells := 0, slots := 0, locals := 4362 }
set_option maxRecDepth 20000 in
set_option maxHeartbeats 4000000 in
theorem tj_X3_readLine_20 {x : Ctx} {Λ : Lay} (C : Cx x cX3_readLine 2 (some .boolean) RX3 Λ rm_X3_readLine) (N : Nat) (μ : Mem) {r : Int32 × Mem} (hm : jn_X3_readLine_20 N Λ μ = some r) : J x 2 Λ (QI x Λ r.1 r.2) 20 [] [] μ := by
  refine j_iconst C (v := 0) dX3_readLine_20 rfl ?_
  obtain rfl := Option.some.inj hm
  exact j_iretz C rfl dX3_readLine_21
set_option maxRecDepth 20000 in
set_option maxHeartbeats 4000000 in
theorem tj_X3_readLine_53 {x : Ctx} {Λ : Lay} (C : Cx x cX3_readLine 2 (some .boolean) RX3 Λ rm_X3_readLine) (N : Nat) (μ : Mem) (v0 : Nat) (hv0 : inL Λ v0 3) {r : Int32 × Mem} (hm : jn_X3_readLine_53 N Λ μ v0 = some r) : J x 2 Λ (QI x Λ r.1 r.2) 53 [(0, .ref v0)] [] μ := by
  refine j_aload_n C 0 dX3_readLine_53 rfl ?_
  obtain ⟨q1, h2, hm⟩ := bd_some hm
  refine j_getR C fg_X3_9_3 hv0 (dr_spec h2).1 dX3_readLine_54 ?_
  obtain ⟨r3, h4, hm⟩ := bd_some hm
  refine call_V (run_LV C lk_X3_43 ⟨rfl, rfl, Nat.le_of_ble_eq_true rfl, Nat.le_of_ble_eq_true rfl⟩ (As := []) ((dr_spec h2).2) rfl rfl (Nat.le_of_ble_eq_true rfl) dX3_readLine_57 (mc_X2_endLine _ _ _ _ _ ((dr_spec h2).2) h4)) ?_
  refine j_iconst C (v := 1) dX3_readLine_60 rfl ?_
  obtain rfl := Option.some.inj hm
  exact j_iretz C rfl dX3_readLine_61
set_option maxRecDepth 20000 in
set_option maxHeartbeats 4000000 in
theorem tm_X3_readLine {x : Ctx} {Λ : Lay} (C : Cx x cX3_readLine 2 (some .boolean) RX3 Λ rm_X3_readLine) (N : Nat) (μ : Mem) (v0 : Nat) (hv0 : inL Λ v0 3) {r : Int32 × Mem} (hm : m_X3_readLine N Λ μ v0 = some r) : J x 2 Λ (QI x Λ r.1 r.2) 0 [(0, .ref v0)] [] μ := by
  refine j_aload_n C 0 dX3_readLine_0 rfl ?_
  obtain ⟨r1, h2, hm⟩ := bd_some hm
  refine call_I (run_LV C lk_X3_15 ⟨rfl, rfl, Nat.le_of_ble_eq_true rfl, Nat.le_of_ble_eq_true rfl⟩ (As := []) hv0 rfl rfl (Nat.le_of_ble_eq_true rfl) dX3_readLine_1 (mc_X3_takeKind _ _ _ _ _ hv0 h2)) ?_
  refine j_istore_n C (lv' := [(1, .int r1.1), (0, .ref v0)]) dX3_readLine_4 (by decide) rfl ?_
  refine j_iload_n C 0 dX3_readLine_5 rfl ?_
  refine j_iconst C (v := -1) dX3_readLine_6 rfl ?_
  refine j_icmp_eq C (tgt := 20) dX3_readLine_7 (by decide) (fun h3 => ?_) (fun h3 => ?_)
  · replace hm := if_t hm h3
    refine j_sub [] rfl ?_
    exact tj_X3_readLine_20 C _ _  hm
  · replace hm := if_f hm h3
    refine j_aload_n C 1 dX3_readLine_10 rfl ?_
    refine j_iconst C (v := 0) dX3_readLine_11 rfl ?_
    refine j_bipush C (v := 40) dX3_readLine_12 rfl ?_
    obtain ⟨r4, h5, hm⟩ := bd_some hm
    refine call_I (run_LU C lu_X3_19_3 ⟨rfl, rfl, Nat.le_of_ble_eq_true rfl, Nat.le_of_ble_eq_true rfl⟩ (As := [.int 0, .int 40]) hv0 rfl rfl (Nat.le_of_ble_eq_true rfl) dX3_readLine_14 (mc_X7_takeNumber_3 _ _ _ _ _ _ _ hv0 h5)) ?_
    refine j_if_ne C (tgt := 22) dX3_readLine_17 (by decide) (fun h6 => ?_) (fun h6 => ?_)
    · replace hm := if_f hm h6
      refine j_aload_n C 1 dX3_readLine_22 rfl ?_
      obtain ⟨q7, h8, hm⟩ := bd_some hm
      refine j_getR C fg_X3_9_3 hv0 (dr_spec h8).1 dX3_readLine_23 ?_
      refine j_iload_n C 0 dX3_readLine_26 rfl ?_
      refine j_aload_n C 1 dX3_readLine_27 rfl ?_
      refine j_getI C fg_X3_23_3 hv0 dX3_readLine_28 ?_
      obtain ⟨r9, h10, hm⟩ := bd_some hm
      refine call_V (run_LV C lk_X3_27 ⟨rfl, rfl, Nat.le_of_ble_eq_true rfl, Nat.le_of_ble_eq_true rfl⟩ (As := [.int r1.1, .int (r4.2.1 v0 2)]) ((dr_spec h8).2) rfl rfl (Nat.le_of_ble_eq_true rfl) dX3_readLine_31 (mc_X2_beginLine _ _ _ _ _ _ _ ((dr_spec h8).2) h10)) ?_
      refine j_aload_n C 1 dX3_readLine_34 rfl ?_
      refine j_ldcS C (i := 9) (tx := "if") (List.mem_of_getElem? (i := 16) rfl) dX3_readLine_35 ?_
      obtain ⟨r11, h12, hm⟩ := bd_some hm
      refine call_I (run_LU C lu_X3_35_3 ⟨rfl, rfl, Nat.le_of_ble_eq_true rfl, Nat.le_of_ble_eq_true rfl⟩ (As := [.ref (sK Λ 9)]) hv0 rfl rfl (Nat.le_of_ble_eq_true rfl) dX3_readLine_37 (mc_X7_takeWord_3 _ _ _ _ _ _ hv0 ((by decide)) h12)) ?_
      refine j_if_eq C (tgt := 53) dX3_readLine_40 (by decide) (fun h13 => ?_) (fun h13 => ?_)
      · replace hm := if_t hm h13
        refine j_sub [1] rfl ?_
        exact tj_X3_readLine_53 C _ _ _ hv0 hm
      · replace hm := if_f hm h13
        refine j_aload_n C 1 dX3_readLine_43 rfl ?_
        refine j_iconst C (v := 0) dX3_readLine_44 rfl ?_
        obtain ⟨r14, h15, hm⟩ := bd_some hm
        refine call_I (run_LV C lk_X3_39 ⟨rfl, rfl, Nat.le_of_ble_eq_true rfl, Nat.le_of_ble_eq_true rfl⟩ (As := [.int 0]) hv0 rfl rfl (Nat.le_of_ble_eq_true rfl) dX3_readLine_45 (mc_X3_readAny_8 _ _ _ _ _ _ hv0 h15)) ?_
        refine j_if_ne C (tgt := 53) dX3_readLine_48 (by decide) (fun h16 => ?_) (fun h16 => ?_)
        · replace hm := if_f hm h16
          refine j_sub [1] rfl ?_
          exact tj_X3_readLine_53 C _ _ _ hv0 hm
        · replace hm := if_t hm h16
          refine j_iconst C (v := 0) dX3_readLine_51 rfl ?_
          obtain rfl := Option.some.inj hm
          exact j_iretz C rfl dX3_readLine_52
    · replace hm := if_t hm h6
      refine j_sub [] rfl ?_
      exact tj_X3_readLine_20 C _ _  hm
set_option maxRecDepth 20000 in
set_option maxHeartbeats 4000000 in
theorem mc_X3_readLine (l : Launch) (N : Nat) (Λ : Lay) (μ : Mem) (v0 : Nat) (hv0 : inL Λ v0 3) {r : Int32 × Mem} (hm : m_X3_readLine N Λ μ v0 = some r) : MI l yX3_readLine cX3_readLine 2 (some .boolean) rm_X3_readLine Λ [.ref v0] μ r.1 r.2 := mi_of rfl (Nat.le_of_ble_eq_true rfl) (fun x C _ => tm_X3_readLine C _ _ _ hv0 hm)

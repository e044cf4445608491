abbrev rm_X7_readLines_1 : Room := { frames := 56, cells := 0, slots := 0, locals := 4383 }
set_option maxRecDepth 20000 in
set_option maxHeartbeats 4000000 in
theorem tb_X7_readLines_1_15_1 {x : Ctx} {Λ : Lay} (C : Cx x cX7_readLines 3 (some .int) RX7 Λ rm_X7_readLines_1) (N : Nat) (μ : Mem) (k15 : Int32 × Mem → Option (Int32 × Mem)) (v0 : Nat) (v1 : Int32) (v2 : Int32) (hk15 : ∀ (s : Int32 × Mem) (r : Int32 × Mem), k15 s = some r → J x 3 Λ (QI x Λ r.1 r.2) 15 [(0, .ref v0), (1, .int v1), (2, .int s.1)] [] (s.2)) (hv0 : inL Λ v0 1) {r : Int32 × Mem} (hm : bd_X7_readLines_1_15 N Λ μ k15 v0 v1 v2 = some r) : J x 3 Λ (QI x Λ r.1 r.2) 15 [(0, .ref v0), (1, .int v1), (2, .int v2)] [] μ := by
  refine j_iload_n C 2 dX7_readLines_15 rfl ?_
  refine j_iload_n C 1 dX7_readLines_16 rfl ?_
  refine j_icmp_ge C (tgt := 75) dX7_readLines_17 (by decide) (fun h1 => ?_) (fun h1 => ?_)
  · replace hm := if_t hm h1
    refine j_aload_n C 0 dX7_readLines_75 rfl ?_
    obtain ⟨q2, h3, hm⟩ := bd_some hm
    refine j_getR C fg_X7_15_1 hv0 (dr_spec h3).1 dX7_readLines_76 ?_
    refine j_aload_n C 0 dX7_readLines_79 rfl ?_
    refine j_getI C fg_X7_36_1 hv0 dX7_readLines_80 ?_
    obtain ⟨h4, hm⟩ := gd_some hm
    refine j_iald C ((dr_spec h3).2) h4 dX7_readLines_83 ?_
    obtain rfl := Option.some.inj hm
    exact j_ireti C dX7_readLines_84
  · replace hm := if_f hm h1
    refine j_aload_n C 0 dX7_readLines_20 rfl ?_
    obtain ⟨r5, h6, hm⟩ := bd_some hm
    refine call_I (run_LA C la_X7_32_1 ⟨rfl, rfl, Nat.le_of_ble_eq_true rfl, Nat.le_of_ble_eq_true rfl⟩ (As := []) hv0 rfl rfl (Nat.le_of_ble_eq_true rfl) dX7_readLines_21 (mc_X1_readLine _ _ _ _ _ hv0 h6)) ?_
    refine j_if_ne C (tgt := 37) dX7_readLines_24 (by decide) (fun h7 => ?_) (fun h7 => ?_)
    · replace hm := if_f hm h7
      refine j_aload_n C 0 dX7_readLines_37 rfl ?_
      refine j_getI C fg_X7_36_1 hv0 dX7_readLines_38 ?_
      refine j_aload_n C 0 dX7_readLines_41 rfl ?_
      refine j_getI C fg_X7_28_1 hv0 dX7_readLines_42 ?_
      refine j_icmp_ne C (tgt := 50) dX7_readLines_45 (by decide) (fun h8 => ?_) (fun h8 => ?_)
      · replace hm := if_f hm h8
        refine j_aload_n C 0 dX7_readLines_50 rfl ?_
        refine j_bipush C (v := 59) dX7_readLines_51 rfl ?_
        obtain ⟨r9, h10, hm⟩ := bd_some hm
        refine call_I (run_LU C lu_X7_39_1 ⟨rfl, rfl, Nat.le_of_ble_eq_true rfl, Nat.le_of_ble_eq_true rfl⟩ (As := [.int 59]) hv0 rfl rfl (Nat.le_of_ble_eq_true rfl) dX7_readLines_53 (mc_X7_takeSign_1 _ _ _ _ _ _ hv0 h10)) ?_
        refine j_if_ne C (tgt := 69) dX7_readLines_56 (by decide) (fun h11 => ?_) (fun h11 => ?_)
        · replace hm := if_f hm h11
          obtain ⟨y12, e13, hm⟩ := lt_some hm
          refine j_iinc C 2 (v := y12) (lv' := [(2, .int y12), (0, .ref v0), (1, .int v1)]) dX7_readLines_69 rfl (by rw [e13]; rfl) (by decide) rfl ?_
          refine j_goto C (tgt := 15) dX7_readLines_72 (by decide) ?_
          refine j_sub [1, 2, 0] rfl ?_
          exact hk15 (y12, r9.2) _ hm
        · replace hm := if_t hm h11
          refine j_aload_n C 0 dX7_readLines_59 rfl ?_
          obtain ⟨q14, h15, hm⟩ := bd_some hm
          refine j_getR C fg_X7_15_1 hv0 (dr_spec h15).1 dX7_readLines_60 ?_
          refine j_aload_n C 0 dX7_readLines_63 rfl ?_
          refine j_getI C fg_X7_36_1 hv0 dX7_readLines_64 ?_
          obtain ⟨h16, hm⟩ := gd_some hm
          refine j_iald C ((dr_spec h15).2) h16 dX7_readLines_67 ?_
          obtain rfl := Option.some.inj hm
          exact j_ireti C dX7_readLines_68
      · replace hm := if_t hm h8
        refine j_iconst C (v := -1) dX7_readLines_48 rfl ?_
        obtain rfl := Option.some.inj hm
        exact j_ireti C dX7_readLines_49
    · replace hm := if_t hm h7
      refine j_aload_n C 0 dX7_readLines_27 rfl ?_
      obtain ⟨q17, h18, hm⟩ := bd_some hm
      refine j_getR C fg_X7_15_1 hv0 (dr_spec h18).1 dX7_readLines_28 ?_
      refine j_aload_n C 0 dX7_readLines_31 rfl ?_
      refine j_getI C fg_X7_36_1 hv0 dX7_readLines_32 ?_
      obtain ⟨h19, hm⟩ := gd_some hm
      refine j_iald C ((dr_spec h18).2) h19 dX7_readLines_35 ?_
      obtain rfl := Option.some.inj hm
      exact j_ireti C dX7_readLines_36
set_option maxRecDepth 20000 in
set_option maxHeartbeats 4000000 in
theorem tl_X7_readLines_1_15_1 {x : Ctx} {Λ : Lay} (C : Cx x cX7_readLines 3 (some .int) RX7 Λ rm_X7_readLines_1) (N : Nat) (v0 : Nat) (v1 : Int32) (hv0 : inL Λ v0 1) (s : Int32 × Mem) {r : Int32 × Mem} (hm : lp_X7_readLines_1_15 N Λ v0 v1 s = some r) : J x 3 Λ (QI x Λ r.1 r.2) 15 [(0, .ref v0), (1, .int v1), (2, .int s.1)] [] (s.2) :=
  cw_ind (P := fun s r => J x 3 Λ (QI x Λ r.1 r.2) 15 [(0, .ref v0), (1, .int v1), (2, .int s.1)] [] (s.2)) (fun k hkk s r e => tb_X7_readLines_1_15_1 C _ _ _ _ _ _ hkk hv0 e) N s r hm
set_option maxRecDepth 20000 in
set_option maxHeartbeats 4000000 in
theorem tm_X7_readLines_1 {x : Ctx} {Λ : Lay} (C : Cx x cX7_readLines 3 (some .int) RX7 Λ rm_X7_readLines_1) (N : Nat) (μ : Mem) (v0 : Nat) (v1 : Int32) (hv0 : inL Λ v0 1) {r : Int32 × Mem} (hm : m_X7_readLines_1 N Λ μ v0 v1 = some r) : J x 3 Λ (QI x Λ r.1 r.2) 0 [(0, .ref v0), (1, .int v1)] [] μ := by
  refine j_aload_n C 0 dX7_readLines_0 rfl ?_
  obtain ⟨r1, h2, hm⟩ := bd_some hm
  refine call_V (run_LP C lp_X7_25_1 ⟨rfl, rfl, Nat.le_of_ble_eq_true rfl, Nat.le_of_ble_eq_true rfl⟩ (As := []) hv0 rfl rfl (Nat.le_of_ble_eq_true rfl) dX7_readLines_1 (mc_X7_split_1 _ _ _ _ _ hv0 h2)) ?_
  refine j_aload_n C 0 dX7_readLines_4 rfl ?_
  refine j_getI C fg_X7_28_1 hv0 dX7_readLines_5 ?_
  refine j_if_ne C (tgt := 13) dX7_readLines_8 (by decide) (fun h3 => ?_) (fun h3 => ?_)
  · replace hm := if_f hm h3
    refine j_iconst C (v := 0) dX7_readLines_13 rfl ?_
    refine j_istore_n C (lv' := [(2, .int 0), (0, .ref v0), (1, .int v1)]) dX7_readLines_14 (by decide) rfl ?_
    refine j_sub [1, 2, 0] rfl ?_
    exact tl_X7_readLines_1_15_1 C _ _ _ hv0 (0, r1) hm
  · replace hm := if_t hm h3
    refine j_iconst C (v := -1) dX7_readLines_11 rfl ?_
    obtain rfl := Option.some.inj hm
    exact j_ireti C dX7_readLines_12
set_option maxRecDepth 20000 in
set_option maxHeartbeats 4000000 in
theorem mc_X7_readLines_1 (l : Launch) (N : Nat) (Λ : Lay) (μ : Mem) (v0 : Nat) (v1 : Int32) (hv0 : inL Λ v0 1) {r : Int32 × Mem} (hm : m_X7_readLines_1 N Λ μ v0 v1 = some r) : MI l yX7_readLines cX7_readLines 3 (some .int) rm_X7_readLines_1 Λ [.ref v0, .int v1] μ r.1 r.2 := mi_of rfl (Nat.le_of_ble_eq_true rfl) (fun x C _ => tm_X7_readLines_1 C _ _ _ _ hv0 hm)
abbrev rm_X7_readLines_3 : Room := { frames := 56, cells := 0, slots := 0, locals := 4383 }
set_option maxRecDepth 20000 in
set_option maxHeartbeats 4000000 in
theorem tb_X7_readLines_3_15_3 {x : Ctx} {Λ : Lay} (C : Cx x cX7_readLines 3 (some .int) RX7 Λ rm_X7_readLines_3) (N : Nat) (μ : Mem) (k15 : Int32 × Mem → Option (Int32 × Mem)) (v0 : Nat) (v1 : Int32) (v2 : Int32) (hk15 : ∀ (s : Int32 × Mem) (r : Int32 × Mem), k15 s = some r → J x 3 Λ (QI x Λ r.1 r.2) 15 [(0, .ref v0), (1, .int v1), (2, .int s.1)] [] (s.2)) (hv0 : inL Λ v0 3) {r : Int32 × Mem} (hm : bd_X7_readLines_3_15 N Λ μ k15 v0 v1 v2 = some r) : J x 3 Λ (QI x Λ r.1 r.2) 15 [(0, .ref v0), (1, .int v1), (2, .int v2)] [] μ := by
  refine j_iload_n C 2 dX7_readLines_15 rfl ?_
  refine j_iload_n C 1 dX7_readLines_16 rfl ?_
  refine j_icmp_ge C (tgt := 75) dX7_readLines_17 (by decide) (fun h1 => ?_) (fun h1 => ?_)
  · replace hm := if_t hm h1
    refine j_aload_n C 0 dX7_readLines_75 rfl ?_
    obtain ⟨q2, h3, hm⟩ := bd_some hm
    refine j_getR C fg_X7_15_3 hv0 (dr_spec h3).1 dX7_readLines_76 ?_
    refine j_aload_n C 0 dX7_readLines_79 rfl ?_
    refine j_getI C fg_X7_36_3 hv0 dX7_readLines_80 ?_
    obtain ⟨h4, hm⟩ := gd_some hm
    refine j_iald C ((dr_spec h3).2) h4 dX7_readLines_83 ?_
    obtain rfl := Option.some.inj hm
    exact j_ireti C dX7_readLines_84
  · replace hm := if_f hm h1
    refine j_aload_n C 0 dX7_readLines_20 rfl ?_
    obtain ⟨r5, h6, hm⟩ := bd_some hm
    refine call_I (run_LA C la_X7_32_3 ⟨rfl, rfl, Nat.le_of_ble_eq_true rfl, Nat.le_of_ble_eq_true rfl⟩ (As := []) hv0 rfl rfl (Nat.le_of_ble_eq_true rfl) dX7_readLines_21 (mc_X3_readLine _ _ _ _ _ hv0 h6)) ?_
    refine j_if_ne C (tgt := 37) dX7_readLines_24 (by decide) (fun h7 => ?_) (fun h7 => ?_)
    · replace hm := if_f hm h7
      refine j_aload_n C 0 dX7_readLines_37 rfl ?_
      refine j_getI C fg_X7_36_3 hv0 dX7_readLines_38 ?_
      refine j_aload_n C 0 dX7_readLines_41 rfl ?_
      refine j_getI C fg_X7_28_3 hv0 dX7_readLines_42 ?_
      refine j_icmp_ne C (tgt := 50) dX7_readLines_45 (by decide) (fun h8 => ?_) (fun h8 => ?_)
      · replace hm := if_f hm h8
        refine j_aload_n C 0 dX7_readLines_50 rfl ?_
        refine j_bipush C (v := 59) dX7_readLines_51 rfl ?_
        obtain ⟨r9, h10, hm⟩ := bd_some hm
        refine call_I (run_LU C lu_X7_39_3 ⟨rfl, rfl, Nat.le_of_ble_eq_true rfl, Nat.le_of_ble_eq_true rfl⟩ (As := [.int 59]) hv0 rfl rfl (Nat.le_of_ble_eq_true rfl) dX7_readLines_53 (mc_X7_takeSign_3 _ _ _ _ _ _ hv0 h10)) ?_
        refine j_if_ne C (tgt := 69) dX7_readLines_56 (by decide) (fun h11 => ?_) (fun h11 => ?_)
        · replace hm := if_f hm h11
          obtain ⟨y12, e13, hm⟩ := lt_some hm
          refine j_iinc C 2 (v := y12) (lv' := [(2, .int y12), (0, .ref v0), (1, .int v1)]) dX7_readLines_69 rfl (by rw [e13]; rfl) (by decide) rfl ?_
          refine j_goto C (tgt := 15) dX7_readLines_72 (by decide) ?_
          refine j_sub [1, 2, 0] rfl ?_
          exact hk15 (y12, r9.2) _ hm
        · replace hm := if_t hm h11
          refine j_aload_n C 0 dX7_readLines_59 rfl ?_
          obtain ⟨q14, h15, hm⟩ := bd_some hm
          refine j_getR C fg_X7_15_3 hv0 (dr_spec h15).1 dX7_readLines_60 ?_
          refine j_aload_n C 0 dX7_readLines_63 rfl ?_
          refine j_getI C fg_X7_36_3 hv0 dX7_readLines_64 ?_
          obtain ⟨h16, hm⟩ := gd_some hm
          refine j_iald C ((dr_spec h15).2) h16 dX7_readLines_67 ?_
          obtain rfl := Option.some.inj hm
          exact j_ireti C dX7_readLines_68
      · replace hm := if_t hm h8
        refine j_iconst C (v := -1) dX7_readLines_48 rfl ?_
        obtain rfl := Option.some.inj hm
        exact j_ireti C dX7_readLines_49
    · replace hm := if_t hm h7
      refine j_aload_n C 0 dX7_readLines_27 rfl ?_
      obtain ⟨q17, h18, hm⟩ := bd_some hm
      refine j_getR C fg_X7_15_3 hv0 (dr_spec h18).1 dX7_readLines_28 ?_
      refine j_aload_n C 0 dX7_readLines_31 rfl ?_
      refine j_getI C fg_X7_36_3 hv0 dX7_readLines_32 ?_
      obtain ⟨h19, hm⟩ := gd_some hm
      refine j_iald C ((dr_spec h18).2) h19 dX7_readLines_35 ?_
      obtain rfl := Option.some.inj hm
      exact j_ireti C dX7_readLines_36
set_option maxRecDepth 20000 in
set_option maxHeartbeats 4000000 in
theorem tl_X7_readLines_3_15_3 {x : Ctx} {Λ : Lay} (C : Cx x cX7_readLines 3 (some .int) RX7 Λ rm_X7_readLines_3) (N : Nat) (v0 : Nat) (v1 : Int32) (hv0 : inL Λ v0 3) (s : Int32 × Mem) {r : Int32 × Mem} (hm : lp_X7_readLines_3_15 N Λ v0 v1 s = some r) : J x 3 Λ (QI x Λ r.1 r.2) 15 [(0, .ref v0), (1, .int v1), (2, .int s.1)] [] (s.2) :=
  cw_ind (P := fun s r => J x 3 Λ (QI x Λ r.1 r.2) 15 [(0, .ref v0), (1, .int v1), (2, .int s.1)] [] (s.2)) (fun k hkk s r e => tb_X7_readLines_3_15_3 C _ _ _ _ _ _ hkk hv0 e) N s r hm
set_option maxRecDepth 20000 in
set_option maxHeartbeats 4000000 in
theorem tm_X7_readLines_3 {x : Ctx} {Λ : Lay} (C : Cx x cX7_readLines 3 (some .int) RX7 Λ rm_X7_readLines_3) (N : Nat) (μ : Mem) (v0 : Nat) (v1 : Int32) (hv0 : inL Λ v0 3) {r : Int32 × Mem} (hm : m_X7_readLines_3 N Λ μ v0 v1 = some r) : J x 3 Λ (QI x Λ r.1 r.2) 0 [(0, .ref v0), (1, .int v1)] [] μ := by
  refine j_aload_n C 0 dX7_readLines_0 rfl ?_
  obtain ⟨r1, h2, hm⟩ := bd_some hm
  refine call_V (run_LP C lp_X7_25_3 ⟨rfl, rfl, Nat.le_of_ble_eq_true rfl, Nat.le_of_ble_eq_true rfl⟩ (As := []) hv0 rfl rfl (Nat.le_of_ble_eq_true rfl) dX7_readLines_1 (mc_X7_split_3 _ _ _ _ _ hv0 h2)) ?_
  refine j_aload_n C 0 dX7_readLines_4 rfl ?_
  refine j_getI C fg_X7_28_3 hv0 dX7_readLines_5 ?_
  refine j_if_ne C (tgt := 13) dX7_readLines_8 (by decide) (fun h3 => ?_) (fun h3 => ?_)
  · replace hm := if_f hm h3
    refine j_iconst C (v := 0) dX7_readLines_13 rfl ?_
    refine j_istore_n C (lv' := [(2, .int 0), (0, .ref v0), (1, .int v1)]) dX7_readLines_14 (by decide) rfl ?_
    refine j_sub [1, 2, 0] rfl ?_
    exact tl_X7_readLines_3_15_3 C _ _ _ hv0 (0, r1) hm
  · replace hm := if_t hm h3
    refine j_iconst C (v := -1) dX7_readLines_11 rfl ?_
    obtain rfl := Option.some.inj hm
    exact j_ireti C dX7_readLines_12
set_option maxRecDepth 20000 in
set_option maxHeartbeats 4000000 in
theorem mc_X7_readLines_3 (l : Launch) (N : Nat) (Λ : Lay) (μ : Mem) (v0 : Nat) (v1 : Int32) (hv0 : inL Λ v0 3) {r : Int32 × Mem} (hm : m_X7_readLines_3 N Λ μ v0 v1 = some r) : MI l yX7_readLines cX7_readLines 3 (some .int) rm_X7_readLines_3 Λ [.ref v0, .int v1] μ r.1 r.2 := mi_of rfl (Nat.le_of_ble_eq_true rfl) (fun x C _ => tm_X7_readLines_3 C _ _ _ _ hv0 hm)

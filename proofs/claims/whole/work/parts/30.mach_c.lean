abbrev rm_X0_read : Room := { frames := 1, cells := 0, slots := 0, locals := 21 }
set_option maxRecDepth 20000 in
set_option maxHeartbeats 4000000 in
theorem tj_X0_read_23 {x : Ctx} {Λ : Lay} (C : Cx x cX0_read 5 (some .boolean) RX0 Λ rm_X0_read) (N : Nat) (μ : Mem) {r : Int32 × Mem} (hm : jn_X0_read_23 N Λ μ = some r) : J x 5 Λ (QI x Λ r.1 r.2) 23 [] [] μ := by
  refine j_iconst C (v := 0) dX0_read_23 rfl ?_
  obtain rfl := Option.some.inj hm
  exact j_iretz C rfl dX0_read_24
set_option maxRecDepth 20000 in
set_option maxHeartbeats 4000000 in
theorem tj_X0_read_63 {x : Ctx} {Λ : Lay} (C : Cx x cX0_read 5 (some .boolean) RX0 Λ rm_X0_read) (N : Nat) (μ : Mem) {r : Int32 × Mem} (hm : jn_X0_read_63 N Λ μ = some r) : J x 5 Λ (QI x Λ r.1 r.2) 63 [] [] μ := by
  refine j_iconst C (v := 0) dX0_read_63 rfl ?_
  obtain rfl := Option.some.inj hm
  exact j_iretz C rfl dX0_read_64
set_option maxRecDepth 20000 in
set_option maxHeartbeats 4000000 in
theorem tb_X0_read_27 {x : Ctx} {Λ : Lay} (C : Cx x cX0_read 5 (some .boolean) RX0 Λ rm_X0_read) (N : Nat) (μ : Mem) (k27 : Int32 × Mem → Option (Int32 × Mem)) (v0 : Nat) (v1 : Nat) (v2 : Int32) (hk27 : ∀ (s : Int32 × Mem) (r : Int32 × Mem), k27 s = some r → J x 5 Λ (QI x Λ r.1 r.2) 27 [(0, .ref v0), (1, .ref v1), (2, .int s.1)] [] (s.2)) (hv0 : inL Λ v0 0) (hv1 : inL Λ v1 9) {r : Int32 × Mem} (hm : bd_X0_read_27 N Λ μ k27 v0 v1 v2 = some r) : J x 5 Λ (QI x Λ r.1 r.2) 27 [(0, .ref v0), (1, .ref v1), (2, .int v2)] [] μ := by
  refine j_iload_n C 2 dX0_read_27 rfl ?_
  refine j_aload_n C 1 dX0_read_28 rfl ?_
  refine j_getI C fg_X0_28_9 hv1 dX0_read_29 ?_
  refine j_icmp_ge C (tgt := 105) dX0_read_32 (by decide) (fun h1 => ?_) (fun h1 => ?_)
  · replace hm := if_t hm h1
    refine j_iconst C (v := 1) dX0_read_105 rfl ?_
    obtain rfl := Option.some.inj hm
    exact j_iretz C rfl dX0_read_106
  · replace hm := if_f hm h1
    refine j_aload_n C 1 dX0_read_35 rfl ?_
    refine j_iload_n C 2 dX0_read_36 rfl ?_
    obtain ⟨r2, h3, hm⟩ := bd_some hm
    refine call_I (run_LV C lk_X0_33 ⟨rfl, rfl, Nat.le_of_ble_eq_true rfl, Nat.le_of_ble_eq_true rfl⟩ (As := [.int v2]) hv1 rfl rfl (Nat.le_of_ble_eq_true rfl) dX0_read_37 (mc_X10_sign _ _ _ _ _ _ hv1 h3)) ?_
    refine j_istore_n C (lv' := [(3, .int r2), (0, .ref v0), (1, .ref v1), (2, .int v2)]) dX0_read_40 (by decide) rfl ?_
    refine j_aload_n C 2 dX0_read_41 rfl ?_
    refine j_iload_n C 3 dX0_read_42 rfl ?_
    refine j_iconst C (v := 1) dX0_read_43 rfl ?_
    refine j_iadd C dX0_read_44 ?_
    obtain ⟨r4, h5, hm⟩ := bd_some hm
    refine call_I (run_LV C lk_X0_33 ⟨rfl, rfl, Nat.le_of_ble_eq_true rfl, Nat.le_of_ble_eq_true rfl⟩ (As := [.int (v2 + 1)]) hv1 rfl rfl (Nat.le_of_ble_eq_true rfl) dX0_read_45 (mc_X10_sign _ _ _ _ _ _ hv1 h5)) ?_
    refine j_istore C (lv' := [(4, .int r4), (3, .int r2), (0, .ref v0), (1, .ref v1), (2, .int v2)]) dX0_read_48 (by decide) rfl ?_
    refine j_iload_n C 1 dX0_read_50 rfl ?_
    refine j_bipush C (v := 99) dX0_read_51 rfl ?_
    refine j_icmp_gt C (tgt := 63) dX0_read_53 (by decide) (fun h6 => ?_) (fun h6 => ?_)
    · replace hm := if_t hm h6
      refine j_sub [] rfl ?_
      exact tj_X0_read_63 C _ _  hm
    · replace hm := if_f hm h6
      refine j_iload C 0 dX0_read_56 rfl ?_
      refine j_bipush C (v := 30) dX0_read_58 rfl ?_
      refine j_icmp_le C (tgt := 65) dX0_read_60 (by decide) (fun h7 => ?_) (fun h7 => ?_)
      · replace hm := if_t hm h7
        refine j_aload_n C 2 dX0_read_65 rfl ?_
        obtain ⟨q8, h9, hm⟩ := bd_some hm
        refine j_getR C fg_X0_9_0 hv0 (dr_spec h9).1 dX0_read_66 ?_
        refine j_aload_n C 2 dX0_read_69 rfl ?_
        refine j_getI C fg_X0_24_0 hv0 dX0_read_70 ?_
        refine j_iload_n C 1 dX0_read_73 rfl ?_
        refine j_bipush C (v := 12) dX0_read_74 rfl ?_
        refine j_irem C dX0_read_76 (by decide) ?_
        obtain ⟨h10, hm⟩ := gd_some hm
        obtain ⟨μ11, e12, hm⟩ := lt_some hm
        refine j_iast C ((dr_spec h9).2) h10 e12 dX0_read_77 ?_
        refine j_aload_n C 2 dX0_read_78 rfl ?_
        obtain ⟨q13, h14, hm⟩ := bd_some hm
        refine j_getR C fg_X0_15_0 hv0 (dr_spec h14).1 dX0_read_79 ?_
        refine j_aload_n C 2 dX0_read_82 rfl ?_
        refine j_getI C fg_X0_24_0 hv0 dX0_read_83 ?_
        refine j_iload C 0 dX0_read_86 rfl ?_
        obtain ⟨h15, hm⟩ := gd_some hm
        obtain ⟨μ16, e17, hm⟩ := lt_some hm
        refine j_iast C ((dr_spec h14).2) h15 e17 dX0_read_88 ?_
        refine j_aload_n C 2 dX0_read_89 rfl ?_
        refine j_dup C dX0_read_90 rfl ?_
        refine j_getI C fg_X0_24_0 hv0 dX0_read_91 ?_
        refine j_iconst C (v := 1) dX0_read_94 rfl ?_
        refine j_iadd C dX0_read_95 ?_
        obtain ⟨μ18, e19, hm⟩ := lt_some hm
        refine j_putI C fp_X0_24_0 hv0 e19 dX0_read_96 ?_
        obtain ⟨y20, e21, hm⟩ := lt_some hm
        refine j_iinc C 4 (v := y20) (lv' := [(2, .int y20), (4, .int r4), (3, .int r2), (0, .ref v0), (1, .ref v1)]) dX0_read_99 rfl (by rw [e21]; rfl) (by decide) rfl ?_
        refine j_goto C (tgt := 27) dX0_read_102 (by decide) ?_
        refine j_sub [3, 4, 0] rfl ?_
        exact hk27 (y20, μ18) _ hm
      · replace hm := if_f hm h7
        refine j_sub [] rfl ?_
        exact tj_X0_read_63 C _ _  hm
set_option maxRecDepth 20000 in
set_option maxHeartbeats 4000000 in
theorem tl_X0_read_27 {x : Ctx} {Λ : Lay} (C : Cx x cX0_read 5 (some .boolean) RX0 Λ rm_X0_read) (N : Nat) (v0 : Nat) (v1 : Nat) (hv0 : inL Λ v0 0) (hv1 : inL Λ v1 9) (s : Int32 × Mem) {r : Int32 × Mem} (hm : lp_X0_read_27 N Λ v0 v1 s = some r) : J x 5 Λ (QI x Λ r.1 r.2) 27 [(0, .ref v0), (1, .ref v1), (2, .int s.1)] [] (s.2) :=
  cw_ind (P := fun s r => J x 5 Λ (QI x Λ r.1 r.2) 27 [(0, .ref v0), (1, .ref v1), (2, .int s.1)] [] (s.2)) (fun k hkk s r e => tb_X0_read_27 C _ _ _ _ _ _ hkk hv0 hv1 e) N s r hm
set_option maxRecDepth 20000 in
set_option maxHeartbeats 4000000 in
theorem tm_X0_read {x : Ctx} {Λ : Lay} (C : Cx x cX0_read 5 (some .boolean) RX0 Λ rm_X0_read) (N : Nat) (μ : Mem) (v0 : Nat) (v1 : Nat) (hv0 : inL Λ v0 0) (hv1 : inL Λ v1 9) {r : Int32 × Mem} (hm : m_X0_read N Λ μ v0 v1 = some r) : J x 5 Λ (QI x Λ r.1 r.2) 0 [(0, .ref v0), (1, .ref v1)] [] μ := by
  refine j_aload_n C 0 dX0_read_0 rfl ?_
  refine j_iconst C (v := 0) dX0_read_1 rfl ?_
  obtain ⟨μ1, e2, hm⟩ := lt_some hm
  refine j_putI C fp_X0_24_0 hv0 e2 dX0_read_2 ?_
  refine j_aload_n C 1 dX0_read_5 rfl ?_
  refine j_getI C fg_X0_28_9 hv1 dX0_read_6 ?_
  refine j_bipush C (v := 40) dX0_read_9 rfl ?_
  refine j_icmp_gt C (tgt := 23) dX0_read_11 (by decide) (fun h3 => ?_) (fun h3 => ?_)
  · replace hm := if_t hm h3
    refine j_sub [] rfl ?_
    exact tj_X0_read_23 C _ _  hm
  · replace hm := if_f hm h3
    refine j_aload_n C 1 dX0_read_14 rfl ?_
    refine j_getI C fg_X0_28_9 hv1 dX0_read_15 ?_
    refine j_iconst C (v := 2) dX0_read_18 rfl ?_
    refine j_irem C dX0_read_19 (by decide) ?_
    refine j_if_eq C (tgt := 25) dX0_read_20 (by decide) (fun h4 => ?_) (fun h4 => ?_)
    · replace hm := if_t hm h4
      refine j_iconst C (v := 0) dX0_read_25 rfl ?_
      refine j_istore_n C (lv' := [(2, .int 0), (0, .ref v0), (1, .ref v1)]) dX0_read_26 (by decide) rfl ?_
      refine j_sub [1, 2, 0] rfl ?_
      exact tl_X0_read_27 C _ _ _ hv0 hv1 (0, μ1) hm
    · replace hm := if_f hm h4
      refine j_sub [] rfl ?_
      exact tj_X0_read_23 C _ _  hm
set_option maxRecDepth 20000 in
set_option maxHeartbeats 4000000 in
theorem mc_X0_read (l : Launch) (N : Nat) (Λ : Lay) (μ : Mem) (v0 : Nat) (v1 : Nat) (hv0 : inL Λ v0 0) (hv1 : inL Λ v1 9) {r : Int32 × Mem} (hm : m_X0_read N Λ μ v0 v1 = some r) : MI l yX0_read cX0_read 5 (some .boolean) rm_X0_read Λ [.ref v0, .ref v1] μ r.1 r.2 := mi_of rfl (Nat.le_of_ble_eq_true rfl) (fun x C _ => tm_X0_read C _ _ _ _ hv0 hv1 hm)
abbrev rm_X0_heightAt : Room := { frames := 0, cells := 0, slots := 0, locals := 0 }
set_option maxRecDepth 20000 in
set_option maxHeartbeats 4000000 in
theorem tm_X0_heightAt {x : Ctx} {Λ : Lay} (C : Cx x cX0_heightAt 3 (some .int) RX0 Λ rm_X0_heightAt) (N : Nat) (μ : Mem) (v0 : Nat) (v1 : Int32) (v2 : Int32) (hv0 : inL Λ v0 0) {r : Int32} (hm : m_X0_heightAt N Λ μ v0 v1 v2 = some r) : J x 3 Λ (QI x Λ r μ) 0 [(0, .ref v0), (1, .int v1), (2, .int v2)] [] μ := by
  refine j_aload_n C 0 dX0_heightAt_0 rfl ?_
  obtain ⟨q1, h2, hm⟩ := bd_some hm
  refine j_getR C fg_X0_18_0 hv0 (dr_spec h2).1 dX0_heightAt_1 ?_
  refine j_gets0 C wk_1313 dX0_heightAt_4 ?_
  refine j_iload_n C 1 dX0_heightAt_7 rfl ?_
  refine j_iload_n C 2 dX0_heightAt_8 rfl ?_
  refine j_iadd C dX0_heightAt_9 ?_
  refine j_bipush C (v := 12) dX0_heightAt_10 rfl ?_
  refine j_irem C dX0_heightAt_12 (by decide) ?_
  obtain ⟨h3, hm⟩ := gd_some hm
  refine j_sald0 C h3 dX0_heightAt_13 ?_
  obtain ⟨h4, hm⟩ := gd_some hm
  refine j_iald C ((dr_spec h2).2) h4 dX0_heightAt_14 ?_
  obtain rfl := Option.some.inj hm
  exact j_ireti C dX0_heightAt_15
set_option maxRecDepth 20000 in
set_option maxHeartbeats 4000000 in
theorem mc_X0_heightAt (l : Launch) (N : Nat) (Λ : Lay) (μ : Mem) (v0 : Nat) (v1 : Int32) (v2 : Int32) (hv0 : inL Λ v0 0) {r : Int32} (hm : m_X0_heightAt N Λ μ v0 v1 v2 = some r) : MI l yX0_heightAt cX0_heightAt 3 (some .int) rm_X0_heightAt Λ [.ref v0, .int v1, .int v2] μ r μ := mi_of rfl (Nat.le_of_ble_eq_true rfl) (fun x C _ => tm_X0_heightAt C _ _ _ _ _ hv0 hm)
abbrev rm_X0_fits : Room := { frames := 1, cells := 0, slots := 0, locals := 22 }
set_option maxRecDepth 20000 in
set_option maxHeartbeats 4000000 in
theorem tb_X0_fits_2 {x : Ctx} {Λ : Lay} (C : Cx x cX0_fits 3 (some .boolean) RX0 Λ rm_X0_fits) (N : Nat) (μ : Mem) (k2 : Int32 → Option (Int32)) (v0 : Nat) (v1 : Int32) (v2 : Int32) (hk2 : ∀ (s : Int32) (r : Int32), k2 s = some r → J x 3 Λ (QI x Λ r μ) 2 [(0, .ref v0), (1, .int v1), (2, .int s)] [] (μ)) (hv0 : inL Λ v0 0) {r : Int32} (hm : bd_X0_fits_2 N Λ μ k2 v0 v1 v2 = some r) : J x 3 Λ (QI x Λ r μ) 2 [(0, .ref v0), (1, .int v1), (2, .int v2)] [] μ := by
  refine j_iload_n C 2 dX0_fits_2 rfl ?_
  refine j_aload_n C 0 dX0_fits_3 rfl ?_
  refine j_getI C fg_X0_24_0 hv0 dX0_fits_4 ?_
  refine j_icmp_ge C (tgt := 38) dX0_fits_7 (by decide) (fun h1 => ?_) (fun h1 => ?_)
  · replace hm := if_t hm h1
    refine j_iconst C (v := 1) dX0_fits_38 rfl ?_
    obtain rfl := Option.some.inj hm
    exact j_iretz C rfl dX0_fits_39
  · replace hm := if_f hm h1
    refine j_aload_n C 0 dX0_fits_10 rfl ?_
    refine j_aload_n C 0 dX0_fits_11 rfl ?_
    obtain ⟨q2, h3, hm⟩ := bd_some hm
    refine j_getR C fg_X0_9_0 hv0 (dr_spec h3).1 dX0_fits_12 ?_
    refine j_iload_n C 2 dX0_fits_15 rfl ?_
    obtain ⟨h4, hm⟩ := gd_some hm
    refine j_iald C ((dr_spec h3).2) h4 dX0_fits_16 ?_
    refine j_iload_n C 1 dX0_fits_17 rfl ?_
    obtain ⟨r5, h6, hm⟩ := bd_some hm
    refine call_I (run_LV C lk_X0_58 ⟨rfl, rfl, Nat.le_of_ble_eq_true rfl, Nat.le_of_ble_eq_true rfl⟩ (As := [.int (μ.1 q2 v2.toNatClampNeg), .int v1]) hv0 rfl rfl (Nat.le_of_ble_eq_true rfl) dX0_fits_18 (mc_X0_heightAt _ _ _ _ _ _ _ hv0 h6)) ?_
    refine j_aload_n C 0 dX0_fits_21 rfl ?_
    obtain ⟨q7, h8, hm⟩ := bd_some hm
    refine j_getR C fg_X0_15_0 hv0 (dr_spec h8).1 dX0_fits_22 ?_
    refine j_iload_n C 2 dX0_fits_25 rfl ?_
    obtain ⟨h9, hm⟩ := gd_some hm
    refine j_iald C ((dr_spec h8).2) h9 dX0_fits_26 ?_
    refine j_icmp_eq C (tgt := 32) dX0_fits_27 (by decide) (fun h10 => ?_) (fun h10 => ?_)
    · replace hm := if_t hm h10
      obtain ⟨y11, e12, hm⟩ := lt_some hm
      refine j_iinc C 2 (v := y11) (lv' := [(2, .int y11), (0, .ref v0), (1, .int v1)]) dX0_fits_32 rfl (by rw [e12]; rfl) (by decide) rfl ?_
      refine j_goto C (tgt := 2) dX0_fits_35 (by decide) ?_
      refine j_sub [1, 2, 0] rfl ?_
      exact hk2 y11 _ hm
    · replace hm := if_f hm h10
      refine j_iconst C (v := 0) dX0_fits_30 rfl ?_
      obtain rfl := Option.some.inj hm
      exact j_iretz C rfl dX0_fits_31
set_option maxRecDepth 20000 in
set_option maxHeartbeats 4000000 in
theorem tl_X0_fits_2 {x : Ctx} {Λ : Lay} (C : Cx x cX0_fits 3 (some .boolean) RX0 Λ rm_X0_fits) (N : Nat) (μ : Mem) (v0 : Nat) (v1 : Int32) (hv0 : inL Λ v0 0) (s : Int32) {r : Int32} (hm : lp_X0_fits_2 N Λ μ v0 v1 s = some r) : J x 3 Λ (QI x Λ r μ) 2 [(0, .ref v0), (1, .int v1), (2, .int s)] [] (μ) :=
  cw_ind (P := fun s r => J x 3 Λ (QI x Λ r μ) 2 [(0, .ref v0), (1, .int v1), (2, .int s)] [] (μ)) (fun k hkk s r e => tb_X0_fits_2 C _ _ _ _ _ _ hkk hv0 e) N s r hm
set_option maxRecDepth 20000 in
set_option maxHeartbeats 4000000 in
theorem tm_X0_fits {x : Ctx} {Λ : Lay} (C : Cx x cX0_fits 3 (some .boolean) RX0 Λ rm_X0_fits) (N : Nat) (μ : Mem) (v0 : Nat) (v1 : Int32) (hv0 : inL Λ v0 0) {r : Int32} (hm : m_X0_fits N Λ μ v0 v1 = some r) : J x 3 Λ (QI x Λ r μ) 0 [(0, .ref v0), (1, .int v1)] [] μ := by
  refine j_iconst C (v := 0) dX0_fits_0 rfl ?_
  refine j_istore_n C (lv' := [(2, .int 0), (0, .ref v0), (1, .int v1)]) dX0_fits_1 (by decide) rfl ?_
  refine j_sub [1, 2, 0] rfl ?_
  exact tl_X0_fits_2 C _ _ _ _ hv0 0 hm
set_option maxRecDepth 20000 in
set_option maxHeartbeats 4000000 in
theorem mc_X0_fits (l : Launch) (N : Nat) (Λ : Lay) (μ : Mem) (v0 : Nat) (v1 : Int32) (hv0 : inL Λ v0 0) {r : Int32} (hm : m_X0_fits N Λ μ v0 v1 = some r) : MI l yX0_fits cX0_fits 3 (some .boolean) rm_X0_fits Λ [.ref v0, .int v1] μ r μ := mi_of rfl (Nat.le_of_ble_eq_true rfl) (fun x C _ => tm_X0_fits C _ _ _ _ hv0 hm)
abbrev rm_X0_part : Room := { frames := 1, cells := 0, slots := 0, locals := 22 }
set_option maxRecDepth 20000 in
set_option maxHeartbeats 4000000 in
theorem tb_X0_part_2 {x : Ctx} {Λ : Lay} (C : Cx x cX0_part 3 none RX0 Λ rm_X0_part) (N : Nat) (μ : Mem) (k2 : Int32 × Mem → Option (Mem)) (v0 : Nat) (v1 : Int32) (v2 : Int32) (hk2 : ∀ (s : Int32 × Mem) (r : Mem), k2 s = some r → J x 3 Λ (QV x Λ r) 2 [(0, .ref v0), (1, .int v1), (2, .int s.1)] [] (s.2)) (hv0 : inL Λ v0 0) {r : Mem} (hm : bd_X0_part_2 N Λ μ k2 v0 v1 v2 = some r) : J x 3 Λ (QV x Λ r) 2 [(0, .ref v0), (1, .int v1), (2, .int v2)] [] μ := by
  refine j_iload_n C 2 dX0_part_2 rfl ?_
  refine j_bipush C (v := 12) dX0_part_3 rfl ?_
  refine j_icmp_ge C (tgt := 34) dX0_part_5 (by decide) (fun h1 => ?_) (fun h1 => ?_)
  · replace hm := if_t hm h1
    obtain rfl := Option.some.inj hm
    exact j_vret C dX0_part_34
  · replace hm := if_f hm h1
    refine j_aload_n C 0 dX0_part_8 rfl ?_
    obtain ⟨q2, h3, hm⟩ := bd_some hm
    refine j_getR C fg_X0_21_0 hv0 (dr_spec h3).1 dX0_part_9 ?_
    refine j_iload_n C 2 dX0_part_12 rfl ?_
    refine j_bipush C (v := 31) dX0_part_13 rfl ?_
    refine j_imul C dX0_part_15 ?_
    refine j_aload_n C 0 dX0_part_16 rfl ?_
    refine j_iload_n C 2 dX0_part_17 rfl ?_
    refine j_iload_n C 1 dX0_part_18 rfl ?_
    obtain ⟨r4, h5, hm⟩ := bd_some hm
    refine call_I (run_LV C lk_X0_58 ⟨rfl, rfl, Nat.le_of_ble_eq_true rfl, Nat.le_of_ble_eq_true rfl⟩ (As := [.int v2, .int v1]) hv0 rfl rfl (Nat.le_of_ble_eq_true rfl) dX0_part_19 (mc_X0_heightAt _ _ _ _ _ _ _ hv0 h5)) ?_
    refine j_iadd C dX0_part_22 ?_
    refine j_dup2 C dX0_part_23 rfl rfl ?_
    obtain ⟨h6, hm⟩ := gd_some hm
    refine j_iald C ((dr_spec h3).2) h6 dX0_part_24 ?_
    refine j_iconst C (v := 1) dX0_part_25 rfl ?_
    refine j_iadd C dX0_part_26 ?_
    obtain ⟨h7, hm⟩ := gd_some hm
    obtain ⟨μ8, e9, hm⟩ := lt_some hm
    refine j_iast C ((dr_spec h3).2) h7 e9 dX0_part_27 ?_
    obtain ⟨y10, e11, hm⟩ := lt_some hm
    refine j_iinc C 2 (v := y10) (lv' := [(2, .int y10), (0, .ref v0), (1, .int v1)]) dX0_part_28 rfl (by rw [e11]; rfl) (by decide) rfl ?_
    refine j_goto C (tgt := 2) dX0_part_31 (by decide) ?_
    refine j_sub [1, 2, 0] rfl ?_
    exact hk2 (y10, μ8) _ hm
set_option maxRecDepth 20000 in
set_option maxHeartbeats 4000000 in
theorem tl_X0_part_2 {x : Ctx} {Λ : Lay} (C : Cx x cX0_part 3 none RX0 Λ rm_X0_part) (N : Nat) (v0 : Nat) (v1 : Int32) (hv0 : inL Λ v0 0) (s : Int32 × Mem) {r : Mem} (hm : lp_X0_part_2 N Λ v0 v1 s = some r) : J x 3 Λ (QV x Λ r) 2 [(0, .ref v0), (1, .int v1), (2, .int s.1)] [] (s.2) :=
  cw_ind (P := fun s r => J x 3 Λ (QV x Λ r) 2 [(0, .ref v0), (1, .int v1), (2, .int s.1)] [] (s.2)) (fun k hkk s r e => tb_X0_part_2 C _ _ _ _ _ _ hkk hv0 e) N s r hm
set_option maxRecDepth 20000 in
set_option maxHeartbeats 4000000 in
theorem tm_X0_part {x : Ctx} {Λ : Lay} (C : Cx x cX0_part 3 none RX0 Λ rm_X0_part) (N : Nat) (μ : Mem) (v0 : Nat) (v1 : Int32) (hv0 : inL Λ v0 0) {r : Mem} (hm : m_X0_part N Λ μ v0 v1 = some r) : J x 3 Λ (QV x Λ r) 0 [(0, .ref v0), (1, .int v1)] [] μ := by
  refine j_iconst C (v := 0) dX0_part_0 rfl ?_
  refine j_istore_n C (lv' := [(2, .int 0), (0, .ref v0), (1, .int v1)]) dX0_part_1 (by decide) rfl ?_
  refine j_sub [1, 2, 0] rfl ?_
  exact tl_X0_part_2 C _ _ _ hv0 (0, μ) hm
set_option maxRecDepth 20000 in
set_option maxHeartbeats 4000000 in
theorem mc_X0_part (l : Launch) (N : Nat) (Λ : Lay) (μ : Mem) (v0 : Nat) (v1 : Int32) (hv0 : inL Λ v0 0) {r : Mem} (hm : m_X0_part N Λ μ v0 v1 = some r) : MV l yX0_part cX0_part 3 rm_X0_part Λ [.ref v0, .int v1] μ r := mv_of rfl (Nat.le_of_ble_eq_true rfl) (fun x C _ => tm_X0_part C _ _ _ _ hv0 hm)
abbrev rm_X0_searchLate : Room := { frames := 2, cells := 0, slots := 0, locals := 44 }
set_option maxRecDepth 20000 in
set_option maxHeartbeats 4000000 in
theorem tj_X0_searchLate_97 {x : Ctx} {Λ : Lay} (C : Cx x cX0_searchLate 5 none RX0 Λ rm_X0_searchLate) (N : Nat) (μ : Mem) (k37 : Int32 × Mem → Option (Mem)) (v0 : Nat) (v1 : Int32) (v2 : Int32) (v3 : Int32) (v4 : Int32) (hk37 : ∀ (s : Int32 × Mem) (r : Mem), k37 s = some r → J x 5 Λ (QV x Λ r) 37 [(0, .ref v0), (1, .int v1), (2, .int v2), (3, .int v3), (4, .int s.1)] [] (s.2)) (hv0 : inL Λ v0 0) {r : Mem} (hm : jn_X0_searchLate_97 N Λ μ k37 v0 v1 v2 v3 v4 = some r) : J x 5 Λ (QV x Λ r) 97 [(0, .ref v0), (1, .int v1), (2, .int v2), (3, .int v3), (4, .int v4)] [] μ := by
  obtain ⟨y1, e2, hm⟩ := lt_some hm
  refine j_iinc C 4 (v := y1) (lv' := [(4, .int y1), (0, .ref v0), (1, .int v1), (2, .int v2), (3, .int v3)]) dX0_searchLate_97 rfl (by rw [e2]; rfl) (by decide) rfl ?_
  refine j_goto C (tgt := 37) dX0_searchLate_100 (by decide) ?_
  refine j_sub [1, 2, 3, 4, 0] rfl ?_
  exact hk37 (y1, μ) _ hm
set_option maxRecDepth 20000 in
set_option maxHeartbeats 4000000 in
theorem tj_X0_searchLate_77 {x : Ctx} {Λ : Lay} (C : Cx x cX0_searchLate 5 none RX0 Λ rm_X0_searchLate) (N : Nat) (μ : Mem) (k37 : Int32 × Mem → Option (Mem)) (v0 : Nat) (v1 : Int32) (v2 : Int32) (v3 : Int32) (v4 : Int32) (hk37 : ∀ (s : Int32 × Mem) (r : Mem), k37 s = some r → J x 5 Λ (QV x Λ r) 37 [(0, .ref v0), (1, .int v1), (2, .int v2), (3, .int v3), (4, .int s.1)] [] (s.2)) (hv0 : inL Λ v0 0) {r : Mem} (hm : jn_X0_searchLate_77 N Λ μ k37 v0 v1 v2 v3 v4 = some r) : J x 5 Λ (QV x Λ r) 77 [(0, .ref v0), (1, .int v1), (2, .int v2), (3, .int v3), (4, .int v4)] [] μ := by
  refine j_aload_n C 0 dX0_searchLate_77 rfl ?_
  refine j_dup C dX0_searchLate_78 rfl ?_
  refine j_getI C fg_X0_37_0 hv0 dX0_searchLate_79 ?_
  refine j_iconst C (v := 1) dX0_searchLate_82 rfl ?_
  refine j_iadd C dX0_searchLate_83 ?_
  obtain ⟨μ1, e2, hm⟩ := lt_some hm
  refine j_putI C fp_X0_37_0 hv0 e2 dX0_searchLate_84 ?_
  refine j_iload_n C 3 dX0_searchLate_87 rfl ?_
  refine j_if_eq C (tgt := 97) dX0_searchLate_88 (by decide) (fun h3 => ?_) (fun h3 => ?_)
  · replace hm := if_t hm h3
    exact tj_X0_searchLate_97 C _ _ _ _ _ _ _ _ hk37 hv0 hm
  · replace hm := if_f hm h3
    refine j_aload_n C 0 dX0_searchLate_91 rfl ?_
    refine j_iload C 4 dX0_searchLate_92 rfl ?_
    obtain ⟨r4, h5, hm⟩ := bd_some hm
    refine call_V (run_LV C lk_X0_51 ⟨rfl, rfl, Nat.le_of_ble_eq_true rfl, Nat.le_of_ble_eq_true rfl⟩ (As := [.int v4]) hv0 rfl rfl (Nat.le_of_ble_eq_true rfl) dX0_searchLate_94 (mc_X0_part _ _ _ _ _ _ hv0 h5)) ?_
    exact tj_X0_searchLate_97 C _ _ _ _ _ _ _ _ hk37 hv0 hm
set_option maxRecDepth 20000 in
set_option maxHeartbeats 4000000 in
theorem tb_X0_searchLate_37 {x : Ctx} {Λ : Lay} (C : Cx x cX0_searchLate 5 none RX0 Λ rm_X0_searchLate) (N : Nat) (μ : Mem) (k37 : Int32 × Mem → Option (Mem)) (v0 : Nat) (v1 : Int32) (v2 : Int32) (v3 : Int32) (v4 : Int32) (hk37 : ∀ (s : Int32 × Mem) (r : Mem), k37 s = some r → J x 5 Λ (QV x Λ r) 37 [(0, .ref v0), (1, .int v1), (2, .int v2), (3, .int v3), (4, .int s.1)] [] (s.2)) (hv0 : inL Λ v0 0) {r : Mem} (hm : bd_X0_searchLate_37 N Λ μ k37 v0 v1 v2 v3 v4 = some r) : J x 5 Λ (QV x Λ r) 37 [(0, .ref v0), (1, .int v1), (2, .int v2), (3, .int v3), (4, .int v4)] [] μ := by
  refine j_iload C 4 dX0_searchLate_37 rfl ?_
  refine j_bipush C (v := 12) dX0_searchLate_39 rfl ?_
  refine j_icmp_ge C (tgt := 103) dX0_searchLate_41 (by decide) (fun h1 => ?_) (fun h1 => ?_)
  · replace hm := if_t hm h1
    obtain rfl := Option.some.inj hm
    exact j_vret C dX0_searchLate_103
  · replace hm := if_f hm h1
    refine j_aload_n C 0 dX0_searchLate_44 rfl ?_
    refine j_iload C 4 dX0_searchLate_45 rfl ?_
    obtain ⟨r2, h3, hm⟩ := bd_some hm
    refine call_I (run_LV C lk_X0_47 ⟨rfl, rfl, Nat.le_of_ble_eq_true rfl, Nat.le_of_ble_eq_true rfl⟩ (As := [.int v4]) hv0 rfl rfl (Nat.le_of_ble_eq_true rfl) dX0_searchLate_47 (mc_X0_fits _ _ _ _ _ _ hv0 h3)) ?_
    refine j_if_eq C (tgt := 97) dX0_searchLate_50 (by decide) (fun h4 => ?_) (fun h4 => ?_)
    · replace hm := if_t hm h4
      exact tj_X0_searchLate_97 C _ _ _ _ _ _ _ _ hk37 hv0 hm
    · replace hm := if_f hm h4
      refine j_aload_n C 0 dX0_searchLate_53 rfl ?_
      refine j_getI C fg_X0_37_0 hv0 dX0_searchLate_54 ?_
      refine j_if_ne C (tgt := 77) dX0_searchLate_57 (by decide) (fun h5 => ?_) (fun h5 => ?_)
      · replace hm := if_f hm h5
        exact tj_X0_searchLate_77 C _ _ _ _ _ _ _ _ hk37 hv0 hm
      · replace hm := if_t hm h5
        refine j_aload_n C 0 dX0_searchLate_60 rfl ?_
        refine j_sipush C (v := 372) dX0_searchLate_61 rfl ?_
        refine j_iload_n C 1 dX0_searchLate_64 rfl ?_
        refine j_imul C dX0_searchLate_65 ?_
        refine j_bipush C (v := 12) dX0_searchLate_66 rfl ?_
        refine j_iload_n C 2 dX0_searchLate_68 rfl ?_
        refine j_imul C dX0_searchLate_69 ?_
        refine j_iadd C dX0_searchLate_70 ?_
        refine j_iload C 4 dX0_searchLate_71 rfl ?_
        refine j_iadd C dX0_searchLate_73 ?_
        obtain ⟨μ6, e7, hm⟩ := lt_some hm
        refine j_putI C fp_X0_40_0 hv0 e7 dX0_searchLate_74 ?_
        exact tj_X0_searchLate_77 C _ _ _ _ _ _ _ _ hk37 hv0 hm
set_option maxRecDepth 20000 in
set_option maxHeartbeats 4000000 in
theorem tl_X0_searchLate_37 {x : Ctx} {Λ : Lay} (C : Cx x cX0_searchLate 5 none RX0 Λ rm_X0_searchLate) (N : Nat) (v0 : Nat) (v1 : Int32) (v2 : Int32) (v3 : Int32) (hv0 : inL Λ v0 0) (s : Int32 × Mem) {r : Mem} (hm : lp_X0_searchLate_37 N Λ v0 v1 v2 v3 s = some r) : J x 5 Λ (QV x Λ r) 37 [(0, .ref v0), (1, .int v1), (2, .int v2), (3, .int v3), (4, .int s.1)] [] (s.2) :=
  cw_ind (P := fun s r => J x 5 Λ (QV x Λ r) 37 [(0, .ref v0), (1, .int v1), (2, .int v2), (3, .int v3), (4, .int s.1)] [] (s.2)) (fun k hkk s r e => tb_X0_searchLate_37 C _ _ _ _ _ _ _ _ hkk hv0 e) N s r hm
set_option maxRecDepth 20000 in
set_option maxHeartbeats 4000000 in
theorem tb_X0_searchLate_3 {x : Ctx} {Λ : Lay} (C : Cx x cX0_searchLate 5 none RX0 Λ rm_X0_searchLate) (N : Nat) (μ : Mem) (k3 : Int32 × Mem → Option (Mem)) (v0 : Nat) (v1 : Int32) (v2 : Int32) (v3 : Int32) (v4 : Int32) (hk3 : ∀ (s : Int32 × Mem) (r : Mem), k3 s = some r → J x 5 Λ (QV x Λ r) 3 [(0, .ref v0), (1, .int v1), (2, .int v2), (3, .int v3), (4, .int s.1)] [] (s.2)) (hv0 : inL Λ v0 0) {r : Mem} (hm : bd_X0_searchLate_3 N Λ μ k3 v0 v1 v2 v3 v4 = some r) : J x 5 Λ (QV x Λ r) 3 [(0, .ref v0), (1, .int v1), (2, .int v2), (3, .int v3), (4, .int v4)] [] μ := by
  refine j_iload C 4 dX0_searchLate_3 rfl ?_
  refine j_bipush C (v := 6) dX0_searchLate_5 rfl ?_
  refine j_icmp_gt C (tgt := 34) dX0_searchLate_7 (by decide) (fun h1 => ?_) (fun h1 => ?_)
  · replace hm := if_t hm h1
    refine j_iconst C (v := 0) dX0_searchLate_34 rfl ?_
    refine j_istore C (lv' := [(4, .int 0), (0, .ref v0), (1, .int v1), (2, .int v2), (3, .int v3)]) dX0_searchLate_35 (by decide) rfl ?_
    refine j_sub [1, 2, 3, 4, 0] rfl ?_
    exact tl_X0_searchLate_37 C _ _ _ _ _ hv0 (0, μ) hm
  · replace hm := if_f hm h1
    refine j_aload_n C 0 dX0_searchLate_10 rfl ?_
    obtain ⟨q2, h3, hm⟩ := bd_some hm
    refine j_getR C fg_X0_18_0 hv0 (dr_spec h3).1 dX0_searchLate_11 ?_
    refine j_iload C 4 dX0_searchLate_14 rfl ?_
    refine j_iload_n C 1 dX0_searchLate_16 rfl ?_
    refine j_iload_n C 2 dX0_searchLate_17 rfl ?_
    refine j_iload_n C 1 dX0_searchLate_18 rfl ?_
    refine j_isub C dX0_searchLate_19 ?_
    refine j_iload C 4 dX0_searchLate_20 rfl ?_
    refine j_imul C dX0_searchLate_22 ?_
    refine j_bipush C (v := 6) dX0_searchLate_23 rfl ?_
    refine j_idiv C dX0_searchLate_25 (by decide) ?_
    refine j_iadd C dX0_searchLate_26 ?_
    obtain ⟨h4, hm⟩ := gd_some hm
    obtain ⟨μ5, e6, hm⟩ := lt_some hm
    refine j_iast C ((dr_spec h3).2) h4 e6 dX0_searchLate_27 ?_
    obtain ⟨y7, e8, hm⟩ := lt_some hm
    refine j_iinc C 4 (v := y7) (lv' := [(4, .int y7), (0, .ref v0), (1, .int v1), (2, .int v2), (3, .int v3)]) dX0_searchLate_28 rfl (by rw [e8]; rfl) (by decide) rfl ?_
    refine j_goto C (tgt := 3) dX0_searchLate_31 (by decide) ?_
    refine j_sub [1, 2, 3, 4, 0] rfl ?_
    exact hk3 (y7, μ5) _ hm
set_option maxRecDepth 20000 in
set_option maxHeartbeats 4000000 in
theorem tl_X0_searchLate_3 {x : Ctx} {Λ : Lay} (C : Cx x cX0_searchLate 5 none RX0 Λ rm_X0_searchLate) (N : Nat) (v0 : Nat) (v1 : Int32) (v2 : Int32) (v3 : Int32) (hv0 : inL Λ v0 0) (s : Int32 × Mem) {r : Mem} (hm : lp_X0_searchLate_3 N Λ v0 v1 v2 v3 s = some r) : J x 5 Λ (QV x Λ r) 3 [(0, .ref v0), (1, .int v1), (2, .int v2), (3, .int v3), (4, .int s.1)] [] (s.2) :=
  cw_ind (P := fun s r => J x 5 Λ (QV x Λ r) 3 [(0, .ref v0), (1, .int v1), (2, .int v2), (3, .int v3), (4, .int s.1)] [] (s.2)) (fun k hkk s r e => tb_X0_searchLate_3 C _ _ _ _ _ _ _ _ hkk hv0 e) N s r hm
set_option maxRecDepth 20000 in
set_option maxHeartbeats 4000000 in
theorem tm_X0_searchLate {x : Ctx} {Λ : Lay} (C : Cx x cX0_searchLate 5 none RX0 Λ rm_X0_searchLate) (N : Nat) (μ : Mem) (v0 : Nat) (v1 : Int32) (v2 : Int32) (v3 : Int32) (hv0 : inL Λ v0 0) {r : Mem} (hm : m_X0_searchLate N Λ μ v0 v1 v2 v3 = some r) : J x 5 Λ (QV x Λ r) 0 [(0, .ref v0), (1, .int v1), (2, .int v2), (3, .int v3)] [] μ := by
  refine j_iconst C (v := 0) dX0_searchLate_0 rfl ?_
  refine j_istore C (lv' := [(4, .int 0), (0, .ref v0), (1, .int v1), (2, .int v2), (3, .int v3)]) dX0_searchLate_1 (by decide) rfl ?_
  refine j_sub [1, 2, 3, 4, 0] rfl ?_
  exact tl_X0_searchLate_3 C _ _ _ _ _ hv0 (0, μ) hm
set_option maxRecDepth 20000 in
set_option maxHeartbeats 4000000 in
theorem mc_X0_searchLate (l : Launch) (N : Nat) (Λ : Lay) (μ : Mem) (v0 : Nat) (v1 : Int32) (v2 : Int32) (v3 : Int32) (hv0 : inL Λ v0 0) {r : Mem} (hm : m_X0_searchLate N Λ μ v0 v1 v2 v3 = some r) : MV l yX0_searchLate cX0_searchLate 5 rm_X0_searchLate Λ [.ref v0, .int v1, .int v2, .int v3] μ r := mv_of rfl (Nat.le_of_ble_eq_true rfl) (fun x C _ => tm_X0_searchLate C _ _ _ _ _ _ hv0 hm)
abbrev rm_X0_search : Room := { frames := 3, cells := 0, slots := 0, locals := 68 }
set_option maxRecDepth 20000 in
set_option maxHeartbeats 4000000 in
theorem tb_X0_search_42 {x : Ctx} {Λ : Lay} (C : Cx x cX0_search 4 none RX0 Λ rm_X0_search) (N : Nat) (μ : Mem) (k34 : Int32 × Mem → Option (Mem)) (k42 : Int32 × Mem → Option (Mem)) (v0 : Nat) (v1 : Int32) (v2 : Int32) (v3 : Int32) (hk34 : ∀ (s : Int32 × Mem) (r : Mem), k34 s = some r → J x 4 Λ (QV x Λ r) 34 [(0, .ref v0), (1, .int v1), (2, .int s.1)] [] (s.2)) (hk42 : ∀ (s : Int32 × Mem) (r : Mem), k42 s = some r → J x 4 Λ (QV x Λ r) 42 [(0, .ref v0), (1, .int v1), (2, .int v2), (3, .int s.1)] [] (s.2)) (hv0 : inL Λ v0 0) {r : Mem} (hm : bd_X0_search_42 N Λ μ k34 k42 v0 v1 v2 v3 = some r) : J x 4 Λ (QV x Λ r) 42 [(0, .ref v0), (1, .int v1), (2, .int v2), (3, .int v3)] [] μ := by
  refine j_iload_n C 3 dX0_search_42 rfl ?_
  refine j_bipush C (v := 30) dX0_search_43 rfl ?_
  refine j_icmp_gt C (tgt := 61) dX0_search_45 (by decide) (fun h1 => ?_) (fun h1 => ?_)
  · replace hm := if_t hm h1
    obtain ⟨y2, e3, hm⟩ := lt_some hm
    refine j_iinc C 2 (v := y2) (lv' := [(2, .int y2), (0, .ref v0), (1, .int v1), (3, .int v3)]) dX0_search_61 rfl (by rw [e3]; rfl) (by decide) rfl ?_
    refine j_goto C (tgt := 34) dX0_search_64 (by decide) ?_
    refine j_sub [1, 2, 0] rfl ?_
    exact hk34 (y2, μ) _ hm
  · replace hm := if_f hm h1
    refine j_aload_n C 0 dX0_search_48 rfl ?_
    refine j_iload_n C 2 dX0_search_49 rfl ?_
    refine j_iload_n C 3 dX0_search_50 rfl ?_
    refine j_iload_n C 1 dX0_search_51 rfl ?_
    obtain ⟨r4, h5, hm⟩ := bd_some hm
    refine call_V (run_LV C lk_X0_43 ⟨rfl, rfl, Nat.le_of_ble_eq_true rfl, Nat.le_of_ble_eq_true rfl⟩ (As := [.int v2, .int v3, .int v1]) hv0 rfl rfl (Nat.le_of_ble_eq_true rfl) dX0_search_52 (mc_X0_searchLate _ _ _ _ _ _ _ _ hv0 h5)) ?_
    obtain ⟨y6, e7, hm⟩ := lt_some hm
    refine j_iinc C 3 (v := y6) (lv' := [(3, .int y6), (0, .ref v0), (1, .int v1), (2, .int v2)]) dX0_search_55 rfl (by rw [e7]; rfl) (by decide) rfl ?_
    refine j_goto C (tgt := 42) dX0_search_58 (by decide) ?_
    refine j_sub [1, 2, 3, 0] rfl ?_
    exact hk42 (y6, r4) _ hm
set_option maxRecDepth 20000 in
set_option maxHeartbeats 4000000 in
theorem tl_X0_search_42 {x : Ctx} {Λ : Lay} (C : Cx x cX0_search 4 none RX0 Λ rm_X0_search) (N : Nat) (k34 : Int32 × Mem → Option (Mem)) (v0 : Nat) (v1 : Int32) (v2 : Int32) (hk34 : ∀ (s : Int32 × Mem) (r : Mem), k34 s = some r → J x 4 Λ (QV x Λ r) 34 [(0, .ref v0), (1, .int v1), (2, .int s.1)] [] (s.2)) (hv0 : inL Λ v0 0) (s : Int32 × Mem) {r : Mem} (hm : lp_X0_search_42 N Λ k34 v0 v1 v2 s = some r) : J x 4 Λ (QV x Λ r) 42 [(0, .ref v0), (1, .int v1), (2, .int v2), (3, .int s.1)] [] (s.2) :=
  cw_ind (P := fun s r => J x 4 Λ (QV x Λ r) 42 [(0, .ref v0), (1, .int v1), (2, .int v2), (3, .int s.1)] [] (s.2)) (fun k hkk s r e => tb_X0_search_42 C _ _ _ _ _ _ _ _ hk34 hkk hv0 e) N s r hm
set_option maxRecDepth 20000 in
set_option maxHeartbeats 4000000 in
theorem tb_X0_search_34 {x : Ctx} {Λ : Lay} (C : Cx x cX0_search 4 none RX0 Λ rm_X0_search) (N : Nat) (μ : Mem) (k34 : Int32 × Mem → Option (Mem)) (v0 : Nat) (v1 : Int32) (v2 : Int32) (hk34 : ∀ (s : Int32 × Mem) (r : Mem), k34 s = some r → J x 4 Λ (QV x Λ r) 34 [(0, .ref v0), (1, .int v1), (2, .int s.1)] [] (s.2)) (hv0 : inL Λ v0 0) {r : Mem} (hm : bd_X0_search_34 N Λ μ k34 v0 v1 v2 = some r) : J x 4 Λ (QV x Λ r) 34 [(0, .ref v0), (1, .int v1), (2, .int v2)] [] μ := by
  refine j_iload_n C 2 dX0_search_34 rfl ?_
  refine j_bipush C (v := 30) dX0_search_35 rfl ?_
  refine j_icmp_gt C (tgt := 67) dX0_search_37 (by decide) (fun h1 => ?_) (fun h1 => ?_)
  · replace hm := if_t hm h1
    obtain rfl := Option.some.inj hm
    exact j_vret C dX0_search_67
  · replace hm := if_f hm h1
    refine j_iload_n C 2 dX0_search_40 rfl ?_
    refine j_istore_n C (lv' := [(3, .int v2), (0, .ref v0), (1, .int v1), (2, .int v2)]) dX0_search_41 (by decide) rfl ?_
    refine j_sub [1, 2, 3, 0] rfl ?_
    exact tl_X0_search_42 C _ _ _ _ _ hk34 hv0 (v2, μ) hm
set_option maxRecDepth 20000 in
set_option maxHeartbeats 4000000 in
theorem tl_X0_search_34 {x : Ctx} {Λ : Lay} (C : Cx x cX0_search 4 none RX0 Λ rm_X0_search) (N : Nat) (v0 : Nat) (v1 : Int32) (hv0 : inL Λ v0 0) (s : Int32 × Mem) {r : Mem} (hm : lp_X0_search_34 N Λ v0 v1 s = some r) : J x 4 Λ (QV x Λ r) 34 [(0, .ref v0), (1, .int v1), (2, .int s.1)] [] (s.2) :=
  cw_ind (P := fun s r => J x 4 Λ (QV x Λ r) 34 [(0, .ref v0), (1, .int v1), (2, .int s.1)] [] (s.2)) (fun k hkk s r e => tb_X0_search_34 C _ _ _ _ _ _ hkk hv0 e) N s r hm
set_option maxRecDepth 20000 in
set_option maxHeartbeats 4000000 in
theorem tb_X0_search_12 {x : Ctx} {Λ : Lay} (C : Cx x cX0_search 4 none RX0 Λ rm_X0_search) (N : Nat) (μ : Mem) (k12 : Int32 × Mem → Option (Mem)) (v0 : Nat) (v1 : Int32) (v2 : Int32) (hk12 : ∀ (s : Int32 × Mem) (r : Mem), k12 s = some r → J x 4 Λ (QV x Λ r) 12 [(0, .ref v0), (1, .int v1), (2, .int s.1)] [] (s.2)) (hv0 : inL Λ v0 0) {r : Mem} (hm : bd_X0_search_12 N Λ μ k12 v0 v1 v2 = some r) : J x 4 Λ (QV x Λ r) 12 [(0, .ref v0), (1, .int v1), (2, .int v2)] [] μ := by
  refine j_iload_n C 2 dX0_search_12 rfl ?_
  refine j_sipush C (v := 372) dX0_search_13 rfl ?_
  refine j_icmp_ge C (tgt := 32) dX0_search_16 (by decide) (fun h1 => ?_) (fun h1 => ?_)
  · replace hm := if_t hm h1
    refine j_iconst C (v := 0) dX0_search_32 rfl ?_
    refine j_istore_n C (lv' := [(2, .int 0), (0, .ref v0), (1, .int v1)]) dX0_search_33 (by decide) rfl ?_
    refine j_sub [1, 2, 0] rfl ?_
    exact tl_X0_search_34 C _ _ _ hv0 (0, μ) hm
  · replace hm := if_f hm h1
    refine j_aload_n C 0 dX0_search_19 rfl ?_
    obtain ⟨q2, h3, hm⟩ := bd_some hm
    refine j_getR C fg_X0_21_0 hv0 (dr_spec h3).1 dX0_search_20 ?_
    refine j_iload_n C 2 dX0_search_23 rfl ?_
    refine j_iconst C (v := 0) dX0_search_24 rfl ?_
    obtain ⟨h4, hm⟩ := gd_some hm
    obtain ⟨μ5, e6, hm⟩ := lt_some hm
    refine j_iast C ((dr_spec h3).2) h4 e6 dX0_search_25 ?_
    obtain ⟨y7, e8, hm⟩ := lt_some hm
    refine j_iinc C 2 (v := y7) (lv' := [(2, .int y7), (0, .ref v0), (1, .int v1)]) dX0_search_26 rfl (by rw [e8]; rfl) (by decide) rfl ?_
    refine j_goto C (tgt := 12) dX0_search_29 (by decide) ?_
    refine j_sub [1, 2, 0] rfl ?_
    exact hk12 (y7, μ5) _ hm
set_option maxRecDepth 20000 in
set_option maxHeartbeats 4000000 in
theorem tl_X0_search_12 {x : Ctx} {Λ : Lay} (C : Cx x cX0_search 4 none RX0 Λ rm_X0_search) (N : Nat) (v0 : Nat) (v1 : Int32) (hv0 : inL Λ v0 0) (s : Int32 × Mem) {r : Mem} (hm : lp_X0_search_12 N Λ v0 v1 s = some r) : J x 4 Λ (QV x Λ r) 12 [(0, .ref v0), (1, .int v1), (2, .int s.1)] [] (s.2) :=
  cw_ind (P := fun s r => J x 4 Λ (QV x Λ r) 12 [(0, .ref v0), (1, .int v1), (2, .int s.1)] [] (s.2)) (fun k hkk s r e => tb_X0_search_12 C _ _ _ _ _ _ hkk hv0 e) N s r hm
set_option maxRecDepth 20000 in
set_option maxHeartbeats 4000000 in
theorem tm_X0_search {x : Ctx} {Λ : Lay} (C : Cx x cX0_search 4 none RX0 Λ rm_X0_search) (N : Nat) (μ : Mem) (v0 : Nat) (v1 : Int32) (hv0 : inL Λ v0 0) {r : Mem} (hm : m_X0_search N Λ μ v0 v1 = some r) : J x 4 Λ (QV x Λ r) 0 [(0, .ref v0), (1, .int v1)] [] μ := by
  refine j_aload_n C 0 dX0_search_0 rfl ?_
  refine j_iconst C (v := 0) dX0_search_1 rfl ?_
  obtain ⟨μ1, e2, hm⟩ := lt_some hm
  refine j_putI C fp_X0_37_0 hv0 e2 dX0_search_2 ?_
  refine j_aload_n C 0 dX0_search_5 rfl ?_
  refine j_iconst C (v := -1) dX0_search_6 rfl ?_
  obtain ⟨μ3, e4, hm⟩ := lt_some hm
  refine j_putI C fp_X0_40_0 hv0 e4 dX0_search_7 ?_
  refine j_iconst C (v := 0) dX0_search_10 rfl ?_
  refine j_istore_n C (lv' := [(2, .int 0), (0, .ref v0), (1, .int v1)]) dX0_search_11 (by decide) rfl ?_
  refine j_sub [1, 2, 0] rfl ?_
  exact tl_X0_search_12 C _ _ _ hv0 (0, μ3) hm
set_option maxRecDepth 20000 in
set_option maxHeartbeats 4000000 in
theorem mc_X0_search (l : Launch) (N : Nat) (Λ : Lay) (μ : Mem) (v0 : Nat) (v1 : Int32) (hv0 : inL Λ v0 0) {r : Mem} (hm : m_X0_search N Λ μ v0 v1 = some r) : MV l yX0_search cX0_search 4 rm_X0_search Λ [.ref v0, .int v1] μ r := mv_of rfl (Nat.le_of_ble_eq_true rfl) (fun x C _ => tm_X0_search C _ _ _ _ hv0 hm)
abbrev rm_X0_greatestPart : Room := { frames := 1, cells := 0, slots := 0, locals := 60 }
set_option maxRecDepth 20000 in
set_option maxHeartbeats 4000000 in
theorem tb_X0_greatestPart_4 {x : Ctx} {Λ : Lay} (C : Cx x cX0_greatestPart 4 (some .int) RX0 Λ rm_X0_greatestPart) (N : Nat) (μ : Mem) (k4 : Int32 × Int32 → Option (Int32)) (v0 : Nat) (v1 : Int32) (v2 : Int32) (v3 : Int32) (hk4 : ∀ (s : Int32 × Int32) (r : Int32), k4 s = some r → J x 4 Λ (QI x Λ r μ) 4 [(0, .ref v0), (1, .int v1), (2, .int s.1), (3, .int s.2)] [] (μ)) (hv0 : inL Λ v0 0) {r : Int32} (hm : bd_X0_greatestPart_4 N Λ μ k4 v0 v1 v2 v3 = some r) : J x 4 Λ (QI x Λ r μ) 4 [(0, .ref v0), (1, .int v1), (2, .int v2), (3, .int v3)] [] μ := by
  refine j_iload_n C 3 dX0_greatestPart_4 rfl ?_
  refine j_bipush C (v := 31) dX0_greatestPart_5 rfl ?_
  refine j_icmp_ge C (tgt := 32) dX0_greatestPart_7 (by decide) (fun h1 => ?_) (fun h1 => ?_)
  · replace hm := if_t hm h1
    refine j_iload_n C 2 dX0_greatestPart_32 rfl ?_
    obtain rfl := Option.some.inj hm
    exact j_ireti C dX0_greatestPart_33
  · replace hm := if_f hm h1
    refine j_iload_n C 2 dX0_greatestPart_10 rfl ?_
    refine j_aload_n C 0 dX0_greatestPart_11 rfl ?_
    obtain ⟨q2, h3, hm⟩ := bd_some hm
    refine j_getR C fg_X0_21_0 hv0 (dr_spec h3).1 dX0_greatestPart_12 ?_
    refine j_iload_n C 1 dX0_greatestPart_15 rfl ?_
    refine j_bipush C (v := 31) dX0_greatestPart_16 rfl ?_
    refine j_imul C dX0_greatestPart_18 ?_
    refine j_iload_n C 3 dX0_greatestPart_19 rfl ?_
    refine j_iadd C dX0_greatestPart_20 ?_
    obtain ⟨h4, hm⟩ := gd_some hm
    refine j_iald C ((dr_spec h3).2) h4 dX0_greatestPart_21 ?_
    refine j_mmax C wk_1334 ⟨Nat.le_of_ble_eq_true rfl, Nat.le_of_ble_eq_true rfl⟩ dX0_greatestPart_22 ?_
    obtain ⟨y5, e6, hm⟩ := lt_some hm
    refine j_topi e6 ?_
    refine j_istore_n C (lv' := [(2, .int y5), (0, .ref v0), (1, .int v1), (3, .int v3)]) dX0_greatestPart_25 (by decide) rfl ?_
    obtain ⟨y7, e8, hm⟩ := lt_some hm
    refine j_iinc C 3 (v := y7) (lv' := [(3, .int y7), (2, .int y5), (0, .ref v0), (1, .int v1)]) dX0_greatestPart_26 rfl (by rw [e8]; rfl) (by decide) rfl ?_
    refine j_goto C (tgt := 4) dX0_greatestPart_29 (by decide) ?_
    refine j_sub [2, 3, 1, 0] rfl ?_
    exact hk4 (y5, y7) _ hm
set_option maxRecDepth 20000 in
set_option maxHeartbeats 4000000 in
theorem tl_X0_greatestPart_4 {x : Ctx} {Λ : Lay} (C : Cx x cX0_greatestPart 4 (some .int) RX0 Λ rm_X0_greatestPart) (N : Nat) (μ : Mem) (v0 : Nat) (v1 : Int32) (hv0 : inL Λ v0 0) (s : Int32 × Int32) {r : Int32} (hm : lp_X0_greatestPart_4 N Λ μ v0 v1 s = some r) : J x 4 Λ (QI x Λ r μ) 4 [(0, .ref v0), (1, .int v1), (2, .int s.1), (3, .int s.2)] [] (μ) :=
  cw_ind (P := fun s r => J x 4 Λ (QI x Λ r μ) 4 [(0, .ref v0), (1, .int v1), (2, .int s.1), (3, .int s.2)] [] (μ)) (fun k hkk s r e => tb_X0_greatestPart_4 C _ _ _ _ _ _ _ hkk hv0 e) N s r hm
set_option maxRecDepth 20000 in
set_option maxHeartbeats 4000000 in
theorem tm_X0_greatestPart {x : Ctx} {Λ : Lay} (C : Cx x cX0_greatestPart 4 (some .int) RX0 Λ rm_X0_greatestPart) (N : Nat) (μ : Mem) (v0 : Nat) (v1 : Int32) (hv0 : inL Λ v0 0) {r : Int32} (hm : m_X0_greatestPart N Λ μ v0 v1 = some r) : J x 4 Λ (QI x Λ r μ) 0 [(0, .ref v0), (1, .int v1)] [] μ := by
  refine j_iconst C (v := 0) dX0_greatestPart_0 rfl ?_
  refine j_istore_n C (lv' := [(2, .int 0), (0, .ref v0), (1, .int v1)]) dX0_greatestPart_1 (by decide) rfl ?_
  refine j_iconst C (v := 0) dX0_greatestPart_2 rfl ?_
  refine j_istore_n C (lv' := [(3, .int 0), (2, .int 0), (0, .ref v0), (1, .int v1)]) dX0_greatestPart_3 (by decide) rfl ?_
  refine j_sub [2, 3, 1, 0] rfl ?_
  exact tl_X0_greatestPart_4 C _ _ _ _ hv0 (0, 0) hm
set_option maxRecDepth 20000 in
set_option maxHeartbeats 4000000 in
theorem mc_X0_greatestPart (l : Launch) (N : Nat) (Λ : Lay) (μ : Mem) (v0 : Nat) (v1 : Int32) (hv0 : inL Λ v0 0) {r : Int32} (hm : m_X0_greatestPart N Λ μ v0 v1 = some r) : MI l yX0_greatestPart cX0_greatestPart 4 (some .int) rm_X0_greatestPart Λ [.ref v0, .int v1] μ r μ := mi_of rfl (Nat.le_of_ble_eq_true rfl) (fun x C _ => tm_X0_greatestPart C _ _ _ _ hv0 hm)
abbrev rm_X0_bestHour : Room := { frames := 2, cells := 0, slots := 0, locals := 83 }
set_option maxRecDepth 20000 in
set_option maxHeartbeats 4000000 in
theorem tj_X0_bestHour_46 {x : Ctx} {Λ : Lay} (C : Cx x cX0_bestHour 5 (some .int) RX0 Λ rm_X0_bestHour) (N : Nat) (μ : Mem) (k9 : Int32 × Int32 × Int32 → Option (Int32)) (v0 : Nat) (v1 : Int32) (v2 : Int32) (v3 : Int32) (hk9 : ∀ (s : Int32 × Int32 × Int32) (r : Int32), k9 s = some r → J x 5 Λ (QI x Λ r μ) 9 [(0, .ref v0), (1, .int s.1), (2, .int s.2.1), (3, .int s.2.2)] [] (μ)) (hv0 : inL Λ v0 0) {r : Int32} (hm : jn_X0_bestHour_46 N Λ μ k9 v0 v1 v2 v3 = some r) : J x 5 Λ (QI x Λ r μ) 46 [(0, .ref v0), (1, .int v1), (2, .int v2), (3, .int v3)] [] μ := by
  obtain ⟨y1, e2, hm⟩ := lt_some hm
  refine j_iinc C 3 (v := y1) (lv' := [(3, .int y1), (0, .ref v0), (1, .int v1), (2, .int v2)]) dX0_bestHour_46 rfl (by rw [e2]; rfl) (by decide) rfl ?_
  refine j_goto C (tgt := 9) dX0_bestHour_49 (by decide) ?_
  refine j_sub [1, 2, 3, 0] rfl ?_
  exact hk9 (v1, v2, y1) _ hm
set_option maxRecDepth 20000 in
set_option maxHeartbeats 4000000 in
theorem tj_X0_bestHour_41 {x : Ctx} {Λ : Lay} (C : Cx x cX0_bestHour 5 (some .int) RX0 Λ rm_X0_bestHour) (N : Nat) (μ : Mem) (k9 : Int32 × Int32 × Int32 → Option (Int32)) (v0 : Nat) (v3 : Int32) (v4 : Int32) (hk9 : ∀ (s : Int32 × Int32 × Int32) (r : Int32), k9 s = some r → J x 5 Λ (QI x Λ r μ) 9 [(0, .ref v0), (1, .int s.1), (2, .int s.2.1), (3, .int s.2.2)] [] (μ)) (hv0 : inL Λ v0 0) {r : Int32} (hm : jn_X0_bestHour_41 N Λ μ k9 v0 v3 v4 = some r) : J x 5 Λ (QI x Λ r μ) 41 [(0, .ref v0), (3, .int v3), (4, .int v4)] [] μ := by
  refine j_iload_n C 1 dX0_bestHour_41 rfl ?_
  refine j_istore_n C (lv' := [(1, .int v3), (0, .ref v0), (3, .int v3), (4, .int v4)]) dX0_bestHour_42 (by decide) rfl ?_
  refine j_iload C 3 dX0_bestHour_43 rfl ?_
  refine j_istore_n C (lv' := [(2, .int v4), (1, .int v3), (0, .ref v0), (3, .int v3), (4, .int v4)]) dX0_bestHour_45 (by decide) rfl ?_
  refine j_sub [2, 1, 0, 3] rfl ?_
  exact tj_X0_bestHour_46 C _ _ _ _ _ _ _ hk9 hv0 hm
set_option maxRecDepth 20000 in
set_option maxHeartbeats 4000000 in
theorem tj_X0_bestHour_52 {x : Ctx} {Λ : Lay} (C : Cx x cX0_bestHour 5 (some .int) RX0 Λ rm_X0_bestHour) (N : Nat) (μ : Mem) (v1 : Int32) {r : Int32} (hm : jn_X0_bestHour_52 N Λ μ v1 = some r) : J x 5 Λ (QI x Λ r μ) 52 [(1, .int v1)] [] μ := by
  refine j_iload_n C 0 dX0_bestHour_52 rfl ?_
  obtain rfl := Option.some.inj hm
  exact j_ireti C dX0_bestHour_53
set_option maxRecDepth 20000 in
set_option maxHeartbeats 4000000 in
theorem tb_X0_bestHour_9 {x : Ctx} {Λ : Lay} (C : Cx x cX0_bestHour 5 (some .int) RX0 Λ rm_X0_bestHour) (N : Nat) (μ : Mem) (k9 : Int32 × Int32 × Int32 → Option (Int32)) (v0 : Nat) (v1 : Int32) (v2 : Int32) (v3 : Int32) (hk9 : ∀ (s : Int32 × Int32 × Int32) (r : Int32), k9 s = some r → J x 5 Λ (QI x Λ r μ) 9 [(0, .ref v0), (1, .int s.1), (2, .int s.2.1), (3, .int s.2.2)] [] (μ)) (hv0 : inL Λ v0 0) {r : Int32} (hm : bd_X0_bestHour_9 N Λ μ k9 v0 v1 v2 v3 = some r) : J x 5 Λ (QI x Λ r μ) 9 [(0, .ref v0), (1, .int v1), (2, .int v2), (3, .int v3)] [] μ := by
  refine j_iload_n C 3 dX0_bestHour_9 rfl ?_
  refine j_bipush C (v := 12) dX0_bestHour_10 rfl ?_
  refine j_icmp_ge C (tgt := 52) dX0_bestHour_12 (by decide) (fun h1 => ?_) (fun h1 => ?_)
  · replace hm := if_t hm h1
    refine j_sub [1] rfl ?_
    exact tj_X0_bestHour_52 C _ _ _  hm
  · replace hm := if_f hm h1
    refine j_aload_n C 0 dX0_bestHour_15 rfl ?_
    refine j_getI C fg_X0_37_0 hv0 dX0_bestHour_16 ?_
    refine j_iconst C (v := 2) dX0_bestHour_19 rfl ?_
    refine j_icmp_lt C (tgt := 52) dX0_bestHour_20 (by decide) (fun h2 => ?_) (fun h2 => ?_)
    · replace hm := if_t hm h2
      refine j_sub [1] rfl ?_
      exact tj_X0_bestHour_52 C _ _ _  hm
    · replace hm := if_f hm h2
      refine j_aload_n C 0 dX0_bestHour_23 rfl ?_
      refine j_iload_n C 3 dX0_bestHour_24 rfl ?_
      obtain ⟨r3, h4, hm⟩ := bd_some hm
      refine call_I (run_LV C lk_X0_62 ⟨rfl, rfl, Nat.le_of_ble_eq_true rfl, Nat.le_of_ble_eq_true rfl⟩ (As := [.int v3]) hv0 rfl rfl (Nat.le_of_ble_eq_true rfl) dX0_bestHour_25 (mc_X0_greatestPart _ _ _ _ _ _ hv0 h4)) ?_
      refine j_istore C (lv' := [(4, .int r3), (0, .ref v0), (1, .int v1), (2, .int v2), (3, .int v3)]) dX0_bestHour_28 (by decide) rfl ?_
      refine j_iload_n C 2 dX0_bestHour_30 rfl ?_
      refine j_iconst C (v := -1) dX0_bestHour_31 rfl ?_
      refine j_icmp_eq C (tgt := 41) dX0_bestHour_32 (by decide) (fun h5 => ?_) (fun h5 => ?_)
      · replace hm := if_t hm h5
        refine j_sub [1, 4, 0] rfl ?_
        exact tj_X0_bestHour_41 C _ _ _ _ _ _ hk9 hv0 hm
      · replace hm := if_f hm h5
        refine j_iload C 0 dX0_bestHour_35 rfl ?_
        refine j_iload_n C 3 dX0_bestHour_37 rfl ?_
        refine j_icmp_ge C (tgt := 46) dX0_bestHour_38 (by decide) (fun h6 => ?_) (fun h6 => ?_)
        · replace hm := if_t hm h6
          refine j_sub [1, 2, 3, 4] rfl ?_
          exact tj_X0_bestHour_46 C _ _ _ _ _ _ _ hk9 hv0 hm
        · replace hm := if_f hm h6
          refine j_sub [1, 4, 0] rfl ?_
          exact tj_X0_bestHour_41 C _ _ _ _ _ _ hk9 hv0 hm
set_option maxRecDepth 20000 in
set_option maxHeartbeats 4000000 in
theorem tl_X0_bestHour_9 {x : Ctx} {Λ : Lay} (C : Cx x cX0_bestHour 5 (some .int) RX0 Λ rm_X0_bestHour) (N : Nat) (μ : Mem) (v0 : Nat) (hv0 : inL Λ v0 0) (s : Int32 × Int32 × Int32) {r : Int32} (hm : lp_X0_bestHour_9 N Λ μ v0 s = some r) : J x 5 Λ (QI x Λ r μ) 9 [(0, .ref v0), (1, .int s.1), (2, .int s.2.1), (3, .int s.2.2)] [] (μ) :=
  cw_ind (P := fun s r => J x 5 Λ (QI x Λ r μ) 9 [(0, .ref v0), (1, .int s.1), (2, .int s.2.1), (3, .int s.2.2)] [] (μ)) (fun k hkk s r e => tb_X0_bestHour_9 C _ _ _ _ _ _ _ hkk hv0 e) N s r hm
set_option maxRecDepth 20000 in
set_option maxHeartbeats 4000000 in
theorem tm_X0_bestHour {x : Ctx} {Λ : Lay} (C : Cx x cX0_bestHour 5 (some .int) RX0 Λ rm_X0_bestHour) (N : Nat) (μ : Mem) (v0 : Nat) (hv0 : inL Λ v0 0) {r : Int32} (hm : m_X0_bestHour N Λ μ v0 = some r) : J x 5 Λ (QI x Λ r μ) 0 [(0, .ref v0)] [] μ := by
  refine j_iconst C (v := -1) dX0_bestHour_0 rfl ?_
  refine j_istore_n C (lv' := [(1, .int (-1)), (0, .ref v0)]) dX0_bestHour_1 (by decide) rfl ?_
  refine j_aload_n C 1 dX0_bestHour_2 rfl ?_
  refine j_getI C fg_X0_37_0 hv0 dX0_bestHour_3 ?_
  obtain ⟨y1, e2, hm⟩ := lt_some hm
  refine j_topi e2 ?_
  refine j_istore_n C (lv' := [(2, .int y1), (1, .int (-1)), (0, .ref v0)]) dX0_bestHour_6 (by decide) rfl ?_
  refine j_iconst C (v := 0) dX0_bestHour_7 rfl ?_
  refine j_istore_n C (lv' := [(3, .int 0), (2, .int y1), (1, .int (-1)), (0, .ref v0)]) dX0_bestHour_8 (by decide) rfl ?_
  refine j_sub [3, 2, 1, 0] rfl ?_
  exact tl_X0_bestHour_9 C _ _ _ hv0 ((-1), y1, 0) hm
set_option maxRecDepth 20000 in
set_option maxHeartbeats 4000000 in
theorem mc_X0_bestHour (l : Launch) (N : Nat) (Λ : Lay) (μ : Mem) (v0 : Nat) (hv0 : inL Λ v0 0) {r : Int32} (hm : m_X0_bestHour N Λ μ v0 = some r) : MI l yX0_bestHour cX0_bestHour 5 (some .int) rm_X0_bestHour Λ [.ref v0] μ r μ := mi_of rfl (Nat.le_of_ble_eq_true rfl) (fun x C _ => tm_X0_bestHour C _ _ _ hv0 hm)
abbrev rm_X5_remember : Room := { frames := 3, cells := 0, slots := 0, locals := 102 }
set_option maxRecDepth 20000 in
set_option maxHeartbeats 4000000 in
theorem tm_X5_remember {x : Ctx} {Λ : Lay} (C : Cx x cX5_remember 2 none RX5 Λ rm_X5_remember) (N : Nat) (μ : Mem) (v0 : Nat) (v1 : Nat) (hv0 : inL Λ v0 5) (hv1 : inL Λ v1 8) {r : Mem} (hm : m_X5_remember N Λ μ v0 v1 = some r) : J x 2 Λ (QV x Λ r) 0 [(0, .ref v0), (1, .ref v1)] [] μ := by
  refine j_aload_n C 0 dX5_remember_0 rfl ?_
  obtain ⟨q1, h2, hm⟩ := bd_some hm
  refine j_getR C fg_X5_11_5 hv0 (dr_spec h2).1 dX5_remember_1 ?_
  refine j_aload_n C 0 dX5_remember_4 rfl ?_
  refine j_getI C fg_X5_18_5 hv0 dX5_remember_5 ?_
  obtain ⟨h3, hm⟩ := gd_some hm
  obtain ⟨q4, h5, hm⟩ := bd_some hm
  refine j_aald C ((dr_spec h2).2) h3 (dr_spec h5).1 dX5_remember_8 ?_
  refine j_aload_n C 1 dX5_remember_9 rfl ?_
  obtain ⟨r6, h7, hm⟩ := bd_some hm
  refine call_V (run_LV C lk_X5_22 ⟨rfl, rfl, Nat.le_of_ble_eq_true rfl, Nat.le_of_ble_eq_true rfl⟩ (As := [.ref v1]) ((dr_spec h5).2) rfl rfl (Nat.le_of_ble_eq_true rfl) dX5_remember_10 (mc_X9_copy _ _ _ _ _ _ ((dr_spec h5).2) hv1 h7)) ?_
  refine j_aload_n C 0 dX5_remember_13 rfl ?_
  refine j_aload_n C 0 dX5_remember_14 rfl ?_
  refine j_getI C fg_X5_18_5 hv0 dX5_remember_15 ?_
  refine j_iconst C (v := 1) dX5_remember_18 rfl ?_
  refine j_iadd C dX5_remember_19 ?_
  refine j_bipush C (v := 12) dX5_remember_20 rfl ?_
  refine j_irem C dX5_remember_22 (by decide) ?_
  obtain ⟨μ8, e9, hm⟩ := lt_some hm
  refine j_putI C fp_X5_18_5 hv0 e9 dX5_remember_23 ?_
  refine j_aload_n C 0 dX5_remember_26 rfl ?_
  refine j_aload_n C 0 dX5_remember_27 rfl ?_
  refine j_getI C fg_X5_26_5 hv0 dX5_remember_28 ?_
  refine j_iconst C (v := 1) dX5_remember_31 rfl ?_
  refine j_iadd C dX5_remember_32 ?_
  refine j_bipush C (v := 12) dX5_remember_33 rfl ?_
  refine j_mmin C wk_1178 ⟨Nat.le_of_ble_eq_true rfl, Nat.le_of_ble_eq_true rfl⟩ dX5_remember_35 ?_
  obtain ⟨μ10, e11, hm⟩ := lt_some hm
  refine j_putI C fp_X5_26_5 hv0 e11 dX5_remember_38 ?_
  obtain rfl := Option.some.inj hm
  exact j_vret C dX5_remember_41
set_option maxRecDepth 20000 in
set_option maxHeartbeats 4000000 in
theorem mc_X5_remember (l : Launch) (N : Nat) (Λ : Lay) (μ : Mem) (v0 : Nat) (v1 : Nat) (hv0 : inL Λ v0 5) (hv1 : inL Λ v1 8) {r : Mem} (hm : m_X5_remember N Λ μ v0 v1 = some r) : MV l yX5_remember cX5_remember 2 rm_X5_remember Λ [.ref v0, .ref v1] μ r := mv_of rfl (Nat.le_of_ble_eq_true rfl) (fun x C _ => tm_X5_remember C _ _ _ _ hv0 hv1 hm)
abbrev rm_X5_recall : Room := { frames := 3, cells := 0, slots := 0, locals := 102 }
set_option maxRecDepth 20000 in
set_option maxHeartbeats 4000000 in
theorem tm_X5_recall {x : Ctx} {Λ : Lay} (C : Cx x cX5_recall 2 (some .boolean) RX5 Λ rm_X5_recall) (N : Nat) (μ : Mem) (v0 : Nat) (v1 : Nat) (hv0 : inL Λ v0 5) (hv1 : inL Λ v1 8) {r : Int32 × Mem} (hm : m_X5_recall N Λ μ v0 v1 = some r) : J x 2 Λ (QI x Λ r.1 r.2) 0 [(0, .ref v0), (1, .ref v1)] [] μ := by
  refine j_aload_n C 0 dX5_recall_0 rfl ?_
  refine j_getI C fg_X5_26_5 hv0 dX5_recall_1 ?_
  refine j_if_ne C (tgt := 9) dX5_recall_4 (by decide) (fun h1 => ?_) (fun h1 => ?_)
  · replace hm := if_f hm h1
    refine j_aload_n C 0 dX5_recall_9 rfl ?_
    refine j_aload_n C 0 dX5_recall_10 rfl ?_
    refine j_getI C fg_X5_18_5 hv0 dX5_recall_11 ?_
    refine j_bipush C (v := 12) dX5_recall_14 rfl ?_
    refine j_iadd C dX5_recall_16 ?_
    refine j_iconst C (v := 1) dX5_recall_17 rfl ?_
    refine j_isub C dX5_recall_18 ?_
    refine j_bipush C (v := 12) dX5_recall_19 rfl ?_
    refine j_irem C dX5_recall_21 (by decide) ?_
    obtain ⟨μ2, e3, hm⟩ := lt_some hm
    refine j_putI C fp_X5_18_5 hv0 e3 dX5_recall_22 ?_
    refine j_aload_n C 0 dX5_recall_25 rfl ?_
    refine j_dup C dX5_recall_26 rfl ?_
    refine j_getI C fg_X5_26_5 hv0 dX5_recall_27 ?_
    refine j_iconst C (v := 1) dX5_recall_30 rfl ?_
    refine j_isub C dX5_recall_31 ?_
    obtain ⟨μ4, e5, hm⟩ := lt_some hm
    refine j_putI C fp_X5_26_5 hv0 e5 dX5_recall_32 ?_
    refine j_aload_n C 1 dX5_recall_35 rfl ?_
    refine j_aload_n C 0 dX5_recall_36 rfl ?_
    obtain ⟨q6, h7, hm⟩ := bd_some hm
    refine j_getR C fg_X5_11_5 hv0 (dr_spec h7).1 dX5_recall_37 ?_
    refine j_aload_n C 0 dX5_recall_40 rfl ?_
    refine j_getI C fg_X5_18_5 hv0 dX5_recall_41 ?_
    obtain ⟨h8, hm⟩ := gd_some hm
    obtain ⟨q9, h10, hm⟩ := bd_some hm
    refine j_aald C ((dr_spec h7).2) h8 (dr_spec h10).1 dX5_recall_44 ?_
    obtain ⟨r11, h12, hm⟩ := bd_some hm
    refine call_V (run_LV C lk_X5_22 ⟨rfl, rfl, Nat.le_of_ble_eq_true rfl, Nat.le_of_ble_eq_true rfl⟩ (As := [.ref q9]) hv1 rfl rfl (Nat.le_of_ble_eq_true rfl) dX5_recall_45 (mc_X9_copy _ _ _ _ _ _ hv1 ((dr_spec h10).2) h12)) ?_
    refine j_iconst C (v := 1) dX5_recall_48 rfl ?_
    obtain rfl := Option.some.inj hm
    exact j_iretz C rfl dX5_recall_49
  · replace hm := if_t hm h1
    refine j_iconst C (v := 0) dX5_recall_7 rfl ?_
    obtain rfl := Option.some.inj hm
    exact j_iretz C rfl dX5_recall_8
set_option maxRecDepth 20000 in
set_option maxHeartbeats 4000000 in
theorem mc_X5_recall (l : Launch) (N : Nat) (Λ : Lay) (μ : Mem) (v0 : Nat) (v1 : Nat) (hv0 : inL Λ v0 5) (hv1 : inL Λ v1 8) {r : Int32 × Mem} (hm : m_X5_recall N Λ μ v0 v1 = some r) : MI l yX5_recall cX5_recall 2 (some .boolean) rm_X5_recall Λ [.ref v0, .ref v1] μ r.1 r.2 := mi_of rfl (Nat.le_of_ble_eq_true rfl) (fun x C _ => tm_X5_recall C _ _ _ _ hv0 hv1 hm)
abbrev rm_X5_forget : Room := { frames := 0, cells := 0, slots := 0, locals := 0 }
set_option maxRecDepth 20000 in
set_option maxHeartbeats 4000000 in
theorem tm_X5_forget {x : Ctx} {Λ : Lay} (C : Cx x cX5_forget 1 none RX5 Λ rm_X5_forget) (N : Nat) (μ : Mem) (v0 : Nat) (hv0 : inL Λ v0 5) {r : Mem} (hm : m_X5_forget N Λ μ v0 = some r) : J x 1 Λ (QV x Λ r) 0 [(0, .ref v0)] [] μ := by
  refine j_aload_n C 0 dX5_forget_0 rfl ?_
  refine j_iconst C (v := 0) dX5_forget_1 rfl ?_
  obtain ⟨μ1, e2, hm⟩ := lt_some hm
  refine j_putI C fp_X5_26_5 hv0 e2 dX5_forget_2 ?_
  obtain rfl := Option.some.inj hm
  exact j_vret C dX5_forget_5
set_option maxRecDepth 20000 in
set_option maxHeartbeats 4000000 in
theorem mc_X5_forget (l : Launch) (N : Nat) (Λ : Lay) (μ : Mem) (v0 : Nat) (hv0 : inL Λ v0 5) {r : Mem} (hm : m_X5_forget N Λ μ v0 = some r) : MV l yX5_forget cX5_forget 1 rm_X5_forget Λ [.ref v0] μ r := mv_of rfl (Nat.le_of_ble_eq_true rfl) (fun x C _ => tm_X5_forget C _ _ _ hv0 hm)
abbrev rm_X8_read : Room := { frames := 1, cells := 0, slots := 0, locals := 21 }
set_option maxRecDepth 20000 in
set_option maxHeartbeats 4000000 in
theorem tj_X8_read_23 {x : Ctx} {Λ : Lay} (C : Cx x cX8_read 3 (some .boolean) RX8 Λ rm_X8_read) (N : Nat) (μ : Mem) {r : Int32 × Mem} (hm : jn_X8_read_23 N Λ μ = some r) : J x 3 Λ (QI x Λ r.1 r.2) 23 [] [] μ := by
  refine j_iconst C (v := 0) dX8_read_23 rfl ?_
  obtain rfl := Option.some.inj hm
  exact j_iretz C rfl dX8_read_24
set_option maxRecDepth 20000 in
set_option maxHeartbeats 4000000 in
theorem tj_X8_read_56 {x : Ctx} {Λ : Lay} (C : Cx x cX8_read 3 (some .boolean) RX8 Λ rm_X8_read) (N : Nat) (μ : Mem) {r : Int32 × Mem} (hm : jn_X8_read_56 N Λ μ = some r) : J x 3 Λ (QI x Λ r.1 r.2) 56 [] [] μ := by
  refine j_iconst C (v := 0) dX8_read_56 rfl ?_
  obtain rfl := Option.some.inj hm
  exact j_iretz C rfl dX8_read_57
set_option maxRecDepth 20000 in
set_option maxHeartbeats 4000000 in
theorem tj_X8_read_96 {x : Ctx} {Λ : Lay} (C : Cx x cX8_read 3 (some .boolean) RX8 Λ rm_X8_read) (N : Nat) (μ : Mem) (k27 : Int32 × Mem → Option (Int32 × Mem)) (v0 : Nat) (v1 : Nat) (v2 : Int32) (s0 : Nat) (s1 : Int32) (s2 : Int32) (hk27 : ∀ (s : Int32 × Mem) (r : Int32 × Mem), k27 s = some r → J x 3 Λ (QI x Λ r.1 r.2) 27 [(0, .ref v0), (1, .ref v1), (2, .int s.1)] [] (s.2)) (hv0 : inL Λ v0 7) (hv1 : inL Λ v1 9) (hs0 : inL Λ s0 15) {r : Int32 × Mem} (hm : jn_X8_read_96 N Λ μ k27 v0 v1 v2 s0 s1 s2 = some r) : J x 3 Λ (QI x Λ r.1 r.2) 96 [(0, .ref v0), (1, .ref v1), (2, .int v2)] [.int s2, .int s1, .ref s0] μ := by
  obtain ⟨h1, hm⟩ := gd_some hm
  obtain ⟨μ2, e3, hm⟩ := lt_some hm
  refine j_zast C hs0 h1 e3 dX8_read_96 ?_
  refine j_aload_n C 0 dX8_read_97 rfl ?_
  refine j_dup C dX8_read_98 rfl ?_
  refine j_getI C fg_X8_22_7 hv0 dX8_read_99 ?_
  refine j_iconst C (v := 1) dX8_read_102 rfl ?_
  refine j_iadd C dX8_read_103 ?_
  obtain ⟨μ4, e5, hm⟩ := lt_some hm
  refine j_putI C fp_X8_22_7 hv0 e5 dX8_read_104 ?_
  obtain ⟨y6, e7, hm⟩ := lt_some hm
  refine j_iinc C 2 (v := y6) (lv' := [(2, .int y6), (0, .ref v0), (1, .ref v1)]) dX8_read_107 rfl (by rw [e7]; rfl) (by decide) rfl ?_
  refine j_goto C (tgt := 27) dX8_read_110 (by decide) ?_
  refine j_sub [1, 2, 0] rfl ?_
  exact hk27 (y6, μ4) _ hm
set_option maxRecDepth 20000 in
set_option maxHeartbeats 4000000 in
theorem tb_X8_read_27 {x : Ctx} {Λ : Lay} (C : Cx x cX8_read 3 (some .boolean) RX8 Λ rm_X8_read) (N : Nat) (μ : Mem) (k27 : Int32 × Mem → Option (Int32 × Mem)) (v0 : Nat) (v1 : Nat) (v2 : Int32) (hk27 : ∀ (s : Int32 × Mem) (r : Int32 × Mem), k27 s = some r → J x 3 Λ (QI x Λ r.1 r.2) 27 [(0, .ref v0), (1, .ref v1), (2, .int s.1)] [] (s.2)) (hv0 : inL Λ v0 7) (hv1 : inL Λ v1 9) {r : Int32 × Mem} (hm : bd_X8_read_27 N Λ μ k27 v0 v1 v2 = some r) : J x 3 Λ (QI x Λ r.1 r.2) 27 [(0, .ref v0), (1, .ref v1), (2, .int v2)] [] μ := by
  refine j_iload_n C 2 dX8_read_27 rfl ?_
  refine j_aload_n C 1 dX8_read_28 rfl ?_
  refine j_getI C fg_X8_26_9 hv1 dX8_read_29 ?_
  refine j_icmp_ge C (tgt := 113) dX8_read_32 (by decide) (fun h1 => ?_) (fun h1 => ?_)
  · replace hm := if_t hm h1
    refine j_iconst C (v := 1) dX8_read_113 rfl ?_
    obtain rfl := Option.some.inj hm
    exact j_iretz C rfl dX8_read_114
  · replace hm := if_f hm h1
    refine j_aload_n C 1 dX8_read_35 rfl ?_
    refine j_iload_n C 2 dX8_read_36 rfl ?_
    obtain ⟨r2, h3, hm⟩ := bd_some hm
    refine call_I (run_LV C lk_X8_31 ⟨rfl, rfl, Nat.le_of_ble_eq_true rfl, Nat.le_of_ble_eq_true rfl⟩ (As := [.int v2]) hv1 rfl rfl (Nat.le_of_ble_eq_true rfl) dX8_read_37 (mc_X10_sign _ _ _ _ _ _ hv1 h3)) ?_
    refine j_bipush C (v := 24) dX8_read_40 rfl ?_
    refine j_icmp_ge C (tgt := 56) dX8_read_42 (by decide) (fun h4 => ?_) (fun h4 => ?_)
    · replace hm := if_t hm h4
      refine j_sub [] rfl ?_
      exact tj_X8_read_56 C _ _  hm
    · replace hm := if_f hm h4
      refine j_aload_n C 1 dX8_read_45 rfl ?_
      refine j_iload_n C 2 dX8_read_46 rfl ?_
      refine j_iconst C (v := 1) dX8_read_47 rfl ?_
      refine j_iadd C dX8_read_48 ?_
      obtain ⟨r5, h6, hm⟩ := bd_some hm
      refine call_I (run_LV C lk_X8_31 ⟨rfl, rfl, Nat.le_of_ble_eq_true rfl, Nat.le_of_ble_eq_true rfl⟩ (As := [.int (v2 + 1)]) hv1 rfl rfl (Nat.le_of_ble_eq_true rfl) dX8_read_49 (mc_X10_sign _ _ _ _ _ _ hv1 h6)) ?_
      refine j_iconst C (v := 1) dX8_read_52 rfl ?_
      refine j_icmp_le C (tgt := 58) dX8_read_53 (by decide) (fun h7 => ?_) (fun h7 => ?_)
      · replace hm := if_t hm h7
        refine j_aload_n C 0 dX8_read_58 rfl ?_
        obtain ⟨q8, h9, hm⟩ := bd_some hm
        refine j_getR C fg_X8_9_7 hv0 (dr_spec h9).1 dX8_read_59 ?_
        refine j_aload_n C 0 dX8_read_62 rfl ?_
        refine j_getI C fg_X8_22_7 hv0 dX8_read_63 ?_
        refine j_aload_n C 1 dX8_read_66 rfl ?_
        refine j_iload_n C 2 dX8_read_67 rfl ?_
        obtain ⟨r10, h11, hm⟩ := bd_some hm
        refine call_I (run_LV C lk_X8_31 ⟨rfl, rfl, Nat.le_of_ble_eq_true rfl, Nat.le_of_ble_eq_true rfl⟩ (As := [.int v2]) hv1 rfl rfl (Nat.le_of_ble_eq_true rfl) dX8_read_68 (mc_X10_sign _ _ _ _ _ _ hv1 h11)) ?_
        obtain ⟨h12, hm⟩ := gd_some hm
        obtain ⟨μ13, e14, hm⟩ := lt_some hm
        refine j_iast C ((dr_spec h9).2) h12 e14 dX8_read_71 ?_
        refine j_aload_n C 0 dX8_read_72 rfl ?_
        obtain ⟨q15, h16, hm⟩ := bd_some hm
        refine j_getR C fg_X8_15_7 hv0 (dr_spec h16).1 dX8_read_73 ?_
        refine j_aload_n C 0 dX8_read_76 rfl ?_
        refine j_getI C fg_X8_22_7 hv0 dX8_read_77 ?_
        refine j_aload_n C 1 dX8_read_80 rfl ?_
        refine j_iload_n C 2 dX8_read_81 rfl ?_
        refine j_iconst C (v := 1) dX8_read_82 rfl ?_
        refine j_iadd C dX8_read_83 ?_
        obtain ⟨r17, h18, hm⟩ := bd_some hm
        refine call_I (run_LV C lk_X8_31 ⟨rfl, rfl, Nat.le_of_ble_eq_true rfl, Nat.le_of_ble_eq_true rfl⟩ (As := [.int (v2 + 1)]) hv1 rfl rfl (Nat.le_of_ble_eq_true rfl) dX8_read_84 (mc_X10_sign _ _ _ _ _ _ hv1 h18)) ?_
        refine j_iconst C (v := 1) dX8_read_87 rfl ?_
        refine j_icmp_ne C (tgt := 95) dX8_read_88 (by decide) (fun h19 => ?_) (fun h19 => ?_)
        · replace hm := if_f hm h19
          refine j_iconst C (v := 0) dX8_read_95 rfl ?_
          exact tj_X8_read_96 C _ _ _ _ _ _ _ _ _ hk27 hv0 hv1 ((dr_spec h16).2) hm
        · replace hm := if_t hm h19
          refine j_iconst C (v := 1) dX8_read_91 rfl ?_
          refine j_goto C (tgt := 96) dX8_read_92 (by decide) ?_
          exact tj_X8_read_96 C _ _ _ _ _ _ _ _ _ hk27 hv0 hv1 ((dr_spec h16).2) hm
      · replace hm := if_f hm h7
        refine j_sub [] rfl ?_
        exact tj_X8_read_56 C _ _  hm
set_option maxRecDepth 20000 in
set_option maxHeartbeats 4000000 in
theorem tl_X8_read_27 {x : Ctx} {Λ : Lay} (C : Cx x cX8_read 3 (some .boolean) RX8 Λ rm_X8_read) (N : Nat) (v0 : Nat) (v1 : Nat) (hv0 : inL Λ v0 7) (hv1 : inL Λ v1 9) (s : Int32 × Mem) {r : Int32 × Mem} (hm : lp_X8_read_27 N Λ v0 v1 s = some r) : J x 3 Λ (QI x Λ r.1 r.2) 27 [(0, .ref v0), (1, .ref v1), (2, .int s.1)] [] (s.2) :=
  cw_ind (P := fun s r => J x 3 Λ (QI x Λ r.1 r.2) 27 [(0, .ref v0), (1, .ref v1), (2, .int s.1)] [] (s.2)) (fun k hkk s r e => tb_X8_read_27 C _ _ _ _ _ _ hkk hv0 hv1 e) N s r hm
set_option maxRecDepth 20000 in
set_option maxHeartbeats 4000000 in
theorem tm_X8_read {x : Ctx} {Λ : Lay} (C : Cx x cX8_read 3 (some .boolean) RX8 Λ rm_X8_read) (N : Nat) (μ : Mem) (v0 : Nat) (v1 : Nat) (hv0 : inL Λ v0 7) (hv1 : inL Λ v1 9) {r : Int32 × Mem} (hm : m_X8_read N Λ μ v0 v1 = some r) : J x 3 Λ (QI x Λ r.1 r.2) 0 [(0, .ref v0), (1, .ref v1)] [] μ := by
  refine j_aload_n C 0 dX8_read_0 rfl ?_
  refine j_iconst C (v := 0) dX8_read_1 rfl ?_
  obtain ⟨μ1, e2, hm⟩ := lt_some hm
  refine j_putI C fp_X8_22_7 hv0 e2 dX8_read_2 ?_
  refine j_aload_n C 1 dX8_read_5 rfl ?_
  refine j_getI C fg_X8_26_9 hv1 dX8_read_6 ?_
  refine j_bipush C (v := 40) dX8_read_9 rfl ?_
  refine j_icmp_gt C (tgt := 23) dX8_read_11 (by decide) (fun h3 => ?_) (fun h3 => ?_)
  · replace hm := if_t hm h3
    refine j_sub [] rfl ?_
    exact tj_X8_read_23 C _ _  hm
  · replace hm := if_f hm h3
    refine j_aload_n C 1 dX8_read_14 rfl ?_
    refine j_getI C fg_X8_26_9 hv1 dX8_read_15 ?_
    refine j_iconst C (v := 2) dX8_read_18 rfl ?_
    refine j_irem C dX8_read_19 (by decide) ?_
    refine j_if_eq C (tgt := 25) dX8_read_20 (by decide) (fun h4 => ?_) (fun h4 => ?_)
    · replace hm := if_t hm h4
      refine j_iconst C (v := 0) dX8_read_25 rfl ?_
      refine j_istore_n C (lv' := [(2, .int 0), (0, .ref v0), (1, .ref v1)]) dX8_read_26 (by decide) rfl ?_
      refine j_sub [1, 2, 0] rfl ?_
      exact tl_X8_read_27 C _ _ _ hv0 hv1 (0, μ1) hm
    · replace hm := if_f hm h4
      refine j_sub [] rfl ?_
      exact tj_X8_read_23 C _ _  hm
set_option maxRecDepth 20000 in
set_option maxHeartbeats 4000000 in
theorem mc_X8_read (l : Launch) (N : Nat) (Λ : Lay) (μ : Mem) (v0 : Nat) (v1 : Nat) (hv0 : inL Λ v0 7) (hv1 : inL Λ v1 9) {r : Int32 × Mem} (hm : m_X8_read N Λ μ v0 v1 = some r) : MI l yX8_read cX8_read 3 (some .boolean) rm_X8_read Λ [.ref v0, .ref v1] μ r.1 r.2 := mi_of rfl (Nat.le_of_ble_eq_true rfl) (fun x C _ => tm_X8_read C _ _ _ _ hv0 hv1 hm)
abbrev rm_X8_wrongRows : Room := { frames := 0, cells := 0, slots := 0, locals := 0 }
set_option maxRecDepth 20000 in
set_option maxHeartbeats 4000000 in
theorem tj_X8_wrongRows_60 {x : Ctx} {Λ : Lay} (C : Cx x cX8_wrongRows 6 (some .int) RX8 Λ rm_X8_wrongRows) (N : Nat) (μ : Mem) (k5 : Int32 × Int32 → Option (Int32)) (v0 : Nat) (v1 : Int32) (v2 : Int32) (v3 : Int32) (v4 : Int32) (hk5 : ∀ (s : Int32 × Int32) (r : Int32), k5 s = some r → J x 6 Λ (QI x Λ r μ) 5 [(0, .ref v0), (1, .int v1), (2, .int v2), (3, .int s.1), (4, .int s.2)] [] (μ)) (hv0 : inL Λ v0 7) {r : Int32} (hm : jn_X8_wrongRows_60 N Λ μ k5 v0 v1 v2 v3 v4 = some r) : J x 6 Λ (QI x Λ r μ) 60 [(0, .ref v0), (1, .int v1), (2, .int v2), (3, .int v3), (4, .int v4)] [] μ := by
  obtain ⟨y1, e2, hm⟩ := lt_some hm
  refine j_iinc C 4 (v := y1) (lv' := [(4, .int y1), (0, .ref v0), (1, .int v1), (2, .int v2), (3, .int v3)]) dX8_wrongRows_60 rfl (by rw [e2]; rfl) (by decide) rfl ?_
  refine j_goto C (tgt := 5) dX8_wrongRows_63 (by decide) ?_
  refine j_sub [1, 2, 3, 4, 0] rfl ?_
  exact hk5 (v3, y1) _ hm
set_option maxRecDepth 20000 in
set_option maxHeartbeats 4000000 in
theorem tj_X8_wrongRows_43 {x : Ctx} {Λ : Lay} (C : Cx x cX8_wrongRows 6 (some .int) RX8 Λ rm_X8_wrongRows) (N : Nat) (μ : Mem) (k5 : Int32 × Int32 → Option (Int32)) (v0 : Nat) (v1 : Int32) (v2 : Int32) (v3 : Int32) (v4 : Int32) (s0 : Int32) (hk5 : ∀ (s : Int32 × Int32) (r : Int32), k5 s = some r → J x 6 Λ (QI x Λ r μ) 5 [(0, .ref v0), (1, .int v1), (2, .int v2), (3, .int s.1), (4, .int s.2)] [] (μ)) (hv0 : inL Λ v0 7) {r : Int32} (hm : jn_X8_wrongRows_43 N Λ μ k5 v0 v1 v2 v3 v4 s0 = some r) : J x 6 Λ (QI x Λ r μ) 43 [(0, .ref v0), (1, .int v1), (2, .int v2), (3, .int v3), (4, .int v4)] [.int s0] μ := by
  refine j_istore C (lv' := [(5, .int s0), (0, .ref v0), (1, .int v1), (2, .int v2), (3, .int v3), (4, .int v4)]) dX8_wrongRows_43 (by decide) rfl ?_
  refine j_iload C 0 dX8_wrongRows_45 rfl ?_
  refine j_aload_n C 1 dX8_wrongRows_47 rfl ?_
  obtain ⟨q1, h2, hm⟩ := bd_some hm
  refine j_getR C fg_X8_15_7 hv0 (dr_spec h2).1 dX8_wrongRows_48 ?_
  refine j_iload C 5 dX8_wrongRows_51 rfl ?_
  obtain ⟨h3, hm⟩ := gd_some hm
  refine j_zald C ((dr_spec h2).2) h3 dX8_wrongRows_53 ?_
  refine j_icmp_eq C (tgt := 60) dX8_wrongRows_54 (by decide) (fun h4 => ?_) (fun h4 => ?_)
  · replace hm := if_t hm h4
    refine j_sub [1, 2, 3, 4, 5] rfl ?_
    exact tj_X8_wrongRows_60 C _ _ _ _ _ _ _ _ hk5 hv0 hm
  · replace hm := if_f hm h4
    obtain ⟨y5, e6, hm⟩ := lt_some hm
    refine j_iinc C 4 (v := y5) (lv' := [(3, .int y5), (5, .int s0), (0, .ref v0), (1, .int v1), (2, .int v2), (4, .int v4)]) dX8_wrongRows_57 rfl (by rw [e6]; rfl) (by decide) rfl ?_
    refine j_sub [2, 3, 4, 0, 5] rfl ?_
    exact tj_X8_wrongRows_60 C _ _ _ _ _ _ _ _ hk5 hv0 hm
set_option maxRecDepth 20000 in
set_option maxHeartbeats 4000000 in
theorem tj_X8_wrongRows_42 {x : Ctx} {Λ : Lay} (C : Cx x cX8_wrongRows 6 (some .int) RX8 Λ rm_X8_wrongRows) (N : Nat) (μ : Mem) (k5 : Int32 × Int32 → Option (Int32)) (v0 : Nat) (v1 : Int32) (v2 : Int32) (v3 : Int32) (v4 : Int32) (hk5 : ∀ (s : Int32 × Int32) (r : Int32), k5 s = some r → J x 6 Λ (QI x Λ r μ) 5 [(0, .ref v0), (1, .int v1), (2, .int v2), (3, .int s.1), (4, .int s.2)] [] (μ)) (hv0 : inL Λ v0 7) {r : Int32} (hm : jn_X8_wrongRows_42 N Λ μ k5 v0 v1 v2 v3 v4 = some r) : J x 6 Λ (QI x Λ r μ) 42 [(0, .ref v0), (1, .int v1), (2, .int v2), (3, .int v3), (4, .int v4)] [] μ := by
  refine j_iconst C (v := 0) dX8_wrongRows_42 rfl ?_
  exact tj_X8_wrongRows_43 C _ _ _ _ _ _ _ _ _ hk5 hv0 hm
set_option maxRecDepth 20000 in
set_option maxHeartbeats 4000000 in
theorem tb_X8_wrongRows_5 {x : Ctx} {Λ : Lay} (C : Cx x cX8_wrongRows 6 (some .int) RX8 Λ rm_X8_wrongRows) (N : Nat) (μ : Mem) (k5 : Int32 × Int32 → Option (Int32)) (v0 : Nat) (v1 : Int32) (v2 : Int32) (v3 : Int32) (v4 : Int32) (hk5 : ∀ (s : Int32 × Int32) (r : Int32), k5 s = some r → J x 6 Λ (QI x Λ r μ) 5 [(0, .ref v0), (1, .int v1), (2, .int v2), (3, .int s.1), (4, .int s.2)] [] (μ)) (hv0 : inL Λ v0 7) {r : Int32} (hm : bd_X8_wrongRows_5 N Λ μ k5 v0 v1 v2 v3 v4 = some r) : J x 6 Λ (QI x Λ r μ) 5 [(0, .ref v0), (1, .int v1), (2, .int v2), (3, .int v3), (4, .int v4)] [] μ := by
  refine j_iload C 4 dX8_wrongRows_5 rfl ?_
  refine j_aload_n C 0 dX8_wrongRows_7 rfl ?_
  refine j_getI C fg_X8_22_7 hv0 dX8_wrongRows_8 ?_
  refine j_icmp_ge C (tgt := 66) dX8_wrongRows_11 (by decide) (fun h1 => ?_) (fun h1 => ?_)
  · replace hm := if_t hm h1
    refine j_iload_n C 3 dX8_wrongRows_66 rfl ?_
    obtain rfl := Option.some.inj hm
    exact j_ireti C dX8_wrongRows_67
  · replace hm := if_f hm h1
    refine j_aload_n C 0 dX8_wrongRows_14 rfl ?_
    obtain ⟨q2, h3, hm⟩ := bd_some hm
    refine j_getR C fg_X8_9_7 hv0 (dr_spec h3).1 dX8_wrongRows_15 ?_
    refine j_iload C 4 dX8_wrongRows_18 rfl ?_
    obtain ⟨h4, hm⟩ := gd_some hm
    refine j_iald C ((dr_spec h3).2) h4 dX8_wrongRows_20 ?_
    refine j_iload_n C 1 dX8_wrongRows_21 rfl ?_
    refine j_icmp_lt C (tgt := 42) dX8_wrongRows_22 (by decide) (fun h5 => ?_) (fun h5 => ?_)
    · replace hm := if_t hm h5
      exact tj_X8_wrongRows_42 C _ _ _ _ _ _ _ _ hk5 hv0 hm
    · replace hm := if_f hm h5
      refine j_aload_n C 0 dX8_wrongRows_25 rfl ?_
      obtain ⟨q6, h7, hm⟩ := bd_some hm
      refine j_getR C fg_X8_9_7 hv0 (dr_spec h7).1 dX8_wrongRows_26 ?_
      refine j_iload C 4 dX8_wrongRows_29 rfl ?_
      obtain ⟨h8, hm⟩ := gd_some hm
      refine j_iald C ((dr_spec h7).2) h8 dX8_wrongRows_31 ?_
      refine j_iload_n C 1 dX8_wrongRows_32 rfl ?_
      refine j_iload_n C 2 dX8_wrongRows_33 rfl ?_
      refine j_iadd C dX8_wrongRows_34 ?_
      refine j_icmp_ge C (tgt := 42) dX8_wrongRows_35 (by decide) (fun h9 => ?_) (fun h9 => ?_)
      · replace hm := if_t hm h9
        exact tj_X8_wrongRows_42 C _ _ _ _ _ _ _ _ hk5 hv0 hm
      · replace hm := if_f hm h9
        refine j_iconst C (v := 1) dX8_wrongRows_38 rfl ?_
        refine j_goto C (tgt := 43) dX8_wrongRows_39 (by decide) ?_
        exact tj_X8_wrongRows_43 C _ _ _ _ _ _ _ _ _ hk5 hv0 hm
set_option maxRecDepth 20000 in
set_option maxHeartbeats 4000000 in
theorem tl_X8_wrongRows_5 {x : Ctx} {Λ : Lay} (C : Cx x cX8_wrongRows 6 (some .int) RX8 Λ rm_X8_wrongRows) (N : Nat) (μ : Mem) (v0 : Nat) (v1 : Int32) (v2 : Int32) (hv0 : inL Λ v0 7) (s : Int32 × Int32) {r : Int32} (hm : lp_X8_wrongRows_5 N Λ μ v0 v1 v2 s = some r) : J x 6 Λ (QI x Λ r μ) 5 [(0, .ref v0), (1, .int v1), (2, .int v2), (3, .int s.1), (4, .int s.2)] [] (μ) :=
  cw_ind (P := fun s r => J x 6 Λ (QI x Λ r μ) 5 [(0, .ref v0), (1, .int v1), (2, .int v2), (3, .int s.1), (4, .int s.2)] [] (μ)) (fun k hkk s r e => tb_X8_wrongRows_5 C _ _ _ _ _ _ _ _ hkk hv0 e) N s r hm
set_option maxRecDepth 20000 in
set_option maxHeartbeats 4000000 in
theorem tm_X8_wrongRows {x : Ctx} {Λ : Lay} (C : Cx x cX8_wrongRows 6 (some .int) RX8 Λ rm_X8_wrongRows) (N : Nat) (μ : Mem) (v0 : Nat) (v1 : Int32) (v2 : Int32) (hv0 : inL Λ v0 7) {r : Int32} (hm : m_X8_wrongRows N Λ μ v0 v1 v2 = some r) : J x 6 Λ (QI x Λ r μ) 0 [(0, .ref v0), (1, .int v1), (2, .int v2)] [] μ := by
  refine j_iconst C (v := 0) dX8_wrongRows_0 rfl ?_
  refine j_istore_n C (lv' := [(3, .int 0), (0, .ref v0), (1, .int v1), (2, .int v2)]) dX8_wrongRows_1 (by decide) rfl ?_
  refine j_iconst C (v := 0) dX8_wrongRows_2 rfl ?_
  refine j_istore C (lv' := [(4, .int 0), (3, .int 0), (0, .ref v0), (1, .int v1), (2, .int v2)]) dX8_wrongRows_3 (by decide) rfl ?_
  refine j_sub [2, 3, 4, 1, 0] rfl ?_
  exact tl_X8_wrongRows_5 C _ _ _ _ _ hv0 (0, 0) hm
set_option maxRecDepth 20000 in
set_option maxHeartbeats 4000000 in
theorem mc_X8_wrongRows (l : Launch) (N : Nat) (Λ : Lay) (μ : Mem) (v0 : Nat) (v1 : Int32) (v2 : Int32) (hv0 : inL Λ v0 7) {r : Int32} (hm : m_X8_wrongRows N Λ μ v0 v1 v2 = some r) : MI l yX8_wrongRows cX8_wrongRows 6 (some .int) rm_X8_wrongRows Λ [.ref v0, .int v1, .int v2] μ r μ := mi_of rfl (Nat.le_of_ble_eq_true rfl) (fun x C _ => tm_X8_wrongRows C _ _ _ _ _ hv0 hm)
abbrev rm_X8_weigh : Room := { frames := 1, cells := 0, slots := 0, locals := 25 }
set_option maxRecDepth 20000 in
set_option maxHeartbeats 4000000 in
theorem tj_X8_weigh_83 {x : Ctx} {Λ : Lay} (C : Cx x cX8_weigh 5 none RX8 Λ rm_X8_weigh) (N : Nat) (μ : Mem) {r : Mem} (hm : jn_X8_weigh_83 N Λ μ = some r) : J x 5 Λ (QV x Λ r) 83 [] [] μ := by
  obtain rfl := Option.some.inj hm
  exact j_vret C dX8_weigh_83
set_option maxRecDepth 20000 in
set_option maxHeartbeats 4000000 in
theorem tb_X8_weigh_51 {x : Ctx} {Λ : Lay} (C : Cx x cX8_weigh 5 none RX8 Λ rm_X8_weigh) (N : Nat) (μ : Mem) (k51 : Int32 × Mem → Option (Mem)) (v0 : Nat) (v1 : Int32) (v2 : Int32) (v4 : Int32) (hk51 : ∀ (s : Int32 × Mem) (r : Mem), k51 s = some r → J x 5 Λ (QV x Λ r) 51 [(0, .ref v0), (1, .int v1), (2, .int v2), (4, .int s.1)] [] (s.2)) (hv0 : inL Λ v0 7) {r : Mem} (hm : bd_X8_weigh_51 N Λ μ k51 v0 v1 v2 v4 = some r) : J x 5 Λ (QV x Λ r) 51 [(0, .ref v0), (1, .int v1), (2, .int v2), (4, .int v4)] [] μ := by
  refine j_iload C 3 dX8_weigh_51 rfl ?_
  refine j_iload_n C 1 dX8_weigh_53 rfl ?_
  refine j_iload_n C 2 dX8_weigh_54 rfl ?_
  refine j_iadd C dX8_weigh_55 ?_
  refine j_icmp_ge C (tgt := 83) dX8_weigh_56 (by decide) (fun h1 => ?_) (fun h1 => ?_)
  · replace hm := if_t hm h1
    refine j_sub [] rfl ?_
    exact tj_X8_weigh_83 C _ _  hm
  · replace hm := if_f hm h1
    refine j_iload C 3 dX8_weigh_59 rfl ?_
    refine j_bipush C (v := 24) dX8_weigh_61 rfl ?_
    refine j_icmp_ge C (tgt := 83) dX8_weigh_63 (by decide) (fun h2 => ?_) (fun h2 => ?_)
    · replace hm := if_t hm h2
      refine j_sub [] rfl ?_
      exact tj_X8_weigh_83 C _ _  hm
    · replace hm := if_f hm h2
      refine j_aload_n C 0 dX8_weigh_66 rfl ?_
      obtain ⟨q3, h4, hm⟩ := bd_some hm
      refine j_getR C fg_X8_19_7 hv0 (dr_spec h4).1 dX8_weigh_67 ?_
      refine j_iload C 3 dX8_weigh_70 rfl ?_
      refine j_dup2 C dX8_weigh_72 rfl rfl ?_
      obtain ⟨h5, hm⟩ := gd_some hm
      refine j_iald C ((dr_spec h4).2) h5 dX8_weigh_73 ?_
      refine j_iconst C (v := 1) dX8_weigh_74 rfl ?_
      refine j_iadd C dX8_weigh_75 ?_
      obtain ⟨h6, hm⟩ := gd_some hm
      obtain ⟨μ7, e8, hm⟩ := lt_some hm
      refine j_iast C ((dr_spec h4).2) h6 e8 dX8_weigh_76 ?_
      obtain ⟨y9, e10, hm⟩ := lt_some hm
      refine j_iinc C 3 (v := y9) (lv' := [(4, .int y9), (0, .ref v0), (1, .int v1), (2, .int v2)]) dX8_weigh_77 rfl (by rw [e10]; rfl) (by decide) rfl ?_
      refine j_goto C (tgt := 51) dX8_weigh_80 (by decide) ?_
      refine j_sub [1, 2, 3, 0] rfl ?_
      exact hk51 (y9, μ7) _ hm
set_option maxRecDepth 20000 in
set_option maxHeartbeats 4000000 in
theorem tl_X8_weigh_51 {x : Ctx} {Λ : Lay} (C : Cx x cX8_weigh 5 none RX8 Λ rm_X8_weigh) (N : Nat) (v0 : Nat) (v1 : Int32) (v2 : Int32) (hv0 : inL Λ v0 7) (s : Int32 × Mem) {r : Mem} (hm : lp_X8_weigh_51 N Λ v0 v1 v2 s = some r) : J x 5 Λ (QV x Λ r) 51 [(0, .ref v0), (1, .int v1), (2, .int v2), (4, .int s.1)] [] (s.2) :=
  cw_ind (P := fun s r => J x 5 Λ (QV x Λ r) 51 [(0, .ref v0), (1, .int v1), (2, .int v2), (4, .int s.1)] [] (s.2)) (fun k hkk s r e => tb_X8_weigh_51 C _ _ _ _ _ _ _ hkk hv0 e) N s r hm
set_option maxRecDepth 20000 in
set_option maxHeartbeats 4000000 in
theorem tj_X8_weigh_48 {x : Ctx} {Λ : Lay} (C : Cx x cX8_weigh 5 none RX8 Λ rm_X8_weigh) (N : Nat) (μ : Mem) (v0 : Nat) (v1 : Int32) (v2 : Int32) (hv0 : inL Λ v0 7) {r : Mem} (hm : jn_X8_weigh_48 N Λ μ v0 v1 v2 = some r) : J x 5 Λ (QV x Λ r) 48 [(0, .ref v0), (1, .int v1), (2, .int v2)] [] μ := by
  refine j_iload_n C 1 dX8_weigh_48 rfl ?_
  refine j_istore C (lv' := [(4, .int v1), (0, .ref v0), (1, .int v1), (2, .int v2)]) dX8_weigh_49 (by decide) rfl ?_
  refine j_sub [1, 2, 3, 0] rfl ?_
  exact tl_X8_weigh_51 C _ _ _ _ hv0 (v1, μ) hm
set_option maxRecDepth 20000 in
set_option maxHeartbeats 4000000 in
theorem tm_X8_weigh {x : Ctx} {Λ : Lay} (C : Cx x cX8_weigh 5 none RX8 Λ rm_X8_weigh) (N : Nat) (μ : Mem) (v0 : Nat) (v1 : Int32) (v2 : Int32) (hv0 : inL Λ v0 7) {r : Mem} (hm : m_X8_weigh N Λ μ v0 v1 v2 = some r) : J x 5 Λ (QV x Λ r) 0 [(0, .ref v0), (1, .int v1), (2, .int v2)] [] μ := by
  refine j_aload_n C 0 dX8_weigh_0 rfl ?_
  refine j_iload_n C 1 dX8_weigh_1 rfl ?_
  refine j_iload_n C 2 dX8_weigh_2 rfl ?_
  obtain ⟨r1, h2, hm⟩ := bd_some hm
  refine call_I (run_LV C lk_X8_48 ⟨rfl, rfl, Nat.le_of_ble_eq_true rfl, Nat.le_of_ble_eq_true rfl⟩ (As := [.int v1, .int v2]) hv0 rfl rfl (Nat.le_of_ble_eq_true rfl) dX8_weigh_3 (mc_X8_wrongRows _ _ _ _ _ _ _ hv0 h2)) ?_
  refine j_istore_n C (lv' := [(3, .int r1), (0, .ref v0), (1, .int v1), (2, .int v2)]) dX8_weigh_6 (by decide) rfl ?_
  refine j_iload_n C 0 dX8_weigh_7 rfl ?_
  refine j_iconst C (v := 1) dX8_weigh_8 rfl ?_
  refine j_icmp_le C (tgt := 13) dX8_weigh_9 (by decide) (fun h3 => ?_) (fun h3 => ?_)
  · replace hm := if_t hm h3
    refine j_aload_n C 1 dX8_weigh_13 rfl ?_
    refine j_dup C dX8_weigh_14 rfl ?_
    refine j_getI C fg_X8_35_7 hv0 dX8_weigh_15 ?_
    refine j_iconst C (v := 1) dX8_weigh_18 rfl ?_
    refine j_iadd C dX8_weigh_19 ?_
    obtain ⟨μ4, e5, hm⟩ := lt_some hm
    refine j_putI C fp_X8_35_7 hv0 e5 dX8_weigh_20 ?_
    refine j_iload_n C 0 dX8_weigh_23 rfl ?_
    refine j_aload_n C 1 dX8_weigh_24 rfl ?_
    refine j_getI C fg_X8_41_7 hv0 dX8_weigh_25 ?_
    refine j_icmp_ge C (tgt := 48) dX8_weigh_28 (by decide) (fun h6 => ?_) (fun h6 => ?_)
    · replace hm := if_t hm h6
      refine j_sub [1, 2, 3] rfl ?_
      exact tj_X8_weigh_48 C _ _ _ _ _ hv0 hm
    · replace hm := if_f hm h6
      refine j_aload_n C 1 dX8_weigh_31 rfl ?_
      refine j_iload_n C 0 dX8_weigh_32 rfl ?_
      obtain ⟨μ7, e8, hm⟩ := lt_some hm
      refine j_putI C fp_X8_41_7 hv0 e8 dX8_weigh_33 ?_
      refine j_aload_n C 1 dX8_weigh_36 rfl ?_
      refine j_bipush C (v := 12) dX8_weigh_37 rfl ?_
      refine j_iload_n C 2 dX8_weigh_39 rfl ?_
      refine j_imul C dX8_weigh_40 ?_
      refine j_iload_n C 3 dX8_weigh_41 rfl ?_
      refine j_iadd C dX8_weigh_42 ?_
      refine j_iconst C (v := 1) dX8_weigh_43 rfl ?_
      refine j_isub C dX8_weigh_44 ?_
      obtain ⟨μ9, e10, hm⟩ := lt_some hm
      refine j_putI C fp_X8_38_7 hv0 e10 dX8_weigh_45 ?_
      refine j_sub [1, 2, 3] rfl ?_
      exact tj_X8_weigh_48 C _ _ _ _ _ hv0 hm
  · replace hm := if_f hm h3
    obtain rfl := Option.some.inj hm
    exact j_vret C dX8_weigh_12
set_option maxRecDepth 20000 in
set_option maxHeartbeats 4000000 in
theorem mc_X8_weigh (l : Launch) (N : Nat) (Λ : Lay) (μ : Mem) (v0 : Nat) (v1 : Int32) (v2 : Int32) (hv0 : inL Λ v0 7) {r : Mem} (hm : m_X8_weigh N Λ μ v0 v1 v2 = some r) : MV l yX8_weigh cX8_weigh 5 rm_X8_weigh Λ [.ref v0, .int v1, .int v2] μ r := mv_of rfl (Nat.le_of_ble_eq_true rfl) (fun x C _ => tm_X8_weigh C _ _ _ _ _ hv0 hm)
abbrev rm_X8_search : Room := { frames := 2, cells := 0, slots := 0, locals := 49 }
set_option maxRecDepth 20000 in
set_option maxHeartbeats 4000000 in
theorem tj_X8_search_72 {x : Ctx} {Λ : Lay} (C : Cx x cX8_search 3 none RX8 Λ rm_X8_search) (N : Nat) (μ : Mem) (k38 : Int32 × Mem → Option (Mem)) (v0 : Nat) (v1 : Int32) (hk38 : ∀ (s : Int32 × Mem) (r : Mem), k38 s = some r → J x 3 Λ (QV x Λ r) 38 [(0, .ref v0), (1, .int s.1)] [] (s.2)) (hv0 : inL Λ v0 7) {r : Mem} (hm : jn_X8_search_72 N Λ μ k38 v0 v1 = some r) : J x 3 Λ (QV x Λ r) 72 [(0, .ref v0), (1, .int v1)] [] μ := by
  obtain ⟨y1, e2, hm⟩ := lt_some hm
  refine j_iinc C 1 (v := y1) (lv' := [(1, .int y1), (0, .ref v0)]) dX8_search_72 rfl (by rw [e2]; rfl) (by decide) rfl ?_
  refine j_goto C (tgt := 38) dX8_search_75 (by decide) ?_
  refine j_sub [1, 0] rfl ?_
  exact hk38 (y1, μ) _ hm
set_option maxRecDepth 20000 in
set_option maxHeartbeats 4000000 in
theorem tb_X8_search_46 {x : Ctx} {Λ : Lay} (C : Cx x cX8_search 3 none RX8 Λ rm_X8_search) (N : Nat) (μ : Mem) (k38 : Int32 × Mem → Option (Mem)) (k46 : Int32 × Mem → Option (Mem)) (v0 : Nat) (v1 : Int32) (v2 : Int32) (hk38 : ∀ (s : Int32 × Mem) (r : Mem), k38 s = some r → J x 3 Λ (QV x Λ r) 38 [(0, .ref v0), (1, .int s.1)] [] (s.2)) (hk46 : ∀ (s : Int32 × Mem) (r : Mem), k46 s = some r → J x 3 Λ (QV x Λ r) 46 [(0, .ref v0), (1, .int v1), (2, .int s.1)] [] (s.2)) (hv0 : inL Λ v0 7) {r : Mem} (hm : bd_X8_search_46 N Λ μ k38 k46 v0 v1 v2 = some r) : J x 3 Λ (QV x Λ r) 46 [(0, .ref v0), (1, .int v1), (2, .int v2)] [] μ := by
  refine j_iload_n C 2 dX8_search_46 rfl ?_
  refine j_bipush C (v := 12) dX8_search_47 rfl ?_
  refine j_icmp_gt C (tgt := 72) dX8_search_49 (by decide) (fun h1 => ?_) (fun h1 => ?_)
  · replace hm := if_t hm h1
    refine j_sub [0, 1] rfl ?_
    exact tj_X8_search_72 C _ _ _ _ _ hk38 hv0 hm
  · replace hm := if_f hm h1
    refine j_iload_n C 1 dX8_search_52 rfl ?_
    refine j_iload_n C 2 dX8_search_53 rfl ?_
    refine j_iadd C dX8_search_54 ?_
    refine j_bipush C (v := 24) dX8_search_55 rfl ?_
    refine j_icmp_gt C (tgt := 72) dX8_search_57 (by decide) (fun h2 => ?_) (fun h2 => ?_)
    · replace hm := if_t hm h2
      refine j_sub [0, 1] rfl ?_
      exact tj_X8_search_72 C _ _ _ _ _ hk38 hv0 hm
    · replace hm := if_f hm h2
      refine j_aload_n C 0 dX8_search_60 rfl ?_
      refine j_iload_n C 1 dX8_search_61 rfl ?_
      refine j_iload_n C 2 dX8_search_62 rfl ?_
      obtain ⟨r3, h4, hm⟩ := bd_some hm
      refine call_V (run_LV C lk_X8_44 ⟨rfl, rfl, Nat.le_of_ble_eq_true rfl, Nat.le_of_ble_eq_true rfl⟩ (As := [.int v1, .int v2]) hv0 rfl rfl (Nat.le_of_ble_eq_true rfl) dX8_search_63 (mc_X8_weigh _ _ _ _ _ _ _ hv0 h4)) ?_
      obtain ⟨y5, e6, hm⟩ := lt_some hm
      refine j_iinc C 2 (v := y5) (lv' := [(2, .int y5), (0, .ref v0), (1, .int v1)]) dX8_search_66 rfl (by rw [e6]; rfl) (by decide) rfl ?_
      refine j_goto C (tgt := 46) dX8_search_69 (by decide) ?_
      refine j_sub [1, 2, 0] rfl ?_
      exact hk46 (y5, r3) _ hm
set_option maxRecDepth 20000 in
set_option maxHeartbeats 4000000 in
theorem tl_X8_search_46 {x : Ctx} {Λ : Lay} (C : Cx x cX8_search 3 none RX8 Λ rm_X8_search) (N : Nat) (k38 : Int32 × Mem → Option (Mem)) (v0 : Nat) (v1 : Int32) (hk38 : ∀ (s : Int32 × Mem) (r : Mem), k38 s = some r → J x 3 Λ (QV x Λ r) 38 [(0, .ref v0), (1, .int s.1)] [] (s.2)) (hv0 : inL Λ v0 7) (s : Int32 × Mem) {r : Mem} (hm : lp_X8_search_46 N Λ k38 v0 v1 s = some r) : J x 3 Λ (QV x Λ r) 46 [(0, .ref v0), (1, .int v1), (2, .int s.1)] [] (s.2) :=
  cw_ind (P := fun s r => J x 3 Λ (QV x Λ r) 46 [(0, .ref v0), (1, .int v1), (2, .int s.1)] [] (s.2)) (fun k hkk s r e => tb_X8_search_46 C _ _ _ _ _ _ _ hk38 hkk hv0 e) N s r hm
set_option maxRecDepth 20000 in
set_option maxHeartbeats 4000000 in
theorem tb_X8_search_38 {x : Ctx} {Λ : Lay} (C : Cx x cX8_search 3 none RX8 Λ rm_X8_search) (N : Nat) (μ : Mem) (k38 : Int32 × Mem → Option (Mem)) (v0 : Nat) (v1 : Int32) (hk38 : ∀ (s : Int32 × Mem) (r : Mem), k38 s = some r → J x 3 Λ (QV x Λ r) 38 [(0, .ref v0), (1, .int s.1)] [] (s.2)) (hv0 : inL Λ v0 7) {r : Mem} (hm : bd_X8_search_38 N Λ μ k38 v0 v1 = some r) : J x 3 Λ (QV x Λ r) 38 [(0, .ref v0), (1, .int v1)] [] μ := by
  refine j_iload_n C 1 dX8_search_38 rfl ?_
  refine j_bipush C (v := 24) dX8_search_39 rfl ?_
  refine j_icmp_ge C (tgt := 78) dX8_search_41 (by decide) (fun h1 => ?_) (fun h1 => ?_)
  · replace hm := if_t hm h1
    obtain rfl := Option.some.inj hm
    exact j_vret C dX8_search_78
  · replace hm := if_f hm h1
    refine j_iconst C (v := 1) dX8_search_44 rfl ?_
    refine j_istore_n C (lv' := [(2, .int 1), (0, .ref v0), (1, .int v1)]) dX8_search_45 (by decide) rfl ?_
    refine j_sub [1, 2, 0] rfl ?_
    exact tl_X8_search_46 C _ _ _ _ hk38 hv0 (1, μ) hm
set_option maxRecDepth 20000 in
set_option maxHeartbeats 4000000 in
theorem tl_X8_search_38 {x : Ctx} {Λ : Lay} (C : Cx x cX8_search 3 none RX8 Λ rm_X8_search) (N : Nat) (v0 : Nat) (hv0 : inL Λ v0 7) (s : Int32 × Mem) {r : Mem} (hm : lp_X8_search_38 N Λ v0 s = some r) : J x 3 Λ (QV x Λ r) 38 [(0, .ref v0), (1, .int s.1)] [] (s.2) :=
  cw_ind (P := fun s r => J x 3 Λ (QV x Λ r) 38 [(0, .ref v0), (1, .int s.1)] [] (s.2)) (fun k hkk s r e => tb_X8_search_38 C _ _ _ _ _ hkk hv0 e) N s r hm
set_option maxRecDepth 20000 in
set_option maxHeartbeats 4000000 in
theorem tb_X8_search_17 {x : Ctx} {Λ : Lay} (C : Cx x cX8_search 3 none RX8 Λ rm_X8_search) (N : Nat) (μ : Mem) (k17 : Int32 × Mem → Option (Mem)) (v0 : Nat) (v1 : Int32) (hk17 : ∀ (s : Int32 × Mem) (r : Mem), k17 s = some r → J x 3 Λ (QV x Λ r) 17 [(0, .ref v0), (1, .int s.1)] [] (s.2)) (hv0 : inL Λ v0 7) {r : Mem} (hm : bd_X8_search_17 N Λ μ k17 v0 v1 = some r) : J x 3 Λ (QV x Λ r) 17 [(0, .ref v0), (1, .int v1)] [] μ := by
  refine j_iload_n C 1 dX8_search_17 rfl ?_
  refine j_bipush C (v := 24) dX8_search_18 rfl ?_
  refine j_icmp_ge C (tgt := 36) dX8_search_20 (by decide) (fun h1 => ?_) (fun h1 => ?_)
  · replace hm := if_t hm h1
    refine j_iconst C (v := 0) dX8_search_36 rfl ?_
    refine j_istore_n C (lv' := [(1, .int 0), (0, .ref v0)]) dX8_search_37 (by decide) rfl ?_
    refine j_sub [1, 0] rfl ?_
    exact tl_X8_search_38 C _ _ hv0 (0, μ) hm
  · replace hm := if_f hm h1
    refine j_aload_n C 0 dX8_search_23 rfl ?_
    obtain ⟨q2, h3, hm⟩ := bd_some hm
    refine j_getR C fg_X8_19_7 hv0 (dr_spec h3).1 dX8_search_24 ?_
    refine j_iload_n C 1 dX8_search_27 rfl ?_
    refine j_iconst C (v := 0) dX8_search_28 rfl ?_
    obtain ⟨h4, hm⟩ := gd_some hm
    obtain ⟨μ5, e6, hm⟩ := lt_some hm
    refine j_iast C ((dr_spec h3).2) h4 e6 dX8_search_29 ?_
    obtain ⟨y7, e8, hm⟩ := lt_some hm
    refine j_iinc C 1 (v := y7) (lv' := [(1, .int y7), (0, .ref v0)]) dX8_search_30 rfl (by rw [e8]; rfl) (by decide) rfl ?_
    refine j_goto C (tgt := 17) dX8_search_33 (by decide) ?_
    refine j_sub [1, 0] rfl ?_
    exact hk17 (y7, μ5) _ hm
set_option maxRecDepth 20000 in
set_option maxHeartbeats 4000000 in
theorem tl_X8_search_17 {x : Ctx} {Λ : Lay} (C : Cx x cX8_search 3 none RX8 Λ rm_X8_search) (N : Nat) (v0 : Nat) (hv0 : inL Λ v0 7) (s : Int32 × Mem) {r : Mem} (hm : lp_X8_search_17 N Λ v0 s = some r) : J x 3 Λ (QV x Λ r) 17 [(0, .ref v0), (1, .int s.1)] [] (s.2) :=
  cw_ind (P := fun s r => J x 3 Λ (QV x Λ r) 17 [(0, .ref v0), (1, .int s.1)] [] (s.2)) (fun k hkk s r e => tb_X8_search_17 C _ _ _ _ _ hkk hv0 e) N s r hm
set_option maxRecDepth 20000 in
set_option maxHeartbeats 4000000 in
theorem tm_X8_search {x : Ctx} {Λ : Lay} (C : Cx x cX8_search 3 none RX8 Λ rm_X8_search) (N : Nat) (μ : Mem) (v0 : Nat) (hv0 : inL Λ v0 7) {r : Mem} (hm : m_X8_search N Λ μ v0 = some r) : J x 3 Λ (QV x Λ r) 0 [(0, .ref v0)] [] μ := by
  refine j_aload_n C 0 dX8_search_0 rfl ?_
  refine j_iconst C (v := 0) dX8_search_1 rfl ?_
  obtain ⟨μ1, e2, hm⟩ := lt_some hm
  refine j_putI C fp_X8_35_7 hv0 e2 dX8_search_2 ?_
  refine j_aload_n C 0 dX8_search_5 rfl ?_
  refine j_iconst C (v := -1) dX8_search_6 rfl ?_
  obtain ⟨μ3, e4, hm⟩ := lt_some hm
  refine j_putI C fp_X8_38_7 hv0 e4 dX8_search_7 ?_
  refine j_aload_n C 0 dX8_search_10 rfl ?_
  refine j_iconst C (v := 2) dX8_search_11 rfl ?_
  obtain ⟨μ5, e6, hm⟩ := lt_some hm
  refine j_putI C fp_X8_41_7 hv0 e6 dX8_search_12 ?_
  refine j_iconst C (v := 0) dX8_search_15 rfl ?_
  refine j_istore_n C (lv' := [(1, .int 0), (0, .ref v0)]) dX8_search_16 (by decide) rfl ?_
  refine j_sub [1, 0] rfl ?_
  exact tl_X8_search_17 C _ _ hv0 (0, μ5) hm
set_option maxRecDepth 20000 in
set_option maxHeartbeats 4000000 in
theorem mc_X8_search (l : Launch) (N : Nat) (Λ : Lay) (μ : Mem) (v0 : Nat) (hv0 : inL Λ v0 7) {r : Mem} (hm : m_X8_search N Λ μ v0 = some r) : MV l yX8_search cX8_search 3 rm_X8_search Λ [.ref v0] μ r := mv_of rfl (Nat.le_of_ble_eq_true rfl) (fun x C _ => tm_X8_search C _ _ _ hv0 hm)
abbrev rm_X8_bestPlace : Room := { frames := 1, cells := 0, slots := 0, locals := 60 }
set_option maxRecDepth 20000 in
set_option maxHeartbeats 4000000 in
theorem tj_X8_bestPlace_61 {x : Ctx} {Λ : Lay} (C : Cx x cX8_bestPlace 5 (some .int) RX8 Λ rm_X8_bestPlace) (N : Nat) (μ : Mem) (k9 : Int32 × Int32 × Int32 → Option (Int32)) (v0 : Nat) (v1 : Int32) (v2 : Int32) (v3 : Int32) (hk9 : ∀ (s : Int32 × Int32 × Int32) (r : Int32), k9 s = some r → J x 5 Λ (QI x Λ r μ) 9 [(0, .ref v0), (1, .int s.1), (2, .int s.2.1), (3, .int s.2.2)] [] (μ)) (hv0 : inL Λ v0 7) {r : Int32} (hm : jn_X8_bestPlace_61 N Λ μ k9 v0 v1 v2 v3 = some r) : J x 5 Λ (QI x Λ r μ) 61 [(0, .ref v0), (1, .int v1), (2, .int v2), (3, .int v3)] [] μ := by
  obtain ⟨y1, e2, hm⟩ := lt_some hm
  refine j_iinc C 3 (v := y1) (lv' := [(3, .int y1), (0, .ref v0), (1, .int v1), (2, .int v2)]) dX8_bestPlace_61 rfl (by rw [e2]; rfl) (by decide) rfl ?_
  refine j_goto C (tgt := 9) dX8_bestPlace_64 (by decide) ?_
  refine j_sub [1, 2, 3, 0] rfl ?_
  exact hk9 (v1, v2, y1) _ hm
set_option maxRecDepth 20000 in
set_option maxHeartbeats 4000000 in
theorem tj_X8_bestPlace_56 {x : Ctx} {Λ : Lay} (C : Cx x cX8_bestPlace 5 (some .int) RX8 Λ rm_X8_bestPlace) (N : Nat) (μ : Mem) (k9 : Int32 × Int32 × Int32 → Option (Int32)) (v0 : Nat) (v3 : Int32) (v4 : Int32) (hk9 : ∀ (s : Int32 × Int32 × Int32) (r : Int32), k9 s = some r → J x 5 Λ (QI x Λ r μ) 9 [(0, .ref v0), (1, .int s.1), (2, .int s.2.1), (3, .int s.2.2)] [] (μ)) (hv0 : inL Λ v0 7) {r : Int32} (hm : jn_X8_bestPlace_56 N Λ μ k9 v0 v3 v4 = some r) : J x 5 Λ (QI x Λ r μ) 56 [(0, .ref v0), (3, .int v3), (4, .int v4)] [] μ := by
  refine j_iload_n C 1 dX8_bestPlace_56 rfl ?_
  refine j_istore_n C (lv' := [(1, .int v3), (0, .ref v0), (3, .int v3), (4, .int v4)]) dX8_bestPlace_57 (by decide) rfl ?_
  refine j_iload C 3 dX8_bestPlace_58 rfl ?_
  refine j_istore_n C (lv' := [(2, .int v4), (1, .int v3), (0, .ref v0), (3, .int v3), (4, .int v4)]) dX8_bestPlace_60 (by decide) rfl ?_
  refine j_sub [2, 1, 0, 3] rfl ?_
  exact tj_X8_bestPlace_61 C _ _ _ _ _ _ _ hk9 hv0 hm
set_option maxRecDepth 20000 in
set_option maxHeartbeats 4000000 in
theorem tj_X8_bestPlace_67 {x : Ctx} {Λ : Lay} (C : Cx x cX8_bestPlace 5 (some .int) RX8 Λ rm_X8_bestPlace) (N : Nat) (μ : Mem) (v1 : Int32) {r : Int32} (hm : jn_X8_bestPlace_67 N Λ μ v1 = some r) : J x 5 Λ (QI x Λ r μ) 67 [(1, .int v1)] [] μ := by
  refine j_iload_n C 0 dX8_bestPlace_67 rfl ?_
  obtain rfl := Option.some.inj hm
  exact j_ireti C dX8_bestPlace_68
set_option maxRecDepth 20000 in
set_option maxHeartbeats 4000000 in
theorem tb_X8_bestPlace_9 {x : Ctx} {Λ : Lay} (C : Cx x cX8_bestPlace 5 (some .int) RX8 Λ rm_X8_bestPlace) (N : Nat) (μ : Mem) (k9 : Int32 × Int32 × Int32 → Option (Int32)) (v0 : Nat) (v1 : Int32) (v2 : Int32) (v3 : Int32) (hk9 : ∀ (s : Int32 × Int32 × Int32) (r : Int32), k9 s = some r → J x 5 Λ (QI x Λ r μ) 9 [(0, .ref v0), (1, .int s.1), (2, .int s.2.1), (3, .int s.2.2)] [] (μ)) (hv0 : inL Λ v0 7) {r : Int32} (hm : bd_X8_bestPlace_9 N Λ μ k9 v0 v1 v2 v3 = some r) : J x 5 Λ (QI x Λ r μ) 9 [(0, .ref v0), (1, .int v1), (2, .int v2), (3, .int v3)] [] μ := by
  refine j_iload_n C 3 dX8_bestPlace_9 rfl ?_
  refine j_bipush C (v := 24) dX8_bestPlace_10 rfl ?_
  refine j_icmp_ge C (tgt := 67) dX8_bestPlace_12 (by decide) (fun h1 => ?_) (fun h1 => ?_)
  · replace hm := if_t hm h1
    refine j_sub [1] rfl ?_
    exact tj_X8_bestPlace_67 C _ _ _  hm
  · replace hm := if_f hm h1
    refine j_aload_n C 0 dX8_bestPlace_15 rfl ?_
    refine j_getI C fg_X8_35_7 hv0 dX8_bestPlace_16 ?_
    refine j_iconst C (v := 2) dX8_bestPlace_19 rfl ?_
    refine j_icmp_lt C (tgt := 67) dX8_bestPlace_20 (by decide) (fun h2 => ?_) (fun h2 => ?_)
    · replace hm := if_t hm h2
      refine j_sub [1] rfl ?_
      exact tj_X8_bestPlace_67 C _ _ _  hm
    · replace hm := if_f hm h2
      refine j_aload_n C 0 dX8_bestPlace_23 rfl ?_
      obtain ⟨q3, h4, hm⟩ := bd_some hm
      refine j_getR C fg_X8_19_7 hv0 (dr_spec h4).1 dX8_bestPlace_24 ?_
      refine j_iload_n C 3 dX8_bestPlace_27 rfl ?_
      obtain ⟨h5, hm⟩ := gd_some hm
      refine j_iald C ((dr_spec h4).2) h5 dX8_bestPlace_28 ?_
      refine j_aload_n C 0 dX8_bestPlace_29 rfl ?_
      refine j_getI C fg_X8_35_7 hv0 dX8_bestPlace_30 ?_
      refine j_aload_n C 0 dX8_bestPlace_33 rfl ?_
      obtain ⟨q6, h7, hm⟩ := bd_some hm
      refine j_getR C fg_X8_19_7 hv0 (dr_spec h7).1 dX8_bestPlace_34 ?_
      refine j_iload_n C 3 dX8_bestPlace_37 rfl ?_
      obtain ⟨h8, hm⟩ := gd_some hm
      refine j_iald C ((dr_spec h7).2) h8 dX8_bestPlace_38 ?_
      refine j_isub C dX8_bestPlace_39 ?_
      refine j_mmax C wk_1382 ⟨Nat.le_of_ble_eq_true rfl, Nat.le_of_ble_eq_true rfl⟩ dX8_bestPlace_40 ?_
      obtain ⟨y9, e10, hm⟩ := lt_some hm
      refine j_topi e10 ?_
      refine j_istore C (lv' := [(4, .int y9), (0, .ref v0), (1, .int v1), (2, .int v2), (3, .int v3)]) dX8_bestPlace_43 (by decide) rfl ?_
      refine j_iload_n C 2 dX8_bestPlace_45 rfl ?_
      refine j_iconst C (v := -1) dX8_bestPlace_46 rfl ?_
      refine j_icmp_eq C (tgt := 56) dX8_bestPlace_47 (by decide) (fun h11 => ?_) (fun h11 => ?_)
      · replace hm := if_t hm h11
        refine j_sub [1, 4, 0] rfl ?_
        exact tj_X8_bestPlace_56 C _ _ _ _ _ _ hk9 hv0 hm
      · replace hm := if_f hm h11
        refine j_iload C 0 dX8_bestPlace_50 rfl ?_
        refine j_iload_n C 3 dX8_bestPlace_52 rfl ?_
        refine j_icmp_ge C (tgt := 61) dX8_bestPlace_53 (by decide) (fun h12 => ?_) (fun h12 => ?_)
        · replace hm := if_t hm h12
          refine j_sub [1, 2, 3, 4] rfl ?_
          exact tj_X8_bestPlace_61 C _ _ _ _ _ _ _ hk9 hv0 hm
        · replace hm := if_f hm h12
          refine j_sub [1, 4, 0] rfl ?_
          exact tj_X8_bestPlace_56 C _ _ _ _ _ _ hk9 hv0 hm
set_option maxRecDepth 20000 in
set_option maxHeartbeats 4000000 in
theorem tl_X8_bestPlace_9 {x : Ctx} {Λ : Lay} (C : Cx x cX8_bestPlace 5 (some .int) RX8 Λ rm_X8_bestPlace) (N : Nat) (μ : Mem) (v0 : Nat) (hv0 : inL Λ v0 7) (s : Int32 × Int32 × Int32) {r : Int32} (hm : lp_X8_bestPlace_9 N Λ μ v0 s = some r) : J x 5 Λ (QI x Λ r μ) 9 [(0, .ref v0), (1, .int s.1), (2, .int s.2.1), (3, .int s.2.2)] [] (μ) :=
  cw_ind (P := fun s r => J x 5 Λ (QI x Λ r μ) 9 [(0, .ref v0), (1, .int s.1), (2, .int s.2.1), (3, .int s.2.2)] [] (μ)) (fun k hkk s r e => tb_X8_bestPlace_9 C _ _ _ _ _ _ _ hkk hv0 e) N s r hm
set_option maxRecDepth 20000 in
set_option maxHeartbeats 4000000 in
theorem tm_X8_bestPlace {x : Ctx} {Λ : Lay} (C : Cx x cX8_bestPlace 5 (some .int) RX8 Λ rm_X8_bestPlace) (N : Nat) (μ : Mem) (v0 : Nat) (hv0 : inL Λ v0 7) {r : Int32} (hm : m_X8_bestPlace N Λ μ v0 = some r) : J x 5 Λ (QI x Λ r μ) 0 [(0, .ref v0)] [] μ := by
  refine j_iconst C (v := -1) dX8_bestPlace_0 rfl ?_
  refine j_istore_n C (lv' := [(1, .int (-1)), (0, .ref v0)]) dX8_bestPlace_1 (by decide) rfl ?_
  refine j_aload_n C 1 dX8_bestPlace_2 rfl ?_
  refine j_getI C fg_X8_35_7 hv0 dX8_bestPlace_3 ?_
  obtain ⟨y1, e2, hm⟩ := lt_some hm
  refine j_topi e2 ?_
  refine j_istore_n C (lv' := [(2, .int y1), (1, .int (-1)), (0, .ref v0)]) dX8_bestPlace_6 (by decide) rfl ?_
  refine j_iconst C (v := 0) dX8_bestPlace_7 rfl ?_
  refine j_istore_n C (lv' := [(3, .int 0), (2, .int y1), (1, .int (-1)), (0, .ref v0)]) dX8_bestPlace_8 (by decide) rfl ?_
  refine j_sub [3, 2, 1, 0] rfl ?_
  exact tl_X8_bestPlace_9 C _ _ _ hv0 ((-1), y1, 0) hm
set_option maxRecDepth 20000 in
set_option maxHeartbeats 4000000 in
theorem mc_X8_bestPlace (l : Launch) (N : Nat) (Λ : Lay) (μ : Mem) (v0 : Nat) (hv0 : inL Λ v0 7) {r : Int32} (hm : m_X8_bestPlace N Λ μ v0 = some r) : MI l yX8_bestPlace cX8_bestPlace 5 (some .int) rm_X8_bestPlace Λ [.ref v0] μ r μ := mi_of rfl (Nat.le_of_ble_eq_true rfl) (fun x C _ => tm_X8_bestPlace C _ _ _ hv0 hm)

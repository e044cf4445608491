abbrev rm_X11_feed : Room := { frames := 1, cells := 0, slots := 0, locals := 22 }
set_option maxRecDepth 20000 in
set_option maxHeartbeats 4000000 in
theorem tm_X11_feed {x : Ctx} {Λ : Lay} (C : Cx x cX11_feed 6 (some .int) RX11 Λ rm_X11_feed) (N : Nat) (μ : Mem) (v0 : Nat) (v1 : Int32) (v2 : Int32) (v3 : Int32) (v4 : Int32) (v5 : Int32) (hv0 : inL Λ v0 10) {r : Int32 × Mem} (hm : m_X11_feed N Λ μ v0 v1 v2 v3 v4 v5 = some r) : J x 6 Λ (QI x Λ r.1 r.2) 0 [(0, .ref v0), (1, .int v1), (2, .int v2), (3, .int v3), (4, .int v4), (5, .int v5)] [] μ := by
  refine j_aload_n C 0 dX11_feed_0 rfl ?_
  obtain ⟨q1, h2, hm⟩ := bd_some hm
  refine j_getR C fg_X11_10_10 hv0 (dr_spec h2).1 dX11_feed_1 ?_
  refine j_getI C fg_X11_92_9 ((dr_spec h2).2) dX11_feed_4 ?_
  refine j_bipush C (v := 20) dX11_feed_7 rfl ?_
  refine j_iadd C dX11_feed_9 ?_
  refine j_sipush C (v := 400) dX11_feed_10 rfl ?_
  refine j_icmp_le C (tgt := 18) dX11_feed_13 (by decide) (fun h3 => ?_) (fun h3 => ?_)
  · replace hm := if_t hm h3
    refine j_aload_n C 0 dX11_feed_18 rfl ?_
    obtain ⟨q4, h5, hm⟩ := bd_some hm
    refine j_getR C fg_X11_10_10 hv0 (dr_spec h5).1 dX11_feed_19 ?_
    refine j_iload_n C 1 dX11_feed_22 rfl ?_
    obtain ⟨r6, h7, hm⟩ := bd_some hm
    refine call_V (run_LV C lk_X11_95 ⟨rfl, rfl, Nat.le_of_ble_eq_true rfl, Nat.le_of_ble_eq_true rfl⟩ (As := [.int v1]) ((dr_spec h5).2) rfl rfl (Nat.le_of_ble_eq_true rfl) dX11_feed_23 (mc_X10_addFour _ _ _ _ _ _ ((dr_spec h5).2) h7)) ?_
    refine j_aload_n C 0 dX11_feed_26 rfl ?_
    obtain ⟨q8, h9, hm⟩ := bd_some hm
    refine j_getR C fg_X11_10_10 hv0 (dr_spec h9).1 dX11_feed_27 ?_
    refine j_iload_n C 2 dX11_feed_30 rfl ?_
    obtain ⟨r10, h11, hm⟩ := bd_some hm
    refine call_V (run_LV C lk_X11_95 ⟨rfl, rfl, Nat.le_of_ble_eq_true rfl, Nat.le_of_ble_eq_true rfl⟩ (As := [.int v2]) ((dr_spec h9).2) rfl rfl (Nat.le_of_ble_eq_true rfl) dX11_feed_31 (mc_X10_addFour _ _ _ _ _ _ ((dr_spec h9).2) h11)) ?_
    refine j_aload_n C 0 dX11_feed_34 rfl ?_
    obtain ⟨q12, h13, hm⟩ := bd_some hm
    refine j_getR C fg_X11_10_10 hv0 (dr_spec h13).1 dX11_feed_35 ?_
    refine j_iload_n C 3 dX11_feed_38 rfl ?_
    obtain ⟨r14, h15, hm⟩ := bd_some hm
    refine call_V (run_LV C lk_X11_95 ⟨rfl, rfl, Nat.le_of_ble_eq_true rfl, Nat.le_of_ble_eq_true rfl⟩ (As := [.int v3]) ((dr_spec h13).2) rfl rfl (Nat.le_of_ble_eq_true rfl) dX11_feed_39 (mc_X10_addFour _ _ _ _ _ _ ((dr_spec h13).2) h15)) ?_
    refine j_aload_n C 0 dX11_feed_42 rfl ?_
    obtain ⟨q16, h17, hm⟩ := bd_some hm
    refine j_getR C fg_X11_10_10 hv0 (dr_spec h17).1 dX11_feed_43 ?_
    refine j_iload C 4 dX11_feed_46 rfl ?_
    obtain ⟨r18, h19, hm⟩ := bd_some hm
    refine call_V (run_LV C lk_X11_95 ⟨rfl, rfl, Nat.le_of_ble_eq_true rfl, Nat.le_of_ble_eq_true rfl⟩ (As := [.int v4]) ((dr_spec h17).2) rfl rfl (Nat.le_of_ble_eq_true rfl) dX11_feed_48 (mc_X10_addFour _ _ _ _ _ _ ((dr_spec h17).2) h19)) ?_
    refine j_aload_n C 0 dX11_feed_51 rfl ?_
    obtain ⟨q20, h21, hm⟩ := bd_some hm
    refine j_getR C fg_X11_10_10 hv0 (dr_spec h21).1 dX11_feed_52 ?_
    refine j_iload C 5 dX11_feed_55 rfl ?_
    obtain ⟨r22, h23, hm⟩ := bd_some hm
    refine call_V (run_LV C lk_X11_95 ⟨rfl, rfl, Nat.le_of_ble_eq_true rfl, Nat.le_of_ble_eq_true rfl⟩ (As := [.int v5]) ((dr_spec h21).2) rfl rfl (Nat.le_of_ble_eq_true rfl) dX11_feed_57 (mc_X10_addFour _ _ _ _ _ _ ((dr_spec h21).2) h23)) ?_
    refine j_aload_n C 0 dX11_feed_60 rfl ?_
    obtain ⟨q24, h25, hm⟩ := bd_some hm
    refine j_getR C fg_X11_10_10 hv0 (dr_spec h25).1 dX11_feed_61 ?_
    refine j_getI C fg_X11_92_9 ((dr_spec h25).2) dX11_feed_64 ?_
    obtain rfl := Option.some.inj hm
    exact j_ireti C dX11_feed_67
  · replace hm := if_f hm h3
    refine j_iconst C (v := -1) dX11_feed_16 rfl ?_
    obtain rfl := Option.some.inj hm
    exact j_ireti C dX11_feed_17
set_option maxRecDepth 20000 in
set_option maxHeartbeats 4000000 in
theorem mc_X11_feed (l : Launch) (N : Nat) (Λ : Lay) (μ : Mem) (v0 : Nat) (v1 : Int32) (v2 : Int32) (v3 : Int32) (v4 : Int32) (v5 : Int32) (hv0 : inL Λ v0 10) {r : Int32 × Mem} (hm : m_X11_feed N Λ μ v0 v1 v2 v3 v4 v5 = some r) : MI l yX11_feed cX11_feed 6 (some .int) rm_X11_feed Λ [.ref v0, .int v1, .int v2, .int v3, .int v4, .int v5] μ r.1 r.2 := mi_of rfl (Nat.le_of_ble_eq_true rfl) (fun x C _ => tm_X11_feed C _ _ _ _ _ _ _ _ hv0 hm)
abbrev rm_X11_end : Room := { frames := 0, cells := 0, slots := 0, locals := 0 }
set_option maxRecDepth 20000 in
set_option maxHeartbeats 4000000 in
theorem tj_X11_end_15 {x : Ctx} {Λ : Lay} (C : Cx x cX11_end 2 (some .boolean) RX11 Λ rm_X11_end) (N : Nat) (μ : Mem) {r : Int32 × Mem} (hm : jn_X11_end_15 N Λ μ = some r) : J x 2 Λ (QI x Λ r.1 r.2) 15 [] [] μ := by
  refine j_iconst C (v := 0) dX11_end_15 rfl ?_
  obtain rfl := Option.some.inj hm
  exact j_iretz C rfl dX11_end_16
set_option maxRecDepth 20000 in
set_option maxHeartbeats 4000000 in
theorem tm_X11_end {x : Ctx} {Λ : Lay} (C : Cx x cX11_end 2 (some .boolean) RX11 Λ rm_X11_end) (N : Nat) (μ : Mem) (v0 : Nat) (v1 : Int32) (hv0 : inL Λ v0 10) {r : Int32 × Mem} (hm : m_X11_end N Λ μ v0 v1 = some r) : J x 2 Λ (QI x Λ r.1 r.2) 0 [(0, .ref v0), (1, .int v1)] [] μ := by
  refine j_iload_n C 1 dX11_end_0 rfl ?_
  refine j_if_lt C (tgt := 15) dX11_end_1 (by decide) (fun h1 => ?_) (fun h1 => ?_)
  · replace hm := if_t hm h1
    refine j_sub [] rfl ?_
    exact tj_X11_end_15 C _ _  hm
  · replace hm := if_f hm h1
    refine j_iload_n C 1 dX11_end_4 rfl ?_
    refine j_aload_n C 0 dX11_end_5 rfl ?_
    obtain ⟨q2, h3, hm⟩ := bd_some hm
    refine j_getR C fg_X11_10_10 hv0 (dr_spec h3).1 dX11_end_6 ?_
    refine j_getI C fg_X11_92_9 ((dr_spec h3).2) dX11_end_9 ?_
    refine j_icmp_le C (tgt := 17) dX11_end_12 (by decide) (fun h4 => ?_) (fun h4 => ?_)
    · replace hm := if_t hm h4
      refine j_aload_n C 0 dX11_end_17 rfl ?_
      obtain ⟨q5, h6, hm⟩ := bd_some hm
      refine j_getR C fg_X11_10_10 hv0 (dr_spec h6).1 dX11_end_18 ?_
      refine j_iload_n C 1 dX11_end_21 rfl ?_
      obtain ⟨μ7, e8, hm⟩ := lt_some hm
      refine j_putI C fp_X11_92_9 ((dr_spec h6).2) e8 dX11_end_22 ?_
      refine j_iconst C (v := 1) dX11_end_25 rfl ?_
      obtain rfl := Option.some.inj hm
      exact j_iretz C rfl dX11_end_26
    · replace hm := if_f hm h4
      refine j_sub [] rfl ?_
      exact tj_X11_end_15 C _ _  hm
set_option maxRecDepth 20000 in
set_option maxHeartbeats 4000000 in
theorem mc_X11_end (l : Launch) (N : Nat) (Λ : Lay) (μ : Mem) (v0 : Nat) (v1 : Int32) (hv0 : inL Λ v0 10) {r : Int32 × Mem} (hm : m_X11_end N Λ μ v0 v1 = some r) : MI l yX11_end cX11_end 2 (some .boolean) rm_X11_end Λ [.ref v0, .int v1] μ r.1 r.2 := mi_of rfl (Nat.le_of_ble_eq_true rfl) (fun x C _ => tm_X11_end C _ _ _ _ hv0 hm)
abbrev rm_X11_fault : Room := { frames := 0, cells := 0, slots := 0, locals := 0 }
set_option maxRecDepth 20000 in
set_option maxHeartbeats 4000000 in
theorem tm_X11_fault {x : Ctx} {Λ : Lay} (C : Cx x cX11_fault 1 (some .int) RX11 Λ rm_X11_fault) (N : Nat) (μ : Mem) (v0 : Nat) (hv0 : inL Λ v0 10) {r : Int32} (hm : m_X11_fault N Λ μ v0 = some r) : J x 1 Λ (QI x Λ r μ) 0 [(0, .ref v0)] [] μ := by
  refine j_aload_n C 0 dX11_fault_0 rfl ?_
  refine j_getI C fg_X11_88_10 hv0 dX11_fault_1 ?_
  obtain rfl := Option.some.inj hm
  exact j_ireti C dX11_fault_4
set_option maxRecDepth 20000 in
set_option maxHeartbeats 4000000 in
theorem mc_X11_fault (l : Launch) (N : Nat) (Λ : Lay) (μ : Mem) (v0 : Nat) (hv0 : inL Λ v0 10) {r : Int32} (hm : m_X11_fault N Λ μ v0 = some r) : MI l yX11_fault cX11_fault 1 (some .int) rm_X11_fault Λ [.ref v0] μ r μ := mi_of rfl (Nat.le_of_ble_eq_true rfl) (fun x C _ => tm_X11_fault C _ _ _ hv0 hm)
abbrev rm_X11_pulls : Room := { frames := 4, cells := 0, slots := 0, locals := 98 }
set_option maxRecDepth 20000 in
set_option maxHeartbeats 4000000 in
theorem tm_X11_pulls {x : Ctx} {Λ : Lay} (C : Cx x cX11_pulls 1 (some .int) RX11 Λ rm_X11_pulls) (N : Nat) (μ : Mem) (v0 : Nat) (hv0 : inL Λ v0 10) {r : Int32 × Mem} (hm : m_X11_pulls N Λ μ v0 = some r) : J x 1 Λ (QI x Λ r.1 r.2) 0 [(0, .ref v0)] [] μ := by
  refine j_aload_n C 0 dX11_pulls_0 rfl ?_
  obtain ⟨q1, h2, hm⟩ := bd_some hm
  refine j_getR C fg_X11_19_10 hv0 (dr_spec h2).1 dX11_pulls_1 ?_
  refine j_aload_n C 0 dX11_pulls_4 rfl ?_
  obtain ⟨q3, h4, hm⟩ := bd_some hm
  refine j_getR C fg_X11_32_10 hv0 (dr_spec h4).1 dX11_pulls_5 ?_
  obtain ⟨r5, h6, hm⟩ := bd_some hm
  refine call_I (run_LV C lk_X11_271 ⟨rfl, rfl, Nat.le_of_ble_eq_true rfl, Nat.le_of_ble_eq_true rfl⟩ (As := [.ref q3]) ((dr_spec h2).2) rfl rfl (Nat.le_of_ble_eq_true rfl) dX11_pulls_8 (mc_X9_pulling _ _ _ _ _ _ ((dr_spec h2).2) ((dr_spec h4).2) h6)) ?_
  obtain rfl := Option.some.inj hm
  exact j_ireti C dX11_pulls_11
set_option maxRecDepth 20000 in
set_option maxHeartbeats 4000000 in
theorem mc_X11_pulls (l : Launch) (N : Nat) (Λ : Lay) (μ : Mem) (v0 : Nat) (hv0 : inL Λ v0 10) {r : Int32 × Mem} (hm : m_X11_pulls N Λ μ v0 = some r) : MI l yX11_pulls cX11_pulls 1 (some .int) rm_X11_pulls Λ [.ref v0] μ r.1 r.2 := mi_of rfl (Nat.le_of_ble_eq_true rfl) (fun x C _ => tm_X11_pulls C _ _ _ hv0 hm)
abbrev rm_X11_leaks : Room := { frames := 4, cells := 0, slots := 0, locals := 98 }
set_option maxRecDepth 20000 in
set_option maxHeartbeats 4000000 in
theorem tm_X11_leaks {x : Ctx} {Λ : Lay} (C : Cx x cX11_leaks 1 (some .int) RX11 Λ rm_X11_leaks) (N : Nat) (μ : Mem) (v0 : Nat) (hv0 : inL Λ v0 10) {r : Int32 × Mem} (hm : m_X11_leaks N Λ μ v0 = some r) : J x 1 Λ (QI x Λ r.1 r.2) 0 [(0, .ref v0)] [] μ := by
  refine j_aload_n C 0 dX11_leaks_0 rfl ?_
  obtain ⟨q1, h2, hm⟩ := bd_some hm
  refine j_getR C fg_X11_19_10 hv0 (dr_spec h2).1 dX11_leaks_1 ?_
  refine j_aload_n C 0 dX11_leaks_4 rfl ?_
  obtain ⟨q3, h4, hm⟩ := bd_some hm
  refine j_getR C fg_X11_32_10 hv0 (dr_spec h4).1 dX11_leaks_5 ?_
  obtain ⟨r5, h6, hm⟩ := bd_some hm
  refine call_I (run_LV C lk_X11_275 ⟨rfl, rfl, Nat.le_of_ble_eq_true rfl, Nat.le_of_ble_eq_true rfl⟩ (As := [.ref q3]) ((dr_spec h2).2) rfl rfl (Nat.le_of_ble_eq_true rfl) dX11_leaks_8 (mc_X9_leaking _ _ _ _ _ _ ((dr_spec h2).2) ((dr_spec h4).2) h6)) ?_
  obtain rfl := Option.some.inj hm
  exact j_ireti C dX11_leaks_11
set_option maxRecDepth 20000 in
set_option maxHeartbeats 4000000 in
theorem mc_X11_leaks (l : Launch) (N : Nat) (Λ : Lay) (μ : Mem) (v0 : Nat) (hv0 : inL Λ v0 10) {r : Int32 × Mem} (hm : m_X11_leaks N Λ μ v0 = some r) : MI l yX11_leaks cX11_leaks 1 (some .int) rm_X11_leaks Λ [.ref v0] μ r.1 r.2 := mi_of rfl (Nat.le_of_ble_eq_true rfl) (fun x C _ => tm_X11_leaks C _ _ _ hv0 hm)
abbrev rm_X11_even : Room := { frames := 2, cells := 0, slots := 0, locals := 80 }
set_option maxRecDepth 20000 in
set_option maxHeartbeats 4000000 in
theorem tm_X11_even {x : Ctx} {Λ : Lay} (C : Cx x cX11_even 1 (some .boolean) RX11 Λ rm_X11_even) (N : Nat) (μ : Mem) (v0 : Nat) (hv0 : inL Λ v0 10) {r : Int32} (hm : m_X11_even N Λ μ v0 = some r) : J x 1 Λ (QI x Λ r μ) 0 [(0, .ref v0)] [] μ := by
  refine j_aload_n C 0 dX11_even_0 rfl ?_
  obtain ⟨q1, h2, hm⟩ := bd_some hm
  refine j_getR C fg_X11_19_10 hv0 (dr_spec h2).1 dX11_even_1 ?_
  obtain ⟨r3, h4, hm⟩ := bd_some hm
  refine call_I (run_LV C lk_X11_217 ⟨rfl, rfl, Nat.le_of_ble_eq_true rfl, Nat.le_of_ble_eq_true rfl⟩ (As := []) ((dr_spec h2).2) rfl rfl (Nat.le_of_ble_eq_true rfl) dX11_even_4 (mc_X9_isEven _ _ _ _ _ ((dr_spec h2).2) h4)) ?_
  obtain ⟨h5, hm⟩ := gd_some hm
  obtain rfl := Option.some.inj hm
  exact j_iretz C h5 dX11_even_7
set_option maxRecDepth 20000 in
set_option maxHeartbeats 4000000 in
theorem mc_X11_even (l : Launch) (N : Nat) (Λ : Lay) (μ : Mem) (v0 : Nat) (hv0 : inL Λ v0 10) {r : Int32} (hm : m_X11_even N Λ μ v0 = some r) : MI l yX11_even cX11_even 1 (some .boolean) rm_X11_even Λ [.ref v0] μ r μ := mi_of rfl (Nat.le_of_ble_eq_true rfl) (fun x C _ => tm_X11_even C _ _ _ hv0 hm)
abbrev rm_X11_room : Room := { frames := 2, cells := 0, slots := 0, locals := 60 }
set_option maxRecDepth 20000 in
set_option maxHeartbeats 4000000 in
theorem tj_X11_room_38 {x : Ctx} {Λ : Lay} (C : Cx x cX11_room 5 (some .int) RX11 Λ rm_X11_room) (N : Nat) (μ : Mem) (k15 : Int32 × Int32 × Int32 → Option (Int32)) (v1 : Int32) (v3 : Int32) (v4 : Int32) (s0 : Int32) (hk15 : ∀ (s : Int32 × Int32 × Int32) (r : Int32), k15 s = some r → J x 5 Λ (QI x Λ r μ) 15 [(1, .int v1), (2, .int s.1), (3, .int s.2.1), (4, .int s.2.2)] [] (μ)) {r : Int32} (hm : jn_X11_room_38 N Λ μ k15 v1 v3 v4 s0 = some r) : J x 5 Λ (QI x Λ r μ) 38 [(1, .int v1), (3, .int v3), (4, .int v4)] [.int s0] μ := by
  refine j_istore_n C (lv' := [(2, .int s0), (1, .int v1), (3, .int v3), (4, .int v4)]) dX11_room_38 (by decide) rfl ?_
  refine j_iload_n C 2 dX11_room_39 rfl ?_
  refine j_iload_n C 0 dX11_room_40 rfl ?_
  refine j_mmax C wk_504 ⟨Nat.le_of_ble_eq_true rfl, Nat.le_of_ble_eq_true rfl⟩ dX11_room_41 ?_
  obtain ⟨y1, e2, hm⟩ := lt_some hm
  refine j_topi e2 ?_
  refine j_istore_n C (lv' := [(3, .int y1), (2, .int s0), (1, .int v1), (4, .int v4)]) dX11_room_44 (by decide) rfl ?_
  obtain ⟨y3, e4, hm⟩ := lt_some hm
  refine j_iinc C 3 (v := y3) (lv' := [(4, .int y3), (3, .int y1), (2, .int s0), (1, .int v1)]) dX11_room_45 rfl (by rw [e4]; rfl) (by decide) rfl ?_
  refine j_goto C (tgt := 15) dX11_room_48 (by decide) ?_
  refine j_sub [3, 2, 1, 0] rfl ?_
  exact hk15 (s0, y1, y3) _ hm
set_option maxRecDepth 20000 in
set_option maxHeartbeats 4000000 in
theorem tb_X11_room_15 {x : Ctx} {Λ : Lay} (C : Cx x cX11_room 5 (some .int) RX11 Λ rm_X11_room) (N : Nat) (μ : Mem) (k15 : Int32 × Int32 × Int32 → Option (Int32)) (v1 : Int32) (v2 : Int32) (v3 : Int32) (v4 : Int32) (hk15 : ∀ (s : Int32 × Int32 × Int32) (r : Int32), k15 s = some r → J x 5 Λ (QI x Λ r μ) 15 [(1, .int v1), (2, .int s.1), (3, .int s.2.1), (4, .int s.2.2)] [] (μ)) {r : Int32} (hm : bd_X11_room_15 N Λ μ k15 v1 v2 v3 v4 = some r) : J x 5 Λ (QI x Λ r μ) 15 [(1, .int v1), (2, .int v2), (3, .int v3), (4, .int v4)] [] μ := by
  refine j_iload C 3 dX11_room_15 rfl ?_
  refine j_bipush C (v := 24) dX11_room_17 rfl ?_
  refine j_icmp_ge C (tgt := 51) dX11_room_19 (by decide) (fun h1 => ?_) (fun h1 => ?_)
  · replace hm := if_t hm h1
    refine j_iload_n C 2 dX11_room_51 rfl ?_
    obtain rfl := Option.some.inj hm
    exact j_ireti C dX11_room_52
  · replace hm := if_f hm h1
    refine j_iload_n C 0 dX11_room_22 rfl ?_
    refine j_iload C 3 dX11_room_23 rfl ?_
    refine j_ishr C dX11_room_25 ?_
    refine j_iconst C (v := 1) dX11_room_26 rfl ?_
    refine j_iand C dX11_room_27 ?_
    refine j_if_ne C (tgt := 37) dX11_room_28 (by decide) (fun h2 => ?_) (fun h2 => ?_)
    · replace hm := if_f hm h2
      refine j_iconst C (v := 0) dX11_room_37 rfl ?_
      refine j_sub [0, 2, 3] rfl ?_
      exact tj_X11_room_38 C _ _ _ _ _ _ _ hk15 hm
    · replace hm := if_t hm h2
      refine j_iload_n C 1 dX11_room_31 rfl ?_
      refine j_iconst C (v := 1) dX11_room_32 rfl ?_
      refine j_iadd C dX11_room_33 ?_
      refine j_goto C (tgt := 38) dX11_room_34 (by decide) ?_
      refine j_sub [0, 2, 3] rfl ?_
      exact tj_X11_room_38 C _ _ _ _ _ _ _ hk15 hm
set_option maxRecDepth 20000 in
set_option maxHeartbeats 4000000 in
theorem tl_X11_room_15 {x : Ctx} {Λ : Lay} (C : Cx x cX11_room 5 (some .int) RX11 Λ rm_X11_room) (N : Nat) (μ : Mem) (v1 : Int32) (s : Int32 × Int32 × Int32) {r : Int32} (hm : lp_X11_room_15 N Λ μ v1 s = some r) : J x 5 Λ (QI x Λ r μ) 15 [(1, .int v1), (2, .int s.1), (3, .int s.2.1), (4, .int s.2.2)] [] (μ) :=
  cw_ind (P := fun s r => J x 5 Λ (QI x Λ r μ) 15 [(1, .int v1), (2, .int s.1), (3, .int s.2.1), (4, .int s.2.2)] [] (μ)) (fun k hk s r e => tb_X11_room_15 C _ _ _ _ _ _ _ hk e) N s r hm
set_option maxRecDepth 20000 in
set_option maxHeartbeats 4000000 in
theorem tm_X11_room {x : Ctx} {Λ : Lay} (C : Cx x cX11_room 5 (some .int) RX11 Λ rm_X11_room) (N : Nat) (μ : Mem) (v0 : Nat) (hv0 : inL Λ v0 10) {r : Int32} (hm : m_X11_room N Λ μ v0 = some r) : J x 5 Λ (QI x Λ r μ) 0 [(0, .ref v0)] [] μ := by
  refine j_aload_n C 0 dX11_room_0 rfl ?_
  obtain ⟨q1, h2, hm⟩ := bd_some hm
  refine j_getR C fg_X11_19_10 hv0 (dr_spec h2).1 dX11_room_1 ?_
  obtain ⟨r3, h4, hm⟩ := bd_some hm
  refine call_I (run_LV C lk_X11_229 ⟨rfl, rfl, Nat.le_of_ble_eq_true rfl, Nat.le_of_ble_eq_true rfl⟩ (As := []) ((dr_spec h2).2) rfl rfl (Nat.le_of_ble_eq_true rfl) dX11_room_4 (mc_X9_takenPlaces _ _ _ _ _ ((dr_spec h2).2) h4)) ?_
  refine j_istore_n C (lv' := [(1, .int r3), (0, .ref v0)]) dX11_room_7 (by decide) rfl ?_
  refine j_iconst C (v := 0) dX11_room_8 rfl ?_
  refine j_istore_n C (lv' := [(2, .int 0), (1, .int r3), (0, .ref v0)]) dX11_room_9 (by decide) rfl ?_
  refine j_iconst C (v := 0) dX11_room_10 rfl ?_
  refine j_istore_n C (lv' := [(3, .int 0), (2, .int 0), (1, .int r3), (0, .ref v0)]) dX11_room_11 (by decide) rfl ?_
  refine j_iconst C (v := 0) dX11_room_12 rfl ?_
  refine j_istore C (lv' := [(4, .int 0), (3, .int 0), (2, .int 0), (1, .int r3), (0, .ref v0)]) dX11_room_13 (by decide) rfl ?_
  refine j_sub [3, 2, 1, 0] rfl ?_
  exact tl_X11_room_15 C _ _ _  (0, 0, 0) hm
set_option maxRecDepth 20000 in
set_option maxHeartbeats 4000000 in
theorem mc_X11_room (l : Launch) (N : Nat) (Λ : Lay) (μ : Mem) (v0 : Nat) (hv0 : inL Λ v0 10) {r : Int32} (hm : m_X11_room N Λ μ v0 = some r) : MI l yX11_room cX11_room 5 (some .int) rm_X11_room Λ [.ref v0] μ r μ := mi_of rfl (Nat.le_of_ble_eq_true rfl) (fun x C _ => tm_X11_room C _ _ _ hv0 hm)
abbrev rm_X11_load : Room := { frames := 6, cells := 0, slots := 0, locals := 146 }
set_option maxRecDepth 20000 in
set_option maxHeartbeats 4000000 in
theorem tm_X11_load {x : Ctx} {Λ : Lay} (C : Cx x cX11_load 1 (some .int) RX11 Λ rm_X11_load) (N : Nat) (μ : Mem) (v0 : Nat) (hv0 : inL Λ v0 10) {r : Int32 × Mem} (hm : m_X11_load N Λ μ v0 = some r) : J x 1 Λ (QI x Λ r.1 r.2) 0 [(0, .ref v0)] [] μ := by
  refine j_aload_n C 0 dX11_load_0 rfl ?_
  obtain ⟨q1, h2, hm⟩ := bd_some hm
  refine j_getR C fg_X11_84_10 hv0 (dr_spec h2).1 dX11_load_1 ?_
  refine j_aload_n C 0 dX11_load_4 rfl ?_
  obtain ⟨q3, h4, hm⟩ := bd_some hm
  refine j_getR C fg_X11_19_10 hv0 (dr_spec h4).1 dX11_load_5 ?_
  refine j_aload_n C 0 dX11_load_8 rfl ?_
  obtain ⟨q5, h6, hm⟩ := bd_some hm
  refine j_getR C fg_X11_32_10 hv0 (dr_spec h6).1 dX11_load_9 ?_
  obtain ⟨r7, h8, hm⟩ := bd_some hm
  refine call_V (run_LV C lk_X11_284 ⟨rfl, rfl, Nat.le_of_ble_eq_true rfl, Nat.le_of_ble_eq_true rfl⟩ (As := [.ref q3, .ref q5]) ((dr_spec h2).2) rfl rfl (Nat.le_of_ble_eq_true rfl) dX11_load_12 (mc_X6_fillDock _ _ _ _ _ _ _ ((dr_spec h2).2) ((dr_spec h4).2) ((dr_spec h6).2) h8)) ?_
  refine j_aload_n C 0 dX11_load_15 rfl ?_
  obtain ⟨q9, h10, hm⟩ := bd_some hm
  refine j_getR C fg_X11_84_10 hv0 (dr_spec h10).1 dX11_load_16 ?_
  refine j_getI C fg_X11_288_6 ((dr_spec h10).2) dX11_load_19 ?_
  obtain rfl := Option.some.inj hm
  exact j_ireti C dX11_load_22
set_option maxRecDepth 20000 in
set_option maxHeartbeats 4000000 in
theorem mc_X11_load (l : Launch) (N : Nat) (Λ : Lay) (μ : Mem) (v0 : Nat) (hv0 : inL Λ v0 10) {r : Int32 × Mem} (hm : m_X11_load N Λ μ v0 = some r) : MI l yX11_load cX11_load 1 (some .int) rm_X11_load Λ [.ref v0] μ r.1 r.2 := mi_of rfl (Nat.le_of_ble_eq_true rfl) (fun x C _ => tm_X11_load C _ _ _ hv0 hm)
abbrev rm_X11_which : Room := { frames := 6, cells := 0, slots := 0, locals := 146 }
set_option maxRecDepth 20000 in
set_option maxHeartbeats 4000000 in
theorem tm_X11_which {x : Ctx} {Λ : Lay} (C : Cx x cX11_which 1 (some .int) RX11 Λ rm_X11_which) (N : Nat) (μ : Mem) (v0 : Nat) (hv0 : inL Λ v0 10) {r : Int32 × Mem} (hm : m_X11_which N Λ μ v0 = some r) : J x 1 Λ (QI x Λ r.1 r.2) 0 [(0, .ref v0)] [] μ := by
  refine j_aload_n C 0 dX11_which_0 rfl ?_
  obtain ⟨q1, h2, hm⟩ := bd_some hm
  refine j_getR C fg_X11_84_10 hv0 (dr_spec h2).1 dX11_which_1 ?_
  refine j_aload_n C 0 dX11_which_4 rfl ?_
  obtain ⟨q3, h4, hm⟩ := bd_some hm
  refine j_getR C fg_X11_19_10 hv0 (dr_spec h4).1 dX11_which_5 ?_
  refine j_aload_n C 0 dX11_which_8 rfl ?_
  obtain ⟨q5, h6, hm⟩ := bd_some hm
  refine j_getR C fg_X11_32_10 hv0 (dr_spec h6).1 dX11_which_9 ?_
  obtain ⟨r7, h8, hm⟩ := bd_some hm
  refine call_V (run_LV C lk_X11_284 ⟨rfl, rfl, Nat.le_of_ble_eq_true rfl, Nat.le_of_ble_eq_true rfl⟩ (As := [.ref q3, .ref q5]) ((dr_spec h2).2) rfl rfl (Nat.le_of_ble_eq_true rfl) dX11_which_12 (mc_X6_fillDock _ _ _ _ _ _ _ ((dr_spec h2).2) ((dr_spec h4).2) ((dr_spec h6).2) h8)) ?_
  refine j_aload_n C 0 dX11_which_15 rfl ?_
  obtain ⟨q9, h10, hm⟩ := bd_some hm
  refine j_getR C fg_X11_84_10 hv0 (dr_spec h10).1 dX11_which_16 ?_
  refine j_getI C fg_X11_291_6 ((dr_spec h10).2) dX11_which_19 ?_
  obtain rfl := Option.some.inj hm
  exact j_ireti C dX11_which_22
set_option maxRecDepth 20000 in
set_option maxHeartbeats 4000000 in
theorem mc_X11_which (l : Launch) (N : Nat) (Λ : Lay) (μ : Mem) (v0 : Nat) (hv0 : inL Λ v0 10) {r : Int32 × Mem} (hm : m_X11_which N Λ μ v0 = some r) : MI l yX11_which cX11_which 1 (some .int) rm_X11_which Λ [.ref v0] μ r.1 r.2 := mi_of rfl (Nat.le_of_ble_eq_true rfl) (fun x C _ => tm_X11_which C _ _ _ hv0 hm)
abbrev rm_X11_firstHour : Room := { frames := 5, cells := 0, slots := 0, locals := 131 }
set_option maxRecDepth 20000 in
set_option maxHeartbeats 4000000 in
theorem tb_X11_firstHour_13 {x : Ctx} {Λ : Lay} (C : Cx x cX11_firstHour 3 (some .int) RX11 Λ rm_X11_firstHour) (N : Nat) (μ : Mem) (k13 : Int32 × Mem → Option (Int32 × Mem)) (v0 : Nat) (v1 : Int32) (v2 : Int32) (hk13 : ∀ (s : Int32 × Mem) (r : Int32 × Mem), k13 s = some r → J x 3 Λ (QI x Λ r.1 r.2) 13 [(0, .ref v0), (1, .int v1), (2, .int s.1)] [] (s.2)) (hv0 : inL Λ v0 10) {r : Int32 × Mem} (hm : bd_X11_firstHour_13 N Λ μ k13 v0 v1 v2 = some r) : J x 3 Λ (QI x Λ r.1 r.2) 13 [(0, .ref v0), (1, .int v1), (2, .int v2)] [] μ := by
  refine j_iload_n C 2 dX11_firstHour_13 rfl ?_
  refine j_bipush C (v := 60) dX11_firstHour_14 rfl ?_
  refine j_icmp_gt C (tgt := 51) dX11_firstHour_16 (by decide) (fun h1 => ?_) (fun h1 => ?_)
  · replace hm := if_t hm h1
    refine j_iconst C (v := -1) dX11_firstHour_51 rfl ?_
    obtain rfl := Option.some.inj hm
    exact j_ireti C dX11_firstHour_52
  · replace hm := if_f hm h1
    refine j_aload_n C 0 dX11_firstHour_19 rfl ?_
    obtain ⟨q2, h3, hm⟩ := bd_some hm
    refine j_getR C fg_X11_23_10 hv0 (dr_spec h3).1 dX11_firstHour_20 ?_
    refine j_iload_n C 1 dX11_firstHour_23 rfl ?_
    obtain ⟨r4, h5, hm⟩ := bd_some hm
    refine call_I (run_LV C lk_X11_437 ⟨rfl, rfl, Nat.le_of_ble_eq_true rfl, Nat.le_of_ble_eq_true rfl⟩ (As := [.int v1]) ((dr_spec h3).2) rfl rfl (Nat.le_of_ble_eq_true rfl) dX11_firstHour_24 (mc_X9_reaches _ _ _ _ _ _ ((dr_spec h3).2) h5)) ?_
    refine j_if_eq C (tgt := 32) dX11_firstHour_27 (by decide) (fun h6 => ?_) (fun h6 => ?_)
    · replace hm := if_t hm h6
      refine j_aload_n C 0 dX11_firstHour_32 rfl ?_
      obtain ⟨q7, h8, hm⟩ := bd_some hm
      refine j_getR C fg_X11_23_10 hv0 (dr_spec h8).1 dX11_firstHour_33 ?_
      refine j_aload_n C 0 dX11_firstHour_36 rfl ?_
      obtain ⟨q9, h10, hm⟩ := bd_some hm
      refine j_getR C fg_X11_32_10 hv0 (dr_spec h10).1 dX11_firstHour_37 ?_
      refine j_iconst C (v := 0) dX11_firstHour_40 rfl ?_
      obtain ⟨r11, h12, hm⟩ := bd_some hm
      refine call_I (run_LV C lk_X11_440 ⟨rfl, rfl, Nat.le_of_ble_eq_true rfl, Nat.le_of_ble_eq_true rfl⟩ (As := [.ref q9, .int 0]) ((dr_spec h8).2) rfl rfl (Nat.le_of_ble_eq_true rfl) dX11_firstHour_41 (mc_X9_step _ _ _ _ _ _ _ ((dr_spec h8).2) ((dr_spec h10).2) h12)) ?_
      refine j_pop C dX11_firstHour_44 rfl ?_
      obtain ⟨y13, e14, hm⟩ := lt_some hm
      refine j_iinc C 2 (v := y13) (lv' := [(2, .int y13), (0, .ref v0), (1, .int v1)]) dX11_firstHour_45 rfl (by rw [e14]; rfl) (by decide) rfl ?_
      refine j_goto C (tgt := 13) dX11_firstHour_48 (by decide) ?_
      refine j_sub [1, 2, 0] rfl ?_
      exact hk13 (y13, r11.2) _ hm
    · replace hm := if_f hm h6
      refine j_iload_n C 2 dX11_firstHour_30 rfl ?_
      obtain rfl := Option.some.inj hm
      exact j_ireti C dX11_firstHour_31
set_option maxRecDepth 20000 in
set_option maxHeartbeats 4000000 in
theorem tl_X11_firstHour_13 {x : Ctx} {Λ : Lay} (C : Cx x cX11_firstHour 3 (some .int) RX11 Λ rm_X11_firstHour) (N : Nat) (v0 : Nat) (v1 : Int32) (hv0 : inL Λ v0 10) (s : Int32 × Mem) {r : Int32 × Mem} (hm : lp_X11_firstHour_13 N Λ v0 v1 s = some r) : J x 3 Λ (QI x Λ r.1 r.2) 13 [(0, .ref v0), (1, .int v1), (2, .int s.1)] [] (s.2) :=
  cw_ind (P := fun s r => J x 3 Λ (QI x Λ r.1 r.2) 13 [(0, .ref v0), (1, .int v1), (2, .int s.1)] [] (s.2)) (fun k hk s r e => tb_X11_firstHour_13 C _ _ _ _ _ _ hk hv0 e) N s r hm
set_option maxRecDepth 20000 in
set_option maxHeartbeats 4000000 in
theorem tm_X11_firstHour {x : Ctx} {Λ : Lay} (C : Cx x cX11_firstHour 3 (some .int) RX11 Λ rm_X11_firstHour) (N : Nat) (μ : Mem) (v0 : Nat) (v1 : Int32) (hv0 : inL Λ v0 10) {r : Int32 × Mem} (hm : m_X11_firstHour N Λ μ v0 v1 = some r) : J x 3 Λ (QI x Λ r.1 r.2) 0 [(0, .ref v0), (1, .int v1)] [] μ := by
  refine j_aload_n C 0 dX11_firstHour_0 rfl ?_
  obtain ⟨q1, h2, hm⟩ := bd_some hm
  refine j_getR C fg_X11_23_10 hv0 (dr_spec h2).1 dX11_firstHour_1 ?_
  refine j_aload_n C 0 dX11_firstHour_4 rfl ?_
  obtain ⟨q3, h4, hm⟩ := bd_some hm
  refine j_getR C fg_X11_19_10 hv0 (dr_spec h4).1 dX11_firstHour_5 ?_
  obtain ⟨r5, h6, hm⟩ := bd_some hm
  refine call_V (run_LV C lk_X11_99 ⟨rfl, rfl, Nat.le_of_ble_eq_true rfl, Nat.le_of_ble_eq_true rfl⟩ (As := [.ref q3]) ((dr_spec h2).2) rfl rfl (Nat.le_of_ble_eq_true rfl) dX11_firstHour_8 (mc_X9_copy _ _ _ _ _ _ ((dr_spec h2).2) ((dr_spec h4).2) h6)) ?_
  refine j_iconst C (v := 0) dX11_firstHour_11 rfl ?_
  refine j_istore_n C (lv' := [(2, .int 0), (0, .ref v0), (1, .int v1)]) dX11_firstHour_12 (by decide) rfl ?_
  refine j_sub [1, 2, 0] rfl ?_
  exact tl_X11_firstHour_13 C _ _ _ hv0 (0, r5) hm
set_option maxRecDepth 20000 in
set_option maxHeartbeats 4000000 in
theorem mc_X11_firstHour (l : Launch) (N : Nat) (Λ : Lay) (μ : Mem) (v0 : Nat) (v1 : Int32) (hv0 : inL Λ v0 10) {r : Int32 × Mem} (hm : m_X11_firstHour N Λ μ v0 v1 = some r) : MI l yX11_firstHour cX11_firstHour 3 (some .int) rm_X11_firstHour Λ [.ref v0, .int v1] μ r.1 r.2 := mi_of rfl (Nat.le_of_ble_eq_true rfl) (fun x C _ => tm_X11_firstHour C _ _ _ _ hv0 hm)
abbrev rm_X11_dry : Room := { frames := 6, cells := 0, slots := 0, locals := 153 }
set_option maxRecDepth 20000 in
set_option maxHeartbeats 4000000 in
theorem tm_X11_dry {x : Ctx} {Λ : Lay} (C : Cx x cX11_dry 1 (some .int) RX11 Λ rm_X11_dry) (N : Nat) (μ : Mem) (v0 : Nat) (hv0 : inL Λ v0 10) {r : Int32 × Mem} (hm : m_X11_dry N Λ μ v0 = some r) : J x 1 Λ (QI x Λ r.1 r.2) 0 [(0, .ref v0)] [] μ := by
  refine j_aload_n C 0 dX11_dry_0 rfl ?_
  refine j_iconst C (v := 0) dX11_dry_1 rfl ?_
  obtain ⟨r1, h2, hm⟩ := bd_some hm
  refine call_I (run_LV C lk_X11_294 ⟨rfl, rfl, Nat.le_of_ble_eq_true rfl, Nat.le_of_ble_eq_true rfl⟩ (As := [.int 0]) hv0 rfl rfl (Nat.le_of_ble_eq_true rfl) dX11_dry_2 (mc_X11_firstHour _ _ _ _ _ _ hv0 h2)) ?_
  obtain rfl := Option.some.inj hm
  exact j_ireti C dX11_dry_5
set_option maxRecDepth 20000 in
set_option maxHeartbeats 4000000 in
theorem mc_X11_dry (l : Launch) (N : Nat) (Λ : Lay) (μ : Mem) (v0 : Nat) (hv0 : inL Λ v0 10) {r : Int32 × Mem} (hm : m_X11_dry N Λ μ v0 = some r) : MI l yX11_dry cX11_dry 1 (some .int) rm_X11_dry Λ [.ref v0] μ r.1 r.2 := mi_of rfl (Nat.le_of_ble_eq_true rfl) (fun x C _ => tm_X11_dry C _ _ _ hv0 hm)
abbrev rm_X11_ready : Room := { frames := 6, cells := 0, slots := 0, locals := 153 }
set_option maxRecDepth 20000 in
set_option maxHeartbeats 4000000 in
theorem tm_X11_ready {x : Ctx} {Λ : Lay} (C : Cx x cX11_ready 1 (some .int) RX11 Λ rm_X11_ready) (N : Nat) (μ : Mem) (v0 : Nat) (hv0 : inL Λ v0 10) {r : Int32 × Mem} (hm : m_X11_ready N Λ μ v0 = some r) : J x 1 Λ (QI x Λ r.1 r.2) 0 [(0, .ref v0)] [] μ := by
  refine j_aload_n C 0 dX11_ready_0 rfl ?_
  refine j_iconst C (v := 1) dX11_ready_1 rfl ?_
  obtain ⟨r1, h2, hm⟩ := bd_some hm
  refine call_I (run_LV C lk_X11_294 ⟨rfl, rfl, Nat.le_of_ble_eq_true rfl, Nat.le_of_ble_eq_true rfl⟩ (As := [.int 1]) hv0 rfl rfl (Nat.le_of_ble_eq_true rfl) dX11_ready_2 (mc_X11_firstHour _ _ _ _ _ _ hv0 h2)) ?_
  obtain rfl := Option.some.inj hm
  exact j_ireti C dX11_ready_5
set_option maxRecDepth 20000 in
set_option maxHeartbeats 4000000 in
theorem mc_X11_ready (l : Launch) (N : Nat) (Λ : Lay) (μ : Mem) (v0 : Nat) (hv0 : inL Λ v0 10) {r : Int32 × Mem} (hm : m_X11_ready N Λ μ v0 = some r) : MI l yX11_ready cX11_ready 1 (some .int) rm_X11_ready Λ [.ref v0] μ r.1 r.2 := mi_of rfl (Nat.le_of_ble_eq_true rfl) (fun x C _ => tm_X11_ready C _ _ _ hv0 hm)
abbrev rm_X11_ease : Room := { frames := 6, cells := 0, slots := 0, locals := 153 }
set_option maxRecDepth 20000 in
set_option maxHeartbeats 4000000 in
theorem tm_X11_ease {x : Ctx} {Λ : Lay} (C : Cx x cX11_ease 1 (some .int) RX11 Λ rm_X11_ease) (N : Nat) (μ : Mem) (v0 : Nat) (hv0 : inL Λ v0 10) {r : Int32 × Mem} (hm : m_X11_ease N Λ μ v0 = some r) : J x 1 Λ (QI x Λ r.1 r.2) 0 [(0, .ref v0)] [] μ := by
  refine j_aload_n C 0 dX11_ease_0 rfl ?_
  refine j_iconst C (v := 2) dX11_ease_1 rfl ?_
  obtain ⟨r1, h2, hm⟩ := bd_some hm
  refine call_I (run_LV C lk_X11_294 ⟨rfl, rfl, Nat.le_of_ble_eq_true rfl, Nat.le_of_ble_eq_true rfl⟩ (As := [.int 2]) hv0 rfl rfl (Nat.le_of_ble_eq_true rfl) dX11_ease_2 (mc_X11_firstHour _ _ _ _ _ _ hv0 h2)) ?_
  obtain rfl := Option.some.inj hm
  exact j_ireti C dX11_ease_5
set_option maxRecDepth 20000 in
set_option maxHeartbeats 4000000 in
theorem mc_X11_ease (l : Launch) (N : Nat) (Λ : Lay) (μ : Mem) (v0 : Nat) (hv0 : inL Λ v0 10) {r : Int32 × Mem} (hm : m_X11_ease N Λ μ v0 = some r) : MI l yX11_ease cX11_ease 1 (some .int) rm_X11_ease Λ [.ref v0] μ r.1 r.2 := mi_of rfl (Nat.le_of_ble_eq_true rfl) (fun x C _ => tm_X11_ease C _ _ _ hv0 hm)
abbrev rm_X11_cost : Room := { frames := 6, cells := 0, slots := 0, locals := 146 }
set_option maxRecDepth 20000 in
set_option maxHeartbeats 4000000 in
theorem tm_X11_cost {x : Ctx} {Λ : Lay} (C : Cx x cX11_cost 1 (some .int) RX11 Λ rm_X11_cost) (N : Nat) (μ : Mem) (v0 : Nat) (hv0 : inL Λ v0 10) {r : Int32 × Mem} (hm : m_X11_cost N Λ μ v0 = some r) : J x 1 Λ (QI x Λ r.1 r.2) 0 [(0, .ref v0)] [] μ := by
  refine j_aload_n C 0 dX11_cost_0 rfl ?_
  obtain ⟨q1, h2, hm⟩ := bd_some hm
  refine j_getR C fg_X11_84_10 hv0 (dr_spec h2).1 dX11_cost_1 ?_
  refine j_aload_n C 0 dX11_cost_4 rfl ?_
  obtain ⟨q3, h4, hm⟩ := bd_some hm
  refine j_getR C fg_X11_19_10 hv0 (dr_spec h4).1 dX11_cost_5 ?_
  refine j_aload_n C 0 dX11_cost_8 rfl ?_
  obtain ⟨q5, h6, hm⟩ := bd_some hm
  refine j_getR C fg_X11_32_10 hv0 (dr_spec h6).1 dX11_cost_9 ?_
  obtain ⟨r7, h8, hm⟩ := bd_some hm
  refine call_V (run_LV C lk_X11_297 ⟨rfl, rfl, Nat.le_of_ble_eq_true rfl, Nat.le_of_ble_eq_true rfl⟩ (As := [.ref q3, .ref q5]) ((dr_spec h2).2) rfl rfl (Nat.le_of_ble_eq_true rfl) dX11_cost_12 (mc_X6_orderWork _ _ _ _ _ _ _ ((dr_spec h2).2) ((dr_spec h4).2) ((dr_spec h6).2) h8)) ?_
  refine j_aload_n C 0 dX11_cost_15 rfl ?_
  obtain ⟨q9, h10, hm⟩ := bd_some hm
  refine j_getR C fg_X11_84_10 hv0 (dr_spec h10).1 dX11_cost_16 ?_
  refine j_getI C fg_X11_288_6 ((dr_spec h10).2) dX11_cost_19 ?_
  obtain rfl := Option.some.inj hm
  exact j_ireti C dX11_cost_22
set_option maxRecDepth 20000 in
set_option maxHeartbeats 4000000 in
theorem mc_X11_cost (l : Launch) (N : Nat) (Λ : Lay) (μ : Mem) (v0 : Nat) (hv0 : inL Λ v0 10) {r : Int32 × Mem} (hm : m_X11_cost N Λ μ v0 = some r) : MI l yX11_cost cX11_cost 1 (some .int) rm_X11_cost Λ [.ref v0] μ r.1 r.2 := mi_of rfl (Nat.le_of_ble_eq_true rfl) (fun x C _ => tm_X11_cost C _ _ _ hv0 hm)
abbrev rm_X11_first : Room := { frames := 6, cells := 0, slots := 0, locals := 146 }
set_option maxRecDepth 20000 in
set_option maxHeartbeats 4000000 in
theorem tm_X11_first {x : Ctx} {Λ : Lay} (C : Cx x cX11_first 1 (some .int) RX11 Λ rm_X11_first) (N : Nat) (μ : Mem) (v0 : Nat) (hv0 : inL Λ v0 10) {r : Int32 × Mem} (hm : m_X11_first N Λ μ v0 = some r) : J x 1 Λ (QI x Λ r.1 r.2) 0 [(0, .ref v0)] [] μ := by
  refine j_aload_n C 0 dX11_first_0 rfl ?_
  obtain ⟨q1, h2, hm⟩ := bd_some hm
  refine j_getR C fg_X11_84_10 hv0 (dr_spec h2).1 dX11_first_1 ?_
  refine j_aload_n C 0 dX11_first_4 rfl ?_
  obtain ⟨q3, h4, hm⟩ := bd_some hm
  refine j_getR C fg_X11_19_10 hv0 (dr_spec h4).1 dX11_first_5 ?_
  refine j_aload_n C 0 dX11_first_8 rfl ?_
  obtain ⟨q5, h6, hm⟩ := bd_some hm
  refine j_getR C fg_X11_32_10 hv0 (dr_spec h6).1 dX11_first_9 ?_
  obtain ⟨r7, h8, hm⟩ := bd_some hm
  refine call_V (run_LV C lk_X11_297 ⟨rfl, rfl, Nat.le_of_ble_eq_true rfl, Nat.le_of_ble_eq_true rfl⟩ (As := [.ref q3, .ref q5]) ((dr_spec h2).2) rfl rfl (Nat.le_of_ble_eq_true rfl) dX11_first_12 (mc_X6_orderWork _ _ _ _ _ _ _ ((dr_spec h2).2) ((dr_spec h4).2) ((dr_spec h6).2) h8)) ?_
  refine j_aload_n C 0 dX11_first_15 rfl ?_
  obtain ⟨q9, h10, hm⟩ := bd_some hm
  refine j_getR C fg_X11_84_10 hv0 (dr_spec h10).1 dX11_first_16 ?_
  refine j_getI C fg_X11_291_6 ((dr_spec h10).2) dX11_first_19 ?_
  obtain rfl := Option.some.inj hm
  exact j_ireti C dX11_first_22
set_option maxRecDepth 20000 in
set_option maxHeartbeats 4000000 in
theorem mc_X11_first (l : Launch) (N : Nat) (Λ : Lay) (μ : Mem) (v0 : Nat) (hv0 : inL Λ v0 10) {r : Int32 × Mem} (hm : m_X11_first N Λ μ v0 = some r) : MI l yX11_first cX11_first 1 (some .int) rm_X11_first Λ [.ref v0] μ r.1 r.2 := mi_of rfl (Nat.le_of_ble_eq_true rfl) (fun x C _ => tm_X11_first C _ _ _ hv0 hm)
abbrev rm_X11_knocks : Room := { frames := 1, cells := 0, slots := 0, locals := 23 }
set_option maxRecDepth 20000 in
set_option maxHeartbeats 4000000 in
theorem tj_X11_knocks_18 {x : Ctx} {Λ : Lay} (C : Cx x cX11_knocks 1 (some .boolean) RX11 Λ rm_X11_knocks) (N : Nat) (μ : Mem) (s0 : Int32) {r : Int32} (hm : jn_X11_knocks_18 N Λ μ s0 = some r) : J x 1 Λ (QI x Λ r μ) 18 [] [.int s0] μ := by
  obtain ⟨h1, hm⟩ := gd_some hm
  obtain rfl := Option.some.inj hm
  exact j_iretz C h1 dX11_knocks_18
set_option maxRecDepth 20000 in
set_option maxHeartbeats 4000000 in
theorem tm_X11_knocks {x : Ctx} {Λ : Lay} (C : Cx x cX11_knocks 1 (some .boolean) RX11 Λ rm_X11_knocks) (N : Nat) (μ : Mem) (v0 : Nat) (hv0 : inL Λ v0 10) {r : Int32} (hm : m_X11_knocks N Λ μ v0 = some r) : J x 1 Λ (QI x Λ r μ) 0 [(0, .ref v0)] [] μ := by
  refine j_aload_n C 0 dX11_knocks_0 rfl ?_
  obtain ⟨q1, h2, hm⟩ := bd_some hm
  refine j_getR C fg_X11_19_10 hv0 (dr_spec h2).1 dX11_knocks_1 ?_
  refine j_getI C fg_X11_190_8 ((dr_spec h2).2) dX11_knocks_4 ?_
  obtain ⟨r3, h4, hm⟩ := bd_some hm
  refine call_I (run_LS C ls_X11_326 ⟨rfl, rfl, Nat.le_of_ble_eq_true rfl, Nat.le_of_ble_eq_true rfl⟩ (As := [.int (μ.1 q1 9)]) rfl rfl (Nat.le_of_ble_eq_true rfl) dX11_knocks_7 (mc_X6_knockValue _ _ _ _ _  h4)) ?_
  refine j_if_eq C (tgt := 17) dX11_knocks_10 (by decide) (fun h5 => ?_) (fun h5 => ?_)
  · replace hm := if_t hm h5
    refine j_iconst C (v := 0) dX11_knocks_17 rfl ?_
    refine j_sub [] rfl ?_
    exact tj_X11_knocks_18 C _ _ _  hm
  · replace hm := if_f hm h5
    refine j_iconst C (v := 1) dX11_knocks_13 rfl ?_
    refine j_goto C (tgt := 18) dX11_knocks_14 (by decide) ?_
    refine j_sub [] rfl ?_
    exact tj_X11_knocks_18 C _ _ _  hm
set_option maxRecDepth 20000 in
set_option maxHeartbeats 4000000 in
theorem mc_X11_knocks (l : Launch) (N : Nat) (Λ : Lay) (μ : Mem) (v0 : Nat) (hv0 : inL Λ v0 10) {r : Int32} (hm : m_X11_knocks N Λ μ v0 = some r) : MI l yX11_knocks cX11_knocks 1 (some .boolean) rm_X11_knocks Λ [.ref v0] μ r μ := mi_of rfl (Nat.le_of_ble_eq_true rfl) (fun x C _ => tm_X11_knocks C _ _ _ hv0 hm)
abbrev rm_X11_knock : Room := { frames := 2, cells := 0, slots := 0, locals := 45 }
set_option maxRecDepth 20000 in
set_option maxHeartbeats 4000000 in
theorem tm_X11_knock {x : Ctx} {Λ : Lay} (C : Cx x cX11_knock 1 (some .int) RX11 Λ rm_X11_knock) (N : Nat) (μ : Mem) (v0 : Nat) (hv0 : inL Λ v0 10) {r : Int32} (hm : m_X11_knock N Λ μ v0 = some r) : J x 1 Λ (QI x Λ r μ) 0 [(0, .ref v0)] [] μ := by
  refine j_aload_n C 0 dX11_knock_0 rfl ?_
  obtain ⟨q1, h2, hm⟩ := bd_some hm
  refine j_getR C fg_X11_19_10 hv0 (dr_spec h2).1 dX11_knock_1 ?_
  refine j_getI C fg_X11_190_8 ((dr_spec h2).2) dX11_knock_4 ?_
  obtain ⟨r3, h4, hm⟩ := bd_some hm
  refine call_I (run_LS C ls_X11_329 ⟨rfl, rfl, Nat.le_of_ble_eq_true rfl, Nat.le_of_ble_eq_true rfl⟩ (As := [.int (μ.1 q1 9)]) rfl rfl (Nat.le_of_ble_eq_true rfl) dX11_knock_7 (mc_X6_winningKnock _ _ _ _ _  h4)) ?_
  obtain rfl := Option.some.inj hm
  exact j_ireti C dX11_knock_10
set_option maxRecDepth 20000 in
set_option maxHeartbeats 4000000 in
theorem mc_X11_knock (l : Launch) (N : Nat) (Λ : Lay) (μ : Mem) (v0 : Nat) (hv0 : inL Λ v0 10) {r : Int32} (hm : m_X11_knock N Λ μ v0 = some r) : MI l yX11_knock cX11_knock 1 (some .int) rm_X11_knock Λ [.ref v0] μ r μ := mi_of rfl (Nat.le_of_ble_eq_true rfl) (fun x C _ => tm_X11_knock C _ _ _ hv0 hm)
abbrev rm_X11_waiting : Room := { frames := 1, cells := 0, slots := 0, locals := 23 }
set_option maxRecDepth 20000 in
set_option maxHeartbeats 4000000 in
theorem tm_X11_waiting {x : Ctx} {Λ : Lay} (C : Cx x cX11_waiting 1 (some .int) RX11 Λ rm_X11_waiting) (N : Nat) (μ : Mem) (v0 : Nat) (hv0 : inL Λ v0 10) {r : Int32} (hm : m_X11_waiting N Λ μ v0 = some r) : J x 1 Λ (QI x Λ r μ) 0 [(0, .ref v0)] [] μ := by
  refine j_aload_n C 0 dX11_waiting_0 rfl ?_
  obtain ⟨q1, h2, hm⟩ := bd_some hm
  refine j_getR C fg_X11_19_10 hv0 (dr_spec h2).1 dX11_waiting_1 ?_
  refine j_iconst C (v := 0) dX11_waiting_4 rfl ?_
  obtain ⟨r3, h4, hm⟩ := bd_some hm
  refine call_I (run_LV C lk_X11_357 ⟨rfl, rfl, Nat.le_of_ble_eq_true rfl, Nat.le_of_ble_eq_true rfl⟩ (As := [.int 0]) ((dr_spec h2).2) rfl rfl (Nat.le_of_ble_eq_true rfl) dX11_waiting_5 (mc_X9_standing _ _ _ _ _ _ ((dr_spec h2).2) h4)) ?_
  obtain rfl := Option.some.inj hm
  exact j_ireti C dX11_waiting_8
set_option maxRecDepth 20000 in
set_option maxHeartbeats 4000000 in
theorem mc_X11_waiting (l : Launch) (N : Nat) (Λ : Lay) (μ : Mem) (v0 : Nat) (hv0 : inL Λ v0 10) {r : Int32} (hm : m_X11_waiting N Λ μ v0 = some r) : MI l yX11_waiting cX11_waiting 1 (some .int) rm_X11_waiting Λ [.ref v0] μ r μ := mi_of rfl (Nat.le_of_ble_eq_true rfl) (fun x C _ => tm_X11_waiting C _ _ _ hv0 hm)
abbrev rm_X11_docked : Room := { frames := 1, cells := 0, slots := 0, locals := 23 }
set_option maxRecDepth 20000 in
set_option maxHeartbeats 4000000 in
theorem tm_X11_docked {x : Ctx} {Λ : Lay} (C : Cx x cX11_docked 1 (some .int) RX11 Λ rm_X11_docked) (N : Nat) (μ : Mem) (v0 : Nat) (hv0 : inL Λ v0 10) {r : Int32} (hm : m_X11_docked N Λ μ v0 = some r) : J x 1 Λ (QI x Λ r μ) 0 [(0, .ref v0)] [] μ := by
  refine j_aload_n C 0 dX11_docked_0 rfl ?_
  obtain ⟨q1, h2, hm⟩ := bd_some hm
  refine j_getR C fg_X11_19_10 hv0 (dr_spec h2).1 dX11_docked_1 ?_
  refine j_iconst C (v := 1) dX11_docked_4 rfl ?_
  obtain ⟨r3, h4, hm⟩ := bd_some hm
  refine call_I (run_LV C lk_X11_357 ⟨rfl, rfl, Nat.le_of_ble_eq_true rfl, Nat.le_of_ble_eq_true rfl⟩ (As := [.int 1]) ((dr_spec h2).2) rfl rfl (Nat.le_of_ble_eq_true rfl) dX11_docked_5 (mc_X9_standing _ _ _ _ _ _ ((dr_spec h2).2) h4)) ?_
  obtain rfl := Option.some.inj hm
  exact j_ireti C dX11_docked_8
set_option maxRecDepth 20000 in
set_option maxHeartbeats 4000000 in
theorem mc_X11_docked (l : Launch) (N : Nat) (Λ : Lay) (μ : Mem) (v0 : Nat) (hv0 : inL Λ v0 10) {r : Int32} (hm : m_X11_docked N Λ μ v0 = some r) : MI l yX11_docked cX11_docked 1 (some .int) rm_X11_docked Λ [.ref v0] μ r μ := mi_of rfl (Nat.le_of_ble_eq_true rfl) (fun x C _ => tm_X11_docked C _ _ _ hv0 hm)
abbrev rm_X11_gone : Room := { frames := 1, cells := 0, slots := 0, locals := 23 }
set_option maxRecDepth 20000 in
set_option maxHeartbeats 4000000 in
theorem tm_X11_gone {x : Ctx} {Λ : Lay} (C : Cx x cX11_gone 1 (some .int) RX11 Λ rm_X11_gone) (N : Nat) (μ : Mem) (v0 : Nat) (hv0 : inL Λ v0 10) {r : Int32} (hm : m_X11_gone N Λ μ v0 = some r) : J x 1 Λ (QI x Λ r μ) 0 [(0, .ref v0)] [] μ := by
  refine j_aload_n C 0 dX11_gone_0 rfl ?_
  obtain ⟨q1, h2, hm⟩ := bd_some hm
  refine j_getR C fg_X11_19_10 hv0 (dr_spec h2).1 dX11_gone_1 ?_
  refine j_iconst C (v := 2) dX11_gone_4 rfl ?_
  obtain ⟨r3, h4, hm⟩ := bd_some hm
  refine call_I (run_LV C lk_X11_357 ⟨rfl, rfl, Nat.le_of_ble_eq_true rfl, Nat.le_of_ble_eq_true rfl⟩ (As := [.int 2]) ((dr_spec h2).2) rfl rfl (Nat.le_of_ble_eq_true rfl) dX11_gone_5 (mc_X9_standing _ _ _ _ _ _ ((dr_spec h2).2) h4)) ?_
  obtain rfl := Option.some.inj hm
  exact j_ireti C dX11_gone_8
set_option maxRecDepth 20000 in
set_option maxHeartbeats 4000000 in
theorem mc_X11_gone (l : Launch) (N : Nat) (Λ : Lay) (μ : Mem) (v0 : Nat) (hv0 : inL Λ v0 10) {r : Int32} (hm : m_X11_gone N Λ μ v0 = some r) : MI l yX11_gone cX11_gone 1 (some .int) rm_X11_gone Λ [.ref v0] μ r μ := mi_of rfl (Nat.le_of_ble_eq_true rfl) (fun x C _ => tm_X11_gone C _ _ _ hv0 hm)
abbrev rm_X11_hurt : Room := { frames := 0, cells := 0, slots := 0, locals := 0 }
set_option maxRecDepth 20000 in
set_option maxHeartbeats 4000000 in
theorem tm_X11_hurt {x : Ctx} {Λ : Lay} (C : Cx x cX11_hurt 1 (some .int) RX11 Λ rm_X11_hurt) (N : Nat) (μ : Mem) (v0 : Nat) (hv0 : inL Λ v0 10) {r : Int32} (hm : m_X11_hurt N Λ μ v0 = some r) : J x 1 Λ (QI x Λ r μ) 0 [(0, .ref v0)] [] μ := by
  refine j_aload_n C 0 dX11_hurt_0 rfl ?_
  obtain ⟨q1, h2, hm⟩ := bd_some hm
  refine j_getR C fg_X11_19_10 hv0 (dr_spec h2).1 dX11_hurt_1 ?_
  refine j_getI C fg_X11_360_8 ((dr_spec h2).2) dX11_hurt_4 ?_
  obtain rfl := Option.some.inj hm
  exact j_ireti C dX11_hurt_7
set_option maxRecDepth 20000 in
set_option maxHeartbeats 4000000 in
theorem mc_X11_hurt (l : Launch) (N : Nat) (Λ : Lay) (μ : Mem) (v0 : Nat) (hv0 : inL Λ v0 10) {r : Int32} (hm : m_X11_hurt N Λ μ v0 = some r) : MI l yX11_hurt cX11_hurt 1 (some .int) rm_X11_hurt Λ [.ref v0] μ r μ := mi_of rfl (Nat.le_of_ble_eq_true rfl) (fun x C _ => tm_X11_hurt C _ _ _ hv0 hm)
abbrev rm_X11_twins : Room := { frames := 0, cells := 0, slots := 0, locals := 0 }
set_option maxRecDepth 20000 in
set_option maxHeartbeats 4000000 in
theorem tj_X11_twins_75 {x : Ctx} {Λ : Lay} (C : Cx x cX11_twins 4 (some .int) RX11 Λ rm_X11_twins) (N : Nat) (μ : Mem) (k4 : Int32 × Int32 → Option (Int32)) (k19 : Int32 × Int32 → Option (Int32)) (v0 : Nat) (v1 : Int32) (v2 : Int32) (v3 : Int32) (hk4 : ∀ (s : Int32 × Int32) (r : Int32), k4 s = some r → J x 4 Λ (QI x Λ r μ) 4 [(0, .ref v0), (1, .int s.1), (2, .int s.2)] [] (μ)) (hk19 : ∀ (s : Int32 × Int32) (r : Int32), k19 s = some r → J x 4 Λ (QI x Λ r μ) 19 [(0, .ref v0), (1, .int s.1), (2, .int v2), (3, .int s.2)] [] (μ)) (hv0 : inL Λ v0 10) {r : Int32} (hm : jn_X11_twins_75 N Λ μ k4 k19 v0 v1 v2 v3 = some r) : J x 4 Λ (QI x Λ r μ) 75 [(0, .ref v0), (1, .int v1), (2, .int v2), (3, .int v3)] [] μ := by
  obtain ⟨y1, e2, hm⟩ := lt_some hm
  refine j_iinc C 3 (v := y1) (lv' := [(3, .int y1), (0, .ref v0), (1, .int v1), (2, .int v2)]) dX11_twins_75 rfl (by rw [e2]; rfl) (by decide) rfl ?_
  refine j_goto C (tgt := 19) dX11_twins_78 (by decide) ?_
  refine j_sub [1, 2, 3, 0] rfl ?_
  exact hk19 (v1, y1) _ hm
set_option maxRecDepth 20000 in
set_option maxHeartbeats 4000000 in
theorem tb_X11_twins_19 {x : Ctx} {Λ : Lay} (C : Cx x cX11_twins 4 (some .int) RX11 Λ rm_X11_twins) (N : Nat) (μ : Mem) (k4 : Int32 × Int32 → Option (Int32)) (k19 : Int32 × Int32 → Option (Int32)) (v0 : Nat) (v1 : Int32) (v2 : Int32) (v3 : Int32) (hk4 : ∀ (s : Int32 × Int32) (r : Int32), k4 s = some r → J x 4 Λ (QI x Λ r μ) 4 [(0, .ref v0), (1, .int s.1), (2, .int s.2)] [] (μ)) (hk19 : ∀ (s : Int32 × Int32) (r : Int32), k19 s = some r → J x 4 Λ (QI x Λ r μ) 19 [(0, .ref v0), (1, .int s.1), (2, .int v2), (3, .int s.2)] [] (μ)) (hv0 : inL Λ v0 10) {r : Int32} (hm : bd_X11_twins_19 N Λ μ k4 k19 v0 v1 v2 v3 = some r) : J x 4 Λ (QI x Λ r μ) 19 [(0, .ref v0), (1, .int v1), (2, .int v2), (3, .int v3)] [] μ := by
  refine j_iload_n C 3 dX11_twins_19 rfl ?_
  refine j_aload_n C 0 dX11_twins_20 rfl ?_
  obtain ⟨q1, h2, hm⟩ := bd_some hm
  refine j_getR C fg_X11_19_10 hv0 (dr_spec h2).1 dX11_twins_21 ?_
  refine j_getI C fg_X11_253_8 ((dr_spec h2).2) dX11_twins_24 ?_
  refine j_icmp_ge C (tgt := 81) dX11_twins_27 (by decide) (fun h3 => ?_) (fun h3 => ?_)
  · replace hm := if_t hm h3
    obtain ⟨y4, e5, hm⟩ := lt_some hm
    refine j_iinc C 2 (v := y4) (lv' := [(2, .int y4), (0, .ref v0), (1, .int v1), (3, .int v3)]) dX11_twins_81 rfl (by rw [e5]; rfl) (by decide) rfl ?_
    refine j_goto C (tgt := 4) dX11_twins_84 (by decide) ?_
    refine j_sub [1, 2, 0] rfl ?_
    exact hk4 (v1, y4) _ hm
  · replace hm := if_f hm h3
    refine j_aload_n C 0 dX11_twins_30 rfl ?_
    obtain ⟨q6, h7, hm⟩ := bd_some hm
    refine j_getR C fg_X11_19_10 hv0 (dr_spec h7).1 dX11_twins_31 ?_
    obtain ⟨q8, h9, hm⟩ := bd_some hm
    refine j_getR C fg_X11_140_8 ((dr_spec h7).2) (dr_spec h9).1 dX11_twins_34 ?_
    refine j_iload_n C 2 dX11_twins_37 rfl ?_
    obtain ⟨h10, hm⟩ := gd_some hm
    refine j_iald C ((dr_spec h9).2) h10 dX11_twins_38 ?_
    refine j_aload_n C 0 dX11_twins_39 rfl ?_
    obtain ⟨q11, h12, hm⟩ := bd_some hm
    refine j_getR C fg_X11_19_10 hv0 (dr_spec h12).1 dX11_twins_40 ?_
    obtain ⟨q13, h14, hm⟩ := bd_some hm
    refine j_getR C fg_X11_140_8 ((dr_spec h12).2) (dr_spec h14).1 dX11_twins_43 ?_
    refine j_iload_n C 3 dX11_twins_46 rfl ?_
    obtain ⟨h15, hm⟩ := gd_some hm
    refine j_iald C ((dr_spec h14).2) h15 dX11_twins_47 ?_
    refine j_icmp_ne C (tgt := 75) dX11_twins_48 (by decide) (fun h16 => ?_) (fun h16 => ?_)
    · replace hm := if_f hm h16
      exact tj_X11_twins_75 C _ _ _ _ _ _ _ _ hk4 hk19 hv0 hm
    · replace hm := if_t hm h16
      refine j_aload_n C 0 dX11_twins_51 rfl ?_
      obtain ⟨q17, h18, hm⟩ := bd_some hm
      refine j_getR C fg_X11_19_10 hv0 (dr_spec h18).1 dX11_twins_52 ?_
      obtain ⟨q19, h20, hm⟩ := bd_some hm
      refine j_getR C fg_X11_144_8 ((dr_spec h18).2) (dr_spec h20).1 dX11_twins_55 ?_
      refine j_iload_n C 2 dX11_twins_58 rfl ?_
      obtain ⟨h21, hm⟩ := gd_some hm
      refine j_iald C ((dr_spec h20).2) h21 dX11_twins_59 ?_
      refine j_aload_n C 0 dX11_twins_60 rfl ?_
      obtain ⟨q22, h23, hm⟩ := bd_some hm
      refine j_getR C fg_X11_19_10 hv0 (dr_spec h23).1 dX11_twins_61 ?_
      obtain ⟨q24, h25, hm⟩ := bd_some hm
      refine j_getR C fg_X11_144_8 ((dr_spec h23).2) (dr_spec h25).1 dX11_twins_64 ?_
      refine j_iload_n C 3 dX11_twins_67 rfl ?_
      obtain ⟨h26, hm⟩ := gd_some hm
      refine j_iald C ((dr_spec h25).2) h26 dX11_twins_68 ?_
      refine j_icmp_ne C (tgt := 75) dX11_twins_69 (by decide) (fun h27 => ?_) (fun h27 => ?_)
      · replace hm := if_f hm h27
        exact tj_X11_twins_75 C _ _ _ _ _ _ _ _ hk4 hk19 hv0 hm
      · replace hm := if_t hm h27
        obtain ⟨y28, e29, hm⟩ := lt_some hm
        refine j_iinc C 1 (v := y28) (lv' := [(1, .int y28), (0, .ref v0), (2, .int v2), (3, .int v3)]) dX11_twins_72 rfl (by rw [e29]; rfl) (by decide) rfl ?_
        refine j_sub [1, 0, 2, 3] rfl ?_
        exact tj_X11_twins_75 C _ _ _ _ _ _ _ _ hk4 hk19 hv0 hm
set_option maxRecDepth 20000 in
set_option maxHeartbeats 4000000 in
theorem tl_X11_twins_19 {x : Ctx} {Λ : Lay} (C : Cx x cX11_twins 4 (some .int) RX11 Λ rm_X11_twins) (N : Nat) (μ : Mem) (k4 : Int32 × Int32 → Option (Int32)) (v0 : Nat) (v2 : Int32) (hk4 : ∀ (s : Int32 × Int32) (r : Int32), k4 s = some r → J x 4 Λ (QI x Λ r μ) 4 [(0, .ref v0), (1, .int s.1), (2, .int s.2)] [] (μ)) (hv0 : inL Λ v0 10) (s : Int32 × Int32) {r : Int32} (hm : lp_X11_twins_19 N Λ μ k4 v0 v2 s = some r) : J x 4 Λ (QI x Λ r μ) 19 [(0, .ref v0), (1, .int s.1), (2, .int v2), (3, .int s.2)] [] (μ) :=
  cw_ind (P := fun s r => J x 4 Λ (QI x Λ r μ) 19 [(0, .ref v0), (1, .int s.1), (2, .int v2), (3, .int s.2)] [] (μ)) (fun k hk s r e => tb_X11_twins_19 C _ _ _ _ _ _ _ _ hk4 hk hv0 e) N s r hm
set_option maxRecDepth 20000 in
set_option maxHeartbeats 4000000 in
theorem tb_X11_twins_4 {x : Ctx} {Λ : Lay} (C : Cx x cX11_twins 4 (some .int) RX11 Λ rm_X11_twins) (N : Nat) (μ : Mem) (k4 : Int32 × Int32 → Option (Int32)) (v0 : Nat) (v1 : Int32) (v2 : Int32) (hk4 : ∀ (s : Int32 × Int32) (r : Int32), k4 s = some r → J x 4 Λ (QI x Λ r μ) 4 [(0, .ref v0), (1, .int s.1), (2, .int s.2)] [] (μ)) (hv0 : inL Λ v0 10) {r : Int32} (hm : bd_X11_twins_4 N Λ μ k4 v0 v1 v2 = some r) : J x 4 Λ (QI x Λ r μ) 4 [(0, .ref v0), (1, .int v1), (2, .int v2)] [] μ := by
  refine j_iload_n C 2 dX11_twins_4 rfl ?_
  refine j_aload_n C 0 dX11_twins_5 rfl ?_
  obtain ⟨q1, h2, hm⟩ := bd_some hm
  refine j_getR C fg_X11_19_10 hv0 (dr_spec h2).1 dX11_twins_6 ?_
  refine j_getI C fg_X11_253_8 ((dr_spec h2).2) dX11_twins_9 ?_
  refine j_icmp_ge C (tgt := 87) dX11_twins_12 (by decide) (fun h3 => ?_) (fun h3 => ?_)
  · replace hm := if_t hm h3
    refine j_iload_n C 1 dX11_twins_87 rfl ?_
    obtain rfl := Option.some.inj hm
    exact j_ireti C dX11_twins_88
  · replace hm := if_f hm h3
    refine j_iload_n C 2 dX11_twins_15 rfl ?_
    refine j_iconst C (v := 1) dX11_twins_16 rfl ?_
    refine j_iadd C dX11_twins_17 ?_
    obtain ⟨y4, e5, hm⟩ := lt_some hm
    refine j_topi e5 ?_
    refine j_istore_n C (lv' := [(3, .int y4), (0, .ref v0), (1, .int v1), (2, .int v2)]) dX11_twins_18 (by decide) rfl ?_
    refine j_sub [1, 2, 3, 0] rfl ?_
    exact tl_X11_twins_19 C _ _ _ _ _ hk4 hv0 (v1, y4) hm
set_option maxRecDepth 20000 in
set_option maxHeartbeats 4000000 in
theorem tl_X11_twins_4 {x : Ctx} {Λ : Lay} (C : Cx x cX11_twins 4 (some .int) RX11 Λ rm_X11_twins) (N : Nat) (μ : Mem) (v0 : Nat) (hv0 : inL Λ v0 10) (s : Int32 × Int32) {r : Int32} (hm : lp_X11_twins_4 N Λ μ v0 s = some r) : J x 4 Λ (QI x Λ r μ) 4 [(0, .ref v0), (1, .int s.1), (2, .int s.2)] [] (μ) :=
  cw_ind (P := fun s r => J x 4 Λ (QI x Λ r μ) 4 [(0, .ref v0), (1, .int s.1), (2, .int s.2)] [] (μ)) (fun k hk s r e => tb_X11_twins_4 C _ _ _ _ _ _ hk hv0 e) N s r hm
set_option maxRecDepth 20000 in
set_option maxHeartbeats 4000000 in
theorem tm_X11_twins {x : Ctx} {Λ : Lay} (C : Cx x cX11_twins 4 (some .int) RX11 Λ rm_X11_twins) (N : Nat) (μ : Mem) (v0 : Nat) (hv0 : inL Λ v0 10) {r : Int32} (hm : m_X11_twins N Λ μ v0 = some r) : J x 4 Λ (QI x Λ r μ) 0 [(0, .ref v0)] [] μ := by
  refine j_iconst C (v := 0) dX11_twins_0 rfl ?_
  refine j_istore_n C (lv' := [(1, .int 0), (0, .ref v0)]) dX11_twins_1 (by decide) rfl ?_
  refine j_iconst C (v := 0) dX11_twins_2 rfl ?_
  refine j_istore_n C (lv' := [(2, .int 0), (1, .int 0), (0, .ref v0)]) dX11_twins_3 (by decide) rfl ?_
  refine j_sub [2, 1, 0] rfl ?_
  exact tl_X11_twins_4 C _ _ _ hv0 (0, 0) hm
set_option maxRecDepth 20000 in
set_option maxHeartbeats 4000000 in
theorem mc_X11_twins (l : Launch) (N : Nat) (Λ : Lay) (μ : Mem) (v0 : Nat) (hv0 : inL Λ v0 10) {r : Int32} (hm : m_X11_twins N Λ μ v0 = some r) : MI l yX11_twins cX11_twins 4 (some .int) rm_X11_twins Λ [.ref v0] μ r μ := mi_of rfl (Nat.le_of_ble_eq_true rfl) (fun x C _ => tm_X11_twins C _ _ _ hv0 hm)
abbrev rm_X11_water : Room := { frames := 0, cells := 0, slots := 0, locals := 0 }
set_option maxRecDepth 20000 in
set_option maxHeartbeats 4000000 in
theorem tj_X11_water_50 {x : Ctx} {Λ : Lay} (C : Cx x cX11_water 5 (some .int) RX11 Λ rm_X11_water) (N : Nat) (μ : Mem) (k4 : Int32 × Int32 → Option (Int32)) (v0 : Nat) (v1 : Int32) (v2 : Int32) (v3 : Int32) (hk4 : ∀ (s : Int32 × Int32) (r : Int32), k4 s = some r → J x 5 Λ (QI x Λ r μ) 4 [(0, .ref v0), (1, .int v1), (2, .int s.1), (3, .int s.2)] [] (μ)) (hv0 : inL Λ v0 10) {r : Int32} (hm : jn_X11_water_50 N Λ μ k4 v0 v1 v2 v3 = some r) : J x 5 Λ (QI x Λ r μ) 50 [(0, .ref v0), (1, .int v1), (2, .int v2), (3, .int v3)] [] μ := by
  obtain ⟨y1, e2, hm⟩ := lt_some hm
  refine j_iinc C 3 (v := y1) (lv' := [(3, .int y1), (0, .ref v0), (1, .int v1), (2, .int v2)]) dX11_water_50 rfl (by rw [e2]; rfl) (by decide) rfl ?_
  refine j_goto C (tgt := 4) dX11_water_53 (by decide) ?_
  refine j_sub [1, 2, 3, 0] rfl ?_
  exact hk4 (v2, y1) _ hm
set_option maxRecDepth 20000 in
set_option maxHeartbeats 4000000 in
theorem tj_X11_water_48 {x : Ctx} {Λ : Lay} (C : Cx x cX11_water 5 (some .int) RX11 Λ rm_X11_water) (N : Nat) (μ : Mem) (k4 : Int32 × Int32 → Option (Int32)) (v0 : Nat) (v1 : Int32) (v3 : Int32) (hk4 : ∀ (s : Int32 × Int32) (r : Int32), k4 s = some r → J x 5 Λ (QI x Λ r μ) 4 [(0, .ref v0), (1, .int v1), (2, .int s.1), (3, .int s.2)] [] (μ)) (hv0 : inL Λ v0 10) {r : Int32} (hm : jn_X11_water_48 N Λ μ k4 v0 v1 v3 = some r) : J x 5 Λ (QI x Λ r μ) 48 [(0, .ref v0), (1, .int v1), (3, .int v3)] [] μ := by
  refine j_iload_n C 2 dX11_water_48 rfl ?_
  refine j_istore_n C (lv' := [(2, .int v3), (0, .ref v0), (1, .int v1), (3, .int v3)]) dX11_water_49 (by decide) rfl ?_
  refine j_sub [1, 2, 0, 3] rfl ?_
  exact tj_X11_water_50 C _ _ _ _ _ _ _ hk4 hv0 hm
set_option maxRecDepth 20000 in
set_option maxHeartbeats 4000000 in
theorem tb_X11_water_4 {x : Ctx} {Λ : Lay} (C : Cx x cX11_water 5 (some .int) RX11 Λ rm_X11_water) (N : Nat) (μ : Mem) (k4 : Int32 × Int32 → Option (Int32)) (v0 : Nat) (v1 : Int32) (v2 : Int32) (v3 : Int32) (hk4 : ∀ (s : Int32 × Int32) (r : Int32), k4 s = some r → J x 5 Λ (QI x Λ r μ) 4 [(0, .ref v0), (1, .int v1), (2, .int s.1), (3, .int s.2)] [] (μ)) (hv0 : inL Λ v0 10) {r : Int32} (hm : bd_X11_water_4 N Λ μ k4 v0 v1 v2 v3 = some r) : J x 5 Λ (QI x Λ r μ) 4 [(0, .ref v0), (1, .int v1), (2, .int v2), (3, .int v3)] [] μ := by
  refine j_iload_n C 3 dX11_water_4 rfl ?_
  refine j_bipush C (v := 12) dX11_water_5 rfl ?_
  refine j_icmp_ge C (tgt := 56) dX11_water_7 (by decide) (fun h1 => ?_) (fun h1 => ?_)
  · replace hm := if_t hm h1
    refine j_iload_n C 2 dX11_water_56 rfl ?_
    obtain rfl := Option.some.inj hm
    exact j_ireti C dX11_water_57
  · replace hm := if_f hm h1
    refine j_aload_n C 0 dX11_water_10 rfl ?_
    obtain ⟨q2, h3, hm⟩ := bd_some hm
    refine j_getR C fg_X11_19_10 hv0 (dr_spec h3).1 dX11_water_11 ?_
    obtain ⟨q4, h5, hm⟩ := bd_some hm
    refine j_getR C fg_X11_201_8 ((dr_spec h3).2) (dr_spec h5).1 dX11_water_14 ?_
    refine j_iload_n C 3 dX11_water_17 rfl ?_
    obtain ⟨h6, hm⟩ := gd_some hm
    refine j_iald C ((dr_spec h5).2) h6 dX11_water_18 ?_
    refine j_aload_n C 0 dX11_water_19 rfl ?_
    obtain ⟨q7, h8, hm⟩ := bd_some hm
    refine j_getR C fg_X11_19_10 hv0 (dr_spec h8).1 dX11_water_20 ?_
    obtain ⟨q9, h10, hm⟩ := bd_some hm
    refine j_getR C fg_X11_201_8 ((dr_spec h8).2) (dr_spec h10).1 dX11_water_23 ?_
    refine j_iload_n C 2 dX11_water_26 rfl ?_
    obtain ⟨h11, hm⟩ := gd_some hm
    refine j_iald C ((dr_spec h10).2) h11 dX11_water_27 ?_
    refine j_isub C dX11_water_28 ?_
    obtain ⟨y12, e13, hm⟩ := lt_some hm
    refine j_topi e13 ?_
    refine j_istore C (lv' := [(4, .int y12), (0, .ref v0), (1, .int v1), (2, .int v2), (3, .int v3)]) dX11_water_29 (by decide) rfl ?_
    refine j_iload_n C 2 dX11_water_31 rfl ?_
    refine j_if_eq C (tgt := 43) dX11_water_32 (by decide) (fun h14 => ?_) (fun h14 => ?_)
    · replace hm := if_t hm h14
      refine j_iload C 0 dX11_water_43 rfl ?_
      refine j_if_ge C (tgt := 50) dX11_water_45 (by decide) (fun h15 => ?_) (fun h15 => ?_)
      · replace hm := if_t hm h15
        refine j_sub [1, 2, 3, 4] rfl ?_
        exact tj_X11_water_50 C _ _ _ _ _ _ _ hk4 hv0 hm
      · replace hm := if_f hm h15
        refine j_sub [1, 2, 4] rfl ?_
        exact tj_X11_water_48 C _ _ _ _ _ _ hk4 hv0 hm
    · replace hm := if_f hm h14
      refine j_iload C 0 dX11_water_35 rfl ?_
      refine j_if_le C (tgt := 50) dX11_water_37 (by decide) (fun h16 => ?_) (fun h16 => ?_)
      · replace hm := if_t hm h16
        refine j_sub [1, 2, 3, 4] rfl ?_
        exact tj_X11_water_50 C _ _ _ _ _ _ _ hk4 hv0 hm
      · replace hm := if_f hm h16
        refine j_goto C (tgt := 48) dX11_water_40 (by decide) ?_
        refine j_sub [1, 2, 4] rfl ?_
        exact tj_X11_water_48 C _ _ _ _ _ _ hk4 hv0 hm
set_option maxRecDepth 20000 in
set_option maxHeartbeats 4000000 in
theorem tl_X11_water_4 {x : Ctx} {Λ : Lay} (C : Cx x cX11_water 5 (some .int) RX11 Λ rm_X11_water) (N : Nat) (μ : Mem) (v0 : Nat) (v1 : Int32) (hv0 : inL Λ v0 10) (s : Int32 × Int32) {r : Int32} (hm : lp_X11_water_4 N Λ μ v0 v1 s = some r) : J x 5 Λ (QI x Λ r μ) 4 [(0, .ref v0), (1, .int v1), (2, .int s.1), (3, .int s.2)] [] (μ) :=
  cw_ind (P := fun s r => J x 5 Λ (QI x Λ r μ) 4 [(0, .ref v0), (1, .int v1), (2, .int s.1), (3, .int s.2)] [] (μ)) (fun k hk s r e => tb_X11_water_4 C _ _ _ _ _ _ _ hk hv0 e) N s r hm
set_option maxRecDepth 20000 in
set_option maxHeartbeats 4000000 in
theorem tm_X11_water {x : Ctx} {Λ : Lay} (C : Cx x cX11_water 5 (some .int) RX11 Λ rm_X11_water) (N : Nat) (μ : Mem) (v0 : Nat) (v1 : Int32) (hv0 : inL Λ v0 10) {r : Int32} (hm : m_X11_water N Λ μ v0 v1 = some r) : J x 5 Λ (QI x Λ r μ) 0 [(0, .ref v0), (1, .int v1)] [] μ := by
  refine j_iconst C (v := 0) dX11_water_0 rfl ?_
  refine j_istore_n C (lv' := [(2, .int 0), (0, .ref v0), (1, .int v1)]) dX11_water_1 (by decide) rfl ?_
  refine j_iconst C (v := 1) dX11_water_2 rfl ?_
  refine j_istore_n C (lv' := [(3, .int 1), (2, .int 0), (0, .ref v0), (1, .int v1)]) dX11_water_3 (by decide) rfl ?_
  refine j_sub [2, 3, 1, 0] rfl ?_
  exact tl_X11_water_4 C _ _ _ _ hv0 (0, 1) hm
set_option maxRecDepth 20000 in
set_option maxHeartbeats 4000000 in
theorem mc_X11_water (l : Launch) (N : Nat) (Λ : Lay) (μ : Mem) (v0 : Nat) (v1 : Int32) (hv0 : inL Λ v0 10) {r : Int32} (hm : m_X11_water N Λ μ v0 v1 = some r) : MI l yX11_water cX11_water 5 (some .int) rm_X11_water Λ [.ref v0, .int v1] μ r μ := mi_of rfl (Nat.le_of_ble_eq_true rfl) (fun x C _ => tm_X11_water C _ _ _ _ hv0 hm)
abbrev rm_X11_tryHours : Room := { frames := 6, cells := 0, slots := 0, locals := 156 }
set_option maxRecDepth 20000 in
set_option maxHeartbeats 4000000 in
theorem tj_X11_tryHours_46 {x : Ctx} {Λ : Lay} (C : Cx x cX11_tryHours 4 (some .int) RX11 Λ rm_X11_tryHours) (N : Nat) (μ : Mem) (s0 : Int32) {r : Int32 × Mem} (hm : jn_X11_tryHours_46 N Λ μ s0 = some r) : J x 4 Λ (QI x Λ r.1 r.2) 46 [] [.int s0] μ := by
  obtain rfl := Option.some.inj hm
  exact j_ireti C dX11_tryHours_46
set_option maxRecDepth 20000 in
set_option maxHeartbeats 4000000 in
theorem tm_X11_tryHours {x : Ctx} {Λ : Lay} (C : Cx x cX11_tryHours 4 (some .int) RX11 Λ rm_X11_tryHours) (N : Nat) (μ : Mem) (v0 : Nat) (v1 : Int32) (v2 : Int32) (v3 : Int32) (hv0 : inL Λ v0 10) {r : Int32 × Mem} (hm : m_X11_tryHours N Λ μ v0 v1 v2 v3 = some r) : J x 4 Λ (QI x Λ r.1 r.2) 0 [(0, .ref v0), (1, .int v1), (2, .int v2), (3, .int v3)] [] μ := by
  refine j_aload_n C 0 dX11_tryHours_0 rfl ?_
  obtain ⟨q1, h2, hm⟩ := bd_some hm
  refine j_getR C fg_X11_23_10 hv0 (dr_spec h2).1 dX11_tryHours_1 ?_
  refine j_aload_n C 0 dX11_tryHours_4 rfl ?_
  obtain ⟨q3, h4, hm⟩ := bd_some hm
  refine j_getR C fg_X11_19_10 hv0 (dr_spec h4).1 dX11_tryHours_5 ?_
  obtain ⟨r5, h6, hm⟩ := bd_some hm
  refine call_V (run_LV C lk_X11_99 ⟨rfl, rfl, Nat.le_of_ble_eq_true rfl, Nat.le_of_ble_eq_true rfl⟩ (As := [.ref q3]) ((dr_spec h2).2) rfl rfl (Nat.le_of_ble_eq_true rfl) dX11_tryHours_8 (mc_X9_copy _ _ _ _ _ _ ((dr_spec h2).2) ((dr_spec h4).2) h6)) ?_
  refine j_aload_n C 0 dX11_tryHours_11 rfl ?_
  obtain ⟨q7, h8, hm⟩ := bd_some hm
  refine j_getR C fg_X11_23_10 hv0 (dr_spec h8).1 dX11_tryHours_12 ?_
  refine j_iload_n C 1 dX11_tryHours_15 rfl ?_
  refine j_aload_n C 0 dX11_tryHours_16 rfl ?_
  obtain ⟨q9, h10, hm⟩ := bd_some hm
  refine j_getR C fg_X11_32_10 hv0 (dr_spec h10).1 dX11_tryHours_17 ?_
  refine j_iload_n C 3 dX11_tryHours_20 rfl ?_
  obtain ⟨r11, h12, hm⟩ := bd_some hm
  refine call_I (run_LV C lk_X11_209 ⟨rfl, rfl, Nat.le_of_ble_eq_true rfl, Nat.le_of_ble_eq_true rfl⟩ (As := [.int v1, .ref q9, .int v3]) ((dr_spec h8).2) rfl rfl (Nat.le_of_ble_eq_true rfl) dX11_tryHours_21 (mc_X9_pass _ _ _ _ _ _ _ _ ((dr_spec h8).2) ((dr_spec h10).2) h12)) ?_
  refine j_pop C dX11_tryHours_24 rfl ?_
  refine j_iload_n C 2 dX11_tryHours_25 rfl ?_
  refine j_if_eq C (tgt := 39) dX11_tryHours_26 (by decide) (fun h13 => ?_) (fun h13 => ?_)
  · replace hm := if_t hm h13
    refine j_aload_n C 0 dX11_tryHours_39 rfl ?_
    obtain ⟨q14, h15, hm⟩ := bd_some hm
    refine j_getR C fg_X11_23_10 hv0 (dr_spec h15).1 dX11_tryHours_40 ?_
    refine j_getI C fg_X11_226_8 ((dr_spec h15).2) dX11_tryHours_43 ?_
    refine j_sub [] rfl ?_
    exact tj_X11_tryHours_46 C _ _ _  hm
  · replace hm := if_f hm h13
    refine j_aload_n C 0 dX11_tryHours_29 rfl ?_
    obtain ⟨q16, h17, hm⟩ := bd_some hm
    refine j_getR C fg_X11_23_10 hv0 (dr_spec h17).1 dX11_tryHours_30 ?_
    obtain ⟨r18, h19, hm⟩ := bd_some hm
    refine call_I (run_LV C lk_X11_408 ⟨rfl, rfl, Nat.le_of_ble_eq_true rfl, Nat.le_of_ble_eq_true rfl⟩ (As := []) ((dr_spec h17).2) rfl rfl (Nat.le_of_ble_eq_true rfl) dX11_tryHours_33 (mc_X9_allWork _ _ _ _ _ ((dr_spec h17).2) h19)) ?_
    refine j_goto C (tgt := 46) dX11_tryHours_36 (by decide) ?_
    refine j_sub [] rfl ?_
    exact tj_X11_tryHours_46 C _ _ _  hm
set_option maxRecDepth 20000 in
set_option maxHeartbeats 4000000 in
theorem mc_X11_tryHours (l : Launch) (N : Nat) (Λ : Lay) (μ : Mem) (v0 : Nat) (v1 : Int32) (v2 : Int32) (v3 : Int32) (hv0 : inL Λ v0 10) {r : Int32 × Mem} (hm : m_X11_tryHours N Λ μ v0 v1 v2 v3 = some r) : MI l yX11_tryHours cX11_tryHours 4 (some .int) rm_X11_tryHours Λ [.ref v0, .int v1, .int v2, .int v3] μ r.1 r.2 := mi_of rfl (Nat.le_of_ble_eq_true rfl) (fun x C _ => tm_X11_tryHours C _ _ _ _ _ _ hv0 hm)
abbrev rm_X11_seed : Room := { frames := 0, cells := 0, slots := 0, locals := 0 }
set_option maxRecDepth 20000 in
set_option maxHeartbeats 4000000 in
theorem tm_X11_seed {x : Ctx} {Λ : Lay} (C : Cx x cX11_seed 3 (some .int) RX11 Λ rm_X11_seed) (N : Nat) (μ : Mem) (v0 : Nat) (v1 : Int32) (hv0 : inL Λ v0 10) {r : Int32 × Mem} (hm : m_X11_seed N Λ μ v0 v1 = some r) : J x 3 Λ (QI x Λ r.1 r.2) 0 [(0, .ref v0), (1, .int v1)] [] μ := by
  refine j_aload_n C 0 dX11_seed_0 rfl ?_
  obtain ⟨q1, h2, hm⟩ := bd_some hm
  refine j_getR C fg_X11_19_10 hv0 (dr_spec h2).1 dX11_seed_1 ?_
  refine j_getI C fg_X11_367_8 ((dr_spec h2).2) dX11_seed_4 ?_
  obtain ⟨y3, e4, hm⟩ := lt_some hm
  refine j_topi e4 ?_
  refine j_istore_n C (lv' := [(2, .int y3), (0, .ref v0), (1, .int v1)]) dX11_seed_7 (by decide) rfl ?_
  refine j_aload_n C 1 dX11_seed_8 rfl ?_
  obtain ⟨q5, h6, hm⟩ := bd_some hm
  refine j_getR C fg_X11_19_10 hv0 (dr_spec h6).1 dX11_seed_9 ?_
  refine j_iload_n C 2 dX11_seed_12 rfl ?_
  obtain ⟨μ7, e8, hm⟩ := lt_some hm
  refine j_putI C fp_X11_367_8 ((dr_spec h6).2) e8 dX11_seed_13 ?_
  refine j_iload_n C 0 dX11_seed_16 rfl ?_
  obtain rfl := Option.some.inj hm
  exact j_ireti C dX11_seed_17
set_option maxRecDepth 20000 in
set_option maxHeartbeats 4000000 in
theorem mc_X11_seed (l : Launch) (N : Nat) (Λ : Lay) (μ : Mem) (v0 : Nat) (v1 : Int32) (hv0 : inL Λ v0 10) {r : Int32 × Mem} (hm : m_X11_seed N Λ μ v0 v1 = some r) : MI l yX11_seed cX11_seed 3 (some .int) rm_X11_seed Λ [.ref v0, .int v1] μ r.1 r.2 := mi_of rfl (Nat.le_of_ble_eq_true rfl) (fun x C _ => tm_X11_seed C _ _ _ _ hv0 hm)
abbrev rm_X11_undo : Room := { frames := 4, cells := 0, slots := 0, locals := 123 }
set_option maxRecDepth 20000 in
set_option maxHeartbeats 4000000 in
theorem tm_X11_undo {x : Ctx} {Λ : Lay} (C : Cx x cX11_undo 1 (some .boolean) RX11 Λ rm_X11_undo) (N : Nat) (μ : Mem) (v0 : Nat) (hv0 : inL Λ v0 10) {r : Int32 × Mem} (hm : m_X11_undo N Λ μ v0 = some r) : J x 1 Λ (QI x Λ r.1 r.2) 0 [(0, .ref v0)] [] μ := by
  refine j_aload_n C 0 dX11_undo_0 rfl ?_
  obtain ⟨q1, h2, hm⟩ := bd_some hm
  refine j_getR C fg_X11_63_10 hv0 (dr_spec h2).1 dX11_undo_1 ?_
  refine j_aload_n C 0 dX11_undo_4 rfl ?_
  obtain ⟨q3, h4, hm⟩ := bd_some hm
  refine j_getR C fg_X11_19_10 hv0 (dr_spec h4).1 dX11_undo_5 ?_
  obtain ⟨r5, h6, hm⟩ := bd_some hm
  refine call_I (run_LV C lk_X11_390 ⟨rfl, rfl, Nat.le_of_ble_eq_true rfl, Nat.le_of_ble_eq_true rfl⟩ (As := [.ref q3]) ((dr_spec h2).2) rfl rfl (Nat.le_of_ble_eq_true rfl) dX11_undo_8 (mc_X5_recall _ _ _ _ _ _ ((dr_spec h2).2) ((dr_spec h4).2) h6)) ?_
  obtain ⟨h7, hm⟩ := gd_some hm
  obtain rfl := Option.some.inj hm
  exact j_iretz C h7 dX11_undo_11
set_option maxRecDepth 20000 in
set_option maxHeartbeats 4000000 in
theorem mc_X11_undo (l : Launch) (N : Nat) (Λ : Lay) (μ : Mem) (v0 : Nat) (hv0 : inL Λ v0 10) {r : Int32 × Mem} (hm : m_X11_undo N Λ μ v0 = some r) : MI l yX11_undo cX11_undo 1 (some .boolean) rm_X11_undo Λ [.ref v0] μ r.1 r.2 := mi_of rfl (Nat.le_of_ble_eq_true rfl) (fun x C _ => tm_X11_undo C _ _ _ hv0 hm)
abbrev rm_X11_image : Room := { frames := 3, cells := 0, slots := 0, locals := 102 }
set_option maxRecDepth 20000 in
set_option maxHeartbeats 4000000 in
theorem tm_X11_image {x : Ctx} {Λ : Lay} (C : Cx x cX11_image 1 none RX11 Λ rm_X11_image) (N : Nat) (μ : Mem) (v0 : Nat) (hv0 : inL Λ v0 10) {r : Mem} (hm : m_X11_image N Λ μ v0 = some r) : J x 1 Λ (QV x Λ r) 0 [(0, .ref v0)] [] μ := by
  refine j_aload_n C 0 dX11_image_0 rfl ?_
  obtain ⟨q1, h2, hm⟩ := bd_some hm
  refine j_getR C fg_X11_26_10 hv0 (dr_spec h2).1 dX11_image_1 ?_
  refine j_aload_n C 0 dX11_image_4 rfl ?_
  obtain ⟨q3, h4, hm⟩ := bd_some hm
  refine j_getR C fg_X11_19_10 hv0 (dr_spec h4).1 dX11_image_5 ?_
  obtain ⟨r5, h6, hm⟩ := bd_some hm
  refine call_V (run_LV C lk_X11_99 ⟨rfl, rfl, Nat.le_of_ble_eq_true rfl, Nat.le_of_ble_eq_true rfl⟩ (As := [.ref q3]) ((dr_spec h2).2) rfl rfl (Nat.le_of_ble_eq_true rfl) dX11_image_8 (mc_X9_copy _ _ _ _ _ _ ((dr_spec h2).2) ((dr_spec h4).2) h6)) ?_
  refine j_aload_n C 0 dX11_image_11 rfl ?_
  obtain ⟨q7, h8, hm⟩ := bd_some hm
  refine j_getR C fg_X11_39_10 hv0 (dr_spec h8).1 dX11_image_12 ?_
  refine j_aload_n C 0 dX11_image_15 rfl ?_
  obtain ⟨q9, h10, hm⟩ := bd_some hm
  refine j_getR C fg_X11_32_10 hv0 (dr_spec h10).1 dX11_image_16 ?_
  obtain ⟨r11, h12, hm⟩ := bd_some hm
  refine call_V (run_LV C lk_X11_131 ⟨rfl, rfl, Nat.le_of_ble_eq_true rfl, Nat.le_of_ble_eq_true rfl⟩ (As := [.ref q9]) ((dr_spec h8).2) rfl rfl (Nat.le_of_ble_eq_true rfl) dX11_image_19 (mc_X2_copy _ _ _ _ _ _ ((dr_spec h8).2) ((dr_spec h10).2) h12)) ?_
  refine j_aload_n C 0 dX11_image_22 rfl ?_
  refine j_iconst C (v := 1) dX11_image_23 rfl ?_
  obtain ⟨μ13, e14, hm⟩ := lt_some hm
  refine j_putZ C fp_X11_394_10 rfl hv0 e14 dX11_image_24 ?_
  obtain rfl := Option.some.inj hm
  exact j_vret C dX11_image_27
set_option maxRecDepth 20000 in
set_option maxHeartbeats 4000000 in
theorem mc_X11_image (l : Launch) (N : Nat) (Λ : Lay) (μ : Mem) (v0 : Nat) (hv0 : inL Λ v0 10) {r : Mem} (hm : m_X11_image N Λ μ v0 = some r) : MV l yX11_image cX11_image 1 rm_X11_image Λ [.ref v0] μ r := mv_of rfl (Nat.le_of_ble_eq_true rfl) (fun x C _ => tm_X11_image C _ _ _ hv0 hm)
abbrev rm_X11_back : Room := { frames := 3, cells := 0, slots := 0, locals := 102 }
set_option maxRecDepth 20000 in
set_option maxHeartbeats 4000000 in
theorem tm_X11_back {x : Ctx} {Λ : Lay} (C : Cx x cX11_back 1 (some .boolean) RX11 Λ rm_X11_back) (N : Nat) (μ : Mem) (v0 : Nat) (hv0 : inL Λ v0 10) {r : Int32 × Mem} (hm : m_X11_back N Λ μ v0 = some r) : J x 1 Λ (QI x Λ r.1 r.2) 0 [(0, .ref v0)] [] μ := by
  refine j_aload_n C 0 dX11_back_0 rfl ?_
  refine j_getI C fg_X11_394_10 hv0 dX11_back_1 ?_
  refine j_if_ne C (tgt := 9) dX11_back_4 (by decide) (fun h1 => ?_) (fun h1 => ?_)
  · replace hm := if_f hm h1
    refine j_aload_n C 0 dX11_back_9 rfl ?_
    obtain ⟨q2, h3, hm⟩ := bd_some hm
    refine j_getR C fg_X11_19_10 hv0 (dr_spec h3).1 dX11_back_10 ?_
    refine j_aload_n C 0 dX11_back_13 rfl ?_
    obtain ⟨q4, h5, hm⟩ := bd_some hm
    refine j_getR C fg_X11_26_10 hv0 (dr_spec h5).1 dX11_back_14 ?_
    obtain ⟨r6, h7, hm⟩ := bd_some hm
    refine call_V (run_LV C lk_X11_99 ⟨rfl, rfl, Nat.le_of_ble_eq_true rfl, Nat.le_of_ble_eq_true rfl⟩ (As := [.ref q4]) ((dr_spec h3).2) rfl rfl (Nat.le_of_ble_eq_true rfl) dX11_back_17 (mc_X9_copy _ _ _ _ _ _ ((dr_spec h3).2) ((dr_spec h5).2) h7)) ?_
    refine j_aload_n C 0 dX11_back_20 rfl ?_
    obtain ⟨q8, h9, hm⟩ := bd_some hm
    refine j_getR C fg_X11_32_10 hv0 (dr_spec h9).1 dX11_back_21 ?_
    refine j_aload_n C 0 dX11_back_24 rfl ?_
    obtain ⟨q10, h11, hm⟩ := bd_some hm
    refine j_getR C fg_X11_39_10 hv0 (dr_spec h11).1 dX11_back_25 ?_
    obtain ⟨r12, h13, hm⟩ := bd_some hm
    refine call_V (run_LV C lk_X11_131 ⟨rfl, rfl, Nat.le_of_ble_eq_true rfl, Nat.le_of_ble_eq_true rfl⟩ (As := [.ref q10]) ((dr_spec h9).2) rfl rfl (Nat.le_of_ble_eq_true rfl) dX11_back_28 (mc_X2_copy _ _ _ _ _ _ ((dr_spec h9).2) ((dr_spec h11).2) h13)) ?_
    refine j_aload_n C 0 dX11_back_31 rfl ?_
    obtain ⟨q14, h15, hm⟩ := bd_some hm
    refine j_getR C fg_X11_63_10 hv0 (dr_spec h15).1 dX11_back_32 ?_
    obtain ⟨r16, h17, hm⟩ := bd_some hm
    refine call_V (run_LV C lk_X11_122 ⟨rfl, rfl, Nat.le_of_ble_eq_true rfl, Nat.le_of_ble_eq_true rfl⟩ (As := []) ((dr_spec h15).2) rfl rfl (Nat.le_of_ble_eq_true rfl) dX11_back_35 (mc_X5_forget _ _ _ _ _ ((dr_spec h15).2) h17)) ?_
    refine j_iconst C (v := 1) dX11_back_38 rfl ?_
    obtain rfl := Option.some.inj hm
    exact j_iretz C rfl dX11_back_39
  · replace hm := if_t hm h1
    refine j_iconst C (v := 0) dX11_back_7 rfl ?_
    obtain rfl := Option.some.inj hm
    exact j_iretz C rfl dX11_back_8
set_option maxRecDepth 20000 in
set_option maxHeartbeats 4000000 in
theorem mc_X11_back (l : Launch) (N : Nat) (Λ : Lay) (μ : Mem) (v0 : Nat) (hv0 : inL Λ v0 10) {r : Int32 × Mem} (hm : m_X11_back N Λ μ v0 = some r) : MI l yX11_back cX11_back 1 (some .boolean) rm_X11_back Λ [.ref v0] μ r.1 r.2 := mi_of rfl (Nat.le_of_ble_eq_true rfl) (fun x C _ => tm_X11_back C _ _ _ hv0 hm)
abbrev rm_X11_count : Room := { frames := 3, cells := 0, slots := 0, locals := 63 }
set_option maxRecDepth 20000 in
set_option maxHeartbeats 4000000 in
theorem tj_X11_count_123 {x : Ctx} {Λ : Lay} (C : Cx x cX11_count 2 (some .int) RX11 Λ rm_X11_count) (N : Nat) (μ : Mem) (s0 : Int32) {r : Int32} (hm : jn_X11_count_123 N Λ μ s0 = some r) : J x 2 Λ (QI x Λ r μ) 123 [] [.int s0] μ := by
  obtain rfl := Option.some.inj hm
  exact j_ireti C dX11_count_123
set_option maxRecDepth 20000 in
set_option maxHeartbeats 4000000 in
theorem tm_X11_count {x : Ctx} {Λ : Lay} (C : Cx x cX11_count 2 (some .int) RX11 Λ rm_X11_count) (N : Nat) (μ : Mem) (v0 : Nat) (v1 : Int32) (hv0 : inL Λ v0 10) {r : Int32} (hm : m_X11_count N Λ μ v0 v1 = some r) : J x 2 Λ (QI x Λ r μ) 0 [(0, .ref v0), (1, .int v1)] [] μ := by
  refine j_iload_n C 1 dX11_count_0 rfl ?_
  by_cases h1 : v1 = 0
  · replace hm := if_t hm h1
    refine j_tabI C (tgt := 76) 0 dX11_count_1 (by rw [h1]; first | done | rfl) (by decide) (by decide) rfl (by decide) ?_
    refine j_aload_n C 0 dX11_count_76 rfl ?_
    obtain ⟨q2, h3, hm⟩ := bd_some hm
    refine j_getR C fg_X11_19_10 hv0 (dr_spec h3).1 dX11_count_77 ?_
    refine j_getI C fg_X11_253_8 ((dr_spec h3).2) dX11_count_80 ?_
    obtain rfl := Option.some.inj hm
    exact j_ireti C dX11_count_83
  replace hm := if_f hm h1
  by_cases h4 : v1 = 1
  · replace hm := if_t hm h4
    refine j_tabI C (tgt := 84) 1 dX11_count_1 (by rw [h4]; first | done | rfl) (by decide) (by decide) rfl (by decide) ?_
    refine j_aload_n C 0 dX11_count_84 rfl ?_
    obtain ⟨q5, h6, hm⟩ := bd_some hm
    refine j_getR C fg_X11_19_10 hv0 (dr_spec h6).1 dX11_count_85 ?_
    refine j_getI C fg_X11_114_8 ((dr_spec h6).2) dX11_count_88 ?_
    obtain rfl := Option.some.inj hm
    exact j_ireti C dX11_count_91
  replace hm := if_f hm h4
  by_cases h7 : v1 = 2
  · replace hm := if_t hm h7
    refine j_tabI C (tgt := 92) 2 dX11_count_1 (by rw [h7]; first | done | rfl) (by decide) (by decide) rfl (by decide) ?_
    refine j_aload_n C 0 dX11_count_92 rfl ?_
    obtain ⟨q8, h9, hm⟩ := bd_some hm
    refine j_getR C fg_X11_32_10 hv0 (dr_spec h9).1 dX11_count_93 ?_
    refine j_getI C fg_X11_134_2 ((dr_spec h9).2) dX11_count_96 ?_
    obtain rfl := Option.some.inj hm
    exact j_ireti C dX11_count_99
  replace hm := if_f hm h7
  by_cases h10 : v1 = 3
  · replace hm := if_t hm h10
    refine j_tabI C (tgt := 100) 3 dX11_count_1 (by rw [h10]; first | done | rfl) (by decide) (by decide) rfl (by decide) ?_
    refine j_aload_n C 0 dX11_count_100 rfl ?_
    obtain ⟨q11, h12, hm⟩ := bd_some hm
    refine j_getR C fg_X11_19_10 hv0 (dr_spec h12).1 dX11_count_101 ?_
    refine j_getI C fg_X11_226_8 ((dr_spec h12).2) dX11_count_104 ?_
    obtain rfl := Option.some.inj hm
    exact j_ireti C dX11_count_107
  replace hm := if_f hm h10
  by_cases h13 : v1 = 4
  · replace hm := if_t hm h13
    refine j_tabI C (tgt := 108) 4 dX11_count_1 (by rw [h13]; first | done | rfl) (by decide) (by decide) rfl (by decide) ?_
    refine j_aload_n C 0 dX11_count_108 rfl ?_
    obtain ⟨q14, h15, hm⟩ := bd_some hm
    refine j_getR C fg_X11_19_10 hv0 (dr_spec h15).1 dX11_count_109 ?_
    refine j_getI C fg_X11_213_8 ((dr_spec h15).2) dX11_count_112 ?_
    refine j_if_eq C (tgt := 122) dX11_count_115 (by decide) (fun h16 => ?_) (fun h16 => ?_)
    · replace hm := if_t hm h16
      refine j_iconst C (v := 0) dX11_count_122 rfl ?_
      refine j_sub [] rfl ?_
      exact tj_X11_count_123 C _ _ _  hm
    · replace hm := if_f hm h16
      refine j_iconst C (v := 1) dX11_count_118 rfl ?_
      refine j_goto C (tgt := 123) dX11_count_119 (by decide) ?_
      refine j_sub [] rfl ?_
      exact tj_X11_count_123 C _ _ _  hm
  replace hm := if_f hm h13
  by_cases h17 : v1 = 5
  · replace hm := if_t hm h17
    refine j_tabI C (tgt := 124) 5 dX11_count_1 (by rw [h17]; first | done | rfl) (by decide) (by decide) rfl (by decide) ?_
    refine j_aload_n C 0 dX11_count_124 rfl ?_
    obtain ⟨q18, h19, hm⟩ := bd_some hm
    refine j_getR C fg_X11_19_10 hv0 (dr_spec h19).1 dX11_count_125 ?_
    refine j_getI C fg_X11_265_8 ((dr_spec h19).2) dX11_count_128 ?_
    obtain rfl := Option.some.inj hm
    exact j_ireti C dX11_count_131
  replace hm := if_f hm h17
  by_cases h20 : v1 = 6
  · replace hm := if_t hm h20
    refine j_tabI C (tgt := 132) 6 dX11_count_1 (by rw [h20]; first | done | rfl) (by decide) (by decide) rfl (by decide) ?_
    refine j_aload_n C 0 dX11_count_132 rfl ?_
    obtain ⟨q21, h22, hm⟩ := bd_some hm
    refine j_getR C fg_X11_19_10 hv0 (dr_spec h22).1 dX11_count_133 ?_
    refine j_getI C fg_X11_268_8 ((dr_spec h22).2) dX11_count_136 ?_
    obtain rfl := Option.some.inj hm
    exact j_ireti C dX11_count_139
  replace hm := if_f hm h20
  by_cases h23 : v1 = 7
  · replace hm := if_t hm h23
    refine j_tabI C (tgt := 140) 7 dX11_count_1 (by rw [h23]; first | done | rfl) (by decide) (by decide) rfl (by decide) ?_
    refine j_aload_n C 0 dX11_count_140 rfl ?_
    obtain ⟨q24, h25, hm⟩ := bd_some hm
    refine j_getR C fg_X11_19_10 hv0 (dr_spec h25).1 dX11_count_141 ?_
    refine j_getI C fg_X11_345_8 ((dr_spec h25).2) dX11_count_144 ?_
    obtain rfl := Option.some.inj hm
    exact j_ireti C dX11_count_147
  replace hm := if_f hm h23
  by_cases h26 : v1 = 8
  · replace hm := if_t hm h26
    refine j_tabI C (tgt := 148) 8 dX11_count_1 (by rw [h26]; first | done | rfl) (by decide) (by decide) rfl (by decide) ?_
    refine j_aload_n C 0 dX11_count_148 rfl ?_
    obtain ⟨q27, h28, hm⟩ := bd_some hm
    refine j_getR C fg_X11_19_10 hv0 (dr_spec h28).1 dX11_count_149 ?_
    refine j_getI C fg_X11_397_8 ((dr_spec h28).2) dX11_count_152 ?_
    obtain rfl := Option.some.inj hm
    exact j_ireti C dX11_count_155
  replace hm := if_f hm h26
  by_cases h29 : v1 = 9
  · replace hm := if_t hm h29
    refine j_tabI C (tgt := 156) 9 dX11_count_1 (by rw [h29]; first | done | rfl) (by decide) (by decide) rfl (by decide) ?_
    refine j_aload_n C 0 dX11_count_156 rfl ?_
    obtain ⟨q30, h31, hm⟩ := bd_some hm
    refine j_getR C fg_X11_19_10 hv0 (dr_spec h31).1 dX11_count_157 ?_
    refine j_getI C fg_X11_400_8 ((dr_spec h31).2) dX11_count_160 ?_
    obtain rfl := Option.some.inj hm
    exact j_ireti C dX11_count_163
  replace hm := if_f hm h29
  by_cases h32 : v1 = 10
  · replace hm := if_t hm h32
    refine j_tabI C (tgt := 164) 10 dX11_count_1 (by rw [h32]; first | done | rfl) (by decide) (by decide) rfl (by decide) ?_
    refine j_aload_n C 0 dX11_count_164 rfl ?_
    obtain ⟨q33, h34, hm⟩ := bd_some hm
    refine j_getR C fg_X11_19_10 hv0 (dr_spec h34).1 dX11_count_165 ?_
    refine j_getI C fg_X11_190_8 ((dr_spec h34).2) dX11_count_168 ?_
    obtain ⟨r35, h36, hm⟩ := bd_some hm
    refine call_I (run_LS C ls_X11_403 ⟨rfl, rfl, Nat.le_of_ble_eq_true rfl, Nat.le_of_ble_eq_true rfl⟩ (As := [.int (μ.1 q33 9)]) rfl rfl (Nat.le_of_ble_eq_true rfl) dX11_count_171 (mc_XI_bitCount _ _ _ _ _  h36)) ?_
    obtain rfl := Option.some.inj hm
    exact j_ireti C dX11_count_174
  replace hm := if_f hm h32
  by_cases h37 : v1 = 11
  · replace hm := if_t hm h37
    refine j_tabI C (tgt := 175) 11 dX11_count_1 (by rw [h37]; first | done | rfl) (by decide) (by decide) rfl (by decide) ?_
    refine j_aload_n C 0 dX11_count_175 rfl ?_
    obtain ⟨q38, h39, hm⟩ := bd_some hm
    refine j_getR C fg_X11_19_10 hv0 (dr_spec h39).1 dX11_count_176 ?_
    obtain ⟨r40, h41, hm⟩ := bd_some hm
    refine call_I (run_LV C lk_X11_243 ⟨rfl, rfl, Nat.le_of_ble_eq_true rfl, Nat.le_of_ble_eq_true rfl⟩ (As := []) ((dr_spec h39).2) rfl rfl (Nat.le_of_ble_eq_true rfl) dX11_count_179 (mc_X9_freePlaces _ _ _ _ _ ((dr_spec h39).2) h41)) ?_
    obtain rfl := Option.some.inj hm
    exact j_ireti C dX11_count_182
  replace hm := if_f hm h37
  by_cases h42 : v1 = 12
  · replace hm := if_t hm h42
    refine j_tabI C (tgt := 183) 12 dX11_count_1 (by rw [h42]; first | done | rfl) (by decide) (by decide) rfl (by decide) ?_
    refine j_aload_n C 0 dX11_count_183 rfl ?_
    obtain ⟨q43, h44, hm⟩ := bd_some hm
    refine j_getR C fg_X11_19_10 hv0 (dr_spec h44).1 dX11_count_184 ?_
    obtain ⟨r45, h46, hm⟩ := bd_some hm
    refine call_I (run_LV C lk_X11_408 ⟨rfl, rfl, Nat.le_of_ble_eq_true rfl, Nat.le_of_ble_eq_true rfl⟩ (As := []) ((dr_spec h44).2) rfl rfl (Nat.le_of_ble_eq_true rfl) dX11_count_187 (mc_X9_allWork _ _ _ _ _ ((dr_spec h44).2) h46)) ?_
    obtain rfl := Option.some.inj hm
    exact j_ireti C dX11_count_190
  replace hm := if_f hm h42
  by_cases h47 : v1 = 13
  · replace hm := if_t hm h47
    refine j_tabI C (tgt := 191) 13 dX11_count_1 (by rw [h47]; first | done | rfl) (by decide) (by decide) rfl (by decide) ?_
    refine j_aload_n C 0 dX11_count_191 rfl ?_
    obtain ⟨q48, h49, hm⟩ := bd_some hm
    refine j_getR C fg_X11_19_10 hv0 (dr_spec h49).1 dX11_count_192 ?_
    obtain ⟨q50, h51, hm⟩ := bd_some hm
    refine j_getR C fg_X11_373_8 ((dr_spec h49).2) (dr_spec h51).1 dX11_count_195 ?_
    refine j_getI C fg_X11_411_4 ((dr_spec h51).2) dX11_count_198 ?_
    obtain rfl := Option.some.inj hm
    exact j_ireti C dX11_count_201
  replace hm := if_f hm h47
  by_cases h52 : v1 = 14
  · replace hm := if_t hm h52
    refine j_tabI C (tgt := 202) 14 dX11_count_1 (by rw [h52]; first | done | rfl) (by decide) (by decide) rfl (by decide) ?_
    refine j_aload_n C 0 dX11_count_202 rfl ?_
    obtain ⟨q53, h54, hm⟩ := bd_some hm
    refine j_getR C fg_X11_63_10 hv0 (dr_spec h54).1 dX11_count_203 ?_
    refine j_getI C fg_X11_414_5 ((dr_spec h54).2) dX11_count_206 ?_
    obtain rfl := Option.some.inj hm
    exact j_ireti C dX11_count_209
  replace hm := if_f hm h52
  refine j_tabO C (tgt := 210) dX11_count_1 (sw_out v1 [0, 1, 2, 3, 4, 5, 6, 7, 8, 9, 10, 11, 12, 13, 14] (by decide) ?_) (by decide) ?_
  · simp only [List.mem_cons, List.not_mem_nil, or_false, not_or]; exact ⟨h1, h4, h7, h10, h13, h17, h20, h23, h26, h29, h32, h37, h42, h47, h52⟩
  refine j_iconst C (v := -1) dX11_count_210 rfl ?_
  obtain rfl := Option.some.inj hm
  exact j_ireti C dX11_count_211
set_option maxRecDepth 20000 in
set_option maxHeartbeats 4000000 in
theorem mc_X11_count (l : Launch) (N : Nat) (Λ : Lay) (μ : Mem) (v0 : Nat) (v1 : Int32) (hv0 : inL Λ v0 10) {r : Int32} (hm : m_X11_count N Λ μ v0 v1 = some r) : MI l yX11_count cX11_count 2 (some .int) rm_X11_count Λ [.ref v0, .int v1] μ r μ := mi_of rfl (Nat.le_of_ble_eq_true rfl) (fun x C _ => tm_X11_count C _ _ _ _ hv0 hm)

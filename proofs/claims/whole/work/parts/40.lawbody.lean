set_option maxRecDepth 20000 in
set_option maxHeartbeats 4000000 in
theorem tj_L_law__2587 {x : Ctx} {Λ : Lay} {K M : Nat} (C : Cx x cL_law_ 7 (some .boolean) RL Λ room_1) (N : Nat) (L : Nat) (sc : Nat → Int32) (μ : Mem) (k23 : Int32 × Mem → Option Int32) (v0 : Nat) (v1 : Nat) (v2 : Nat) (v3 : Nat) (v4 : Int32) (hS : SCx x Λ v0 L sc) (hst : x.2.1.stackTraces = false) (hAL : ∀ q ∈ aL Λ, (xs x).heap.size ≤ q) (hKM : K ≤ room_1.cells ∧ M ≤ room_1.slots) (hk : xk x + 0 ≤ K ∧ xl x + 0 ≤ M) (hk23 : ∀ (s : Int32 × Mem), k23 s = some 1 → ∀ (c d : Nat), c ≤ K → d ≤ M → J (wc x c d) 7 Λ (lw_Z (xb x) (xa x) (xs x)) 23 [(0, .ref v0), (1, .ref v1), (2, .ref v2), (3, .ref v3), (4, .int s.1)] [] s.2) (hv1 : inL Λ v1 10) (hv2 : inL Λ v2 11) (hv3 : inL Λ v3 14) (hm : jn_L_law__2587 N Λ L sc μ k23 v0 v1 v2 v3 v4 = some 1) : J x 7 Λ (lw_Z (xb x) (xa x) (xs x)) 2587 [(0, .ref v0), (1, .ref v1), (2, .ref v2), (3, .ref v3), (4, .int v4)] [] μ := by
  obtain ⟨y1, e2, hm⟩ := lt_some hm
  refine j_iinc C 4 (v := y1) (lv' := [(4, .int y1), (0, .ref v0), (1, .ref v1), (2, .ref v2), (3, .ref v3)]) dL_law__2587 rfl (by rw [e2]; rfl) (by decide) rfl ?_
  refine j_goto C (tgt := 23) dL_law__2590 (by decide) ?_
  refine j_sub [1, 2, 3, 4, 0] rfl ?_
  exact hk23 (y1, μ) hm (xk x) (xl x) (Nat.le_trans (Nat.le_add_right _ _) hk.1) (Nat.le_trans (Nat.le_add_right _ _) hk.2)
set_option maxRecDepth 20000 in
set_option maxHeartbeats 4000000 in
theorem tj_L_law__2497 {x : Ctx} {Λ : Lay} {K M : Nat} (C : Cx x cL_law_ 7 (some .boolean) RL Λ room_1) (N : Nat) (L : Nat) (sc : Nat → Int32) (μ : Mem) (k23 : Int32 × Mem → Option Int32) (v0 : Nat) (v1 : Nat) (v2 : Nat) (v3 : Nat) (v4 : Int32) (hS : SCx x Λ v0 L sc) (hst : x.2.1.stackTraces = false) (hAL : ∀ q ∈ aL Λ, (xs x).heap.size ≤ q) (hKM : K ≤ room_1.cells ∧ M ≤ room_1.slots) (hk : xk x + 0 ≤ K ∧ xl x + 0 ≤ M) (hk23 : ∀ (s : Int32 × Mem), k23 s = some 1 → ∀ (c d : Nat), c ≤ K → d ≤ M → J (wc x c d) 7 Λ (lw_Z (xb x) (xa x) (xs x)) 23 [(0, .ref v0), (1, .ref v1), (2, .ref v2), (3, .ref v3), (4, .int s.1)] [] s.2) (hv1 : inL Λ v1 10) (hv2 : inL Λ v2 11) (hv3 : inL Λ v3 14) (hm : jn_L_law__2497 N Λ L sc μ k23 v0 v1 v2 v3 v4 = some 1) : J x 7 Λ (lw_Z (xb x) (xa x) (xs x)) 2497 [(0, .ref v0), (1, .ref v1), (2, .ref v2), (3, .ref v3), (4, .int v4)] [] μ := by
  refine j_goto C (tgt := 2587) dL_law__2497 (by decide) ?_
  exact tj_L_law__2587 C _ _ _ _ _ _ _ _ _ _ hS hst hAL hKM (hk_sub hk (Nat.le_of_ble_eq_true rfl) (Nat.le_of_ble_eq_true rfl)) hk23 hv1 hv2 hv3 hm
set_option maxRecDepth 20000 in
set_option maxHeartbeats 4000000 in
theorem tj_L_law__2429 {x : Ctx} {Λ : Lay} {K M : Nat} (C : Cx x cL_law_ 7 (some .boolean) RL Λ room_1) (N : Nat) (L : Nat) (sc : Nat → Int32) (μ : Mem) (k23 : Int32 × Mem → Option Int32) (v0 : Nat) (v1 : Nat) (v2 : Nat) (v3 : Nat) (v4 : Int32) (hS : SCx x Λ v0 L sc) (hst : x.2.1.stackTraces = false) (hAL : ∀ q ∈ aL Λ, (xs x).heap.size ≤ q) (hKM : K ≤ room_1.cells ∧ M ≤ room_1.slots) (hk : xk x + 0 ≤ K ∧ xl x + 0 ≤ M) (hk23 : ∀ (s : Int32 × Mem), k23 s = some 1 → ∀ (c d : Nat), c ≤ K → d ≤ M → J (wc x c d) 7 Λ (lw_Z (xb x) (xa x) (xs x)) 23 [(0, .ref v0), (1, .ref v1), (2, .ref v2), (3, .ref v3), (4, .int s.1)] [] s.2) (hv1 : inL Λ v1 10) (hv2 : inL Λ v2 11) (hv3 : inL Λ v3 14) (hm : jn_L_law__2429 N Λ L sc μ k23 v0 v1 v2 v3 v4 = some 1) : J x 7 Λ (lw_Z (xb x) (xa x) (xs x)) 2429 [(0, .ref v0), (1, .ref v1), (2, .ref v2), (3, .ref v3), (4, .int v4)] [] μ := by
  refine j_goto C (tgt := 2587) dL_law__2429 (by decide) ?_
  exact tj_L_law__2587 C _ _ _ _ _ _ _ _ _ _ hS hst hAL hKM (hk_sub hk (Nat.le_of_ble_eq_true rfl) (Nat.le_of_ble_eq_true rfl)) hk23 hv1 hv2 hv3 hm
set_option maxRecDepth 20000 in
set_option maxHeartbeats 4000000 in
theorem tj_L_law__2396 {x : Ctx} {Λ : Lay} {K M : Nat} (C : Cx x cL_law_ 7 (some .boolean) RL Λ room_1) (N : Nat) (L : Nat) (sc : Nat → Int32) (μ : Mem) (k23 : Int32 × Mem → Option Int32) (v0 : Nat) (v1 : Nat) (v2 : Nat) (v3 : Nat) (v4 : Int32) (v5 : Int32) (s0 : Nat) (s1 : Int32) (s2 : Int32) (hS : SCx x Λ v0 L sc) (hst : x.2.1.stackTraces = false) (hAL : ∀ q ∈ aL Λ, (xs x).heap.size ≤ q) (hKM : K ≤ room_1.cells ∧ M ≤ room_1.slots) (hk : xk x + 0 ≤ K ∧ xl x + 0 ≤ M) (hk23 : ∀ (s : Int32 × Mem), k23 s = some 1 → ∀ (c d : Nat), c ≤ K → d ≤ M → J (wc x c d) 7 Λ (lw_Z (xb x) (xa x) (xs x)) 23 [(0, .ref v0), (1, .ref v1), (2, .ref v2), (3, .ref v3), (4, .int s.1)] [] s.2) (hv1 : inL Λ v1 10) (hv2 : inL Λ v2 11) (hv3 : inL Λ v3 14) (hs0 : inL Λ s0 11) (hm : jn_L_law__2396 N Λ L sc μ k23 v0 v1 v2 v3 v4 v5 s0 s1 s2 = some 1) : J x 7 Λ (lw_Z (xb x) (xa x) (xs x)) 2396 [(0, .ref v0), (1, .ref v1), (2, .ref v2), (3, .ref v3), (4, .int v4), (5, .int v5)] [.int s2, .int s1, .ref s0] μ := by
  obtain ⟨r1, h2, hm⟩ := bd_some hm
  refine call_I (run_LV C lk_L_303 ⟨rfl, rfl, Nat.le_of_ble_eq_true rfl, Nat.le_of_ble_eq_true rfl⟩ (As := [.int s1, .int s2]) hs0 rfl rfl (Nat.le_of_ble_eq_true rfl) dL_law__2396 (mc_X12_led _ _ _ _ _ _ _ hs0 h2)) ?_
  refine j_istore C (lv' := [(6, .int r1.1), (0, .ref v0), (1, .ref v1), (2, .ref v2), (3, .ref v3), (4, .int v4), (5, .int v5)]) dL_law__2399 (by decide) rfl ?_
  refine j_aload_n C 3 dL_law__2401 rfl ?_
  obtain ⟨r3, h4, hm⟩ := bd_some hm
  refine call_I (run_LV C lk_L_134 ⟨rfl, rfl, Nat.le_of_ble_eq_true rfl, Nat.le_of_ble_eq_true rfl⟩ (As := []) hv2 rfl rfl (Nat.le_of_ble_eq_true rfl) dL_law__2402 (mc_X12_thrown _ _ _ _ _ hv2 h4)) ?_
  refine j_iload C 6 dL_law__2405 rfl ?_
  refine j_icmp_eq C (tgt := 2412) dL_law__2407 (by decide) (fun h5 => ?_) (fun h5 => ?_)
  · replace hm := if_t hm h5
    refine j_iload C 6 dL_law__2412 rfl ?_
    refine j_if_ne C (tgt := 2429) dL_law__2414 (by decide) (fun h6 => ?_) (fun h6 => ?_)
    · replace hm := if_f hm h6
      refine j_sub [1, 2, 3, 4, 5] rfl ?_
      exact tj_L_law__2429 C _ _ _ _ _ _ _ _ _ _ hS hst hAL hKM (hk_sub hk (Nat.le_of_ble_eq_true rfl) (Nat.le_of_ble_eq_true rfl)) hk23 hv1 hv2 hv3 hm
    · replace hm := if_t hm h6
      refine j_aload_n C 4 dL_law__2417 rfl ?_
      refine j_iconst C (v := 0) dL_law__2418 rfl ?_
      obtain ⟨h7, hm⟩ := gd_some hm
      refine j_lald C hv3 h7 dL_law__2419 ?_
      refine j_iload C 0 dL_law__2420 rfl ?_
      refine j_i2l C dL_law__2422 ?_
      refine j_lcmp C dL_law__2423 ?_
      refine j_if_eq C (tgt := 2429) dL_law__2424 (by decide) (fun h8 => ?_) (fun h8 => ?_)
      · replace hm := if_t hm h8
        refine j_sub [1, 2, 3, 4, 5] rfl ?_
        exact tj_L_law__2429 C _ _ _ _ _ _ _ _ _ _ hS hst hAL hKM (hk_sub hk (Nat.le_of_ble_eq_true rfl) (Nat.le_of_ble_eq_true rfl)) hk23 hv1 hv2 hv3 hm
      · replace hm := if_f hm h8
        refine j_iconst C (v := 0) dL_law__2427 rfl ?_
        exact absurd (Option.some.inj hm) (by decide)
  · replace hm := if_f hm h5
    refine j_iconst C (v := 0) dL_law__2410 rfl ?_
    exact absurd (Option.some.inj hm) (by decide)
set_option maxRecDepth 20000 in
set_option maxHeartbeats 4000000 in
theorem tj_L_law__2369 {x : Ctx} {Λ : Lay} {K M : Nat} (C : Cx x cL_law_ 7 (some .boolean) RL Λ room_1) (N : Nat) (L : Nat) (sc : Nat → Int32) (μ : Mem) (k23 : Int32 × Mem → Option Int32) (v0 : Nat) (v1 : Nat) (v2 : Nat) (v3 : Nat) (v4 : Int32) (s0 : Nat) (s1 : Int32) (s2 : Int32) (hS : SCx x Λ v0 L sc) (hst : x.2.1.stackTraces = false) (hAL : ∀ q ∈ aL Λ, (xs x).heap.size ≤ q) (hKM : K ≤ room_1.cells ∧ M ≤ room_1.slots) (hk : xk x + 1 ≤ K ∧ xl x + 6 ≤ M) (hk23 : ∀ (s : Int32 × Mem), k23 s = some 1 → ∀ (c d : Nat), c ≤ K → d ≤ M → J (wc x c d) 7 Λ (lw_Z (xb x) (xa x) (xs x)) 23 [(0, .ref v0), (1, .ref v1), (2, .ref v2), (3, .ref v3), (4, .int s.1)] [] s.2) (hv1 : inL Λ v1 10) (hv2 : inL Λ v2 11) (hv3 : inL Λ v3 14) (hs0 : inL Λ s0 10) (hm : jn_L_law__2369 N Λ L sc μ k23 v0 v1 v2 v3 v4 s0 s1 s2 = some 1) : J x 7 Λ (lw_Z (xb x) (xa x) (xs x)) 2369 [(0, .ref v0), (1, .ref v1), (2, .ref v2), (3, .ref v3), (4, .int v4)] [.int s2, .int s1, .ref s0] μ := by
  refine j_aload_n C 3 dL_law__2369 rfl ?_
  obtain ⟨r1, h2, hm⟩ := bd_some hm
  refine call_W C lkw_301 ⟨Nat.le_of_ble_eq_true rfl, Nat.le_of_ble_eq_true rfl⟩ (hk_room (hk_sub hk (Nat.le_of_ble_eq_true rfl) (Nat.le_of_ble_eq_true rfl)) hKM) (As := [.ref s0, .int s1, .int s2, .ref v3]) rfl rfl (Nat.le_of_ble_eq_true rfl) dL_law__2370 (mw_L_led _ hst _ _ _ _ _ _ _ hs0 hv3 h2) ?_
  replace C := Cx_bump (a := 1) (b := 6) C (hk_room (a := 1) (b := 6) (hk_sub hk (Nat.le_of_ble_eq_true rfl) (Nat.le_of_ble_eq_true rfl)) hKM)
  replace hk := hk_bump (a := 1) (b := 6) (n := 0) (m := 0) (hk_sub hk (Nat.le_of_ble_eq_true rfl) (Nat.le_of_ble_eq_true rfl))
  refine j_istore C (lv' := [(5, .int r1.1), (0, .ref v0), (1, .ref v1), (2, .ref v2), (3, .ref v3), (4, .int v4)]) dL_law__2373 (by decide) rfl ?_
  refine j_aload_n C 3 dL_law__2375 rfl ?_
  refine j_aload_n C 1 dL_law__2376 rfl ?_
  refine j_iload C 5 dL_law__2377 rfl ?_
  refine j_iconst C (v := 1) dL_law__2379 rfl ?_
  refine j_iadd C dL_law__2380 ?_
  obtain ⟨h3, hm⟩ := gd_some hm
  refine j_sld C hS h3 dL_law__2381 ?_
  refine j_aload_n C 1 dL_law__2382 rfl ?_
  refine j_iload C 5 dL_law__2383 rfl ?_
  refine j_iconst C (v := 2) dL_law__2385 rfl ?_
  refine j_iadd C dL_law__2386 ?_
  obtain ⟨h4, hm⟩ := gd_some hm
  refine j_sld C hS h4 dL_law__2387 ?_
  refine j_if_eq C (tgt := 2395) dL_law__2388 (by decide) (fun h5 => ?_) (fun h5 => ?_)
  · replace hm := if_t hm h5
    refine j_iconst C (v := 0) dL_law__2395 rfl ?_
    refine j_sub [1, 2, 3, 4, 5, 0] rfl ?_
    exact tj_L_law__2396 C _ _ _ _ _ _ _ _ _ _ _ _ _ _ hS hst hAL hKM (hk_sub hk (Nat.le_of_ble_eq_true rfl) (Nat.le_of_ble_eq_true rfl)) hk23 hv1 hv2 hv3 hv2 hm
  · replace hm := if_f hm h5
    refine j_iconst C (v := 1) dL_law__2391 rfl ?_
    refine j_goto C (tgt := 2396) dL_law__2392 (by decide) ?_
    refine j_sub [1, 2, 3, 4, 5, 0] rfl ?_
    exact tj_L_law__2396 C _ _ _ _ _ _ _ _ _ _ _ _ _ _ hS hst hAL hKM (hk_sub hk (Nat.le_of_ble_eq_true rfl) (Nat.le_of_ble_eq_true rfl)) hk23 hv1 hv2 hv3 hv2 hm
set_option maxRecDepth 20000 in
set_option maxHeartbeats 4000000 in
theorem tj_L_law__2345 {x : Ctx} {Λ : Lay} {K M : Nat} (C : Cx x cL_law_ 7 (some .boolean) RL Λ room_1) (N : Nat) (L : Nat) (sc : Nat → Int32) (μ : Mem) (k23 : Int32 × Mem → Option Int32) (v0 : Nat) (v1 : Nat) (v2 : Nat) (v3 : Nat) (v4 : Int32) (hS : SCx x Λ v0 L sc) (hst : x.2.1.stackTraces = false) (hAL : ∀ q ∈ aL Λ, (xs x).heap.size ≤ q) (hKM : K ≤ room_1.cells ∧ M ≤ room_1.slots) (hk : xk x + 0 ≤ K ∧ xl x + 0 ≤ M) (hk23 : ∀ (s : Int32 × Mem), k23 s = some 1 → ∀ (c d : Nat), c ≤ K → d ≤ M → J (wc x c d) 7 Λ (lw_Z (xb x) (xa x) (xs x)) 23 [(0, .ref v0), (1, .ref v1), (2, .ref v2), (3, .ref v3), (4, .int s.1)] [] s.2) (hv1 : inL Λ v1 10) (hv2 : inL Λ v2 11) (hv3 : inL Λ v3 14) (hm : jn_L_law__2345 N Λ L sc μ k23 v0 v1 v2 v3 v4 = some 1) : J x 7 Λ (lw_Z (xb x) (xa x) (xs x)) 2345 [(0, .ref v0), (1, .ref v1), (2, .ref v2), (3, .ref v3), (4, .int v4)] [] μ := by
  refine j_goto C (tgt := 2587) dL_law__2345 (by decide) ?_
  exact tj_L_law__2587 C _ _ _ _ _ _ _ _ _ _ hS hst hAL hKM (hk_sub hk (Nat.le_of_ble_eq_true rfl) (Nat.le_of_ble_eq_true rfl)) hk23 hv1 hv2 hv3 hm
set_option maxRecDepth 20000 in
set_option maxHeartbeats 4000000 in
theorem tj_L_law__2312 {x : Ctx} {Λ : Lay} {K M : Nat} (C : Cx x cL_law_ 7 (some .boolean) RL Λ room_1) (N : Nat) (L : Nat) (sc : Nat → Int32) (μ : Mem) (k23 : Int32 × Mem → Option Int32) (v0 : Nat) (v1 : Nat) (v2 : Nat) (v3 : Nat) (v4 : Int32) (v5 : Int32) (s0 : Nat) (s1 : Int32) (s2 : Int32) (hS : SCx x Λ v0 L sc) (hst : x.2.1.stackTraces = false) (hAL : ∀ q ∈ aL Λ, (xs x).heap.size ≤ q) (hKM : K ≤ room_1.cells ∧ M ≤ room_1.slots) (hk : xk x + 0 ≤ K ∧ xl x + 0 ≤ M) (hk23 : ∀ (s : Int32 × Mem), k23 s = some 1 → ∀ (c d : Nat), c ≤ K → d ≤ M → J (wc x c d) 7 Λ (lw_Z (xb x) (xa x) (xs x)) 23 [(0, .ref v0), (1, .ref v1), (2, .ref v2), (3, .ref v3), (4, .int s.1)] [] s.2) (hv1 : inL Λ v1 10) (hv2 : inL Λ v2 11) (hv3 : inL Λ v3 14) (hs0 : inL Λ s0 11) (hm : jn_L_law__2312 N Λ L sc μ k23 v0 v1 v2 v3 v4 v5 s0 s1 s2 = some 1) : J x 7 Λ (lw_Z (xb x) (xa x) (xs x)) 2312 [(0, .ref v0), (1, .ref v1), (2, .ref v2), (3, .ref v3), (4, .int v4), (5, .int v5)] [.int s2, .int s1, .ref s0] μ := by
  obtain ⟨r1, h2, hm⟩ := bd_some hm
  refine call_I (run_LV C lk_L_300 ⟨rfl, rfl, Nat.le_of_ble_eq_true rfl, Nat.le_of_ble_eq_true rfl⟩ (As := [.int s1, .int s2]) hs0 rfl rfl (Nat.le_of_ble_eq_true rfl) dL_law__2312 (mc_X12_span _ _ _ _ _ _ _ hs0 h2)) ?_
  refine j_istore C (lv' := [(6, .int r1.1), (0, .ref v0), (1, .ref v1), (2, .ref v2), (3, .ref v3), (4, .int v4), (5, .int v5)]) dL_law__2315 (by decide) rfl ?_
  refine j_aload_n C 3 dL_law__2317 rfl ?_
  obtain ⟨r3, h4, hm⟩ := bd_some hm
  refine call_I (run_LV C lk_L_134 ⟨rfl, rfl, Nat.le_of_ble_eq_true rfl, Nat.le_of_ble_eq_true rfl⟩ (As := []) hv2 rfl rfl (Nat.le_of_ble_eq_true rfl) dL_law__2318 (mc_X12_thrown _ _ _ _ _ hv2 h4)) ?_
  refine j_iload C 6 dL_law__2321 rfl ?_
  refine j_icmp_eq C (tgt := 2328) dL_law__2323 (by decide) (fun h5 => ?_) (fun h5 => ?_)
  · replace hm := if_t hm h5
    refine j_iload C 6 dL_law__2328 rfl ?_
    refine j_if_ne C (tgt := 2345) dL_law__2330 (by decide) (fun h6 => ?_) (fun h6 => ?_)
    · replace hm := if_f hm h6
      refine j_sub [1, 2, 3, 4, 5] rfl ?_
      exact tj_L_law__2345 C _ _ _ _ _ _ _ _ _ _ hS hst hAL hKM (hk_sub hk (Nat.le_of_ble_eq_true rfl) (Nat.le_of_ble_eq_true rfl)) hk23 hv1 hv2 hv3 hm
    · replace hm := if_t hm h6
      refine j_aload_n C 4 dL_law__2333 rfl ?_
      refine j_iconst C (v := 0) dL_law__2334 rfl ?_
      obtain ⟨h7, hm⟩ := gd_some hm
      refine j_lald C hv3 h7 dL_law__2335 ?_
      refine j_iload C 0 dL_law__2336 rfl ?_
      refine j_i2l C dL_law__2338 ?_
      refine j_lcmp C dL_law__2339 ?_
      refine j_if_eq C (tgt := 2345) dL_law__2340 (by decide) (fun h8 => ?_) (fun h8 => ?_)
      · replace hm := if_t hm h8
        refine j_sub [1, 2, 3, 4, 5] rfl ?_
        exact tj_L_law__2345 C _ _ _ _ _ _ _ _ _ _ hS hst hAL hKM (hk_sub hk (Nat.le_of_ble_eq_true rfl) (Nat.le_of_ble_eq_true rfl)) hk23 hv1 hv2 hv3 hm
      · replace hm := if_f hm h8
        refine j_iconst C (v := 0) dL_law__2343 rfl ?_
        exact absurd (Option.some.inj hm) (by decide)
  · replace hm := if_f hm h5
    refine j_iconst C (v := 0) dL_law__2326 rfl ?_
    exact absurd (Option.some.inj hm) (by decide)
set_option maxRecDepth 20000 in
set_option maxHeartbeats 4000000 in
theorem tj_L_law__2285 {x : Ctx} {Λ : Lay} {K M : Nat} (C : Cx x cL_law_ 7 (some .boolean) RL Λ room_1) (N : Nat) (L : Nat) (sc : Nat → Int32) (μ : Mem) (k23 : Int32 × Mem → Option Int32) (v0 : Nat) (v1 : Nat) (v2 : Nat) (v3 : Nat) (v4 : Int32) (s0 : Nat) (s1 : Int32) (s2 : Int32) (hS : SCx x Λ v0 L sc) (hst : x.2.1.stackTraces = false) (hAL : ∀ q ∈ aL Λ, (xs x).heap.size ≤ q) (hKM : K ≤ room_1.cells ∧ M ≤ room_1.slots) (hk : xk x + 1 ≤ K ∧ xl x + 6 ≤ M) (hk23 : ∀ (s : Int32 × Mem), k23 s = some 1 → ∀ (c d : Nat), c ≤ K → d ≤ M → J (wc x c d) 7 Λ (lw_Z (xb x) (xa x) (xs x)) 23 [(0, .ref v0), (1, .ref v1), (2, .ref v2), (3, .ref v3), (4, .int s.1)] [] s.2) (hv1 : inL Λ v1 10) (hv2 : inL Λ v2 11) (hv3 : inL Λ v3 14) (hs0 : inL Λ s0 10) (hm : jn_L_law__2285 N Λ L sc μ k23 v0 v1 v2 v3 v4 s0 s1 s2 = some 1) : J x 7 Λ (lw_Z (xb x) (xa x) (xs x)) 2285 [(0, .ref v0), (1, .ref v1), (2, .ref v2), (3, .ref v3), (4, .int v4)] [.int s2, .int s1, .ref s0] μ := by
  refine j_aload_n C 3 dL_law__2285 rfl ?_
  obtain ⟨r1, h2, hm⟩ := bd_some hm
  refine call_W C lkw_298 ⟨Nat.le_of_ble_eq_true rfl, Nat.le_of_ble_eq_true rfl⟩ (hk_room (hk_sub hk (Nat.le_of_ble_eq_true rfl) (Nat.le_of_ble_eq_true rfl)) hKM) (As := [.ref s0, .int s1, .int s2, .ref v3]) rfl rfl (Nat.le_of_ble_eq_true rfl) dL_law__2286 (mw_L_span _ hst _ _ _ _ _ _ _ hs0 hv3 h2) ?_
  replace C := Cx_bump (a := 1) (b := 6) C (hk_room (a := 1) (b := 6) (hk_sub hk (Nat.le_of_ble_eq_true rfl) (Nat.le_of_ble_eq_true rfl)) hKM)
  replace hk := hk_bump (a := 1) (b := 6) (n := 0) (m := 0) (hk_sub hk (Nat.le_of_ble_eq_true rfl) (Nat.le_of_ble_eq_true rfl))
  refine j_istore C (lv' := [(5, .int r1.1), (0, .ref v0), (1, .ref v1), (2, .ref v2), (3, .ref v3), (4, .int v4)]) dL_law__2289 (by decide) rfl ?_
  refine j_aload_n C 3 dL_law__2291 rfl ?_
  refine j_aload_n C 1 dL_law__2292 rfl ?_
  refine j_iload C 5 dL_law__2293 rfl ?_
  refine j_iconst C (v := 1) dL_law__2295 rfl ?_
  refine j_iadd C dL_law__2296 ?_
  obtain ⟨h3, hm⟩ := gd_some hm
  refine j_sld C hS h3 dL_law__2297 ?_
  refine j_aload_n C 1 dL_law__2298 rfl ?_
  refine j_iload C 5 dL_law__2299 rfl ?_
  refine j_iconst C (v := 2) dL_law__2301 rfl ?_
  refine j_iadd C dL_law__2302 ?_
  obtain ⟨h4, hm⟩ := gd_some hm
  refine j_sld C hS h4 dL_law__2303 ?_
  refine j_if_eq C (tgt := 2311) dL_law__2304 (by decide) (fun h5 => ?_) (fun h5 => ?_)
  · replace hm := if_t hm h5
    refine j_iconst C (v := 0) dL_law__2311 rfl ?_
    refine j_sub [1, 2, 3, 4, 5, 0] rfl ?_
    exact tj_L_law__2312 C _ _ _ _ _ _ _ _ _ _ _ _ _ _ hS hst hAL hKM (hk_sub hk (Nat.le_of_ble_eq_true rfl) (Nat.le_of_ble_eq_true rfl)) hk23 hv1 hv2 hv3 hv2 hm
  · replace hm := if_f hm h5
    refine j_iconst C (v := 1) dL_law__2307 rfl ?_
    refine j_goto C (tgt := 2312) dL_law__2308 (by decide) ?_
    refine j_sub [1, 2, 3, 4, 5, 0] rfl ?_
    exact tj_L_law__2312 C _ _ _ _ _ _ _ _ _ _ _ _ _ _ hS hst hAL hKM (hk_sub hk (Nat.le_of_ble_eq_true rfl) (Nat.le_of_ble_eq_true rfl)) hk23 hv1 hv2 hv3 hv2 hm
set_option maxRecDepth 20000 in
set_option maxHeartbeats 4000000 in
theorem tj_L_law__2261 {x : Ctx} {Λ : Lay} {K M : Nat} (C : Cx x cL_law_ 7 (some .boolean) RL Λ room_1) (N : Nat) (L : Nat) (sc : Nat → Int32) (μ : Mem) (k23 : Int32 × Mem → Option Int32) (v0 : Nat) (v1 : Nat) (v2 : Nat) (v3 : Nat) (v4 : Int32) (hS : SCx x Λ v0 L sc) (hst : x.2.1.stackTraces = false) (hAL : ∀ q ∈ aL Λ, (xs x).heap.size ≤ q) (hKM : K ≤ room_1.cells ∧ M ≤ room_1.slots) (hk : xk x + 0 ≤ K ∧ xl x + 0 ≤ M) (hk23 : ∀ (s : Int32 × Mem), k23 s = some 1 → ∀ (c d : Nat), c ≤ K → d ≤ M → J (wc x c d) 7 Λ (lw_Z (xb x) (xa x) (xs x)) 23 [(0, .ref v0), (1, .ref v1), (2, .ref v2), (3, .ref v3), (4, .int s.1)] [] s.2) (hv1 : inL Λ v1 10) (hv2 : inL Λ v2 11) (hv3 : inL Λ v3 14) (hm : jn_L_law__2261 N Λ L sc μ k23 v0 v1 v2 v3 v4 = some 1) : J x 7 Λ (lw_Z (xb x) (xa x) (xs x)) 2261 [(0, .ref v0), (1, .ref v1), (2, .ref v2), (3, .ref v3), (4, .int v4)] [] μ := by
  refine j_goto C (tgt := 2587) dL_law__2261 (by decide) ?_
  exact tj_L_law__2587 C _ _ _ _ _ _ _ _ _ _ hS hst hAL hKM (hk_sub hk (Nat.le_of_ble_eq_true rfl) (Nat.le_of_ble_eq_true rfl)) hk23 hv1 hv2 hv3 hm
set_option maxRecDepth 20000 in
set_option maxHeartbeats 4000000 in
theorem tj_L_law__2228 {x : Ctx} {Λ : Lay} {K M : Nat} (C : Cx x cL_law_ 7 (some .boolean) RL Λ room_1) (N : Nat) (L : Nat) (sc : Nat → Int32) (μ : Mem) (k23 : Int32 × Mem → Option Int32) (v0 : Nat) (v1 : Nat) (v2 : Nat) (v3 : Nat) (v4 : Int32) (v5 : Int32) (s0 : Nat) (s1 : Int32) (s2 : Int32) (hS : SCx x Λ v0 L sc) (hst : x.2.1.stackTraces = false) (hAL : ∀ q ∈ aL Λ, (xs x).heap.size ≤ q) (hKM : K ≤ room_1.cells ∧ M ≤ room_1.slots) (hk : xk x + 0 ≤ K ∧ xl x + 0 ≤ M) (hk23 : ∀ (s : Int32 × Mem), k23 s = some 1 → ∀ (c d : Nat), c ≤ K → d ≤ M → J (wc x c d) 7 Λ (lw_Z (xb x) (xa x) (xs x)) 23 [(0, .ref v0), (1, .ref v1), (2, .ref v2), (3, .ref v3), (4, .int s.1)] [] s.2) (hv1 : inL Λ v1 10) (hv2 : inL Λ v2 11) (hv3 : inL Λ v3 14) (hs0 : inL Λ s0 11) (hm : jn_L_law__2228 N Λ L sc μ k23 v0 v1 v2 v3 v4 v5 s0 s1 s2 = some 1) : J x 7 Λ (lw_Z (xb x) (xa x) (xs x)) 2228 [(0, .ref v0), (1, .ref v1), (2, .ref v2), (3, .ref v3), (4, .int v4), (5, .int v5)] [.int s2, .int s1, .ref s0] μ := by
  obtain ⟨r1, h2, hm⟩ := bd_some hm
  refine call_I (run_LV C lk_L_297 ⟨rfl, rfl, Nat.le_of_ble_eq_true rfl, Nat.le_of_ble_eq_true rfl⟩ (As := [.int s1, .int s2]) hs0 rfl rfl (Nat.le_of_ble_eq_true rfl) dL_law__2228 (mc_X12_trial _ _ _ _ _ _ _ hs0 h2)) ?_
  refine j_istore C (lv' := [(6, .int r1.1), (0, .ref v0), (1, .ref v1), (2, .ref v2), (3, .ref v3), (4, .int v4), (5, .int v5)]) dL_law__2231 (by decide) rfl ?_
  refine j_aload_n C 3 dL_law__2233 rfl ?_
  obtain ⟨r3, h4, hm⟩ := bd_some hm
  refine call_I (run_LV C lk_L_134 ⟨rfl, rfl, Nat.le_of_ble_eq_true rfl, Nat.le_of_ble_eq_true rfl⟩ (As := []) hv2 rfl rfl (Nat.le_of_ble_eq_true rfl) dL_law__2234 (mc_X12_thrown _ _ _ _ _ hv2 h4)) ?_
  refine j_iload C 6 dL_law__2237 rfl ?_
  refine j_icmp_eq C (tgt := 2244) dL_law__2239 (by decide) (fun h5 => ?_) (fun h5 => ?_)
  · replace hm := if_t hm h5
    refine j_iload C 6 dL_law__2244 rfl ?_
    refine j_if_ne C (tgt := 2261) dL_law__2246 (by decide) (fun h6 => ?_) (fun h6 => ?_)
    · replace hm := if_f hm h6
      refine j_sub [1, 2, 3, 4, 5] rfl ?_
      exact tj_L_law__2261 C _ _ _ _ _ _ _ _ _ _ hS hst hAL hKM (hk_sub hk (Nat.le_of_ble_eq_true rfl) (Nat.le_of_ble_eq_true rfl)) hk23 hv1 hv2 hv3 hm
    · replace hm := if_t hm h6
      refine j_aload_n C 4 dL_law__2249 rfl ?_
      refine j_iconst C (v := 0) dL_law__2250 rfl ?_
      obtain ⟨h7, hm⟩ := gd_some hm
      refine j_lald C hv3 h7 dL_law__2251 ?_
      refine j_iload C 0 dL_law__2252 rfl ?_
      refine j_i2l C dL_law__2254 ?_
      refine j_lcmp C dL_law__2255 ?_
      refine j_if_eq C (tgt := 2261) dL_law__2256 (by decide) (fun h8 => ?_) (fun h8 => ?_)
      · replace hm := if_t hm h8
        refine j_sub [1, 2, 3, 4, 5] rfl ?_
        exact tj_L_law__2261 C _ _ _ _ _ _ _ _ _ _ hS hst hAL hKM (hk_sub hk (Nat.le_of_ble_eq_true rfl) (Nat.le_of_ble_eq_true rfl)) hk23 hv1 hv2 hv3 hm
      · replace hm := if_f hm h8
        refine j_iconst C (v := 0) dL_law__2259 rfl ?_
        exact absurd (Option.some.inj hm) (by decide)
  · replace hm := if_f hm h5
    refine j_iconst C (v := 0) dL_law__2242 rfl ?_
    exact absurd (Option.some.inj hm) (by decide)
set_option maxRecDepth 20000 in
set_option maxHeartbeats 4000000 in
theorem tj_L_law__2201 {x : Ctx} {Λ : Lay} {K M : Nat} (C : Cx x cL_law_ 7 (some .boolean) RL Λ room_1) (N : Nat) (L : Nat) (sc : Nat → Int32) (μ : Mem) (k23 : Int32 × Mem → Option Int32) (v0 : Nat) (v1 : Nat) (v2 : Nat) (v3 : Nat) (v4 : Int32) (s0 : Nat) (s1 : Int32) (s2 : Int32) (hS : SCx x Λ v0 L sc) (hst : x.2.1.stackTraces = false) (hAL : ∀ q ∈ aL Λ, (xs x).heap.size ≤ q) (hKM : K ≤ room_1.cells ∧ M ≤ room_1.slots) (hk : xk x + 1 ≤ K ∧ xl x + 6 ≤ M) (hk23 : ∀ (s : Int32 × Mem), k23 s = some 1 → ∀ (c d : Nat), c ≤ K → d ≤ M → J (wc x c d) 7 Λ (lw_Z (xb x) (xa x) (xs x)) 23 [(0, .ref v0), (1, .ref v1), (2, .ref v2), (3, .ref v3), (4, .int s.1)] [] s.2) (hv1 : inL Λ v1 10) (hv2 : inL Λ v2 11) (hv3 : inL Λ v3 14) (hs0 : inL Λ s0 10) (hm : jn_L_law__2201 N Λ L sc μ k23 v0 v1 v2 v3 v4 s0 s1 s2 = some 1) : J x 7 Λ (lw_Z (xb x) (xa x) (xs x)) 2201 [(0, .ref v0), (1, .ref v1), (2, .ref v2), (3, .ref v3), (4, .int v4)] [.int s2, .int s1, .ref s0] μ := by
  refine j_aload_n C 3 dL_law__2201 rfl ?_
  obtain ⟨r1, h2, hm⟩ := bd_some hm
  refine call_W C lkw_295 ⟨Nat.le_of_ble_eq_true rfl, Nat.le_of_ble_eq_true rfl⟩ (hk_room (hk_sub hk (Nat.le_of_ble_eq_true rfl) (Nat.le_of_ble_eq_true rfl)) hKM) (As := [.ref s0, .int s1, .int s2, .ref v3]) rfl rfl (Nat.le_of_ble_eq_true rfl) dL_law__2202 (mw_L_trial _ hst _ _ _ _ _ _ _ hs0 hv3 h2) ?_
  replace C := Cx_bump (a := 1) (b := 6) C (hk_room (a := 1) (b := 6) (hk_sub hk (Nat.le_of_ble_eq_true rfl) (Nat.le_of_ble_eq_true rfl)) hKM)
  replace hk := hk_bump (a := 1) (b := 6) (n := 0) (m := 0) (hk_sub hk (Nat.le_of_ble_eq_true rfl) (Nat.le_of_ble_eq_true rfl))
  refine j_istore C (lv' := [(5, .int r1.1), (0, .ref v0), (1, .ref v1), (2, .ref v2), (3, .ref v3), (4, .int v4)]) dL_law__2205 (by decide) rfl ?_
  refine j_aload_n C 3 dL_law__2207 rfl ?_
  refine j_aload_n C 1 dL_law__2208 rfl ?_
  refine j_iload C 5 dL_law__2209 rfl ?_
  refine j_iconst C (v := 1) dL_law__2211 rfl ?_
  refine j_iadd C dL_law__2212 ?_
  obtain ⟨h3, hm⟩ := gd_some hm
  refine j_sld C hS h3 dL_law__2213 ?_
  refine j_aload_n C 1 dL_law__2214 rfl ?_
  refine j_iload C 5 dL_law__2215 rfl ?_
  refine j_iconst C (v := 2) dL_law__2217 rfl ?_
  refine j_iadd C dL_law__2218 ?_
  obtain ⟨h4, hm⟩ := gd_some hm
  refine j_sld C hS h4 dL_law__2219 ?_
  refine j_if_eq C (tgt := 2227) dL_law__2220 (by decide) (fun h5 => ?_) (fun h5 => ?_)
  · replace hm := if_t hm h5
    refine j_iconst C (v := 0) dL_law__2227 rfl ?_
    refine j_sub [1, 2, 3, 4, 5, 0] rfl ?_
    exact tj_L_law__2228 C _ _ _ _ _ _ _ _ _ _ _ _ _ _ hS hst hAL hKM (hk_sub hk (Nat.le_of_ble_eq_true rfl) (Nat.le_of_ble_eq_true rfl)) hk23 hv1 hv2 hv3 hv2 hm
  · replace hm := if_f hm h5
    refine j_iconst C (v := 1) dL_law__2223 rfl ?_
    refine j_goto C (tgt := 2228) dL_law__2224 (by decide) ?_
    refine j_sub [1, 2, 3, 4, 5, 0] rfl ?_
    exact tj_L_law__2228 C _ _ _ _ _ _ _ _ _ _ _ _ _ _ hS hst hAL hKM (hk_sub hk (Nat.le_of_ble_eq_true rfl) (Nat.le_of_ble_eq_true rfl)) hk23 hv1 hv2 hv3 hv2 hm
set_option maxRecDepth 20000 in
set_option maxHeartbeats 4000000 in
theorem tj_L_law__2177 {x : Ctx} {Λ : Lay} {K M : Nat} (C : Cx x cL_law_ 7 (some .boolean) RL Λ room_1) (N : Nat) (L : Nat) (sc : Nat → Int32) (μ : Mem) (k23 : Int32 × Mem → Option Int32) (v0 : Nat) (v1 : Nat) (v2 : Nat) (v3 : Nat) (v4 : Int32) (hS : SCx x Λ v0 L sc) (hst : x.2.1.stackTraces = false) (hAL : ∀ q ∈ aL Λ, (xs x).heap.size ≤ q) (hKM : K ≤ room_1.cells ∧ M ≤ room_1.slots) (hk : xk x + 0 ≤ K ∧ xl x + 0 ≤ M) (hk23 : ∀ (s : Int32 × Mem), k23 s = some 1 → ∀ (c d : Nat), c ≤ K → d ≤ M → J (wc x c d) 7 Λ (lw_Z (xb x) (xa x) (xs x)) 23 [(0, .ref v0), (1, .ref v1), (2, .ref v2), (3, .ref v3), (4, .int s.1)] [] s.2) (hv1 : inL Λ v1 10) (hv2 : inL Λ v2 11) (hv3 : inL Λ v3 14) (hm : jn_L_law__2177 N Λ L sc μ k23 v0 v1 v2 v3 v4 = some 1) : J x 7 Λ (lw_Z (xb x) (xa x) (xs x)) 2177 [(0, .ref v0), (1, .ref v1), (2, .ref v2), (3, .ref v3), (4, .int v4)] [] μ := by
  refine j_goto C (tgt := 2587) dL_law__2177 (by decide) ?_
  exact tj_L_law__2587 C _ _ _ _ _ _ _ _ _ _ hS hst hAL hKM (hk_sub hk (Nat.le_of_ble_eq_true rfl) (Nat.le_of_ble_eq_true rfl)) hk23 hv1 hv2 hv3 hm
set_option maxRecDepth 20000 in
set_option maxHeartbeats 4000000 in
theorem tj_L_law__2144 {x : Ctx} {Λ : Lay} {K M : Nat} (C : Cx x cL_law_ 7 (some .boolean) RL Λ room_1) (N : Nat) (L : Nat) (sc : Nat → Int32) (μ : Mem) (k23 : Int32 × Mem → Option Int32) (v0 : Nat) (v1 : Nat) (v2 : Nat) (v3 : Nat) (v4 : Int32) (v5 : Int32) (s0 : Nat) (s1 : Int32) (s2 : Int32) (hS : SCx x Λ v0 L sc) (hst : x.2.1.stackTraces = false) (hAL : ∀ q ∈ aL Λ, (xs x).heap.size ≤ q) (hKM : K ≤ room_1.cells ∧ M ≤ room_1.slots) (hk : xk x + 0 ≤ K ∧ xl x + 0 ≤ M) (hk23 : ∀ (s : Int32 × Mem), k23 s = some 1 → ∀ (c d : Nat), c ≤ K → d ≤ M → J (wc x c d) 7 Λ (lw_Z (xb x) (xa x) (xs x)) 23 [(0, .ref v0), (1, .ref v1), (2, .ref v2), (3, .ref v3), (4, .int s.1)] [] s.2) (hv1 : inL Λ v1 10) (hv2 : inL Λ v2 11) (hv3 : inL Λ v3 14) (hs0 : inL Λ s0 11) (hm : jn_L_law__2144 N Λ L sc μ k23 v0 v1 v2 v3 v4 v5 s0 s1 s2 = some 1) : J x 7 Λ (lw_Z (xb x) (xa x) (xs x)) 2144 [(0, .ref v0), (1, .ref v1), (2, .ref v2), (3, .ref v3), (4, .int v4), (5, .int v5)] [.int s2, .int s1, .ref s0] μ := by
  obtain ⟨r1, h2, hm⟩ := bd_some hm
  refine call_I (run_LV C lk_L_294 ⟨rfl, rfl, Nat.le_of_ble_eq_true rfl, Nat.le_of_ble_eq_true rfl⟩ (As := [.int s1, .int s2]) hs0 rfl rfl (Nat.le_of_ble_eq_true rfl) dL_law__2144 (mc_X12_ahead _ _ _ _ _ _ _ hs0 h2)) ?_
  refine j_istore C (lv' := [(6, .int r1.1), (0, .ref v0), (1, .ref v1), (2, .ref v2), (3, .ref v3), (4, .int v4), (5, .int v5)]) dL_law__2147 (by decide) rfl ?_
  refine j_aload_n C 3 dL_law__2149 rfl ?_
  obtain ⟨r3, h4, hm⟩ := bd_some hm
  refine call_I (run_LV C lk_L_134 ⟨rfl, rfl, Nat.le_of_ble_eq_true rfl, Nat.le_of_ble_eq_true rfl⟩ (As := []) hv2 rfl rfl (Nat.le_of_ble_eq_true rfl) dL_law__2150 (mc_X12_thrown _ _ _ _ _ hv2 h4)) ?_
  refine j_iload C 6 dL_law__2153 rfl ?_
  refine j_icmp_eq C (tgt := 2160) dL_law__2155 (by decide) (fun h5 => ?_) (fun h5 => ?_)
  · replace hm := if_t hm h5
    refine j_iload C 6 dL_law__2160 rfl ?_
    refine j_if_ne C (tgt := 2177) dL_law__2162 (by decide) (fun h6 => ?_) (fun h6 => ?_)
    · replace hm := if_f hm h6
      refine j_sub [1, 2, 3, 4, 5] rfl ?_
      exact tj_L_law__2177 C _ _ _ _ _ _ _ _ _ _ hS hst hAL hKM (hk_sub hk (Nat.le_of_ble_eq_true rfl) (Nat.le_of_ble_eq_true rfl)) hk23 hv1 hv2 hv3 hm
    · replace hm := if_t hm h6
      refine j_aload_n C 4 dL_law__2165 rfl ?_
      refine j_iconst C (v := 0) dL_law__2166 rfl ?_
      obtain ⟨h7, hm⟩ := gd_some hm
      refine j_lald C hv3 h7 dL_law__2167 ?_
      refine j_iload C 0 dL_law__2168 rfl ?_
      refine j_i2l C dL_law__2170 ?_
      refine j_lcmp C dL_law__2171 ?_
      refine j_if_eq C (tgt := 2177) dL_law__2172 (by decide) (fun h8 => ?_) (fun h8 => ?_)
      · replace hm := if_t hm h8
        refine j_sub [1, 2, 3, 4, 5] rfl ?_
        exact tj_L_law__2177 C _ _ _ _ _ _ _ _ _ _ hS hst hAL hKM (hk_sub hk (Nat.le_of_ble_eq_true rfl) (Nat.le_of_ble_eq_true rfl)) hk23 hv1 hv2 hv3 hm
      · replace hm := if_f hm h8
        refine j_iconst C (v := 0) dL_law__2175 rfl ?_
        exact absurd (Option.some.inj hm) (by decide)
  · replace hm := if_f hm h5
    refine j_iconst C (v := 0) dL_law__2158 rfl ?_
    exact absurd (Option.some.inj hm) (by decide)
set_option maxRecDepth 20000 in
set_option maxHeartbeats 4000000 in
theorem tj_L_law__2117 {x : Ctx} {Λ : Lay} {K M : Nat} (C : Cx x cL_law_ 7 (some .boolean) RL Λ room_1) (N : Nat) (L : Nat) (sc : Nat → Int32) (μ : Mem) (k23 : Int32 × Mem → Option Int32) (v0 : Nat) (v1 : Nat) (v2 : Nat) (v3 : Nat) (v4 : Int32) (s0 : Nat) (s1 : Int32) (s2 : Int32) (hS : SCx x Λ v0 L sc) (hst : x.2.1.stackTraces = false) (hAL : ∀ q ∈ aL Λ, (xs x).heap.size ≤ q) (hKM : K ≤ room_1.cells ∧ M ≤ room_1.slots) (hk : xk x + 1 ≤ K ∧ xl x + 6 ≤ M) (hk23 : ∀ (s : Int32 × Mem), k23 s = some 1 → ∀ (c d : Nat), c ≤ K → d ≤ M → J (wc x c d) 7 Λ (lw_Z (xb x) (xa x) (xs x)) 23 [(0, .ref v0), (1, .ref v1), (2, .ref v2), (3, .ref v3), (4, .int s.1)] [] s.2) (hv1 : inL Λ v1 10) (hv2 : inL Λ v2 11) (hv3 : inL Λ v3 14) (hs0 : inL Λ s0 10) (hm : jn_L_law__2117 N Λ L sc μ k23 v0 v1 v2 v3 v4 s0 s1 s2 = some 1) : J x 7 Λ (lw_Z (xb x) (xa x) (xs x)) 2117 [(0, .ref v0), (1, .ref v1), (2, .ref v2), (3, .ref v3), (4, .int v4)] [.int s2, .int s1, .ref s0] μ := by
  refine j_aload_n C 3 dL_law__2117 rfl ?_
  obtain ⟨r1, h2, hm⟩ := bd_some hm
  refine call_W C lkw_292 ⟨Nat.le_of_ble_eq_true rfl, Nat.le_of_ble_eq_true rfl⟩ (hk_room (hk_sub hk (Nat.le_of_ble_eq_true rfl) (Nat.le_of_ble_eq_true rfl)) hKM) (As := [.ref s0, .int s1, .int s2, .ref v3]) rfl rfl (Nat.le_of_ble_eq_true rfl) dL_law__2118 (mw_L_ahead _ hst _ _ _ _ _ _ _ hs0 hv3 h2) ?_
  replace C := Cx_bump (a := 1) (b := 6) C (hk_room (a := 1) (b := 6) (hk_sub hk (Nat.le_of_ble_eq_true rfl) (Nat.le_of_ble_eq_true rfl)) hKM)
  replace hk := hk_bump (a := 1) (b := 6) (n := 0) (m := 0) (hk_sub hk (Nat.le_of_ble_eq_true rfl) (Nat.le_of_ble_eq_true rfl))
  refine j_istore C (lv' := [(5, .int r1.1), (0, .ref v0), (1, .ref v1), (2, .ref v2), (3, .ref v3), (4, .int v4)]) dL_law__2121 (by decide) rfl ?_
  refine j_aload_n C 3 dL_law__2123 rfl ?_
  refine j_aload_n C 1 dL_law__2124 rfl ?_
  refine j_iload C 5 dL_law__2125 rfl ?_
  refine j_iconst C (v := 1) dL_law__2127 rfl ?_
  refine j_iadd C dL_law__2128 ?_
  obtain ⟨h3, hm⟩ := gd_some hm
  refine j_sld C hS h3 dL_law__2129 ?_
  refine j_aload_n C 1 dL_law__2130 rfl ?_
  refine j_iload C 5 dL_law__2131 rfl ?_
  refine j_iconst C (v := 2) dL_law__2133 rfl ?_
  refine j_iadd C dL_law__2134 ?_
  obtain ⟨h4, hm⟩ := gd_some hm
  refine j_sld C hS h4 dL_law__2135 ?_
  refine j_if_eq C (tgt := 2143) dL_law__2136 (by decide) (fun h5 => ?_) (fun h5 => ?_)
  · replace hm := if_t hm h5
    refine j_iconst C (v := 0) dL_law__2143 rfl ?_
    refine j_sub [1, 2, 3, 4, 5, 0] rfl ?_
    exact tj_L_law__2144 C _ _ _ _ _ _ _ _ _ _ _ _ _ _ hS hst hAL hKM (hk_sub hk (Nat.le_of_ble_eq_true rfl) (Nat.le_of_ble_eq_true rfl)) hk23 hv1 hv2 hv3 hv2 hm
  · replace hm := if_f hm h5
    refine j_iconst C (v := 1) dL_law__2139 rfl ?_
    refine j_goto C (tgt := 2144) dL_law__2140 (by decide) ?_
    refine j_sub [1, 2, 3, 4, 5, 0] rfl ?_
    exact tj_L_law__2144 C _ _ _ _ _ _ _ _ _ _ _ _ _ _ hS hst hAL hKM (hk_sub hk (Nat.le_of_ble_eq_true rfl) (Nat.le_of_ble_eq_true rfl)) hk23 hv1 hv2 hv3 hv2 hm
set_option maxRecDepth 20000 in
set_option maxHeartbeats 4000000 in
theorem tj_L_law__2088 {x : Ctx} {Λ : Lay} {K M : Nat} (C : Cx x cL_law_ 7 (some .boolean) RL Λ room_1) (N : Nat) (L : Nat) (sc : Nat → Int32) (μ : Mem) (k23 : Int32 × Mem → Option Int32) (v0 : Nat) (v1 : Nat) (v2 : Nat) (v3 : Nat) (v4 : Int32) (s0 : Int32) (s1 : Nat) (s2 : Int32) (hS : SCx x Λ v0 L sc) (hst : x.2.1.stackTraces = false) (hAL : ∀ q ∈ aL Λ, (xs x).heap.size ≤ q) (hKM : K ≤ room_1.cells ∧ M ≤ room_1.slots) (hk : xk x + 0 ≤ K ∧ xl x + 0 ≤ M) (hk23 : ∀ (s : Int32 × Mem), k23 s = some 1 → ∀ (c d : Nat), c ≤ K → d ≤ M → J (wc x c d) 7 Λ (lw_Z (xb x) (xa x) (xs x)) 23 [(0, .ref v0), (1, .ref v1), (2, .ref v2), (3, .ref v3), (4, .int s.1)] [] s.2) (hv1 : inL Λ v1 10) (hv2 : inL Λ v2 11) (hv3 : inL Λ v3 14) (hs1 : inL Λ s1 11) (hm : jn_L_law__2088 N Λ L sc μ k23 v0 v1 v2 v3 v4 s0 s1 s2 = some 1) : J x 7 Λ (lw_Z (xb x) (xa x) (xs x)) 2088 [(0, .ref v0), (1, .ref v1), (2, .ref v2), (3, .ref v3), (4, .int v4)] [.int s2, .ref s1, .int s0] μ := by
  obtain ⟨r1, h2, hm⟩ := bd_some hm
  refine call_I (run_LV C lk_L_291 ⟨rfl, rfl, Nat.le_of_ble_eq_true rfl, Nat.le_of_ble_eq_true rfl⟩ (As := [.int s2]) hs1 rfl rfl (Nat.le_of_ble_eq_true rfl) dL_law__2088 (mc_X12_water _ _ _ _ _ _ hs1 h2)) ?_
  refine j_icmp_eq C (tgt := 2587) dL_law__2091 (by decide) (fun h3 => ?_) (fun h3 => ?_)
  · replace hm := if_t hm h3
    exact tj_L_law__2587 C _ _ _ _ _ _ _ _ _ _ hS hst hAL hKM (hk_sub hk (Nat.le_of_ble_eq_true rfl) (Nat.le_of_ble_eq_true rfl)) hk23 hv1 hv2 hv3 hm
  · replace hm := if_f hm h3
    refine j_iconst C (v := 0) dL_law__2094 rfl ?_
    exact absurd (Option.some.inj hm) (by decide)
set_option maxRecDepth 20000 in
set_option maxHeartbeats 4000000 in
theorem tj_L_law__2070 {x : Ctx} {Λ : Lay} {K M : Nat} (C : Cx x cL_law_ 7 (some .boolean) RL Λ room_1) (N : Nat) (L : Nat) (sc : Nat → Int32) (μ : Mem) (k23 : Int32 × Mem → Option Int32) (v0 : Nat) (v1 : Nat) (v2 : Nat) (v3 : Nat) (v4 : Int32) (s0 : Nat) (s1 : Int32) (hS : SCx x Λ v0 L sc) (hst : x.2.1.stackTraces = false) (hAL : ∀ q ∈ aL Λ, (xs x).heap.size ≤ q) (hKM : K ≤ room_1.cells ∧ M ≤ room_1.slots) (hk : xk x + 0 ≤ K ∧ xl x + 0 ≤ M) (hk23 : ∀ (s : Int32 × Mem), k23 s = some 1 → ∀ (c d : Nat), c ≤ K → d ≤ M → J (wc x c d) 7 Λ (lw_Z (xb x) (xa x) (xs x)) 23 [(0, .ref v0), (1, .ref v1), (2, .ref v2), (3, .ref v3), (4, .int s.1)] [] s.2) (hv1 : inL Λ v1 10) (hv2 : inL Λ v2 11) (hv3 : inL Λ v3 14) (hs0 : inL Λ s0 10) (hm : jn_L_law__2070 N Λ L sc μ k23 v0 v1 v2 v3 v4 s0 s1 = some 1) : J x 7 Λ (lw_Z (xb x) (xa x) (xs x)) 2070 [(0, .ref v0), (1, .ref v1), (2, .ref v2), (3, .ref v3), (4, .int v4)] [.int s1, .ref s0] μ := by
  obtain ⟨r1, h2, hm⟩ := bd_some hm
  refine call_I (run_LV C lk_L_288 ⟨rfl, rfl, Nat.le_of_ble_eq_true rfl, Nat.le_of_ble_eq_true rfl⟩ (As := [.int s1]) hs0 rfl rfl (Nat.le_of_ble_eq_true rfl) dL_law__2070 (mc_X11_water _ _ _ _ _ _ hs0 h2)) ?_
  refine j_aload_n C 2 dL_law__2073 rfl ?_
  refine j_aload_n C 0 dL_law__2074 rfl ?_
  refine j_iload C 4 dL_law__2075 rfl ?_
  refine j_iconst C (v := 1) dL_law__2077 rfl ?_
  refine j_iadd C dL_law__2078 ?_
  obtain ⟨h3, hm⟩ := gd_some hm
  refine j_sld C hS h3 dL_law__2079 ?_
  refine j_if_eq C (tgt := 2087) dL_law__2080 (by decide) (fun h4 => ?_) (fun h4 => ?_)
  · replace hm := if_t hm h4
    refine j_iconst C (v := 0) dL_law__2087 rfl ?_
    exact tj_L_law__2088 C _ _ _ _ _ _ _ _ _ _ _ _ _ hS hst hAL hKM (hk_sub hk (Nat.le_of_ble_eq_true rfl) (Nat.le_of_ble_eq_true rfl)) hk23 hv1 hv2 hv3 hv2 hm
  · replace hm := if_f hm h4
    refine j_iconst C (v := 1) dL_law__2083 rfl ?_
    refine j_goto C (tgt := 2088) dL_law__2084 (by decide) ?_
    exact tj_L_law__2088 C _ _ _ _ _ _ _ _ _ _ _ _ _ hS hst hAL hKM (hk_sub hk (Nat.le_of_ble_eq_true rfl) (Nat.le_of_ble_eq_true rfl)) hk23 hv1 hv2 hv3 hv2 hm
set_option maxRecDepth 20000 in
set_option maxHeartbeats 4000000 in
theorem tj_L_law__1987 {x : Ctx} {Λ : Lay} {K M : Nat} (C : Cx x cL_law_ 7 (some .boolean) RL Λ room_1) (N : Nat) (L : Nat) (sc : Nat → Int32) (μ : Mem) (k23 : Int32 × Mem → Option Int32) (v0 : Nat) (v1 : Nat) (v2 : Nat) (v3 : Nat) (v4 : Int32) (hS : SCx x Λ v0 L sc) (hst : x.2.1.stackTraces = false) (hAL : ∀ q ∈ aL Λ, (xs x).heap.size ≤ q) (hKM : K ≤ room_1.cells ∧ M ≤ room_1.slots) (hk : xk x + 0 ≤ K ∧ xl x + 0 ≤ M) (hk23 : ∀ (s : Int32 × Mem), k23 s = some 1 → ∀ (c d : Nat), c ≤ K → d ≤ M → J (wc x c d) 7 Λ (lw_Z (xb x) (xa x) (xs x)) 23 [(0, .ref v0), (1, .ref v1), (2, .ref v2), (3, .ref v3), (4, .int s.1)] [] s.2) (hv1 : inL Λ v1 10) (hv2 : inL Λ v2 11) (hv3 : inL Λ v3 14) (hm : jn_L_law__1987 N Λ L sc μ k23 v0 v1 v2 v3 v4 = some 1) : J x 7 Λ (lw_Z (xb x) (xa x) (xs x)) 1987 [(0, .ref v0), (1, .ref v1), (2, .ref v2), (3, .ref v3), (4, .int v4)] [] μ := by
  refine j_goto C (tgt := 2587) dL_law__1987 (by decide) ?_
  exact tj_L_law__2587 C _ _ _ _ _ _ _ _ _ _ hS hst hAL hKM (hk_sub hk (Nat.le_of_ble_eq_true rfl) (Nat.le_of_ble_eq_true rfl)) hk23 hv1 hv2 hv3 hm
set_option maxRecDepth 20000 in
set_option maxHeartbeats 4000000 in
theorem tj_L_law__1931 {x : Ctx} {Λ : Lay} {K M : Nat} (C : Cx x cL_law_ 7 (some .boolean) RL Λ room_1) (N : Nat) (L : Nat) (sc : Nat → Int32) (μ : Mem) (k23 : Int32 × Mem → Option Int32) (v0 : Nat) (v1 : Nat) (v2 : Nat) (v3 : Nat) (v4 : Int32) (hS : SCx x Λ v0 L sc) (hst : x.2.1.stackTraces = false) (hAL : ∀ q ∈ aL Λ, (xs x).heap.size ≤ q) (hKM : K ≤ room_1.cells ∧ M ≤ room_1.slots) (hk : xk x + 0 ≤ K ∧ xl x + 0 ≤ M) (hk23 : ∀ (s : Int32 × Mem), k23 s = some 1 → ∀ (c d : Nat), c ≤ K → d ≤ M → J (wc x c d) 7 Λ (lw_Z (xb x) (xa x) (xs x)) 23 [(0, .ref v0), (1, .ref v1), (2, .ref v2), (3, .ref v3), (4, .int s.1)] [] s.2) (hv1 : inL Λ v1 10) (hv2 : inL Λ v2 11) (hv3 : inL Λ v3 14) (hm : jn_L_law__1931 N Λ L sc μ k23 v0 v1 v2 v3 v4 = some 1) : J x 7 Λ (lw_Z (xb x) (xa x) (xs x)) 1931 [(0, .ref v0), (1, .ref v1), (2, .ref v2), (3, .ref v3), (4, .int v4)] [] μ := by
  refine j_goto C (tgt := 2587) dL_law__1931 (by decide) ?_
  exact tj_L_law__2587 C _ _ _ _ _ _ _ _ _ _ hS hst hAL hKM (hk_sub hk (Nat.le_of_ble_eq_true rfl) (Nat.le_of_ble_eq_true rfl)) hk23 hv1 hv2 hv3 hm
set_option maxRecDepth 20000 in
set_option maxHeartbeats 4000000 in
theorem tj_L_law__1863 {x : Ctx} {Λ : Lay} {K M : Nat} (C : Cx x cL_law_ 7 (some .boolean) RL Λ room_1) (N : Nat) (L : Nat) (sc : Nat → Int32) (μ : Mem) (k23 : Int32 × Mem → Option Int32) (v0 : Nat) (v1 : Nat) (v2 : Nat) (v3 : Nat) (v4 : Int32) (hS : SCx x Λ v0 L sc) (hst : x.2.1.stackTraces = false) (hAL : ∀ q ∈ aL Λ, (xs x).heap.size ≤ q) (hKM : K ≤ room_1.cells ∧ M ≤ room_1.slots) (hk : xk x + 0 ≤ K ∧ xl x + 0 ≤ M) (hk23 : ∀ (s : Int32 × Mem), k23 s = some 1 → ∀ (c d : Nat), c ≤ K → d ≤ M → J (wc x c d) 7 Λ (lw_Z (xb x) (xa x) (xs x)) 23 [(0, .ref v0), (1, .ref v1), (2, .ref v2), (3, .ref v3), (4, .int s.1)] [] s.2) (hv1 : inL Λ v1 10) (hv2 : inL Λ v2 11) (hv3 : inL Λ v3 14) (hm : jn_L_law__1863 N Λ L sc μ k23 v0 v1 v2 v3 v4 = some 1) : J x 7 Λ (lw_Z (xb x) (xa x) (xs x)) 1863 [(0, .ref v0), (1, .ref v1), (2, .ref v2), (3, .ref v3), (4, .int v4)] [] μ := by
  refine j_goto C (tgt := 2587) dL_law__1863 (by decide) ?_
  exact tj_L_law__2587 C _ _ _ _ _ _ _ _ _ _ hS hst hAL hKM (hk_sub hk (Nat.le_of_ble_eq_true rfl) (Nat.le_of_ble_eq_true rfl)) hk23 hv1 hv2 hv3 hm
set_option maxRecDepth 20000 in
set_option maxHeartbeats 4000000 in
theorem tj_L_law__1807 {x : Ctx} {Λ : Lay} {K M : Nat} (C : Cx x cL_law_ 7 (some .boolean) RL Λ room_1) (N : Nat) (L : Nat) (sc : Nat → Int32) (μ : Mem) (k23 : Int32 × Mem → Option Int32) (v0 : Nat) (v1 : Nat) (v2 : Nat) (v3 : Nat) (v4 : Int32) (hS : SCx x Λ v0 L sc) (hst : x.2.1.stackTraces = false) (hAL : ∀ q ∈ aL Λ, (xs x).heap.size ≤ q) (hKM : K ≤ room_1.cells ∧ M ≤ room_1.slots) (hk : xk x + 0 ≤ K ∧ xl x + 0 ≤ M) (hk23 : ∀ (s : Int32 × Mem), k23 s = some 1 → ∀ (c d : Nat), c ≤ K → d ≤ M → J (wc x c d) 7 Λ (lw_Z (xb x) (xa x) (xs x)) 23 [(0, .ref v0), (1, .ref v1), (2, .ref v2), (3, .ref v3), (4, .int s.1)] [] s.2) (hv1 : inL Λ v1 10) (hv2 : inL Λ v2 11) (hv3 : inL Λ v3 14) (hm : jn_L_law__1807 N Λ L sc μ k23 v0 v1 v2 v3 v4 = some 1) : J x 7 Λ (lw_Z (xb x) (xa x) (xs x)) 1807 [(0, .ref v0), (1, .ref v1), (2, .ref v2), (3, .ref v3), (4, .int v4)] [] μ := by
  refine j_goto C (tgt := 2587) dL_law__1807 (by decide) ?_
  exact tj_L_law__2587 C _ _ _ _ _ _ _ _ _ _ hS hst hAL hKM (hk_sub hk (Nat.le_of_ble_eq_true rfl) (Nat.le_of_ble_eq_true rfl)) hk23 hv1 hv2 hv3 hm
set_option maxRecDepth 20000 in
set_option maxHeartbeats 4000000 in
theorem tj_L_law__1751 {x : Ctx} {Λ : Lay} {K M : Nat} (C : Cx x cL_law_ 7 (some .boolean) RL Λ room_1) (N : Nat) (L : Nat) (sc : Nat → Int32) (μ : Mem) (k23 : Int32 × Mem → Option Int32) (v0 : Nat) (v1 : Nat) (v2 : Nat) (v3 : Nat) (v4 : Int32) (hS : SCx x Λ v0 L sc) (hst : x.2.1.stackTraces = false) (hAL : ∀ q ∈ aL Λ, (xs x).heap.size ≤ q) (hKM : K ≤ room_1.cells ∧ M ≤ room_1.slots) (hk : xk x + 0 ≤ K ∧ xl x + 0 ≤ M) (hk23 : ∀ (s : Int32 × Mem), k23 s = some 1 → ∀ (c d : Nat), c ≤ K → d ≤ M → J (wc x c d) 7 Λ (lw_Z (xb x) (xa x) (xs x)) 23 [(0, .ref v0), (1, .ref v1), (2, .ref v2), (3, .ref v3), (4, .int s.1)] [] s.2) (hv1 : inL Λ v1 10) (hv2 : inL Λ v2 11) (hv3 : inL Λ v3 14) (hm : jn_L_law__1751 N Λ L sc μ k23 v0 v1 v2 v3 v4 = some 1) : J x 7 Λ (lw_Z (xb x) (xa x) (xs x)) 1751 [(0, .ref v0), (1, .ref v1), (2, .ref v2), (3, .ref v3), (4, .int v4)] [] μ := by
  refine j_goto C (tgt := 2587) dL_law__1751 (by decide) ?_
  exact tj_L_law__2587 C _ _ _ _ _ _ _ _ _ _ hS hst hAL hKM (hk_sub hk (Nat.le_of_ble_eq_true rfl) (Nat.le_of_ble_eq_true rfl)) hk23 hv1 hv2 hv3 hm
set_option maxRecDepth 20000 in
set_option maxHeartbeats 4000000 in
theorem tj_L_law__1669 {x : Ctx} {Λ : Lay} {K M : Nat} (C : Cx x cL_law_ 7 (some .boolean) RL Λ room_1) (N : Nat) (L : Nat) (sc : Nat → Int32) (μ : Mem) (k23 : Int32 × Mem → Option Int32) (v0 : Nat) (v1 : Nat) (v2 : Nat) (v3 : Nat) (v4 : Int32) (hS : SCx x Λ v0 L sc) (hst : x.2.1.stackTraces = false) (hAL : ∀ q ∈ aL Λ, (xs x).heap.size ≤ q) (hKM : K ≤ room_1.cells ∧ M ≤ room_1.slots) (hk : xk x + 0 ≤ K ∧ xl x + 0 ≤ M) (hk23 : ∀ (s : Int32 × Mem), k23 s = some 1 → ∀ (c d : Nat), c ≤ K → d ≤ M → J (wc x c d) 7 Λ (lw_Z (xb x) (xa x) (xs x)) 23 [(0, .ref v0), (1, .ref v1), (2, .ref v2), (3, .ref v3), (4, .int s.1)] [] s.2) (hv1 : inL Λ v1 10) (hv2 : inL Λ v2 11) (hv3 : inL Λ v3 14) (hm : jn_L_law__1669 N Λ L sc μ k23 v0 v1 v2 v3 v4 = some 1) : J x 7 Λ (lw_Z (xb x) (xa x) (xs x)) 1669 [(0, .ref v0), (1, .ref v1), (2, .ref v2), (3, .ref v3), (4, .int v4)] [] μ := by
  refine j_goto C (tgt := 2587) dL_law__1669 (by decide) ?_
  exact tj_L_law__2587 C _ _ _ _ _ _ _ _ _ _ hS hst hAL hKM (hk_sub hk (Nat.le_of_ble_eq_true rfl) (Nat.le_of_ble_eq_true rfl)) hk23 hv1 hv2 hv3 hm
set_option maxRecDepth 20000 in
set_option maxHeartbeats 4000000 in
theorem tj_L_law__1625 {x : Ctx} {Λ : Lay} {K M : Nat} (C : Cx x cL_law_ 7 (some .boolean) RL Λ room_1) (N : Nat) (L : Nat) (sc : Nat → Int32) (μ : Mem) (k23 : Int32 × Mem → Option Int32) (v0 : Nat) (v1 : Nat) (v2 : Nat) (v3 : Nat) (v4 : Int32) (hS : SCx x Λ v0 L sc) (hst : x.2.1.stackTraces = false) (hAL : ∀ q ∈ aL Λ, (xs x).heap.size ≤ q) (hKM : K ≤ room_1.cells ∧ M ≤ room_1.slots) (hk : xk x + 0 ≤ K ∧ xl x + 0 ≤ M) (hk23 : ∀ (s : Int32 × Mem), k23 s = some 1 → ∀ (c d : Nat), c ≤ K → d ≤ M → J (wc x c d) 7 Λ (lw_Z (xb x) (xa x) (xs x)) 23 [(0, .ref v0), (1, .ref v1), (2, .ref v2), (3, .ref v3), (4, .int s.1)] [] s.2) (hv1 : inL Λ v1 10) (hv2 : inL Λ v2 11) (hv3 : inL Λ v3 14) (hm : jn_L_law__1625 N Λ L sc μ k23 v0 v1 v2 v3 v4 = some 1) : J x 7 Λ (lw_Z (xb x) (xa x) (xs x)) 1625 [(0, .ref v0), (1, .ref v1), (2, .ref v2), (3, .ref v3), (4, .int v4)] [] μ := by
  refine j_goto C (tgt := 2587) dL_law__1625 (by decide) ?_
  exact tj_L_law__2587 C _ _ _ _ _ _ _ _ _ _ hS hst hAL hKM (hk_sub hk (Nat.le_of_ble_eq_true rfl) (Nat.le_of_ble_eq_true rfl)) hk23 hv1 hv2 hv3 hm
set_option maxRecDepth 20000 in
set_option maxHeartbeats 4000000 in
theorem tj_L_law__1581 {x : Ctx} {Λ : Lay} {K M : Nat} (C : Cx x cL_law_ 7 (some .boolean) RL Λ room_1) (N : Nat) (L : Nat) (sc : Nat → Int32) (μ : Mem) (k23 : Int32 × Mem → Option Int32) (v0 : Nat) (v1 : Nat) (v2 : Nat) (v3 : Nat) (v4 : Int32) (hS : SCx x Λ v0 L sc) (hst : x.2.1.stackTraces = false) (hAL : ∀ q ∈ aL Λ, (xs x).heap.size ≤ q) (hKM : K ≤ room_1.cells ∧ M ≤ room_1.slots) (hk : xk x + 0 ≤ K ∧ xl x + 0 ≤ M) (hk23 : ∀ (s : Int32 × Mem), k23 s = some 1 → ∀ (c d : Nat), c ≤ K → d ≤ M → J (wc x c d) 7 Λ (lw_Z (xb x) (xa x) (xs x)) 23 [(0, .ref v0), (1, .ref v1), (2, .ref v2), (3, .ref v3), (4, .int s.1)] [] s.2) (hv1 : inL Λ v1 10) (hv2 : inL Λ v2 11) (hv3 : inL Λ v3 14) (hm : jn_L_law__1581 N Λ L sc μ k23 v0 v1 v2 v3 v4 = some 1) : J x 7 Λ (lw_Z (xb x) (xa x) (xs x)) 1581 [(0, .ref v0), (1, .ref v1), (2, .ref v2), (3, .ref v3), (4, .int v4)] [] μ := by
  refine j_goto C (tgt := 2587) dL_law__1581 (by decide) ?_
  exact tj_L_law__2587 C _ _ _ _ _ _ _ _ _ _ hS hst hAL hKM (hk_sub hk (Nat.le_of_ble_eq_true rfl) (Nat.le_of_ble_eq_true rfl)) hk23 hv1 hv2 hv3 hm
set_option maxRecDepth 20000 in
set_option maxHeartbeats 4000000 in
theorem tj_L_law__1537 {x : Ctx} {Λ : Lay} {K M : Nat} (C : Cx x cL_law_ 7 (some .boolean) RL Λ room_1) (N : Nat) (L : Nat) (sc : Nat → Int32) (μ : Mem) (k23 : Int32 × Mem → Option Int32) (v0 : Nat) (v1 : Nat) (v2 : Nat) (v3 : Nat) (v4 : Int32) (hS : SCx x Λ v0 L sc) (hst : x.2.1.stackTraces = false) (hAL : ∀ q ∈ aL Λ, (xs x).heap.size ≤ q) (hKM : K ≤ room_1.cells ∧ M ≤ room_1.slots) (hk : xk x + 0 ≤ K ∧ xl x + 0 ≤ M) (hk23 : ∀ (s : Int32 × Mem), k23 s = some 1 → ∀ (c d : Nat), c ≤ K → d ≤ M → J (wc x c d) 7 Λ (lw_Z (xb x) (xa x) (xs x)) 23 [(0, .ref v0), (1, .ref v1), (2, .ref v2), (3, .ref v3), (4, .int s.1)] [] s.2) (hv1 : inL Λ v1 10) (hv2 : inL Λ v2 11) (hv3 : inL Λ v3 14) (hm : jn_L_law__1537 N Λ L sc μ k23 v0 v1 v2 v3 v4 = some 1) : J x 7 Λ (lw_Z (xb x) (xa x) (xs x)) 1537 [(0, .ref v0), (1, .ref v1), (2, .ref v2), (3, .ref v3), (4, .int v4)] [] μ := by
  refine j_goto C (tgt := 2587) dL_law__1537 (by decide) ?_
  exact tj_L_law__2587 C _ _ _ _ _ _ _ _ _ _ hS hst hAL hKM (hk_sub hk (Nat.le_of_ble_eq_true rfl) (Nat.le_of_ble_eq_true rfl)) hk23 hv1 hv2 hv3 hm
set_option maxRecDepth 20000 in
set_option maxHeartbeats 4000000 in
theorem tj_L_law__1493 {x : Ctx} {Λ : Lay} {K M : Nat} (C : Cx x cL_law_ 7 (some .boolean) RL Λ room_1) (N : Nat) (L : Nat) (sc : Nat → Int32) (μ : Mem) (k23 : Int32 × Mem → Option Int32) (v0 : Nat) (v1 : Nat) (v2 : Nat) (v3 : Nat) (v4 : Int32) (hS : SCx x Λ v0 L sc) (hst : x.2.1.stackTraces = false) (hAL : ∀ q ∈ aL Λ, (xs x).heap.size ≤ q) (hKM : K ≤ room_1.cells ∧ M ≤ room_1.slots) (hk : xk x + 0 ≤ K ∧ xl x + 0 ≤ M) (hk23 : ∀ (s : Int32 × Mem), k23 s = some 1 → ∀ (c d : Nat), c ≤ K → d ≤ M → J (wc x c d) 7 Λ (lw_Z (xb x) (xa x) (xs x)) 23 [(0, .ref v0), (1, .ref v1), (2, .ref v2), (3, .ref v3), (4, .int s.1)] [] s.2) (hv1 : inL Λ v1 10) (hv2 : inL Λ v2 11) (hv3 : inL Λ v3 14) (hm : jn_L_law__1493 N Λ L sc μ k23 v0 v1 v2 v3 v4 = some 1) : J x 7 Λ (lw_Z (xb x) (xa x) (xs x)) 1493 [(0, .ref v0), (1, .ref v1), (2, .ref v2), (3, .ref v3), (4, .int v4)] [] μ := by
  refine j_goto C (tgt := 2587) dL_law__1493 (by decide) ?_
  exact tj_L_law__2587 C _ _ _ _ _ _ _ _ _ _ hS hst hAL hKM (hk_sub hk (Nat.le_of_ble_eq_true rfl) (Nat.le_of_ble_eq_true rfl)) hk23 hv1 hv2 hv3 hm
set_option maxRecDepth 20000 in
set_option maxHeartbeats 4000000 in
theorem tj_L_law__1460 {x : Ctx} {Λ : Lay} {K M : Nat} (C : Cx x cL_law_ 7 (some .boolean) RL Λ room_1) (N : Nat) (L : Nat) (sc : Nat → Int32) (μ : Mem) (k23 : Int32 × Mem → Option Int32) (v0 : Nat) (v1 : Nat) (v2 : Nat) (v3 : Nat) (v4 : Int32) (v5 : Int32) (s0 : Nat) (s1 : Int32) (hS : SCx x Λ v0 L sc) (hst : x.2.1.stackTraces = false) (hAL : ∀ q ∈ aL Λ, (xs x).heap.size ≤ q) (hKM : K ≤ room_1.cells ∧ M ≤ room_1.slots) (hk : xk x + 0 ≤ K ∧ xl x + 0 ≤ M) (hk23 : ∀ (s : Int32 × Mem), k23 s = some 1 → ∀ (c d : Nat), c ≤ K → d ≤ M → J (wc x c d) 7 Λ (lw_Z (xb x) (xa x) (xs x)) 23 [(0, .ref v0), (1, .ref v1), (2, .ref v2), (3, .ref v3), (4, .int s.1)] [] s.2) (hv1 : inL Λ v1 10) (hv2 : inL Λ v2 11) (hv3 : inL Λ v3 14) (hs0 : inL Λ s0 11) (hm : jn_L_law__1460 N Λ L sc μ k23 v0 v1 v2 v3 v4 v5 s0 s1 = some 1) : J x 7 Λ (lw_Z (xb x) (xa x) (xs x)) 1460 [(0, .ref v0), (1, .ref v1), (2, .ref v2), (3, .ref v3), (4, .int v4), (5, .int v5)] [.int s1, .ref s0] μ := by
  obtain ⟨r1, h2, hm⟩ := bd_some hm
  refine call_I (run_LV C lk_L_232 ⟨rfl, rfl, Nat.le_of_ble_eq_true rfl, Nat.le_of_ble_eq_true rfl⟩ (As := [.int s1]) hs0 rfl rfl (Nat.le_of_ble_eq_true rfl) dL_law__1460 (mc_X12_goes _ _ _ _ _ _ hs0 h2)) ?_
  refine j_istore C (lv' := [(6, .int r1.1), (0, .ref v0), (1, .ref v1), (2, .ref v2), (3, .ref v3), (4, .int v4), (5, .int v5)]) dL_law__1463 (by decide) rfl ?_
  refine j_aload_n C 3 dL_law__1465 rfl ?_
  obtain ⟨r3, h4, hm⟩ := bd_some hm
  refine call_I (run_LV C lk_L_134 ⟨rfl, rfl, Nat.le_of_ble_eq_true rfl, Nat.le_of_ble_eq_true rfl⟩ (As := []) hv2 rfl rfl (Nat.le_of_ble_eq_true rfl) dL_law__1466 (mc_X12_thrown _ _ _ _ _ hv2 h4)) ?_
  refine j_iload C 6 dL_law__1469 rfl ?_
  refine j_icmp_eq C (tgt := 1476) dL_law__1471 (by decide) (fun h5 => ?_) (fun h5 => ?_)
  · replace hm := if_t hm h5
    refine j_iload C 6 dL_law__1476 rfl ?_
    refine j_if_ne C (tgt := 1493) dL_law__1478 (by decide) (fun h6 => ?_) (fun h6 => ?_)
    · replace hm := if_f hm h6
      refine j_sub [1, 2, 3, 4, 5] rfl ?_
      exact tj_L_law__1493 C _ _ _ _ _ _ _ _ _ _ hS hst hAL hKM (hk_sub hk (Nat.le_of_ble_eq_true rfl) (Nat.le_of_ble_eq_true rfl)) hk23 hv1 hv2 hv3 hm
    · replace hm := if_t hm h6
      refine j_aload_n C 4 dL_law__1481 rfl ?_
      refine j_iconst C (v := 0) dL_law__1482 rfl ?_
      obtain ⟨h7, hm⟩ := gd_some hm
      refine j_lald C hv3 h7 dL_law__1483 ?_
      refine j_iload C 0 dL_law__1484 rfl ?_
      refine j_i2l C dL_law__1486 ?_
      refine j_lcmp C dL_law__1487 ?_
      refine j_if_eq C (tgt := 1493) dL_law__1488 (by decide) (fun h8 => ?_) (fun h8 => ?_)
      · replace hm := if_t hm h8
        refine j_sub [1, 2, 3, 4, 5] rfl ?_
        exact tj_L_law__1493 C _ _ _ _ _ _ _ _ _ _ hS hst hAL hKM (hk_sub hk (Nat.le_of_ble_eq_true rfl) (Nat.le_of_ble_eq_true rfl)) hk23 hv1 hv2 hv3 hm
      · replace hm := if_f hm h8
        refine j_iconst C (v := 0) dL_law__1491 rfl ?_
        exact absurd (Option.some.inj hm) (by decide)
  · replace hm := if_f hm h5
    refine j_iconst C (v := 0) dL_law__1474 rfl ?_
    exact absurd (Option.some.inj hm) (by decide)
set_option maxRecDepth 20000 in
set_option maxHeartbeats 4000000 in
theorem tj_L_law__1439 {x : Ctx} {Λ : Lay} {K M : Nat} (C : Cx x cL_law_ 7 (some .boolean) RL Λ room_1) (N : Nat) (L : Nat) (sc : Nat → Int32) (μ : Mem) (k23 : Int32 × Mem → Option Int32) (v0 : Nat) (v1 : Nat) (v2 : Nat) (v3 : Nat) (v4 : Int32) (s0 : Nat) (s1 : Int32) (hS : SCx x Λ v0 L sc) (hst : x.2.1.stackTraces = false) (hAL : ∀ q ∈ aL Λ, (xs x).heap.size ≤ q) (hKM : K ≤ room_1.cells ∧ M ≤ room_1.slots) (hk : xk x + 1 ≤ K ∧ xl x + 6 ≤ M) (hk23 : ∀ (s : Int32 × Mem), k23 s = some 1 → ∀ (c d : Nat), c ≤ K → d ≤ M → J (wc x c d) 7 Λ (lw_Z (xb x) (xa x) (xs x)) 23 [(0, .ref v0), (1, .ref v1), (2, .ref v2), (3, .ref v3), (4, .int s.1)] [] s.2) (hv1 : inL Λ v1 10) (hv2 : inL Λ v2 11) (hv3 : inL Λ v3 14) (hs0 : inL Λ s0 10) (hm : jn_L_law__1439 N Λ L sc μ k23 v0 v1 v2 v3 v4 s0 s1 = some 1) : J x 7 Λ (lw_Z (xb x) (xa x) (xs x)) 1439 [(0, .ref v0), (1, .ref v1), (2, .ref v2), (3, .ref v3), (4, .int v4)] [.int s1, .ref s0] μ := by
  refine j_aload_n C 3 dL_law__1439 rfl ?_
  obtain ⟨r1, h2, hm⟩ := bd_some hm
  refine call_W C lkw_230 ⟨Nat.le_of_ble_eq_true rfl, Nat.le_of_ble_eq_true rfl⟩ (hk_room (hk_sub hk (Nat.le_of_ble_eq_true rfl) (Nat.le_of_ble_eq_true rfl)) hKM) (As := [.ref s0, .int s1, .ref v3]) rfl rfl (Nat.le_of_ble_eq_true rfl) dL_law__1440 (mw_L_goes _ hst _ _ _ _ _ _ hs0 hv3 h2) ?_
  replace C := Cx_bump (a := 1) (b := 6) C (hk_room (a := 1) (b := 6) (hk_sub hk (Nat.le_of_ble_eq_true rfl) (Nat.le_of_ble_eq_true rfl)) hKM)
  replace hk := hk_bump (a := 1) (b := 6) (n := 0) (m := 0) (hk_sub hk (Nat.le_of_ble_eq_true rfl) (Nat.le_of_ble_eq_true rfl))
  refine j_istore C (lv' := [(5, .int r1.1), (0, .ref v0), (1, .ref v1), (2, .ref v2), (3, .ref v3), (4, .int v4)]) dL_law__1443 (by decide) rfl ?_
  refine j_aload_n C 3 dL_law__1445 rfl ?_
  refine j_aload_n C 1 dL_law__1446 rfl ?_
  refine j_iload C 5 dL_law__1447 rfl ?_
  refine j_iconst C (v := 1) dL_law__1449 rfl ?_
  refine j_iadd C dL_law__1450 ?_
  obtain ⟨h3, hm⟩ := gd_some hm
  refine j_sld C hS h3 dL_law__1451 ?_
  refine j_if_eq C (tgt := 1459) dL_law__1452 (by decide) (fun h4 => ?_) (fun h4 => ?_)
  · replace hm := if_t hm h4
    refine j_iconst C (v := 0) dL_law__1459 rfl ?_
    refine j_sub [1, 2, 3, 4, 5, 0] rfl ?_
    exact tj_L_law__1460 C _ _ _ _ _ _ _ _ _ _ _ _ _ hS hst hAL hKM (hk_sub hk (Nat.le_of_ble_eq_true rfl) (Nat.le_of_ble_eq_true rfl)) hk23 hv1 hv2 hv3 hv2 hm
  · replace hm := if_f hm h4
    refine j_iconst C (v := 1) dL_law__1455 rfl ?_
    refine j_goto C (tgt := 1460) dL_law__1456 (by decide) ?_
    refine j_sub [1, 2, 3, 4, 5, 0] rfl ?_
    exact tj_L_law__1460 C _ _ _ _ _ _ _ _ _ _ _ _ _ hS hst hAL hKM (hk_sub hk (Nat.le_of_ble_eq_true rfl) (Nat.le_of_ble_eq_true rfl)) hk23 hv1 hv2 hv3 hv2 hm
set_option maxRecDepth 20000 in
set_option maxHeartbeats 4000000 in
theorem tj_L_law__1278 {x : Ctx} {Λ : Lay} {K M : Nat} (C : Cx x cL_law_ 7 (some .boolean) RL Λ room_1) (N : Nat) (L : Nat) (sc : Nat → Int32) (μ : Mem) (k23 : Int32 × Mem → Option Int32) (v0 : Nat) (v1 : Nat) (v2 : Nat) (v3 : Nat) (v4 : Int32) (hS : SCx x Λ v0 L sc) (hst : x.2.1.stackTraces = false) (hAL : ∀ q ∈ aL Λ, (xs x).heap.size ≤ q) (hKM : K ≤ room_1.cells ∧ M ≤ room_1.slots) (hk : xk x + 0 ≤ K ∧ xl x + 0 ≤ M) (hk23 : ∀ (s : Int32 × Mem), k23 s = some 1 → ∀ (c d : Nat), c ≤ K → d ≤ M → J (wc x c d) 7 Λ (lw_Z (xb x) (xa x) (xs x)) 23 [(0, .ref v0), (1, .ref v1), (2, .ref v2), (3, .ref v3), (4, .int s.1)] [] s.2) (hv1 : inL Λ v1 10) (hv2 : inL Λ v2 11) (hv3 : inL Λ v3 14) (hm : jn_L_law__1278 N Λ L sc μ k23 v0 v1 v2 v3 v4 = some 1) : J x 7 Λ (lw_Z (xb x) (xa x) (xs x)) 1278 [(0, .ref v0), (1, .ref v1), (2, .ref v2), (3, .ref v3), (4, .int v4)] [] μ := by
  refine j_goto C (tgt := 2587) dL_law__1278 (by decide) ?_
  exact tj_L_law__2587 C _ _ _ _ _ _ _ _ _ _ hS hst hAL hKM (hk_sub hk (Nat.le_of_ble_eq_true rfl) (Nat.le_of_ble_eq_true rfl)) hk23 hv1 hv2 hv3 hm
set_option maxRecDepth 20000 in
set_option maxHeartbeats 4000000 in
theorem tj_L_law__1210 {x : Ctx} {Λ : Lay} {K M : Nat} (C : Cx x cL_law_ 7 (some .boolean) RL Λ room_1) (N : Nat) (L : Nat) (sc : Nat → Int32) (μ : Mem) (k23 : Int32 × Mem → Option Int32) (v0 : Nat) (v1 : Nat) (v2 : Nat) (v3 : Nat) (v4 : Int32) (hS : SCx x Λ v0 L sc) (hst : x.2.1.stackTraces = false) (hAL : ∀ q ∈ aL Λ, (xs x).heap.size ≤ q) (hKM : K ≤ room_1.cells ∧ M ≤ room_1.slots) (hk : xk x + 0 ≤ K ∧ xl x + 0 ≤ M) (hk23 : ∀ (s : Int32 × Mem), k23 s = some 1 → ∀ (c d : Nat), c ≤ K → d ≤ M → J (wc x c d) 7 Λ (lw_Z (xb x) (xa x) (xs x)) 23 [(0, .ref v0), (1, .ref v1), (2, .ref v2), (3, .ref v3), (4, .int s.1)] [] s.2) (hv1 : inL Λ v1 10) (hv2 : inL Λ v2 11) (hv3 : inL Λ v3 14) (hm : jn_L_law__1210 N Λ L sc μ k23 v0 v1 v2 v3 v4 = some 1) : J x 7 Λ (lw_Z (xb x) (xa x) (xs x)) 1210 [(0, .ref v0), (1, .ref v1), (2, .ref v2), (3, .ref v3), (4, .int v4)] [] μ := by
  refine j_goto C (tgt := 2587) dL_law__1210 (by decide) ?_
  exact tj_L_law__2587 C _ _ _ _ _ _ _ _ _ _ hS hst hAL hKM (hk_sub hk (Nat.le_of_ble_eq_true rfl) (Nat.le_of_ble_eq_true rfl)) hk23 hv1 hv2 hv3 hm
set_option maxRecDepth 20000 in
set_option maxHeartbeats 4000000 in
theorem tj_L_law__1154 {x : Ctx} {Λ : Lay} {K M : Nat} (C : Cx x cL_law_ 7 (some .boolean) RL Λ room_1) (N : Nat) (L : Nat) (sc : Nat → Int32) (μ : Mem) (k23 : Int32 × Mem → Option Int32) (v0 : Nat) (v1 : Nat) (v2 : Nat) (v3 : Nat) (v4 : Int32) (hS : SCx x Λ v0 L sc) (hst : x.2.1.stackTraces = false) (hAL : ∀ q ∈ aL Λ, (xs x).heap.size ≤ q) (hKM : K ≤ room_1.cells ∧ M ≤ room_1.slots) (hk : xk x + 0 ≤ K ∧ xl x + 0 ≤ M) (hk23 : ∀ (s : Int32 × Mem), k23 s = some 1 → ∀ (c d : Nat), c ≤ K → d ≤ M → J (wc x c d) 7 Λ (lw_Z (xb x) (xa x) (xs x)) 23 [(0, .ref v0), (1, .ref v1), (2, .ref v2), (3, .ref v3), (4, .int s.1)] [] s.2) (hv1 : inL Λ v1 10) (hv2 : inL Λ v2 11) (hv3 : inL Λ v3 14) (hm : jn_L_law__1154 N Λ L sc μ k23 v0 v1 v2 v3 v4 = some 1) : J x 7 Λ (lw_Z (xb x) (xa x) (xs x)) 1154 [(0, .ref v0), (1, .ref v1), (2, .ref v2), (3, .ref v3), (4, .int v4)] [] μ := by
  refine j_goto C (tgt := 2587) dL_law__1154 (by decide) ?_
  exact tj_L_law__2587 C _ _ _ _ _ _ _ _ _ _ hS hst hAL hKM (hk_sub hk (Nat.le_of_ble_eq_true rfl) (Nat.le_of_ble_eq_true rfl)) hk23 hv1 hv2 hv3 hm
set_option maxRecDepth 20000 in
set_option maxHeartbeats 4000000 in
theorem tj_L_law__1098 {x : Ctx} {Λ : Lay} {K M : Nat} (C : Cx x cL_law_ 7 (some .boolean) RL Λ room_1) (N : Nat) (L : Nat) (sc : Nat → Int32) (μ : Mem) (k23 : Int32 × Mem → Option Int32) (v0 : Nat) (v1 : Nat) (v2 : Nat) (v3 : Nat) (v4 : Int32) (hS : SCx x Λ v0 L sc) (hst : x.2.1.stackTraces = false) (hAL : ∀ q ∈ aL Λ, (xs x).heap.size ≤ q) (hKM : K ≤ room_1.cells ∧ M ≤ room_1.slots) (hk : xk x + 0 ≤ K ∧ xl x + 0 ≤ M) (hk23 : ∀ (s : Int32 × Mem), k23 s = some 1 → ∀ (c d : Nat), c ≤ K → d ≤ M → J (wc x c d) 7 Λ (lw_Z (xb x) (xa x) (xs x)) 23 [(0, .ref v0), (1, .ref v1), (2, .ref v2), (3, .ref v3), (4, .int s.1)] [] s.2) (hv1 : inL Λ v1 10) (hv2 : inL Λ v2 11) (hv3 : inL Λ v3 14) (hm : jn_L_law__1098 N Λ L sc μ k23 v0 v1 v2 v3 v4 = some 1) : J x 7 Λ (lw_Z (xb x) (xa x) (xs x)) 1098 [(0, .ref v0), (1, .ref v1), (2, .ref v2), (3, .ref v3), (4, .int v4)] [] μ := by
  refine j_goto C (tgt := 2587) dL_law__1098 (by decide) ?_
  exact tj_L_law__2587 C _ _ _ _ _ _ _ _ _ _ hS hst hAL hKM (hk_sub hk (Nat.le_of_ble_eq_true rfl) (Nat.le_of_ble_eq_true rfl)) hk23 hv1 hv2 hv3 hm
set_option maxRecDepth 20000 in
set_option maxHeartbeats 4000000 in
theorem tj_L_law__1092 {x : Ctx} {Λ : Lay} {K M : Nat} (C : Cx x cL_law_ 7 (some .boolean) RL Λ room_1) (N : Nat) (L : Nat) (sc : Nat → Int32) (μ : Mem) (k23 : Int32 × Mem → Option Int32) (v0 : Nat) (v1 : Nat) (v2 : Nat) (v3 : Nat) (v4 : Int32) (s0 : Int64) (s1 : Int64) (hS : SCx x Λ v0 L sc) (hst : x.2.1.stackTraces = false) (hAL : ∀ q ∈ aL Λ, (xs x).heap.size ≤ q) (hKM : K ≤ room_1.cells ∧ M ≤ room_1.slots) (hk : xk x + 0 ≤ K ∧ xl x + 0 ≤ M) (hk23 : ∀ (s : Int32 × Mem), k23 s = some 1 → ∀ (c d : Nat), c ≤ K → d ≤ M → J (wc x c d) 7 Λ (lw_Z (xb x) (xa x) (xs x)) 23 [(0, .ref v0), (1, .ref v1), (2, .ref v2), (3, .ref v3), (4, .int s.1)] [] s.2) (hv1 : inL Λ v1 10) (hv2 : inL Λ v2 11) (hv3 : inL Λ v3 14) (hm : jn_L_law__1092 N Λ L sc μ k23 v0 v1 v2 v3 v4 s0 s1 = some 1) : J x 7 Λ (lw_Z (xb x) (xa x) (xs x)) 1092 [(0, .ref v0), (1, .ref v1), (2, .ref v2), (3, .ref v3), (4, .int v4)] [.long s1, .long s0] μ := by
  refine j_lcmp C dL_law__1092 ?_
  refine j_if_eq C (tgt := 1098) dL_law__1093 (by decide) (fun h1 => ?_) (fun h1 => ?_)
  · replace hm := if_t hm h1
    exact tj_L_law__1098 C _ _ _ _ _ _ _ _ _ _ hS hst hAL hKM (hk_sub hk (Nat.le_of_ble_eq_true rfl) (Nat.le_of_ble_eq_true rfl)) hk23 hv1 hv2 hv3 hm
  · replace hm := if_f hm h1
    refine j_iconst C (v := 0) dL_law__1096 rfl ?_
    exact absurd (Option.some.inj hm) (by decide)
set_option maxRecDepth 20000 in
set_option maxHeartbeats 4000000 in
theorem tj_L_law__1058 {x : Ctx} {Λ : Lay} {K M : Nat} (C : Cx x cL_law_ 7 (some .boolean) RL Λ room_1) (N : Nat) (L : Nat) (sc : Nat → Int32) (μ : Mem) (k23 : Int32 × Mem → Option Int32) (v0 : Nat) (v1 : Nat) (v2 : Nat) (v3 : Nat) (v4 : Int32) (v5 : Int32) (s0 : Nat) (s1 : Int32) (s2 : Int32) (hS : SCx x Λ v0 L sc) (hst : x.2.1.stackTraces = false) (hAL : ∀ q ∈ aL Λ, (xs x).heap.size ≤ q) (hKM : K ≤ room_1.cells ∧ M ≤ room_1.slots) (hk : xk x + 0 ≤ K ∧ xl x + 0 ≤ M) (hk23 : ∀ (s : Int32 × Mem), k23 s = some 1 → ∀ (c d : Nat), c ≤ K → d ≤ M → J (wc x c d) 7 Λ (lw_Z (xb x) (xa x) (xs x)) 23 [(0, .ref v0), (1, .ref v1), (2, .ref v2), (3, .ref v3), (4, .int s.1)] [] s.2) (hv1 : inL Λ v1 10) (hv2 : inL Λ v2 11) (hv3 : inL Λ v3 14) (hs0 : inL Λ s0 11) (hm : jn_L_law__1058 N Λ L sc μ k23 v0 v1 v2 v3 v4 v5 s0 s1 s2 = some 1) : J x 7 Λ (lw_Z (xb x) (xa x) (xs x)) 1058 [(0, .ref v0), (1, .ref v1), (2, .ref v2), (3, .ref v3), (4, .int v4), (5, .int v5)] [.int s2, .int s1, .ref s0] μ := by
  obtain ⟨r1, h2, hm⟩ := bd_some hm
  refine call_I (run_LV C lk_L_175 ⟨rfl, rfl, Nat.le_of_ble_eq_true rfl, Nat.le_of_ble_eq_true rfl⟩ (As := [.int s1, .int s2]) hs0 rfl rfl (Nat.le_of_ble_eq_true rfl) dL_law__1058 (mc_X12_block _ _ _ _ _ _ _ hs0 h2)) ?_
  refine j_istore C (lv' := [(6, .int r1.1), (0, .ref v0), (1, .ref v1), (2, .ref v2), (3, .ref v3), (4, .int v4), (5, .int v5)]) dL_law__1061 (by decide) rfl ?_
  refine j_aload_n C 3 dL_law__1063 rfl ?_
  obtain ⟨r3, h4, hm⟩ := bd_some hm
  refine call_I (run_LV C lk_L_134 ⟨rfl, rfl, Nat.le_of_ble_eq_true rfl, Nat.le_of_ble_eq_true rfl⟩ (As := []) hv2 rfl rfl (Nat.le_of_ble_eq_true rfl) dL_law__1064 (mc_X12_thrown _ _ _ _ _ hv2 h4)) ?_
  refine j_iload C 6 dL_law__1067 rfl ?_
  refine j_icmp_eq C (tgt := 1074) dL_law__1069 (by decide) (fun h5 => ?_) (fun h5 => ?_)
  · replace hm := if_t hm h5
    refine j_iload C 6 dL_law__1074 rfl ?_
    refine j_if_ne C (tgt := 1098) dL_law__1076 (by decide) (fun h6 => ?_) (fun h6 => ?_)
    · replace hm := if_f hm h6
      refine j_sub [1, 2, 3, 4, 5] rfl ?_
      exact tj_L_law__1098 C _ _ _ _ _ _ _ _ _ _ hS hst hAL hKM (hk_sub hk (Nat.le_of_ble_eq_true rfl) (Nat.le_of_ble_eq_true rfl)) hk23 hv1 hv2 hv3 hm
    · replace hm := if_t hm h6
      refine j_aload_n C 4 dL_law__1079 rfl ?_
      refine j_iconst C (v := 0) dL_law__1080 rfl ?_
      obtain ⟨h7, hm⟩ := gd_some hm
      refine j_lald C hv3 h7 dL_law__1081 ?_
      refine j_iload C 0 dL_law__1082 rfl ?_
      refine j_if_eq C (tgt := 1091) dL_law__1084 (by decide) (fun h8 => ?_) (fun h8 => ?_)
      · replace hm := if_t hm h8
        refine j_lconst C (v := 0) dL_law__1091 rfl ?_
        refine j_sub [1, 2, 3, 4, 5] rfl ?_
        exact tj_L_law__1092 C _ _ _ _ _ _ _ _ _ _ _ _ hS hst hAL hKM (hk_sub hk (Nat.le_of_ble_eq_true rfl) (Nat.le_of_ble_eq_true rfl)) hk23 hv1 hv2 hv3 hm
      · replace hm := if_f hm h8
        refine j_lconst C (v := 1) dL_law__1087 rfl ?_
        refine j_goto C (tgt := 1092) dL_law__1088 (by decide) ?_
        refine j_sub [1, 2, 3, 4, 5] rfl ?_
        exact tj_L_law__1092 C _ _ _ _ _ _ _ _ _ _ _ _ hS hst hAL hKM (hk_sub hk (Nat.le_of_ble_eq_true rfl) (Nat.le_of_ble_eq_true rfl)) hk23 hv1 hv2 hv3 hm
  · replace hm := if_f hm h5
    refine j_iconst C (v := 0) dL_law__1072 rfl ?_
    exact absurd (Option.some.inj hm) (by decide)
set_option maxRecDepth 20000 in
set_option maxHeartbeats 4000000 in
theorem tj_L_law__1031 {x : Ctx} {Λ : Lay} {K M : Nat} (C : Cx x cL_law_ 7 (some .boolean) RL Λ room_1) (N : Nat) (L : Nat) (sc : Nat → Int32) (μ : Mem) (k23 : Int32 × Mem → Option Int32) (v0 : Nat) (v1 : Nat) (v2 : Nat) (v3 : Nat) (v4 : Int32) (s0 : Nat) (s1 : Int32) (s2 : Int32) (hS : SCx x Λ v0 L sc) (hst : x.2.1.stackTraces = false) (hAL : ∀ q ∈ aL Λ, (xs x).heap.size ≤ q) (hKM : K ≤ room_1.cells ∧ M ≤ room_1.slots) (hk : xk x + 1 ≤ K ∧ xl x + 6 ≤ M) (hk23 : ∀ (s : Int32 × Mem), k23 s = some 1 → ∀ (c d : Nat), c ≤ K → d ≤ M → J (wc x c d) 7 Λ (lw_Z (xb x) (xa x) (xs x)) 23 [(0, .ref v0), (1, .ref v1), (2, .ref v2), (3, .ref v3), (4, .int s.1)] [] s.2) (hv1 : inL Λ v1 10) (hv2 : inL Λ v2 11) (hv3 : inL Λ v3 14) (hs0 : inL Λ s0 10) (hm : jn_L_law__1031 N Λ L sc μ k23 v0 v1 v2 v3 v4 s0 s1 s2 = some 1) : J x 7 Λ (lw_Z (xb x) (xa x) (xs x)) 1031 [(0, .ref v0), (1, .ref v1), (2, .ref v2), (3, .ref v3), (4, .int v4)] [.int s2, .int s1, .ref s0] μ := by
  refine j_aload_n C 3 dL_law__1031 rfl ?_
  obtain ⟨r1, h2, hm⟩ := bd_some hm
  refine call_W C lkw_172 ⟨Nat.le_of_ble_eq_true rfl, Nat.le_of_ble_eq_true rfl⟩ (hk_room (hk_sub hk (Nat.le_of_ble_eq_true rfl) (Nat.le_of_ble_eq_true rfl)) hKM) (As := [.ref s0, .int s1, .int s2, .ref v3]) rfl rfl (Nat.le_of_ble_eq_true rfl) dL_law__1032 (mw_L_block _ hst _ _ _ _ _ _ _ hs0 hv3 h2) ?_
  replace C := Cx_bump (a := 1) (b := 6) C (hk_room (a := 1) (b := 6) (hk_sub hk (Nat.le_of_ble_eq_true rfl) (Nat.le_of_ble_eq_true rfl)) hKM)
  replace hk := hk_bump (a := 1) (b := 6) (n := 0) (m := 0) (hk_sub hk (Nat.le_of_ble_eq_true rfl) (Nat.le_of_ble_eq_true rfl))
  refine j_istore C (lv' := [(5, .int r1.1), (0, .ref v0), (1, .ref v1), (2, .ref v2), (3, .ref v3), (4, .int v4)]) dL_law__1035 (by decide) rfl ?_
  refine j_aload_n C 3 dL_law__1037 rfl ?_
  refine j_aload_n C 1 dL_law__1038 rfl ?_
  refine j_iload C 5 dL_law__1039 rfl ?_
  refine j_iconst C (v := 1) dL_law__1041 rfl ?_
  refine j_iadd C dL_law__1042 ?_
  obtain ⟨h3, hm⟩ := gd_some hm
  refine j_sld C hS h3 dL_law__1043 ?_
  refine j_aload_n C 1 dL_law__1044 rfl ?_
  refine j_iload C 5 dL_law__1045 rfl ?_
  refine j_iconst C (v := 2) dL_law__1047 rfl ?_
  refine j_iadd C dL_law__1048 ?_
  obtain ⟨h4, hm⟩ := gd_some hm
  refine j_sld C hS h4 dL_law__1049 ?_
  refine j_if_eq C (tgt := 1057) dL_law__1050 (by decide) (fun h5 => ?_) (fun h5 => ?_)
  · replace hm := if_t hm h5
    refine j_iconst C (v := 0) dL_law__1057 rfl ?_
    refine j_sub [1, 2, 3, 4, 5, 0] rfl ?_
    exact tj_L_law__1058 C _ _ _ _ _ _ _ _ _ _ _ _ _ _ hS hst hAL hKM (hk_sub hk (Nat.le_of_ble_eq_true rfl) (Nat.le_of_ble_eq_true rfl)) hk23 hv1 hv2 hv3 hv2 hm
  · replace hm := if_f hm h5
    refine j_iconst C (v := 1) dL_law__1053 rfl ?_
    refine j_goto C (tgt := 1058) dL_law__1054 (by decide) ?_
    refine j_sub [1, 2, 3, 4, 5, 0] rfl ?_
    exact tj_L_law__1058 C _ _ _ _ _ _ _ _ _ _ _ _ _ _ hS hst hAL hKM (hk_sub hk (Nat.le_of_ble_eq_true rfl) (Nat.le_of_ble_eq_true rfl)) hk23 hv1 hv2 hv3 hv2 hm
set_option maxRecDepth 20000 in
set_option maxHeartbeats 4000000 in
theorem tj_L_law__1007 {x : Ctx} {Λ : Lay} {K M : Nat} (C : Cx x cL_law_ 7 (some .boolean) RL Λ room_1) (N : Nat) (L : Nat) (sc : Nat → Int32) (μ : Mem) (k23 : Int32 × Mem → Option Int32) (v0 : Nat) (v1 : Nat) (v2 : Nat) (v3 : Nat) (v4 : Int32) (hS : SCx x Λ v0 L sc) (hst : x.2.1.stackTraces = false) (hAL : ∀ q ∈ aL Λ, (xs x).heap.size ≤ q) (hKM : K ≤ room_1.cells ∧ M ≤ room_1.slots) (hk : xk x + 0 ≤ K ∧ xl x + 0 ≤ M) (hk23 : ∀ (s : Int32 × Mem), k23 s = some 1 → ∀ (c d : Nat), c ≤ K → d ≤ M → J (wc x c d) 7 Λ (lw_Z (xb x) (xa x) (xs x)) 23 [(0, .ref v0), (1, .ref v1), (2, .ref v2), (3, .ref v3), (4, .int s.1)] [] s.2) (hv1 : inL Λ v1 10) (hv2 : inL Λ v2 11) (hv3 : inL Λ v3 14) (hm : jn_L_law__1007 N Λ L sc μ k23 v0 v1 v2 v3 v4 = some 1) : J x 7 Λ (lw_Z (xb x) (xa x) (xs x)) 1007 [(0, .ref v0), (1, .ref v1), (2, .ref v2), (3, .ref v3), (4, .int v4)] [] μ := by
  refine j_goto C (tgt := 2587) dL_law__1007 (by decide) ?_
  exact tj_L_law__2587 C _ _ _ _ _ _ _ _ _ _ hS hst hAL hKM (hk_sub hk (Nat.le_of_ble_eq_true rfl) (Nat.le_of_ble_eq_true rfl)) hk23 hv1 hv2 hv3 hm
set_option maxRecDepth 20000 in
set_option maxHeartbeats 4000000 in
theorem tj_L_law__927 {x : Ctx} {Λ : Lay} {K M : Nat} (C : Cx x cL_law_ 7 (some .boolean) RL Λ room_1) (N : Nat) (L : Nat) (sc : Nat → Int32) (μ : Mem) (k23 : Int32 × Mem → Option Int32) (v0 : Nat) (v1 : Nat) (v2 : Nat) (v3 : Nat) (v4 : Int32) (hS : SCx x Λ v0 L sc) (hst : x.2.1.stackTraces = false) (hAL : ∀ q ∈ aL Λ, (xs x).heap.size ≤ q) (hKM : K ≤ room_1.cells ∧ M ≤ room_1.slots) (hk : xk x + 0 ≤ K ∧ xl x + 0 ≤ M) (hk23 : ∀ (s : Int32 × Mem), k23 s = some 1 → ∀ (c d : Nat), c ≤ K → d ≤ M → J (wc x c d) 7 Λ (lw_Z (xb x) (xa x) (xs x)) 23 [(0, .ref v0), (1, .ref v1), (2, .ref v2), (3, .ref v3), (4, .int s.1)] [] s.2) (hv1 : inL Λ v1 10) (hv2 : inL Λ v2 11) (hv3 : inL Λ v3 14) (hm : jn_L_law__927 N Λ L sc μ k23 v0 v1 v2 v3 v4 = some 1) : J x 7 Λ (lw_Z (xb x) (xa x) (xs x)) 927 [(0, .ref v0), (1, .ref v1), (2, .ref v2), (3, .ref v3), (4, .int v4)] [] μ := by
  refine j_goto C (tgt := 2587) dL_law__927 (by decide) ?_
  exact tj_L_law__2587 C _ _ _ _ _ _ _ _ _ _ hS hst hAL hKM (hk_sub hk (Nat.le_of_ble_eq_true rfl) (Nat.le_of_ble_eq_true rfl)) hk23 hv1 hv2 hv3 hm
set_option maxRecDepth 20000 in
set_option maxHeartbeats 4000000 in
theorem tj_L_law__871 {x : Ctx} {Λ : Lay} {K M : Nat} (C : Cx x cL_law_ 7 (some .boolean) RL Λ room_1) (N : Nat) (L : Nat) (sc : Nat → Int32) (μ : Mem) (k23 : Int32 × Mem → Option Int32) (v0 : Nat) (v1 : Nat) (v2 : Nat) (v3 : Nat) (v4 : Int32) (hS : SCx x Λ v0 L sc) (hst : x.2.1.stackTraces = false) (hAL : ∀ q ∈ aL Λ, (xs x).heap.size ≤ q) (hKM : K ≤ room_1.cells ∧ M ≤ room_1.slots) (hk : xk x + 0 ≤ K ∧ xl x + 0 ≤ M) (hk23 : ∀ (s : Int32 × Mem), k23 s = some 1 → ∀ (c d : Nat), c ≤ K → d ≤ M → J (wc x c d) 7 Λ (lw_Z (xb x) (xa x) (xs x)) 23 [(0, .ref v0), (1, .ref v1), (2, .ref v2), (3, .ref v3), (4, .int s.1)] [] s.2) (hv1 : inL Λ v1 10) (hv2 : inL Λ v2 11) (hv3 : inL Λ v3 14) (hm : jn_L_law__871 N Λ L sc μ k23 v0 v1 v2 v3 v4 = some 1) : J x 7 Λ (lw_Z (xb x) (xa x) (xs x)) 871 [(0, .ref v0), (1, .ref v1), (2, .ref v2), (3, .ref v3), (4, .int v4)] [] μ := by
  refine j_goto C (tgt := 2587) dL_law__871 (by decide) ?_
  exact tj_L_law__2587 C _ _ _ _ _ _ _ _ _ _ hS hst hAL hKM (hk_sub hk (Nat.le_of_ble_eq_true rfl) (Nat.le_of_ble_eq_true rfl)) hk23 hv1 hv2 hv3 hm
set_option maxRecDepth 20000 in
set_option maxHeartbeats 4000000 in
theorem tj_L_law__803 {x : Ctx} {Λ : Lay} {K M : Nat} (C : Cx x cL_law_ 7 (some .boolean) RL Λ room_1) (N : Nat) (L : Nat) (sc : Nat → Int32) (μ : Mem) (k23 : Int32 × Mem → Option Int32) (v0 : Nat) (v1 : Nat) (v2 : Nat) (v3 : Nat) (v4 : Int32) (hS : SCx x Λ v0 L sc) (hst : x.2.1.stackTraces = false) (hAL : ∀ q ∈ aL Λ, (xs x).heap.size ≤ q) (hKM : K ≤ room_1.cells ∧ M ≤ room_1.slots) (hk : xk x + 0 ≤ K ∧ xl x + 0 ≤ M) (hk23 : ∀ (s : Int32 × Mem), k23 s = some 1 → ∀ (c d : Nat), c ≤ K → d ≤ M → J (wc x c d) 7 Λ (lw_Z (xb x) (xa x) (xs x)) 23 [(0, .ref v0), (1, .ref v1), (2, .ref v2), (3, .ref v3), (4, .int s.1)] [] s.2) (hv1 : inL Λ v1 10) (hv2 : inL Λ v2 11) (hv3 : inL Λ v3 14) (hm : jn_L_law__803 N Λ L sc μ k23 v0 v1 v2 v3 v4 = some 1) : J x 7 Λ (lw_Z (xb x) (xa x) (xs x)) 803 [(0, .ref v0), (1, .ref v1), (2, .ref v2), (3, .ref v3), (4, .int v4)] [] μ := by
  refine j_goto C (tgt := 2587) dL_law__803 (by decide) ?_
  exact tj_L_law__2587 C _ _ _ _ _ _ _ _ _ _ hS hst hAL hKM (hk_sub hk (Nat.le_of_ble_eq_true rfl) (Nat.le_of_ble_eq_true rfl)) hk23 hv1 hv2 hv3 hm
set_option maxRecDepth 20000 in
set_option maxHeartbeats 4000000 in
theorem tj_L_law__797 {x : Ctx} {Λ : Lay} {K M : Nat} (C : Cx x cL_law_ 7 (some .boolean) RL Λ room_1) (N : Nat) (L : Nat) (sc : Nat → Int32) (μ : Mem) (k23 : Int32 × Mem → Option Int32) (v0 : Nat) (v1 : Nat) (v2 : Nat) (v3 : Nat) (v4 : Int32) (s0 : Int64) (s1 : Int64) (hS : SCx x Λ v0 L sc) (hst : x.2.1.stackTraces = false) (hAL : ∀ q ∈ aL Λ, (xs x).heap.size ≤ q) (hKM : K ≤ room_1.cells ∧ M ≤ room_1.slots) (hk : xk x + 0 ≤ K ∧ xl x + 0 ≤ M) (hk23 : ∀ (s : Int32 × Mem), k23 s = some 1 → ∀ (c d : Nat), c ≤ K → d ≤ M → J (wc x c d) 7 Λ (lw_Z (xb x) (xa x) (xs x)) 23 [(0, .ref v0), (1, .ref v1), (2, .ref v2), (3, .ref v3), (4, .int s.1)] [] s.2) (hv1 : inL Λ v1 10) (hv2 : inL Λ v2 11) (hv3 : inL Λ v3 14) (hm : jn_L_law__797 N Λ L sc μ k23 v0 v1 v2 v3 v4 s0 s1 = some 1) : J x 7 Λ (lw_Z (xb x) (xa x) (xs x)) 797 [(0, .ref v0), (1, .ref v1), (2, .ref v2), (3, .ref v3), (4, .int v4)] [.long s1, .long s0] μ := by
  refine j_lcmp C dL_law__797 ?_
  refine j_if_eq C (tgt := 803) dL_law__798 (by decide) (fun h1 => ?_) (fun h1 => ?_)
  · replace hm := if_t hm h1
    exact tj_L_law__803 C _ _ _ _ _ _ _ _ _ _ hS hst hAL hKM (hk_sub hk (Nat.le_of_ble_eq_true rfl) (Nat.le_of_ble_eq_true rfl)) hk23 hv1 hv2 hv3 hm
  · replace hm := if_f hm h1
    refine j_iconst C (v := 0) dL_law__801 rfl ?_
    exact absurd (Option.some.inj hm) (by decide)
set_option maxRecDepth 20000 in
set_option maxHeartbeats 4000000 in
theorem tj_L_law__763 {x : Ctx} {Λ : Lay} {K M : Nat} (C : Cx x cL_law_ 7 (some .boolean) RL Λ room_1) (N : Nat) (L : Nat) (sc : Nat → Int32) (μ : Mem) (k23 : Int32 × Mem → Option Int32) (v0 : Nat) (v1 : Nat) (v2 : Nat) (v3 : Nat) (v4 : Int32) (v5 : Int32) (s0 : Nat) (s1 : Int32) (hS : SCx x Λ v0 L sc) (hst : x.2.1.stackTraces = false) (hAL : ∀ q ∈ aL Λ, (xs x).heap.size ≤ q) (hKM : K ≤ room_1.cells ∧ M ≤ room_1.slots) (hk : xk x + 0 ≤ K ∧ xl x + 0 ≤ M) (hk23 : ∀ (s : Int32 × Mem), k23 s = some 1 → ∀ (c d : Nat), c ≤ K → d ≤ M → J (wc x c d) 7 Λ (lw_Z (xb x) (xa x) (xs x)) 23 [(0, .ref v0), (1, .ref v1), (2, .ref v2), (3, .ref v3), (4, .int s.1)] [] s.2) (hv1 : inL Λ v1 10) (hv2 : inL Λ v2 11) (hv3 : inL Λ v3 14) (hs0 : inL Λ s0 11) (hm : jn_L_law__763 N Λ L sc μ k23 v0 v1 v2 v3 v4 v5 s0 s1 = some 1) : J x 7 Λ (lw_Z (xb x) (xa x) (xs x)) 763 [(0, .ref v0), (1, .ref v1), (2, .ref v2), (3, .ref v3), (4, .int v4), (5, .int v5)] [.int s1, .ref s0] μ := by
  obtain ⟨r1, h2, hm⟩ := bd_some hm
  refine call_I (run_LV C lk_L_161 ⟨rfl, rfl, Nat.le_of_ble_eq_true rfl, Nat.le_of_ble_eq_true rfl⟩ (As := [.int s1]) hs0 rfl rfl (Nat.le_of_ble_eq_true rfl) dL_law__763 (mc_X12_gate _ _ _ _ _ _ hs0 h2)) ?_
  refine j_istore C (lv' := [(6, .int r1.1), (0, .ref v0), (1, .ref v1), (2, .ref v2), (3, .ref v3), (4, .int v4), (5, .int v5)]) dL_law__766 (by decide) rfl ?_
  refine j_aload_n C 3 dL_law__768 rfl ?_
  obtain ⟨r3, h4, hm⟩ := bd_some hm
  refine call_I (run_LV C lk_L_134 ⟨rfl, rfl, Nat.le_of_ble_eq_true rfl, Nat.le_of_ble_eq_true rfl⟩ (As := []) hv2 rfl rfl (Nat.le_of_ble_eq_true rfl) dL_law__769 (mc_X12_thrown _ _ _ _ _ hv2 h4)) ?_
  refine j_iload C 6 dL_law__772 rfl ?_
  refine j_icmp_eq C (tgt := 779) dL_law__774 (by decide) (fun h5 => ?_) (fun h5 => ?_)
  · replace hm := if_t hm h5
    refine j_iload C 6 dL_law__779 rfl ?_
    refine j_if_ne C (tgt := 803) dL_law__781 (by decide) (fun h6 => ?_) (fun h6 => ?_)
    · replace hm := if_f hm h6
      refine j_sub [1, 2, 3, 4, 5] rfl ?_
      exact tj_L_law__803 C _ _ _ _ _ _ _ _ _ _ hS hst hAL hKM (hk_sub hk (Nat.le_of_ble_eq_true rfl) (Nat.le_of_ble_eq_true rfl)) hk23 hv1 hv2 hv3 hm
    · replace hm := if_t hm h6
      refine j_aload_n C 4 dL_law__784 rfl ?_
      refine j_iconst C (v := 0) dL_law__785 rfl ?_
      obtain ⟨h7, hm⟩ := gd_some hm
      refine j_lald C hv3 h7 dL_law__786 ?_
      refine j_iload C 0 dL_law__787 rfl ?_
      refine j_if_eq C (tgt := 796) dL_law__789 (by decide) (fun h8 => ?_) (fun h8 => ?_)
      · replace hm := if_t hm h8
        refine j_lconst C (v := 0) dL_law__796 rfl ?_
        refine j_sub [1, 2, 3, 4, 5] rfl ?_
        exact tj_L_law__797 C _ _ _ _ _ _ _ _ _ _ _ _ hS hst hAL hKM (hk_sub hk (Nat.le_of_ble_eq_true rfl) (Nat.le_of_ble_eq_true rfl)) hk23 hv1 hv2 hv3 hm
      · replace hm := if_f hm h8
        refine j_lconst C (v := 1) dL_law__792 rfl ?_
        refine j_goto C (tgt := 797) dL_law__793 (by decide) ?_
        refine j_sub [1, 2, 3, 4, 5] rfl ?_
        exact tj_L_law__797 C _ _ _ _ _ _ _ _ _ _ _ _ hS hst hAL hKM (hk_sub hk (Nat.le_of_ble_eq_true rfl) (Nat.le_of_ble_eq_true rfl)) hk23 hv1 hv2 hv3 hm
  · replace hm := if_f hm h5
    refine j_iconst C (v := 0) dL_law__777 rfl ?_
    exact absurd (Option.some.inj hm) (by decide)
set_option maxRecDepth 20000 in
set_option maxHeartbeats 4000000 in
theorem tj_L_law__742 {x : Ctx} {Λ : Lay} {K M : Nat} (C : Cx x cL_law_ 7 (some .boolean) RL Λ room_1) (N : Nat) (L : Nat) (sc : Nat → Int32) (μ : Mem) (k23 : Int32 × Mem → Option Int32) (v0 : Nat) (v1 : Nat) (v2 : Nat) (v3 : Nat) (v4 : Int32) (s0 : Nat) (s1 : Int32) (hS : SCx x Λ v0 L sc) (hst : x.2.1.stackTraces = false) (hAL : ∀ q ∈ aL Λ, (xs x).heap.size ≤ q) (hKM : K ≤ room_1.cells ∧ M ≤ room_1.slots) (hk : xk x + 1 ≤ K ∧ xl x + 6 ≤ M) (hk23 : ∀ (s : Int32 × Mem), k23 s = some 1 → ∀ (c d : Nat), c ≤ K → d ≤ M → J (wc x c d) 7 Λ (lw_Z (xb x) (xa x) (xs x)) 23 [(0, .ref v0), (1, .ref v1), (2, .ref v2), (3, .ref v3), (4, .int s.1)] [] s.2) (hv1 : inL Λ v1 10) (hv2 : inL Λ v2 11) (hv3 : inL Λ v3 14) (hs0 : inL Λ s0 10) (hm : jn_L_law__742 N Λ L sc μ k23 v0 v1 v2 v3 v4 s0 s1 = some 1) : J x 7 Λ (lw_Z (xb x) (xa x) (xs x)) 742 [(0, .ref v0), (1, .ref v1), (2, .ref v2), (3, .ref v3), (4, .int v4)] [.int s1, .ref s0] μ := by
  refine j_aload_n C 3 dL_law__742 rfl ?_
  obtain ⟨r1, h2, hm⟩ := bd_some hm
  refine call_W C lkw_158 ⟨Nat.le_of_ble_eq_true rfl, Nat.le_of_ble_eq_true rfl⟩ (hk_room (hk_sub hk (Nat.le_of_ble_eq_true rfl) (Nat.le_of_ble_eq_true rfl)) hKM) (As := [.ref s0, .int s1, .ref v3]) rfl rfl (Nat.le_of_ble_eq_true rfl) dL_law__743 (mw_L_gate _ hst _ _ _ _ _ _ hs0 hv3 h2) ?_
  replace C := Cx_bump (a := 1) (b := 6) C (hk_room (a := 1) (b := 6) (hk_sub hk (Nat.le_of_ble_eq_true rfl) (Nat.le_of_ble_eq_true rfl)) hKM)
  replace hk := hk_bump (a := 1) (b := 6) (n := 0) (m := 0) (hk_sub hk (Nat.le_of_ble_eq_true rfl) (Nat.le_of_ble_eq_true rfl))
  refine j_istore C (lv' := [(5, .int r1.1), (0, .ref v0), (1, .ref v1), (2, .ref v2), (3, .ref v3), (4, .int v4)]) dL_law__746 (by decide) rfl ?_
  refine j_aload_n C 3 dL_law__748 rfl ?_
  refine j_aload_n C 1 dL_law__749 rfl ?_
  refine j_iload C 5 dL_law__750 rfl ?_
  refine j_iconst C (v := 1) dL_law__752 rfl ?_
  refine j_iadd C dL_law__753 ?_
  obtain ⟨h3, hm⟩ := gd_some hm
  refine j_sld C hS h3 dL_law__754 ?_
  refine j_if_eq C (tgt := 762) dL_law__755 (by decide) (fun h4 => ?_) (fun h4 => ?_)
  · replace hm := if_t hm h4
    refine j_iconst C (v := 0) dL_law__762 rfl ?_
    refine j_sub [1, 2, 3, 4, 5, 0] rfl ?_
    exact tj_L_law__763 C _ _ _ _ _ _ _ _ _ _ _ _ _ hS hst hAL hKM (hk_sub hk (Nat.le_of_ble_eq_true rfl) (Nat.le_of_ble_eq_true rfl)) hk23 hv1 hv2 hv3 hv2 hm
  · replace hm := if_f hm h4
    refine j_iconst C (v := 1) dL_law__758 rfl ?_
    refine j_goto C (tgt := 763) dL_law__759 (by decide) ?_
    refine j_sub [1, 2, 3, 4, 5, 0] rfl ?_
    exact tj_L_law__763 C _ _ _ _ _ _ _ _ _ _ _ _ _ hS hst hAL hKM (hk_sub hk (Nat.le_of_ble_eq_true rfl) (Nat.le_of_ble_eq_true rfl)) hk23 hv1 hv2 hv3 hv2 hm
set_option maxRecDepth 20000 in
set_option maxHeartbeats 4000000 in
theorem tj_L_law__724 {x : Ctx} {Λ : Lay} {K M : Nat} (C : Cx x cL_law_ 7 (some .boolean) RL Λ room_1) (N : Nat) (L : Nat) (sc : Nat → Int32) (μ : Mem) (k23 : Int32 × Mem → Option Int32) (v0 : Nat) (v1 : Nat) (v2 : Nat) (v3 : Nat) (v4 : Int32) (hS : SCx x Λ v0 L sc) (hst : x.2.1.stackTraces = false) (hAL : ∀ q ∈ aL Λ, (xs x).heap.size ≤ q) (hKM : K ≤ room_1.cells ∧ M ≤ room_1.slots) (hk : xk x + 0 ≤ K ∧ xl x + 0 ≤ M) (hk23 : ∀ (s : Int32 × Mem), k23 s = some 1 → ∀ (c d : Nat), c ≤ K → d ≤ M → J (wc x c d) 7 Λ (lw_Z (xb x) (xa x) (xs x)) 23 [(0, .ref v0), (1, .ref v1), (2, .ref v2), (3, .ref v3), (4, .int s.1)] [] s.2) (hv1 : inL Λ v1 10) (hv2 : inL Λ v2 11) (hv3 : inL Λ v3 14) (hm : jn_L_law__724 N Λ L sc μ k23 v0 v1 v2 v3 v4 = some 1) : J x 7 Λ (lw_Z (xb x) (xa x) (xs x)) 724 [(0, .ref v0), (1, .ref v1), (2, .ref v2), (3, .ref v3), (4, .int v4)] [] μ := by
  refine j_goto C (tgt := 2587) dL_law__724 (by decide) ?_
  exact tj_L_law__2587 C _ _ _ _ _ _ _ _ _ _ hS hst hAL hKM (hk_sub hk (Nat.le_of_ble_eq_true rfl) (Nat.le_of_ble_eq_true rfl)) hk23 hv1 hv2 hv3 hm
set_option maxRecDepth 20000 in
set_option maxHeartbeats 4000000 in
theorem tj_L_law__668 {x : Ctx} {Λ : Lay} {K M : Nat} (C : Cx x cL_law_ 7 (some .boolean) RL Λ room_1) (N : Nat) (L : Nat) (sc : Nat → Int32) (μ : Mem) (k23 : Int32 × Mem → Option Int32) (v0 : Nat) (v1 : Nat) (v2 : Nat) (v3 : Nat) (v4 : Int32) (hS : SCx x Λ v0 L sc) (hst : x.2.1.stackTraces = false) (hAL : ∀ q ∈ aL Λ, (xs x).heap.size ≤ q) (hKM : K ≤ room_1.cells ∧ M ≤ room_1.slots) (hk : xk x + 0 ≤ K ∧ xl x + 0 ≤ M) (hk23 : ∀ (s : Int32 × Mem), k23 s = some 1 → ∀ (c d : Nat), c ≤ K → d ≤ M → J (wc x c d) 7 Λ (lw_Z (xb x) (xa x) (xs x)) 23 [(0, .ref v0), (1, .ref v1), (2, .ref v2), (3, .ref v3), (4, .int s.1)] [] s.2) (hv1 : inL Λ v1 10) (hv2 : inL Λ v2 11) (hv3 : inL Λ v3 14) (hm : jn_L_law__668 N Λ L sc μ k23 v0 v1 v2 v3 v4 = some 1) : J x 7 Λ (lw_Z (xb x) (xa x) (xs x)) 668 [(0, .ref v0), (1, .ref v1), (2, .ref v2), (3, .ref v3), (4, .int v4)] [] μ := by
  refine j_goto C (tgt := 2587) dL_law__668 (by decide) ?_
  exact tj_L_law__2587 C _ _ _ _ _ _ _ _ _ _ hS hst hAL hKM (hk_sub hk (Nat.le_of_ble_eq_true rfl) (Nat.le_of_ble_eq_true rfl)) hk23 hv1 hv2 hv3 hm
set_option maxRecDepth 20000 in
set_option maxHeartbeats 4000000 in
theorem tj_L_law__612 {x : Ctx} {Λ : Lay} {K M : Nat} (C : Cx x cL_law_ 7 (some .boolean) RL Λ room_1) (N : Nat) (L : Nat) (sc : Nat → Int32) (μ : Mem) (k23 : Int32 × Mem → Option Int32) (v0 : Nat) (v1 : Nat) (v2 : Nat) (v3 : Nat) (v4 : Int32) (hS : SCx x Λ v0 L sc) (hst : x.2.1.stackTraces = false) (hAL : ∀ q ∈ aL Λ, (xs x).heap.size ≤ q) (hKM : K ≤ room_1.cells ∧ M ≤ room_1.slots) (hk : xk x + 0 ≤ K ∧ xl x + 0 ≤ M) (hk23 : ∀ (s : Int32 × Mem), k23 s = some 1 → ∀ (c d : Nat), c ≤ K → d ≤ M → J (wc x c d) 7 Λ (lw_Z (xb x) (xa x) (xs x)) 23 [(0, .ref v0), (1, .ref v1), (2, .ref v2), (3, .ref v3), (4, .int s.1)] [] s.2) (hv1 : inL Λ v1 10) (hv2 : inL Λ v2 11) (hv3 : inL Λ v3 14) (hm : jn_L_law__612 N Λ L sc μ k23 v0 v1 v2 v3 v4 = some 1) : J x 7 Λ (lw_Z (xb x) (xa x) (xs x)) 612 [(0, .ref v0), (1, .ref v1), (2, .ref v2), (3, .ref v3), (4, .int v4)] [] μ := by
  refine j_goto C (tgt := 2587) dL_law__612 (by decide) ?_
  exact tj_L_law__2587 C _ _ _ _ _ _ _ _ _ _ hS hst hAL hKM (hk_sub hk (Nat.le_of_ble_eq_true rfl) (Nat.le_of_ble_eq_true rfl)) hk23 hv1 hv2 hv3 hm
set_option maxRecDepth 20000 in
set_option maxHeartbeats 4000000 in
theorem tj_L_law__544 {x : Ctx} {Λ : Lay} {K M : Nat} (C : Cx x cL_law_ 7 (some .boolean) RL Λ room_1) (N : Nat) (L : Nat) (sc : Nat → Int32) (μ : Mem) (k23 : Int32 × Mem → Option Int32) (v0 : Nat) (v1 : Nat) (v2 : Nat) (v3 : Nat) (v4 : Int32) (hS : SCx x Λ v0 L sc) (hst : x.2.1.stackTraces = false) (hAL : ∀ q ∈ aL Λ, (xs x).heap.size ≤ q) (hKM : K ≤ room_1.cells ∧ M ≤ room_1.slots) (hk : xk x + 0 ≤ K ∧ xl x + 0 ≤ M) (hk23 : ∀ (s : Int32 × Mem), k23 s = some 1 → ∀ (c d : Nat), c ≤ K → d ≤ M → J (wc x c d) 7 Λ (lw_Z (xb x) (xa x) (xs x)) 23 [(0, .ref v0), (1, .ref v1), (2, .ref v2), (3, .ref v3), (4, .int s.1)] [] s.2) (hv1 : inL Λ v1 10) (hv2 : inL Λ v2 11) (hv3 : inL Λ v3 14) (hm : jn_L_law__544 N Λ L sc μ k23 v0 v1 v2 v3 v4 = some 1) : J x 7 Λ (lw_Z (xb x) (xa x) (xs x)) 544 [(0, .ref v0), (1, .ref v1), (2, .ref v2), (3, .ref v3), (4, .int v4)] [] μ := by
  refine j_goto C (tgt := 2587) dL_law__544 (by decide) ?_
  exact tj_L_law__2587 C _ _ _ _ _ _ _ _ _ _ hS hst hAL hKM (hk_sub hk (Nat.le_of_ble_eq_true rfl) (Nat.le_of_ble_eq_true rfl)) hk23 hv1 hv2 hv3 hm
set_option maxRecDepth 20000 in
set_option maxHeartbeats 4000000 in
theorem tj_L_law__463 {x : Ctx} {Λ : Lay} {K M : Nat} (C : Cx x cL_law_ 7 (some .boolean) RL Λ room_1) (N : Nat) (L : Nat) (sc : Nat → Int32) (μ : Mem) (k23 : Int32 × Mem → Option Int32) (v0 : Nat) (v1 : Nat) (v2 : Nat) (v3 : Nat) (v4 : Int32) (hS : SCx x Λ v0 L sc) (hst : x.2.1.stackTraces = false) (hAL : ∀ q ∈ aL Λ, (xs x).heap.size ≤ q) (hKM : K ≤ room_1.cells ∧ M ≤ room_1.slots) (hk : xk x + 0 ≤ K ∧ xl x + 0 ≤ M) (hk23 : ∀ (s : Int32 × Mem), k23 s = some 1 → ∀ (c d : Nat), c ≤ K → d ≤ M → J (wc x c d) 7 Λ (lw_Z (xb x) (xa x) (xs x)) 23 [(0, .ref v0), (1, .ref v1), (2, .ref v2), (3, .ref v3), (4, .int s.1)] [] s.2) (hv1 : inL Λ v1 10) (hv2 : inL Λ v2 11) (hv3 : inL Λ v3 14) (hm : jn_L_law__463 N Λ L sc μ k23 v0 v1 v2 v3 v4 = some 1) : J x 7 Λ (lw_Z (xb x) (xa x) (xs x)) 463 [(0, .ref v0), (1, .ref v1), (2, .ref v2), (3, .ref v3), (4, .int v4)] [] μ := by
  refine j_goto C (tgt := 2587) dL_law__463 (by decide) ?_
  exact tj_L_law__2587 C _ _ _ _ _ _ _ _ _ _ hS hst hAL hKM (hk_sub hk (Nat.le_of_ble_eq_true rfl) (Nat.le_of_ble_eq_true rfl)) hk23 hv1 hv2 hv3 hm
set_option maxRecDepth 20000 in
set_option maxHeartbeats 4000000 in
theorem tj_L_law__419 {x : Ctx} {Λ : Lay} {K M : Nat} (C : Cx x cL_law_ 7 (some .boolean) RL Λ room_1) (N : Nat) (L : Nat) (sc : Nat → Int32) (μ : Mem) (k23 : Int32 × Mem → Option Int32) (v0 : Nat) (v1 : Nat) (v2 : Nat) (v3 : Nat) (v4 : Int32) (hS : SCx x Λ v0 L sc) (hst : x.2.1.stackTraces = false) (hAL : ∀ q ∈ aL Λ, (xs x).heap.size ≤ q) (hKM : K ≤ room_1.cells ∧ M ≤ room_1.slots) (hk : xk x + 0 ≤ K ∧ xl x + 0 ≤ M) (hk23 : ∀ (s : Int32 × Mem), k23 s = some 1 → ∀ (c d : Nat), c ≤ K → d ≤ M → J (wc x c d) 7 Λ (lw_Z (xb x) (xa x) (xs x)) 23 [(0, .ref v0), (1, .ref v1), (2, .ref v2), (3, .ref v3), (4, .int s.1)] [] s.2) (hv1 : inL Λ v1 10) (hv2 : inL Λ v2 11) (hv3 : inL Λ v3 14) (hm : jn_L_law__419 N Λ L sc μ k23 v0 v1 v2 v3 v4 = some 1) : J x 7 Λ (lw_Z (xb x) (xa x) (xs x)) 419 [(0, .ref v0), (1, .ref v1), (2, .ref v2), (3, .ref v3), (4, .int v4)] [] μ := by
  refine j_goto C (tgt := 2587) dL_law__419 (by decide) ?_
  exact tj_L_law__2587 C _ _ _ _ _ _ _ _ _ _ hS hst hAL hKM (hk_sub hk (Nat.le_of_ble_eq_true rfl) (Nat.le_of_ble_eq_true rfl)) hk23 hv1 hv2 hv3 hm
set_option maxRecDepth 20000 in
set_option maxHeartbeats 4000000 in
theorem tb_L_law__23 {x : Ctx} {Λ : Lay} {K M : Nat} (C : Cx x cL_law_ 7 (some .boolean) RL Λ room_1) (N : Nat) (L : Nat) (sc : Nat → Int32) (μ : Mem) (k23 : Int32 × Mem → Option Int32) (v0 : Nat) (v1 : Nat) (v2 : Nat) (v3 : Nat) (v4 : Int32) (hS : SCx x Λ v0 L sc) (hst : x.2.1.stackTraces = false) (hAL : ∀ q ∈ aL Λ, (xs x).heap.size ≤ q) (hKM : K ≤ room_1.cells ∧ M ≤ room_1.slots) (hk : xk x + 3 ≤ K ∧ xl x + 18 ≤ M) (hk23 : ∀ (s : Int32 × Mem), k23 s = some 1 → ∀ (c d : Nat), c ≤ K → d ≤ M → J (wc x c d) 7 Λ (lw_Z (xb x) (xa x) (xs x)) 23 [(0, .ref v0), (1, .ref v1), (2, .ref v2), (3, .ref v3), (4, .int s.1)] [] s.2) (hv1 : inL Λ v1 10) (hv2 : inL Λ v2 11) (hv3 : inL Λ v3 14) (hm : bd_L_law__23 N Λ L sc μ k23 v0 v1 v2 v3 v4 = some 1) : J x 7 Λ (lw_Z (xb x) (xa x) (xs x)) 23 [(0, .ref v0), (1, .ref v1), (2, .ref v2), (3, .ref v3), (4, .int v4)] [] μ := by
  refine j_iload C 4 dL_law__23 rfl ?_
  refine j_aload_n C 0 dL_law__25 rfl ?_
  refine j_slen C hS dL_law__26 ?_
  refine j_bipush C (v := 6) dL_law__27 rfl ?_
  refine j_isub C dL_law__29 ?_
  refine j_icmp_gt C (tgt := 2593) dL_law__30 (by decide) (fun h1 => ?_) (fun h1 => ?_)
  · replace hm := if_t hm h1
    refine j_iconst C (v := 1) dL_law__2593 rfl ?_
    exact jl_ret C hS hAL hKM hk dL_law__2594
  · replace hm := if_f hm h1
    refine j_aload_n C 0 dL_law__33 rfl ?_
    refine j_iload C 4 dL_law__34 rfl ?_
    obtain ⟨h2, hm⟩ := gd_some hm
    refine j_sld C hS h2 dL_law__36 ?_
    refine j_bipush C (v := 63) dL_law__37 rfl ?_
    refine j_iand C dL_law__39 ?_
    by_cases h3 : ((sc v4.toNatClampNeg) &&& 63) = 0
    · replace hm := if_t hm h3
      refine j_tabI C (tgt := 280) 0 dL_law__40 (by rw [h3]; first | done | rfl) (by decide) (by decide) rfl (by decide) ?_
      refine j_aload_n C 1 dL_law__280 rfl ?_
      refine j_aload_n C 0 dL_law__281 rfl ?_
      refine j_iload C 4 dL_law__282 rfl ?_
      refine j_iconst C (v := 1) dL_law__284 rfl ?_
      refine j_iadd C dL_law__285 ?_
      obtain ⟨h4, hm⟩ := gd_some hm
      refine j_sld C hS h4 dL_law__286 ?_
      refine j_aload_n C 0 dL_law__287 rfl ?_
      refine j_iload C 4 dL_law__288 rfl ?_
      refine j_iconst C (v := 2) dL_law__290 rfl ?_
      refine j_iadd C dL_law__291 ?_
      obtain ⟨h5, hm⟩ := gd_some hm
      refine j_sld C hS h5 dL_law__292 ?_
      refine j_aload_n C 0 dL_law__293 rfl ?_
      refine j_iload C 4 dL_law__294 rfl ?_
      refine j_iconst C (v := 3) dL_law__296 rfl ?_
      refine j_iadd C dL_law__297 ?_
      obtain ⟨h6, hm⟩ := gd_some hm
      refine j_sld C hS h6 dL_law__298 ?_
      refine j_aload_n C 0 dL_law__299 rfl ?_
      refine j_iload C 4 dL_law__300 rfl ?_
      refine j_iconst C (v := 4) dL_law__302 rfl ?_
      refine j_iadd C dL_law__303 ?_
      obtain ⟨h7, hm⟩ := gd_some hm
      refine j_sld C hS h7 dL_law__304 ?_
      refine j_aload_n C 0 dL_law__305 rfl ?_
      refine j_iload C 4 dL_law__306 rfl ?_
      refine j_iconst C (v := 5) dL_law__308 rfl ?_
      refine j_iadd C dL_law__309 ?_
      obtain ⟨h8, hm⟩ := gd_some hm
      refine j_sld C hS h8 dL_law__310 ?_
      obtain ⟨r9, h10, hm⟩ := bd_some hm
      refine call_I (run_LV C lk_L_118 ⟨rfl, rfl, Nat.le_of_ble_eq_true rfl, Nat.le_of_ble_eq_true rfl⟩ (As := [.int (sc (v4 + 1).toNatClampNeg), .int (sc (v4 + 2).toNatClampNeg), .int (sc (v4 + 3).toNatClampNeg), .int (sc (v4 + 4).toNatClampNeg), .int (sc (v4 + 5).toNatClampNeg)]) hv1 rfl rfl (Nat.le_of_ble_eq_true rfl) dL_law__311 (mc_X11_feed _ _ _ _ _ _ _ _ _ _ hv1 h10)) ?_
      refine j_aload_n C 2 dL_law__314 rfl ?_
      refine j_aload_n C 0 dL_law__315 rfl ?_
      refine j_iload C 4 dL_law__316 rfl ?_
      refine j_iconst C (v := 1) dL_law__318 rfl ?_
      refine j_iadd C dL_law__319 ?_
      obtain ⟨h11, hm⟩ := gd_some hm
      refine j_sld C hS h11 dL_law__320 ?_
      refine j_aload_n C 0 dL_law__321 rfl ?_
      refine j_iload C 4 dL_law__322 rfl ?_
      refine j_iconst C (v := 2) dL_law__324 rfl ?_
      refine j_iadd C dL_law__325 ?_
      obtain ⟨h12, hm⟩ := gd_some hm
      refine j_sld C hS h12 dL_law__326 ?_
      refine j_aload_n C 0 dL_law__327 rfl ?_
      refine j_iload C 4 dL_law__328 rfl ?_
      refine j_iconst C (v := 3) dL_law__330 rfl ?_
      refine j_iadd C dL_law__331 ?_
      obtain ⟨h13, hm⟩ := gd_some hm
      refine j_sld C hS h13 dL_law__332 ?_
      refine j_aload_n C 0 dL_law__333 rfl ?_
      refine j_iload C 4 dL_law__334 rfl ?_
      refine j_iconst C (v := 4) dL_law__336 rfl ?_
      refine j_iadd C dL_law__337 ?_
      obtain ⟨h14, hm⟩ := gd_some hm
      refine j_sld C hS h14 dL_law__338 ?_
      refine j_aload_n C 0 dL_law__339 rfl ?_
      refine j_iload C 4 dL_law__340 rfl ?_
      refine j_iconst C (v := 5) dL_law__342 rfl ?_
      refine j_iadd C dL_law__343 ?_
      obtain ⟨h15, hm⟩ := gd_some hm
      refine j_sld C hS h15 dL_law__344 ?_
      obtain ⟨r16, h17, hm⟩ := bd_some hm
      refine call_I (run_LV C lk_L_122 ⟨rfl, rfl, Nat.le_of_ble_eq_true rfl, Nat.le_of_ble_eq_true rfl⟩ (As := [.int (sc (v4 + 1).toNatClampNeg), .int (sc (v4 + 2).toNatClampNeg), .int (sc (v4 + 3).toNatClampNeg), .int (sc (v4 + 4).toNatClampNeg), .int (sc (v4 + 5).toNatClampNeg)]) hv2 rfl rfl (Nat.le_of_ble_eq_true rfl) dL_law__345 (mc_X12_feed _ _ _ _ _ _ _ _ _ _ hv2 h17)) ?_
      refine j_icmp_eq C (tgt := 2587) dL_law__348 (by decide) (fun h18 => ?_) (fun h18 => ?_)
      · replace hm := if_t hm h18
        exact tj_L_law__2587 C _ _ _ _ _ _ _ _ _ _ hS hst hAL hKM (hk_sub hk (Nat.le_of_ble_eq_true rfl) (Nat.le_of_ble_eq_true rfl)) hk23 hv1 hv2 hv3 hm
      · replace hm := if_f hm h18
        refine j_iconst C (v := 0) dL_law__351 rfl ?_
        exact absurd (Option.some.inj hm) (by decide)
    replace hm := if_f hm h3
    by_cases h19 : ((sc v4.toNatClampNeg) &&& 63) = 1
    · replace hm := if_t hm h19
      refine j_tabI C (tgt := 353) 1 dL_law__40 (by rw [h19]; first | done | rfl) (by decide) (by decide) rfl (by decide) ?_
      refine j_aload_n C 1 dL_law__353 rfl ?_
      refine j_aload_n C 0 dL_law__354 rfl ?_
      refine j_iload C 4 dL_law__355 rfl ?_
      refine j_iconst C (v := 1) dL_law__357 rfl ?_
      refine j_iadd C dL_law__358 ?_
      obtain ⟨h20, hm⟩ := gd_some hm
      refine j_sld C hS h20 dL_law__359 ?_
      obtain ⟨r21, h22, hm⟩ := bd_some hm
      refine call_I (run_LV C lk_L_123 ⟨rfl, rfl, Nat.le_of_ble_eq_true rfl, Nat.le_of_ble_eq_true rfl⟩ (As := [.int (sc (v4 + 1).toNatClampNeg)]) hv1 rfl rfl (Nat.le_of_ble_eq_true rfl) dL_law__360 (mc_X11_end _ _ _ _ _ _ hv1 h22)) ?_
      refine j_aload_n C 2 dL_law__363 rfl ?_
      refine j_aload_n C 0 dL_law__364 rfl ?_
      refine j_iload C 4 dL_law__365 rfl ?_
      refine j_iconst C (v := 1) dL_law__367 rfl ?_
      refine j_iadd C dL_law__368 ?_
      obtain ⟨h23, hm⟩ := gd_some hm
      refine j_sld C hS h23 dL_law__369 ?_
      obtain ⟨r24, h25, hm⟩ := bd_some hm
      refine call_I (run_LV C lk_L_127 ⟨rfl, rfl, Nat.le_of_ble_eq_true rfl, Nat.le_of_ble_eq_true rfl⟩ (As := [.int (sc (v4 + 1).toNatClampNeg)]) hv2 rfl rfl (Nat.le_of_ble_eq_true rfl) dL_law__370 (mc_X12_end _ _ _ _ _ _ hv2 h25)) ?_
      refine j_icmp_eq C (tgt := 2587) dL_law__373 (by decide) (fun h26 => ?_) (fun h26 => ?_)
      · replace hm := if_t hm h26
        exact tj_L_law__2587 C _ _ _ _ _ _ _ _ _ _ hS hst hAL hKM (hk_sub hk (Nat.le_of_ble_eq_true rfl) (Nat.le_of_ble_eq_true rfl)) hk23 hv1 hv2 hv3 hm
      · replace hm := if_f hm h26
        refine j_iconst C (v := 0) dL_law__376 rfl ?_
        exact absurd (Option.some.inj hm) (by decide)
    replace hm := if_f hm h19
    by_cases h27 : ((sc v4.toNatClampNeg) &&& 63) = 2
    · replace hm := if_t hm h27
      refine j_tabI C (tgt := 378) 2 dL_law__40 (by rw [h27]; first | done | rfl) (by decide) (by decide) rfl (by decide) ?_
      refine j_aload_n C 1 dL_law__378 rfl ?_
      refine j_aload_n C 3 dL_law__379 rfl ?_
      obtain ⟨r28, h29, hm⟩ := bd_some hm
      refine call_W C lkw_128 ⟨Nat.le_of_ble_eq_true rfl, Nat.le_of_ble_eq_true rfl⟩ (hk_room (hk_sub hk (Nat.le_of_ble_eq_true rfl) (Nat.le_of_ble_eq_true rfl)) hKM) (As := [.ref v1, .ref v3]) rfl rfl (Nat.le_of_ble_eq_true rfl) dL_law__380 (mw_L_dock _ hst _ _ _ _ _ hv1 hv3 h29) ?_
      replace C := Cx_bump (a := 1) (b := 6) C (hk_room (a := 1) (b := 6) (hk_sub hk (Nat.le_of_ble_eq_true rfl) (Nat.le_of_ble_eq_true rfl)) hKM)
      replace hk := hk_bump (a := 1) (b := 6) (n := 0) (m := 0) (hk_sub hk (Nat.le_of_ble_eq_true rfl) (Nat.le_of_ble_eq_true rfl))
      refine j_istore C (lv' := [(5, .int r28.1), (0, .ref v0), (1, .ref v1), (2, .ref v2), (3, .ref v3), (4, .int v4)]) dL_law__383 (by decide) rfl ?_
      refine j_aload_n C 3 dL_law__385 rfl ?_
      obtain ⟨r30, h31, hm⟩ := bd_some hm
      refine call_I (run_LV C lk_L_133 ⟨rfl, rfl, Nat.le_of_ble_eq_true rfl, Nat.le_of_ble_eq_true rfl⟩ (As := []) hv2 rfl rfl (Nat.le_of_ble_eq_true rfl) dL_law__386 (mc_X12_dock _ _ _ _ _ hv2 h31)) ?_
      refine j_istore C (lv' := [(6, .int r30.1), (5, .int r28.1), (0, .ref v0), (1, .ref v1), (2, .ref v2), (3, .ref v3), (4, .int v4)]) dL_law__389 (by decide) rfl ?_
      refine j_aload_n C 4 dL_law__391 rfl ?_
      obtain ⟨r32, h33, hm⟩ := bd_some hm
      refine call_I (run_LV C lk_L_134 ⟨rfl, rfl, Nat.le_of_ble_eq_true rfl, Nat.le_of_ble_eq_true rfl⟩ (As := []) hv2 rfl rfl (Nat.le_of_ble_eq_true rfl) dL_law__392 (mc_X12_thrown _ _ _ _ _ hv2 h33)) ?_
      refine j_iload C 1 dL_law__395 rfl ?_
      refine j_icmp_eq C (tgt := 402) dL_law__397 (by decide) (fun h34 => ?_) (fun h34 => ?_)
      · replace hm := if_t hm h34
        refine j_iload C 1 dL_law__402 rfl ?_
        refine j_if_ne C (tgt := 419) dL_law__404 (by decide) (fun h35 => ?_) (fun h35 => ?_)
        · replace hm := if_f hm h35
          refine j_sub [2, 3, 4, 5, 6] rfl ?_
          exact tj_L_law__419 C _ _ _ _ _ _ _ _ _ _ hS hst hAL hKM (hk_sub hk (Nat.le_of_ble_eq_true rfl) (Nat.le_of_ble_eq_true rfl)) hk23 hv1 hv2 hv3 hm
        · replace hm := if_t hm h35
          refine j_aload_n C 5 dL_law__407 rfl ?_
          refine j_iconst C (v := 0) dL_law__408 rfl ?_
          obtain ⟨h36, hm⟩ := gd_some hm
          refine j_lald C hv3 h36 dL_law__409 ?_
          refine j_iload C 0 dL_law__410 rfl ?_
          refine j_i2l C dL_law__412 ?_
          refine j_lcmp C dL_law__413 ?_
          refine j_if_eq C (tgt := 419) dL_law__414 (by decide) (fun h37 => ?_) (fun h37 => ?_)
          · replace hm := if_t hm h37
            refine j_sub [2, 3, 4, 5, 6] rfl ?_
            exact tj_L_law__419 C _ _ _ _ _ _ _ _ _ _ hS hst hAL hKM (hk_sub hk (Nat.le_of_ble_eq_true rfl) (Nat.le_of_ble_eq_true rfl)) hk23 hv1 hv2 hv3 hm
          · replace hm := if_f hm h37
            refine j_iconst C (v := 0) dL_law__417 rfl ?_
            exact absurd (Option.some.inj hm) (by decide)
      · replace hm := if_f hm h34
        refine j_iconst C (v := 0) dL_law__400 rfl ?_
        exact absurd (Option.some.inj hm) (by decide)
    replace hm := if_f hm h27
    by_cases h38 : ((sc v4.toNatClampNeg) &&& 63) = 3
    · replace hm := if_t hm h38
      refine j_tabI C (tgt := 422) 3 dL_law__40 (by rw [h38]; first | done | rfl) (by decide) (by decide) rfl (by decide) ?_
      refine j_aload_n C 1 dL_law__422 rfl ?_
      refine j_aload_n C 3 dL_law__423 rfl ?_
      obtain ⟨r39, h40, hm⟩ := bd_some hm
      refine call_W C lkw_137 ⟨Nat.le_of_ble_eq_true rfl, Nat.le_of_ble_eq_true rfl⟩ (hk_room (hk_sub hk (Nat.le_of_ble_eq_true rfl) (Nat.le_of_ble_eq_true rfl)) hKM) (As := [.ref v1, .ref v3]) rfl rfl (Nat.le_of_ble_eq_true rfl) dL_law__424 (mw_L_law _ hst _ _ _ _ _ hv1 hv3 h40) ?_
      replace C := Cx_bump (a := 1) (b := 6) C (hk_room (a := 1) (b := 6) (hk_sub hk (Nat.le_of_ble_eq_true rfl) (Nat.le_of_ble_eq_true rfl)) hKM)
      replace hk := hk_bump (a := 1) (b := 6) (n := 0) (m := 0) (hk_sub hk (Nat.le_of_ble_eq_true rfl) (Nat.le_of_ble_eq_true rfl))
      refine j_istore C (lv' := [(5, .int r39.1), (0, .ref v0), (1, .ref v1), (2, .ref v2), (3, .ref v3), (4, .int v4)]) dL_law__427 (by decide) rfl ?_
      refine j_aload_n C 3 dL_law__429 rfl ?_
      obtain ⟨r41, h42, hm⟩ := bd_some hm
      refine call_I (run_LV C lk_L_139 ⟨rfl, rfl, Nat.le_of_ble_eq_true rfl, Nat.le_of_ble_eq_true rfl⟩ (As := []) hv2 rfl rfl (Nat.le_of_ble_eq_true rfl) dL_law__430 (mc_X12_law _ _ _ _ _ hv2 h42)) ?_
      refine j_istore C (lv' := [(6, .int r41.1), (5, .int r39.1), (0, .ref v0), (1, .ref v1), (2, .ref v2), (3, .ref v3), (4, .int v4)]) dL_law__433 (by decide) rfl ?_
      refine j_aload_n C 4 dL_law__435 rfl ?_
      obtain ⟨r43, h44, hm⟩ := bd_some hm
      refine call_I (run_LV C lk_L_134 ⟨rfl, rfl, Nat.le_of_ble_eq_true rfl, Nat.le_of_ble_eq_true rfl⟩ (As := []) hv2 rfl rfl (Nat.le_of_ble_eq_true rfl) dL_law__436 (mc_X12_thrown _ _ _ _ _ hv2 h44)) ?_
      refine j_iload C 1 dL_law__439 rfl ?_
      refine j_icmp_eq C (tgt := 446) dL_law__441 (by decide) (fun h45 => ?_) (fun h45 => ?_)
      · replace hm := if_t hm h45
        refine j_iload C 1 dL_law__446 rfl ?_
        refine j_if_ne C (tgt := 463) dL_law__448 (by decide) (fun h46 => ?_) (fun h46 => ?_)
        · replace hm := if_f hm h46
          refine j_sub [2, 3, 4, 5, 6] rfl ?_
          exact tj_L_law__463 C _ _ _ _ _ _ _ _ _ _ hS hst hAL hKM (hk_sub hk (Nat.le_of_ble_eq_true rfl) (Nat.le_of_ble_eq_true rfl)) hk23 hv1 hv2 hv3 hm
        · replace hm := if_t hm h46
          refine j_aload_n C 5 dL_law__451 rfl ?_
          refine j_iconst C (v := 0) dL_law__452 rfl ?_
          obtain ⟨h47, hm⟩ := gd_some hm
          refine j_lald C hv3 h47 dL_law__453 ?_
          refine j_iload C 0 dL_law__454 rfl ?_
          refine j_i2l C dL_law__456 ?_
          refine j_lcmp C dL_law__457 ?_
          refine j_if_eq C (tgt := 463) dL_law__458 (by decide) (fun h48 => ?_) (fun h48 => ?_)
          · replace hm := if_t hm h48
            refine j_sub [2, 3, 4, 5, 6] rfl ?_
            exact tj_L_law__463 C _ _ _ _ _ _ _ _ _ _ hS hst hAL hKM (hk_sub hk (Nat.le_of_ble_eq_true rfl) (Nat.le_of_ble_eq_true rfl)) hk23 hv1 hv2 hv3 hm
          · replace hm := if_f hm h48
            refine j_iconst C (v := 0) dL_law__461 rfl ?_
            exact absurd (Option.some.inj hm) (by decide)
      · replace hm := if_f hm h45
        refine j_iconst C (v := 0) dL_law__444 rfl ?_
        exact absurd (Option.some.inj hm) (by decide)
    replace hm := if_f hm h38
    by_cases h49 : ((sc v4.toNatClampNeg) &&& 63) = 4
    · replace hm := if_t hm h49
      refine j_tabI C (tgt := 466) 4 dL_law__40 (by rw [h49]; first | done | rfl) (by decide) (by decide) rfl (by decide) ?_
      refine j_aload_n C 1 dL_law__466 rfl ?_
      obtain ⟨r50, h51, hm⟩ := bd_some hm
      refine call_I (run_LV C lk_L_140 ⟨rfl, rfl, Nat.le_of_ble_eq_true rfl, Nat.le_of_ble_eq_true rfl⟩ (As := []) hv1 rfl rfl (Nat.le_of_ble_eq_true rfl) dL_law__467 (mc_X11_fault _ _ _ _ _ hv1 h51)) ?_
      refine j_aload_n C 2 dL_law__470 rfl ?_
      obtain ⟨r52, h53, hm⟩ := bd_some hm
      refine call_I (run_LV C lk_L_143 ⟨rfl, rfl, Nat.le_of_ble_eq_true rfl, Nat.le_of_ble_eq_true rfl⟩ (As := []) hv2 rfl rfl (Nat.le_of_ble_eq_true rfl) dL_law__471 (mc_X12_fault _ _ _ _ _ hv2 h53)) ?_
      refine j_icmp_eq C (tgt := 2587) dL_law__474 (by decide) (fun h54 => ?_) (fun h54 => ?_)
      · replace hm := if_t hm h54
        exact tj_L_law__2587 C _ _ _ _ _ _ _ _ _ _ hS hst hAL hKM (hk_sub hk (Nat.le_of_ble_eq_true rfl) (Nat.le_of_ble_eq_true rfl)) hk23 hv1 hv2 hv3 hm
      · replace hm := if_f hm h54
        refine j_iconst C (v := 0) dL_law__477 rfl ?_
        exact absurd (Option.some.inj hm) (by decide)
    replace hm := if_f hm h49
    by_cases h55 : ((sc v4.toNatClampNeg) &&& 63) = 5
    · replace hm := if_t hm h55
      refine j_tabI C (tgt := 479) 5 dL_law__40 (by rw [h55]; first | done | rfl) (by decide) (by decide) rfl (by decide) ?_
      refine j_aload_n C 1 dL_law__479 rfl ?_
      refine j_aload_n C 0 dL_law__480 rfl ?_
      refine j_iload C 4 dL_law__481 rfl ?_
      refine j_iconst C (v := 1) dL_law__483 rfl ?_
      refine j_iadd C dL_law__484 ?_
      obtain ⟨h56, hm⟩ := gd_some hm
      refine j_sld C hS h56 dL_law__485 ?_
      refine j_aload_n C 0 dL_law__486 rfl ?_
      refine j_iload C 4 dL_law__487 rfl ?_
      refine j_iconst C (v := 2) dL_law__489 rfl ?_
      refine j_iadd C dL_law__490 ?_
      obtain ⟨h57, hm⟩ := gd_some hm
      refine j_sld C hS h57 dL_law__491 ?_
      refine j_aload_n C 3 dL_law__492 rfl ?_
      obtain ⟨r58, h59, hm⟩ := bd_some hm
      refine call_W C lkw_144 ⟨Nat.le_of_ble_eq_true rfl, Nat.le_of_ble_eq_true rfl⟩ (hk_room (hk_sub hk (Nat.le_of_ble_eq_true rfl) (Nat.le_of_ble_eq_true rfl)) hKM) (As := [.ref v1, .int (sc (v4 + 1).toNatClampNeg), .int (sc (v4 + 2).toNatClampNeg), .ref v3]) rfl rfl (Nat.le_of_ble_eq_true rfl) dL_law__493 (mw_L_ship _ hst _ _ _ _ _ _ _ hv1 hv3 h59) ?_
      replace C := Cx_bump (a := 2) (b := 12) C (hk_room (a := 2) (b := 12) (hk_sub hk (Nat.le_of_ble_eq_true rfl) (Nat.le_of_ble_eq_true rfl)) hKM)
      replace hk := hk_bump (a := 2) (b := 12) (n := 0) (m := 0) (hk_sub hk (Nat.le_of_ble_eq_true rfl) (Nat.le_of_ble_eq_true rfl))
      refine j_istore C (lv' := [(5, .int r58.1), (0, .ref v0), (1, .ref v1), (2, .ref v2), (3, .ref v3), (4, .int v4)]) dL_law__496 (by decide) rfl ?_
      refine j_aload_n C 3 dL_law__498 rfl ?_
      refine j_aload_n C 1 dL_law__499 rfl ?_
      refine j_iload C 5 dL_law__500 rfl ?_
      refine j_iconst C (v := 1) dL_law__502 rfl ?_
      refine j_iadd C dL_law__503 ?_
      obtain ⟨h60, hm⟩ := gd_some hm
      refine j_sld C hS h60 dL_law__504 ?_
      refine j_aload_n C 1 dL_law__505 rfl ?_
      refine j_iload C 5 dL_law__506 rfl ?_
      refine j_iconst C (v := 2) dL_law__508 rfl ?_
      refine j_iadd C dL_law__509 ?_
      obtain ⟨h61, hm⟩ := gd_some hm
      refine j_sld C hS h61 dL_law__510 ?_
      obtain ⟨r62, h63, hm⟩ := bd_some hm
      refine call_I (run_LV C lk_L_147 ⟨rfl, rfl, Nat.le_of_ble_eq_true rfl, Nat.le_of_ble_eq_true rfl⟩ (As := [.int (sc (v4 + 1).toNatClampNeg), .int (sc (v4 + 2).toNatClampNeg)]) hv2 rfl rfl (Nat.le_of_ble_eq_true rfl) dL_law__511 (mc_X12_ship _ _ _ _ _ _ _ hv2 h63)) ?_
      refine j_istore C (lv' := [(6, .int r62.1), (5, .int r58.1), (0, .ref v0), (1, .ref v1), (2, .ref v2), (3, .ref v3), (4, .int v4)]) dL_law__514 (by decide) rfl ?_
      refine j_aload_n C 4 dL_law__516 rfl ?_
      obtain ⟨r64, h65, hm⟩ := bd_some hm
      refine call_I (run_LV C lk_L_134 ⟨rfl, rfl, Nat.le_of_ble_eq_true rfl, Nat.le_of_ble_eq_true rfl⟩ (As := []) hv2 rfl rfl (Nat.le_of_ble_eq_true rfl) dL_law__517 (mc_X12_thrown _ _ _ _ _ hv2 h65)) ?_
      refine j_iload C 1 dL_law__520 rfl ?_
      refine j_icmp_eq C (tgt := 527) dL_law__522 (by decide) (fun h66 => ?_) (fun h66 => ?_)
      · replace hm := if_t hm h66
        refine j_iload C 1 dL_law__527 rfl ?_
        refine j_if_ne C (tgt := 544) dL_law__529 (by decide) (fun h67 => ?_) (fun h67 => ?_)
        · replace hm := if_f hm h67
          refine j_sub [2, 3, 4, 5, 6] rfl ?_
          exact tj_L_law__544 C _ _ _ _ _ _ _ _ _ _ hS hst hAL hKM (hk_sub hk (Nat.le_of_ble_eq_true rfl) (Nat.le_of_ble_eq_true rfl)) hk23 hv1 hv2 hv3 hm
        · replace hm := if_t hm h67
          refine j_aload_n C 5 dL_law__532 rfl ?_
          refine j_iconst C (v := 0) dL_law__533 rfl ?_
          obtain ⟨h68, hm⟩ := gd_some hm
          refine j_lald C hv3 h68 dL_law__534 ?_
          refine j_iload C 0 dL_law__535 rfl ?_
          refine j_i2l C dL_law__537 ?_
          refine j_lcmp C dL_law__538 ?_
          refine j_if_eq C (tgt := 544) dL_law__539 (by decide) (fun h69 => ?_) (fun h69 => ?_)
          · replace hm := if_t hm h69
            refine j_sub [2, 3, 4, 5, 6] rfl ?_
            exact tj_L_law__544 C _ _ _ _ _ _ _ _ _ _ hS hst hAL hKM (hk_sub hk (Nat.le_of_ble_eq_true rfl) (Nat.le_of_ble_eq_true rfl)) hk23 hv1 hv2 hv3 hm
          · replace hm := if_f hm h69
            refine j_iconst C (v := 0) dL_law__542 rfl ?_
            exact absurd (Option.some.inj hm) (by decide)
      · replace hm := if_f hm h66
        refine j_iconst C (v := 0) dL_law__525 rfl ?_
        exact absurd (Option.some.inj hm) (by decide)
    replace hm := if_f hm h55
    by_cases h70 : ((sc v4.toNatClampNeg) &&& 63) = 6
    · replace hm := if_t hm h70
      refine j_tabI C (tgt := 547) 6 dL_law__40 (by rw [h70]; first | done | rfl) (by decide) (by decide) rfl (by decide) ?_
      refine j_aload_n C 1 dL_law__547 rfl ?_
      refine j_aload_n C 0 dL_law__548 rfl ?_
      refine j_iload C 4 dL_law__549 rfl ?_
      refine j_iconst C (v := 1) dL_law__551 rfl ?_
      refine j_iadd C dL_law__552 ?_
      obtain ⟨h71, hm⟩ := gd_some hm
      refine j_sld C hS h71 dL_law__553 ?_
      refine j_aload_n C 0 dL_law__554 rfl ?_
      refine j_iload C 4 dL_law__555 rfl ?_
      refine j_iconst C (v := 2) dL_law__557 rfl ?_
      refine j_iadd C dL_law__558 ?_
      obtain ⟨h72, hm⟩ := gd_some hm
      refine j_sld C hS h72 dL_law__559 ?_
      refine j_aload_n C 3 dL_law__560 rfl ?_
      obtain ⟨r73, h74, hm⟩ := bd_some hm
      refine call_W C lkw_148 ⟨Nat.le_of_ble_eq_true rfl, Nat.le_of_ble_eq_true rfl⟩ (hk_room (hk_sub hk (Nat.le_of_ble_eq_true rfl) (Nat.le_of_ble_eq_true rfl)) hKM) (As := [.ref v1, .int (sc (v4 + 1).toNatClampNeg), .int (sc (v4 + 2).toNatClampNeg), .ref v3]) rfl rfl (Nat.le_of_ble_eq_true rfl) dL_law__561 (mw_L_place _ hst _ _ _ _ _ _ _ hv1 hv3 h74) ?_
      replace C := Cx_bump (a := 2) (b := 12) C (hk_room (a := 2) (b := 12) (hk_sub hk (Nat.le_of_ble_eq_true rfl) (Nat.le_of_ble_eq_true rfl)) hKM)
      replace hk := hk_bump (a := 2) (b := 12) (n := 0) (m := 0) (hk_sub hk (Nat.le_of_ble_eq_true rfl) (Nat.le_of_ble_eq_true rfl))
      refine j_istore C (lv' := [(5, .int r73.1), (0, .ref v0), (1, .ref v1), (2, .ref v2), (3, .ref v3), (4, .int v4)]) dL_law__564 (by decide) rfl ?_
      refine j_aload_n C 3 dL_law__566 rfl ?_
      refine j_aload_n C 1 dL_law__567 rfl ?_
      refine j_iload C 5 dL_law__568 rfl ?_
      refine j_iconst C (v := 1) dL_law__570 rfl ?_
      refine j_iadd C dL_law__571 ?_
      obtain ⟨h75, hm⟩ := gd_some hm
      refine j_sld C hS h75 dL_law__572 ?_
      refine j_aload_n C 1 dL_law__573 rfl ?_
      refine j_iload C 5 dL_law__574 rfl ?_
      refine j_iconst C (v := 2) dL_law__576 rfl ?_
      refine j_iadd C dL_law__577 ?_
      obtain ⟨h76, hm⟩ := gd_some hm
      refine j_sld C hS h76 dL_law__578 ?_
      obtain ⟨r77, h78, hm⟩ := bd_some hm
      refine call_I (run_LV C lk_L_150 ⟨rfl, rfl, Nat.le_of_ble_eq_true rfl, Nat.le_of_ble_eq_true rfl⟩ (As := [.int (sc (v4 + 1).toNatClampNeg), .int (sc (v4 + 2).toNatClampNeg)]) hv2 rfl rfl (Nat.le_of_ble_eq_true rfl) dL_law__579 (mc_X12_place _ _ _ _ _ _ _ hv2 h78)) ?_
      refine j_istore C (lv' := [(6, .int r77.1), (5, .int r73.1), (0, .ref v0), (1, .ref v1), (2, .ref v2), (3, .ref v3), (4, .int v4)]) dL_law__582 (by decide) rfl ?_
      refine j_aload_n C 4 dL_law__584 rfl ?_
      obtain ⟨r79, h80, hm⟩ := bd_some hm
      refine call_I (run_LV C lk_L_134 ⟨rfl, rfl, Nat.le_of_ble_eq_true rfl, Nat.le_of_ble_eq_true rfl⟩ (As := []) hv2 rfl rfl (Nat.le_of_ble_eq_true rfl) dL_law__585 (mc_X12_thrown _ _ _ _ _ hv2 h80)) ?_
      refine j_iload C 1 dL_law__588 rfl ?_
      refine j_icmp_eq C (tgt := 595) dL_law__590 (by decide) (fun h81 => ?_) (fun h81 => ?_)
      · replace hm := if_t hm h81
        refine j_iload C 1 dL_law__595 rfl ?_
        refine j_if_ne C (tgt := 612) dL_law__597 (by decide) (fun h82 => ?_) (fun h82 => ?_)
        · replace hm := if_f hm h82
          refine j_sub [2, 3, 4, 5, 6] rfl ?_
          exact tj_L_law__612 C _ _ _ _ _ _ _ _ _ _ hS hst hAL hKM (hk_sub hk (Nat.le_of_ble_eq_true rfl) (Nat.le_of_ble_eq_true rfl)) hk23 hv1 hv2 hv3 hm
        · replace hm := if_t hm h82
          refine j_aload_n C 5 dL_law__600 rfl ?_
          refine j_iconst C (v := 0) dL_law__601 rfl ?_
          obtain ⟨h83, hm⟩ := gd_some hm
          refine j_lald C hv3 h83 dL_law__602 ?_
          refine j_iload C 0 dL_law__603 rfl ?_
          refine j_i2l C dL_law__605 ?_
          refine j_lcmp C dL_law__606 ?_
          refine j_if_eq C (tgt := 612) dL_law__607 (by decide) (fun h84 => ?_) (fun h84 => ?_)
          · replace hm := if_t hm h84
            refine j_sub [2, 3, 4, 5, 6] rfl ?_
            exact tj_L_law__612 C _ _ _ _ _ _ _ _ _ _ hS hst hAL hKM (hk_sub hk (Nat.le_of_ble_eq_true rfl) (Nat.le_of_ble_eq_true rfl)) hk23 hv1 hv2 hv3 hm
          · replace hm := if_f hm h84
            refine j_iconst C (v := 0) dL_law__610 rfl ?_
            exact absurd (Option.some.inj hm) (by decide)
      · replace hm := if_f hm h81
        refine j_iconst C (v := 0) dL_law__593 rfl ?_
        exact absurd (Option.some.inj hm) (by decide)
    replace hm := if_f hm h70
    by_cases h85 : ((sc v4.toNatClampNeg) &&& 63) = 7
    · replace hm := if_t hm h85
      refine j_tabI C (tgt := 615) 7 dL_law__40 (by rw [h85]; first | done | rfl) (by decide) (by decide) rfl (by decide) ?_
      refine j_aload_n C 1 dL_law__615 rfl ?_
      refine j_aload_n C 0 dL_law__616 rfl ?_
      refine j_iload C 4 dL_law__617 rfl ?_
      refine j_iconst C (v := 1) dL_law__619 rfl ?_
      refine j_iadd C dL_law__620 ?_
      obtain ⟨h86, hm⟩ := gd_some hm
      refine j_sld C hS h86 dL_law__621 ?_
      refine j_aload_n C 3 dL_law__622 rfl ?_
      obtain ⟨r87, h88, hm⟩ := bd_some hm
      refine call_W C lkw_151 ⟨Nat.le_of_ble_eq_true rfl, Nat.le_of_ble_eq_true rfl⟩ (hk_room (hk_sub hk (Nat.le_of_ble_eq_true rfl) (Nat.le_of_ble_eq_true rfl)) hKM) (As := [.ref v1, .int (sc (v4 + 1).toNatClampNeg), .ref v3]) rfl rfl (Nat.le_of_ble_eq_true rfl) dL_law__623 (mw_L_tide _ hst _ _ _ _ _ _ hv1 hv3 h88) ?_
      replace C := Cx_bump (a := 1) (b := 6) C (hk_room (a := 1) (b := 6) (hk_sub hk (Nat.le_of_ble_eq_true rfl) (Nat.le_of_ble_eq_true rfl)) hKM)
      replace hk := hk_bump (a := 1) (b := 6) (n := 0) (m := 0) (hk_sub hk (Nat.le_of_ble_eq_true rfl) (Nat.le_of_ble_eq_true rfl))
      refine j_istore C (lv' := [(5, .int r87.1), (0, .ref v0), (1, .ref v1), (2, .ref v2), (3, .ref v3), (4, .int v4)]) dL_law__626 (by decide) rfl ?_
      refine j_aload_n C 3 dL_law__628 rfl ?_
      refine j_aload_n C 1 dL_law__629 rfl ?_
      refine j_iload C 5 dL_law__630 rfl ?_
      refine j_iconst C (v := 1) dL_law__632 rfl ?_
      refine j_iadd C dL_law__633 ?_
      obtain ⟨h89, hm⟩ := gd_some hm
      refine j_sld C hS h89 dL_law__634 ?_
      obtain ⟨r90, h91, hm⟩ := bd_some hm
      refine call_I (run_LV C lk_L_154 ⟨rfl, rfl, Nat.le_of_ble_eq_true rfl, Nat.le_of_ble_eq_true rfl⟩ (As := [.int (sc (v4 + 1).toNatClampNeg)]) hv2 rfl rfl (Nat.le_of_ble_eq_true rfl) dL_law__635 (mc_X12_tide _ _ _ _ _ _ hv2 h91)) ?_
      refine j_istore C (lv' := [(6, .int r90.1), (5, .int r87.1), (0, .ref v0), (1, .ref v1), (2, .ref v2), (3, .ref v3), (4, .int v4)]) dL_law__638 (by decide) rfl ?_
      refine j_aload_n C 4 dL_law__640 rfl ?_
      obtain ⟨r92, h93, hm⟩ := bd_some hm
      refine call_I (run_LV C lk_L_134 ⟨rfl, rfl, Nat.le_of_ble_eq_true rfl, Nat.le_of_ble_eq_true rfl⟩ (As := []) hv2 rfl rfl (Nat.le_of_ble_eq_true rfl) dL_law__641 (mc_X12_thrown _ _ _ _ _ hv2 h93)) ?_
      refine j_iload C 1 dL_law__644 rfl ?_
      refine j_icmp_eq C (tgt := 651) dL_law__646 (by decide) (fun h94 => ?_) (fun h94 => ?_)
      · replace hm := if_t hm h94
        refine j_iload C 1 dL_law__651 rfl ?_
        refine j_if_ne C (tgt := 668) dL_law__653 (by decide) (fun h95 => ?_) (fun h95 => ?_)
        · replace hm := if_f hm h95
          refine j_sub [2, 3, 4, 5, 6] rfl ?_
          exact tj_L_law__668 C _ _ _ _ _ _ _ _ _ _ hS hst hAL hKM (hk_sub hk (Nat.le_of_ble_eq_true rfl) (Nat.le_of_ble_eq_true rfl)) hk23 hv1 hv2 hv3 hm
        · replace hm := if_t hm h95
          refine j_aload_n C 5 dL_law__656 rfl ?_
          refine j_iconst C (v := 0) dL_law__657 rfl ?_
          obtain ⟨h96, hm⟩ := gd_some hm
          refine j_lald C hv3 h96 dL_law__658 ?_
          refine j_iload C 0 dL_law__659 rfl ?_
          refine j_i2l C dL_law__661 ?_
          refine j_lcmp C dL_law__662 ?_
          refine j_if_eq C (tgt := 668) dL_law__663 (by decide) (fun h97 => ?_) (fun h97 => ?_)
          · replace hm := if_t hm h97
            refine j_sub [2, 3, 4, 5, 6] rfl ?_
            exact tj_L_law__668 C _ _ _ _ _ _ _ _ _ _ hS hst hAL hKM (hk_sub hk (Nat.le_of_ble_eq_true rfl) (Nat.le_of_ble_eq_true rfl)) hk23 hv1 hv2 hv3 hm
          · replace hm := if_f hm h97
            refine j_iconst C (v := 0) dL_law__666 rfl ?_
            exact absurd (Option.some.inj hm) (by decide)
      · replace hm := if_f hm h94
        refine j_iconst C (v := 0) dL_law__649 rfl ?_
        exact absurd (Option.some.inj hm) (by decide)
    replace hm := if_f hm h85
    by_cases h98 : ((sc v4.toNatClampNeg) &&& 63) = 8
    · replace hm := if_t hm h98
      refine j_tabI C (tgt := 671) 8 dL_law__40 (by rw [h98]; first | done | rfl) (by decide) (by decide) rfl (by decide) ?_
      refine j_aload_n C 1 dL_law__671 rfl ?_
      refine j_aload_n C 0 dL_law__672 rfl ?_
      refine j_iload C 4 dL_law__673 rfl ?_
      refine j_iconst C (v := 1) dL_law__675 rfl ?_
      refine j_iadd C dL_law__676 ?_
      obtain ⟨h99, hm⟩ := gd_some hm
      refine j_sld C hS h99 dL_law__677 ?_
      refine j_aload_n C 3 dL_law__678 rfl ?_
      obtain ⟨r100, h101, hm⟩ := bd_some hm
      refine call_W C lkw_155 ⟨Nat.le_of_ble_eq_true rfl, Nat.le_of_ble_eq_true rfl⟩ (hk_room (hk_sub hk (Nat.le_of_ble_eq_true rfl) (Nat.le_of_ble_eq_true rfl)) hKM) (As := [.ref v1, .int (sc (v4 + 1).toNatClampNeg), .ref v3]) rfl rfl (Nat.le_of_ble_eq_true rfl) dL_law__679 (mw_L_hours _ hst _ _ _ _ _ _ hv1 hv3 h101) ?_
      replace C := Cx_bump (a := 1) (b := 6) C (hk_room (a := 1) (b := 6) (hk_sub hk (Nat.le_of_ble_eq_true rfl) (Nat.le_of_ble_eq_true rfl)) hKM)
      replace hk := hk_bump (a := 1) (b := 6) (n := 0) (m := 0) (hk_sub hk (Nat.le_of_ble_eq_true rfl) (Nat.le_of_ble_eq_true rfl))
      refine j_istore C (lv' := [(5, .int r100.1), (0, .ref v0), (1, .ref v1), (2, .ref v2), (3, .ref v3), (4, .int v4)]) dL_law__682 (by decide) rfl ?_
      refine j_aload_n C 3 dL_law__684 rfl ?_
      refine j_aload_n C 1 dL_law__685 rfl ?_
      refine j_iload C 5 dL_law__686 rfl ?_
      refine j_iconst C (v := 1) dL_law__688 rfl ?_
      refine j_iadd C dL_law__689 ?_
      obtain ⟨h102, hm⟩ := gd_some hm
      refine j_sld C hS h102 dL_law__690 ?_
      obtain ⟨r103, h104, hm⟩ := bd_some hm
      refine call_I (run_LV C lk_L_157 ⟨rfl, rfl, Nat.le_of_ble_eq_true rfl, Nat.le_of_ble_eq_true rfl⟩ (As := [.int (sc (v4 + 1).toNatClampNeg)]) hv2 rfl rfl (Nat.le_of_ble_eq_true rfl) dL_law__691 (mc_X12_hours _ _ _ _ _ _ hv2 h104)) ?_
      refine j_istore C (lv' := [(6, .int r103.1), (5, .int r100.1), (0, .ref v0), (1, .ref v1), (2, .ref v2), (3, .ref v3), (4, .int v4)]) dL_law__694 (by decide) rfl ?_
      refine j_aload_n C 4 dL_law__696 rfl ?_
      obtain ⟨r105, h106, hm⟩ := bd_some hm
      refine call_I (run_LV C lk_L_134 ⟨rfl, rfl, Nat.le_of_ble_eq_true rfl, Nat.le_of_ble_eq_true rfl⟩ (As := []) hv2 rfl rfl (Nat.le_of_ble_eq_true rfl) dL_law__697 (mc_X12_thrown _ _ _ _ _ hv2 h106)) ?_
      refine j_iload C 1 dL_law__700 rfl ?_
      refine j_icmp_eq C (tgt := 707) dL_law__702 (by decide) (fun h107 => ?_) (fun h107 => ?_)
      · replace hm := if_t hm h107
        refine j_iload C 1 dL_law__707 rfl ?_
        refine j_if_ne C (tgt := 724) dL_law__709 (by decide) (fun h108 => ?_) (fun h108 => ?_)
        · replace hm := if_f hm h108
          refine j_sub [2, 3, 4, 5, 6] rfl ?_
          exact tj_L_law__724 C _ _ _ _ _ _ _ _ _ _ hS hst hAL hKM (hk_sub hk (Nat.le_of_ble_eq_true rfl) (Nat.le_of_ble_eq_true rfl)) hk23 hv1 hv2 hv3 hm
        · replace hm := if_t hm h108
          refine j_aload_n C 5 dL_law__712 rfl ?_
          refine j_iconst C (v := 0) dL_law__713 rfl ?_
          obtain ⟨h109, hm⟩ := gd_some hm
          refine j_lald C hv3 h109 dL_law__714 ?_
          refine j_iload C 0 dL_law__715 rfl ?_
          refine j_i2l C dL_law__717 ?_
          refine j_lcmp C dL_law__718 ?_
          refine j_if_eq C (tgt := 724) dL_law__719 (by decide) (fun h110 => ?_) (fun h110 => ?_)
          · replace hm := if_t hm h110
            refine j_sub [2, 3, 4, 5, 6] rfl ?_
            exact tj_L_law__724 C _ _ _ _ _ _ _ _ _ _ hS hst hAL hKM (hk_sub hk (Nat.le_of_ble_eq_true rfl) (Nat.le_of_ble_eq_true rfl)) hk23 hv1 hv2 hv3 hm
          · replace hm := if_f hm h110
            refine j_iconst C (v := 0) dL_law__722 rfl ?_
            exact absurd (Option.some.inj hm) (by decide)
      · replace hm := if_f hm h107
        refine j_iconst C (v := 0) dL_law__705 rfl ?_
        exact absurd (Option.some.inj hm) (by decide)
    replace hm := if_f hm h98
    by_cases h111 : ((sc v4.toNatClampNeg) &&& 63) = 9
    · replace hm := if_t hm h111
      refine j_tabI C (tgt := 727) 9 dL_law__40 (by rw [h111]; first | done | rfl) (by decide) (by decide) rfl (by decide) ?_
      refine j_aload_n C 1 dL_law__727 rfl ?_
      refine j_aload_n C 0 dL_law__728 rfl ?_
      refine j_iload C 4 dL_law__729 rfl ?_
      refine j_iconst C (v := 1) dL_law__731 rfl ?_
      refine j_iadd C dL_law__732 ?_
      obtain ⟨h112, hm⟩ := gd_some hm
      refine j_sld C hS h112 dL_law__733 ?_
      refine j_if_eq C (tgt := 741) dL_law__734 (by decide) (fun h113 => ?_) (fun h113 => ?_)
      · replace hm := if_t hm h113
        refine j_iconst C (v := 0) dL_law__741 rfl ?_
        exact tj_L_law__742 C _ _ _ _ _ _ _ _ _ _ _ _ hS hst hAL hKM (hk_sub hk (Nat.le_of_ble_eq_true rfl) (Nat.le_of_ble_eq_true rfl)) hk23 hv1 hv2 hv3 hv1 hm
      · replace hm := if_f hm h113
        refine j_iconst C (v := 1) dL_law__737 rfl ?_
        refine j_goto C (tgt := 742) dL_law__738 (by decide) ?_
        exact tj_L_law__742 C _ _ _ _ _ _ _ _ _ _ _ _ hS hst hAL hKM (hk_sub hk (Nat.le_of_ble_eq_true rfl) (Nat.le_of_ble_eq_true rfl)) hk23 hv1 hv2 hv3 hv1 hm
    replace hm := if_f hm h111
    by_cases h114 : ((sc v4.toNatClampNeg) &&& 63) = 10
    · replace hm := if_t hm h114
      refine j_tabI C (tgt := 806) 10 dL_law__40 (by rw [h114]; first | done | rfl) (by decide) (by decide) rfl (by decide) ?_
      refine j_aload_n C 1 dL_law__806 rfl ?_
      refine j_aload_n C 0 dL_law__807 rfl ?_
      refine j_iload C 4 dL_law__808 rfl ?_
      refine j_iconst C (v := 1) dL_law__810 rfl ?_
      refine j_iadd C dL_law__811 ?_
      obtain ⟨h115, hm⟩ := gd_some hm
      refine j_sld C hS h115 dL_law__812 ?_
      refine j_aload_n C 0 dL_law__813 rfl ?_
      refine j_iload C 4 dL_law__814 rfl ?_
      refine j_iconst C (v := 2) dL_law__816 rfl ?_
      refine j_iadd C dL_law__817 ?_
      obtain ⟨h116, hm⟩ := gd_some hm
      refine j_sld C hS h116 dL_law__818 ?_
      refine j_aload_n C 3 dL_law__819 rfl ?_
      obtain ⟨r117, h118, hm⟩ := bd_some hm
      refine call_W C lkw_162 ⟨Nat.le_of_ble_eq_true rfl, Nat.le_of_ble_eq_true rfl⟩ (hk_room (hk_sub hk (Nat.le_of_ble_eq_true rfl) (Nat.le_of_ble_eq_true rfl)) hKM) (As := [.ref v1, .int (sc (v4 + 1).toNatClampNeg), .int (sc (v4 + 2).toNatClampNeg), .ref v3]) rfl rfl (Nat.le_of_ble_eq_true rfl) dL_law__820 (mw_L_enter _ hst _ _ _ _ _ _ _ hv1 hv3 h118) ?_
      replace C := Cx_bump (a := 3) (b := 18) C (hk_room (a := 3) (b := 18) (hk_sub hk (Nat.le_of_ble_eq_true rfl) (Nat.le_of_ble_eq_true rfl)) hKM)
      replace hk := hk_bump (a := 3) (b := 18) (n := 0) (m := 0) (hk_sub hk (Nat.le_of_ble_eq_true rfl) (Nat.le_of_ble_eq_true rfl))
      refine j_istore C (lv' := [(5, .int r117.1), (0, .ref v0), (1, .ref v1), (2, .ref v2), (3, .ref v3), (4, .int v4)]) dL_law__823 (by decide) rfl ?_
      refine j_aload_n C 3 dL_law__825 rfl ?_
      refine j_aload_n C 1 dL_law__826 rfl ?_
      refine j_iload C 5 dL_law__827 rfl ?_
      refine j_iconst C (v := 1) dL_law__829 rfl ?_
      refine j_iadd C dL_law__830 ?_
      obtain ⟨h119, hm⟩ := gd_some hm
      refine j_sld C hS h119 dL_law__831 ?_
      refine j_aload_n C 1 dL_law__832 rfl ?_
      refine j_iload C 5 dL_law__833 rfl ?_
      refine j_iconst C (v := 2) dL_law__835 rfl ?_
      refine j_iadd C dL_law__836 ?_
      obtain ⟨h120, hm⟩ := gd_some hm
      refine j_sld C hS h120 dL_law__837 ?_
      obtain ⟨r121, h122, hm⟩ := bd_some hm
      refine call_I (run_LV C lk_L_164 ⟨rfl, rfl, Nat.le_of_ble_eq_true rfl, Nat.le_of_ble_eq_true rfl⟩ (As := [.int (sc (v4 + 1).toNatClampNeg), .int (sc (v4 + 2).toNatClampNeg)]) hv2 rfl rfl (Nat.le_of_ble_eq_true rfl) dL_law__838 (mc_X12_enter _ _ _ _ _ _ _ hv2 h122)) ?_
      refine j_istore C (lv' := [(6, .int r121.1), (5, .int r117.1), (0, .ref v0), (1, .ref v1), (2, .ref v2), (3, .ref v3), (4, .int v4)]) dL_law__841 (by decide) rfl ?_
      refine j_aload_n C 4 dL_law__843 rfl ?_
      obtain ⟨r123, h124, hm⟩ := bd_some hm
      refine call_I (run_LV C lk_L_134 ⟨rfl, rfl, Nat.le_of_ble_eq_true rfl, Nat.le_of_ble_eq_true rfl⟩ (As := []) hv2 rfl rfl (Nat.le_of_ble_eq_true rfl) dL_law__844 (mc_X12_thrown _ _ _ _ _ hv2 h124)) ?_
      refine j_iload C 1 dL_law__847 rfl ?_
      refine j_icmp_eq C (tgt := 854) dL_law__849 (by decide) (fun h125 => ?_) (fun h125 => ?_)
      · replace hm := if_t hm h125
        refine j_iload C 1 dL_law__854 rfl ?_
        refine j_if_ne C (tgt := 871) dL_law__856 (by decide) (fun h126 => ?_) (fun h126 => ?_)
        · replace hm := if_f hm h126
          refine j_sub [2, 3, 4, 5, 6] rfl ?_
          exact tj_L_law__871 C _ _ _ _ _ _ _ _ _ _ hS hst hAL hKM (hk_sub hk (Nat.le_of_ble_eq_true rfl) (Nat.le_of_ble_eq_true rfl)) hk23 hv1 hv2 hv3 hm
        · replace hm := if_t hm h126
          refine j_aload_n C 5 dL_law__859 rfl ?_
          refine j_iconst C (v := 0) dL_law__860 rfl ?_
          obtain ⟨h127, hm⟩ := gd_some hm
          refine j_lald C hv3 h127 dL_law__861 ?_
          refine j_iload C 0 dL_law__862 rfl ?_
          refine j_i2l C dL_law__864 ?_
          refine j_lcmp C dL_law__865 ?_
          refine j_if_eq C (tgt := 871) dL_law__866 (by decide) (fun h128 => ?_) (fun h128 => ?_)
          · replace hm := if_t hm h128
            refine j_sub [2, 3, 4, 5, 6] rfl ?_
            exact tj_L_law__871 C _ _ _ _ _ _ _ _ _ _ hS hst hAL hKM (hk_sub hk (Nat.le_of_ble_eq_true rfl) (Nat.le_of_ble_eq_true rfl)) hk23 hv1 hv2 hv3 hm
          · replace hm := if_f hm h128
            refine j_iconst C (v := 0) dL_law__869 rfl ?_
            exact absurd (Option.some.inj hm) (by decide)
      · replace hm := if_f hm h125
        refine j_iconst C (v := 0) dL_law__852 rfl ?_
        exact absurd (Option.some.inj hm) (by decide)
    replace hm := if_f hm h114
    by_cases h129 : ((sc v4.toNatClampNeg) &&& 63) = 11
    · replace hm := if_t hm h129
      refine j_tabI C (tgt := 874) 11 dL_law__40 (by rw [h129]; first | done | rfl) (by decide) (by decide) rfl (by decide) ?_
      refine j_aload_n C 1 dL_law__874 rfl ?_
      refine j_aload_n C 0 dL_law__875 rfl ?_
      refine j_iload C 4 dL_law__876 rfl ?_
      refine j_iconst C (v := 1) dL_law__878 rfl ?_
      refine j_iadd C dL_law__879 ?_
      obtain ⟨h130, hm⟩ := gd_some hm
      refine j_sld C hS h130 dL_law__880 ?_
      refine j_aload_n C 3 dL_law__881 rfl ?_
      obtain ⟨r131, h132, hm⟩ := bd_some hm
      refine call_W C lkw_165 ⟨Nat.le_of_ble_eq_true rfl, Nat.le_of_ble_eq_true rfl⟩ (hk_room (hk_sub hk (Nat.le_of_ble_eq_true rfl) (Nat.le_of_ble_eq_true rfl)) hKM) (As := [.ref v1, .int (sc (v4 + 1).toNatClampNeg), .ref v3]) rfl rfl (Nat.le_of_ble_eq_true rfl) dL_law__882 (mw_L_leave _ hst _ _ _ _ _ _ hv1 hv3 h132) ?_
      replace C := Cx_bump (a := 2) (b := 12) C (hk_room (a := 2) (b := 12) (hk_sub hk (Nat.le_of_ble_eq_true rfl) (Nat.le_of_ble_eq_true rfl)) hKM)
      replace hk := hk_bump (a := 2) (b := 12) (n := 0) (m := 0) (hk_sub hk (Nat.le_of_ble_eq_true rfl) (Nat.le_of_ble_eq_true rfl))
      refine j_istore C (lv' := [(5, .int r131.1), (0, .ref v0), (1, .ref v1), (2, .ref v2), (3, .ref v3), (4, .int v4)]) dL_law__885 (by decide) rfl ?_
      refine j_aload_n C 3 dL_law__887 rfl ?_
      refine j_aload_n C 1 dL_law__888 rfl ?_
      refine j_iload C 5 dL_law__889 rfl ?_
      refine j_iconst C (v := 1) dL_law__891 rfl ?_
      refine j_iadd C dL_law__892 ?_
      obtain ⟨h133, hm⟩ := gd_some hm
      refine j_sld C hS h133 dL_law__893 ?_
      obtain ⟨r134, h135, hm⟩ := bd_some hm
      refine call_I (run_LV C lk_L_167 ⟨rfl, rfl, Nat.le_of_ble_eq_true rfl, Nat.le_of_ble_eq_true rfl⟩ (As := [.int (sc (v4 + 1).toNatClampNeg)]) hv2 rfl rfl (Nat.le_of_ble_eq_true rfl) dL_law__894 (mc_X12_leave _ _ _ _ _ _ hv2 h135)) ?_
      refine j_istore C (lv' := [(6, .int r134.1), (5, .int r131.1), (0, .ref v0), (1, .ref v1), (2, .ref v2), (3, .ref v3), (4, .int v4)]) dL_law__897 (by decide) rfl ?_
      refine j_aload_n C 4 dL_law__899 rfl ?_
      obtain ⟨r136, h137, hm⟩ := bd_some hm
      refine call_I (run_LV C lk_L_134 ⟨rfl, rfl, Nat.le_of_ble_eq_true rfl, Nat.le_of_ble_eq_true rfl⟩ (As := []) hv2 rfl rfl (Nat.le_of_ble_eq_true rfl) dL_law__900 (mc_X12_thrown _ _ _ _ _ hv2 h137)) ?_
      refine j_iload C 1 dL_law__903 rfl ?_
      refine j_icmp_eq C (tgt := 910) dL_law__905 (by decide) (fun h138 => ?_) (fun h138 => ?_)
      · replace hm := if_t hm h138
        refine j_iload C 1 dL_law__910 rfl ?_
        refine j_if_ne C (tgt := 927) dL_law__912 (by decide) (fun h139 => ?_) (fun h139 => ?_)
        · replace hm := if_f hm h139
          refine j_sub [2, 3, 4, 5, 6] rfl ?_
          exact tj_L_law__927 C _ _ _ _ _ _ _ _ _ _ hS hst hAL hKM (hk_sub hk (Nat.le_of_ble_eq_true rfl) (Nat.le_of_ble_eq_true rfl)) hk23 hv1 hv2 hv3 hm
        · replace hm := if_t hm h139
          refine j_aload_n C 5 dL_law__915 rfl ?_
          refine j_iconst C (v := 0) dL_law__916 rfl ?_
          obtain ⟨h140, hm⟩ := gd_some hm
          refine j_lald C hv3 h140 dL_law__917 ?_
          refine j_iload C 0 dL_law__918 rfl ?_
          refine j_i2l C dL_law__920 ?_
          refine j_lcmp C dL_law__921 ?_
          refine j_if_eq C (tgt := 927) dL_law__922 (by decide) (fun h141 => ?_) (fun h141 => ?_)
          · replace hm := if_t hm h141
            refine j_sub [2, 3, 4, 5, 6] rfl ?_
            exact tj_L_law__927 C _ _ _ _ _ _ _ _ _ _ hS hst hAL hKM (hk_sub hk (Nat.le_of_ble_eq_true rfl) (Nat.le_of_ble_eq_true rfl)) hk23 hv1 hv2 hv3 hm
          · replace hm := if_f hm h141
            refine j_iconst C (v := 0) dL_law__925 rfl ?_
            exact absurd (Option.some.inj hm) (by decide)
      · replace hm := if_f hm h138
        refine j_iconst C (v := 0) dL_law__908 rfl ?_
        exact absurd (Option.some.inj hm) (by decide)
    replace hm := if_f hm h129
    by_cases h142 : ((sc v4.toNatClampNeg) &&& 63) = 12
    · replace hm := if_t hm h142
      refine j_tabI C (tgt := 930) 12 dL_law__40 (by rw [h142]; first | done | rfl) (by decide) (by decide) rfl (by decide) ?_
      refine j_aload_n C 1 dL_law__930 rfl ?_
      refine j_aload_n C 0 dL_law__931 rfl ?_
      refine j_iload C 4 dL_law__932 rfl ?_
      refine j_iconst C (v := 1) dL_law__934 rfl ?_
      refine j_iadd C dL_law__935 ?_
      obtain ⟨h143, hm⟩ := gd_some hm
      refine j_sld C hS h143 dL_law__936 ?_
      refine j_aload_n C 0 dL_law__937 rfl ?_
      refine j_iload C 4 dL_law__938 rfl ?_
      refine j_iconst C (v := 2) dL_law__940 rfl ?_
      refine j_iadd C dL_law__941 ?_
      obtain ⟨h144, hm⟩ := gd_some hm
      refine j_sld C hS h144 dL_law__942 ?_
      refine j_aload_n C 0 dL_law__943 rfl ?_
      refine j_iload C 4 dL_law__944 rfl ?_
      refine j_iconst C (v := 3) dL_law__946 rfl ?_
      refine j_iadd C dL_law__947 ?_
      obtain ⟨h145, hm⟩ := gd_some hm
      refine j_sld C hS h145 dL_law__948 ?_
      refine j_aload_n C 3 dL_law__949 rfl ?_
      obtain ⟨r146, h147, hm⟩ := bd_some hm
      refine call_W C lkw_168 ⟨Nat.le_of_ble_eq_true rfl, Nat.le_of_ble_eq_true rfl⟩ (hk_room (hk_sub hk (Nat.le_of_ble_eq_true rfl) (Nat.le_of_ble_eq_true rfl)) hKM) (As := [.ref v1, .int (sc (v4 + 1).toNatClampNeg), .int (sc (v4 + 2).toNatClampNeg), .int (sc (v4 + 3).toNatClampNeg), .ref v3]) rfl rfl (Nat.le_of_ble_eq_true rfl) dL_law__950 (mw_L_comes _ hst _ _ _ _ _ _ _ _ hv1 hv3 h147) ?_
      replace C := Cx_bump (a := 1) (b := 6) C (hk_room (a := 1) (b := 6) (hk_sub hk (Nat.le_of_ble_eq_true rfl) (Nat.le_of_ble_eq_true rfl)) hKM)
      replace hk := hk_bump (a := 1) (b := 6) (n := 0) (m := 0) (hk_sub hk (Nat.le_of_ble_eq_true rfl) (Nat.le_of_ble_eq_true rfl))
      refine j_istore C (lv' := [(5, .int r146.1), (0, .ref v0), (1, .ref v1), (2, .ref v2), (3, .ref v3), (4, .int v4)]) dL_law__953 (by decide) rfl ?_
      refine j_aload_n C 3 dL_law__955 rfl ?_
      refine j_aload_n C 1 dL_law__956 rfl ?_
      refine j_iload C 5 dL_law__957 rfl ?_
      refine j_iconst C (v := 1) dL_law__959 rfl ?_
      refine j_iadd C dL_law__960 ?_
      obtain ⟨h148, hm⟩ := gd_some hm
      refine j_sld C hS h148 dL_law__961 ?_
      refine j_aload_n C 1 dL_law__962 rfl ?_
      refine j_iload C 5 dL_law__963 rfl ?_
      refine j_iconst C (v := 2) dL_law__965 rfl ?_
      refine j_iadd C dL_law__966 ?_
      obtain ⟨h149, hm⟩ := gd_some hm
      refine j_sld C hS h149 dL_law__967 ?_
      refine j_aload_n C 1 dL_law__968 rfl ?_
      refine j_iload C 5 dL_law__969 rfl ?_
      refine j_iconst C (v := 3) dL_law__971 rfl ?_
      refine j_iadd C dL_law__972 ?_
      obtain ⟨h150, hm⟩ := gd_some hm
      refine j_sld C hS h150 dL_law__973 ?_
      obtain ⟨r151, h152, hm⟩ := bd_some hm
      refine call_I (run_LV C lk_L_171 ⟨rfl, rfl, Nat.le_of_ble_eq_true rfl, Nat.le_of_ble_eq_true rfl⟩ (As := [.int (sc (v4 + 1).toNatClampNeg), .int (sc (v4 + 2).toNatClampNeg), .int (sc (v4 + 3).toNatClampNeg)]) hv2 rfl rfl (Nat.le_of_ble_eq_true rfl) dL_law__974 (mc_X12_comes _ _ _ _ _ _ _ _ hv2 h152)) ?_
      refine j_istore C (lv' := [(6, .int r151.1), (5, .int r146.1), (0, .ref v0), (1, .ref v1), (2, .ref v2), (3, .ref v3), (4, .int v4)]) dL_law__977 (by decide) rfl ?_
      refine j_aload_n C 4 dL_law__979 rfl ?_
      obtain ⟨r153, h154, hm⟩ := bd_some hm
      refine call_I (run_LV C lk_L_134 ⟨rfl, rfl, Nat.le_of_ble_eq_true rfl, Nat.le_of_ble_eq_true rfl⟩ (As := []) hv2 rfl rfl (Nat.le_of_ble_eq_true rfl) dL_law__980 (mc_X12_thrown _ _ _ _ _ hv2 h154)) ?_
      refine j_iload C 1 dL_law__983 rfl ?_
      refine j_icmp_eq C (tgt := 990) dL_law__985 (by decide) (fun h155 => ?_) (fun h155 => ?_)
      · replace hm := if_t hm h155
        refine j_iload C 1 dL_law__990 rfl ?_
        refine j_if_ne C (tgt := 1007) dL_law__992 (by decide) (fun h156 => ?_) (fun h156 => ?_)
        · replace hm := if_f hm h156
          refine j_sub [2, 3, 4, 5, 6] rfl ?_
          exact tj_L_law__1007 C _ _ _ _ _ _ _ _ _ _ hS hst hAL hKM (hk_sub hk (Nat.le_of_ble_eq_true rfl) (Nat.le_of_ble_eq_true rfl)) hk23 hv1 hv2 hv3 hm
        · replace hm := if_t hm h156
          refine j_aload_n C 5 dL_law__995 rfl ?_
          refine j_iconst C (v := 0) dL_law__996 rfl ?_
          obtain ⟨h157, hm⟩ := gd_some hm
          refine j_lald C hv3 h157 dL_law__997 ?_
          refine j_iload C 0 dL_law__998 rfl ?_
          refine j_i2l C dL_law__1000 ?_
          refine j_lcmp C dL_law__1001 ?_
          refine j_if_eq C (tgt := 1007) dL_law__1002 (by decide) (fun h158 => ?_) (fun h158 => ?_)
          · replace hm := if_t hm h158
            refine j_sub [2, 3, 4, 5, 6] rfl ?_
            exact tj_L_law__1007 C _ _ _ _ _ _ _ _ _ _ hS hst hAL hKM (hk_sub hk (Nat.le_of_ble_eq_true rfl) (Nat.le_of_ble_eq_true rfl)) hk23 hv1 hv2 hv3 hm
          · replace hm := if_f hm h158
            refine j_iconst C (v := 0) dL_law__1005 rfl ?_
            exact absurd (Option.some.inj hm) (by decide)
      · replace hm := if_f hm h155
        refine j_iconst C (v := 0) dL_law__988 rfl ?_
        exact absurd (Option.some.inj hm) (by decide)
    replace hm := if_f hm h142
    by_cases h159 : ((sc v4.toNatClampNeg) &&& 63) = 13
    · replace hm := if_t hm h159
      refine j_tabI C (tgt := 1010) 13 dL_law__40 (by rw [h159]; first | done | rfl) (by decide) (by decide) rfl (by decide) ?_
      refine j_aload_n C 1 dL_law__1010 rfl ?_
      refine j_aload_n C 0 dL_law__1011 rfl ?_
      refine j_iload C 4 dL_law__1012 rfl ?_
      refine j_iconst C (v := 1) dL_law__1014 rfl ?_
      refine j_iadd C dL_law__1015 ?_
      obtain ⟨h160, hm⟩ := gd_some hm
      refine j_sld C hS h160 dL_law__1016 ?_
      refine j_aload_n C 0 dL_law__1017 rfl ?_
      refine j_iload C 4 dL_law__1018 rfl ?_
      refine j_iconst C (v := 2) dL_law__1020 rfl ?_
      refine j_iadd C dL_law__1021 ?_
      obtain ⟨h161, hm⟩ := gd_some hm
      refine j_sld C hS h161 dL_law__1022 ?_
      refine j_if_eq C (tgt := 1030) dL_law__1023 (by decide) (fun h162 => ?_) (fun h162 => ?_)
      · replace hm := if_t hm h162
        refine j_iconst C (v := 0) dL_law__1030 rfl ?_
        exact tj_L_law__1031 C _ _ _ _ _ _ _ _ _ _ _ _ _ hS hst hAL hKM (hk_sub hk (Nat.le_of_ble_eq_true rfl) (Nat.le_of_ble_eq_true rfl)) hk23 hv1 hv2 hv3 hv1 hm
      · replace hm := if_f hm h162
        refine j_iconst C (v := 1) dL_law__1026 rfl ?_
        refine j_goto C (tgt := 1031) dL_law__1027 (by decide) ?_
        exact tj_L_law__1031 C _ _ _ _ _ _ _ _ _ _ _ _ _ hS hst hAL hKM (hk_sub hk (Nat.le_of_ble_eq_true rfl) (Nat.le_of_ble_eq_true rfl)) hk23 hv1 hv2 hv3 hv1 hm
    replace hm := if_f hm h159
    by_cases h163 : ((sc v4.toNatClampNeg) &&& 63) = 14
    · replace hm := if_t hm h163
      refine j_tabI C (tgt := 1101) 14 dL_law__40 (by rw [h163]; first | done | rfl) (by decide) (by decide) rfl (by decide) ?_
      refine j_aload_n C 1 dL_law__1101 rfl ?_
      refine j_aload_n C 0 dL_law__1102 rfl ?_
      refine j_iload C 4 dL_law__1103 rfl ?_
      refine j_iconst C (v := 1) dL_law__1105 rfl ?_
      refine j_iadd C dL_law__1106 ?_
      obtain ⟨h164, hm⟩ := gd_some hm
      refine j_sld C hS h164 dL_law__1107 ?_
      refine j_aload_n C 3 dL_law__1108 rfl ?_
      obtain ⟨r165, h166, hm⟩ := bd_some hm
      refine call_W C lkw_176 ⟨Nat.le_of_ble_eq_true rfl, Nat.le_of_ble_eq_true rfl⟩ (hk_room (hk_sub hk (Nat.le_of_ble_eq_true rfl) (Nat.le_of_ble_eq_true rfl)) hKM) (As := [.ref v1, .int (sc (v4 + 1).toNatClampNeg), .ref v3]) rfl rfl (Nat.le_of_ble_eq_true rfl) dL_law__1109 (mw_L_pumps _ hst _ _ _ _ _ _ hv1 hv3 h166) ?_
      replace C := Cx_bump (a := 1) (b := 6) C (hk_room (a := 1) (b := 6) (hk_sub hk (Nat.le_of_ble_eq_true rfl) (Nat.le_of_ble_eq_true rfl)) hKM)
      replace hk := hk_bump (a := 1) (b := 6) (n := 0) (m := 0) (hk_sub hk (Nat.le_of_ble_eq_true rfl) (Nat.le_of_ble_eq_true rfl))
      refine j_istore C (lv' := [(5, .int r165.1), (0, .ref v0), (1, .ref v1), (2, .ref v2), (3, .ref v3), (4, .int v4)]) dL_law__1112 (by decide) rfl ?_
      refine j_aload_n C 3 dL_law__1114 rfl ?_
      refine j_aload_n C 1 dL_law__1115 rfl ?_
      refine j_iload C 5 dL_law__1116 rfl ?_
      refine j_iconst C (v := 1) dL_law__1118 rfl ?_
      refine j_iadd C dL_law__1119 ?_
      obtain ⟨h167, hm⟩ := gd_some hm
      refine j_sld C hS h167 dL_law__1120 ?_
      obtain ⟨r168, h169, hm⟩ := bd_some hm
      refine call_I (run_LV C lk_L_178 ⟨rfl, rfl, Nat.le_of_ble_eq_true rfl, Nat.le_of_ble_eq_true rfl⟩ (As := [.int (sc (v4 + 1).toNatClampNeg)]) hv2 rfl rfl (Nat.le_of_ble_eq_true rfl) dL_law__1121 (mc_X12_pumps _ _ _ _ _ _ hv2 h169)) ?_
      refine j_istore C (lv' := [(6, .int r168.1), (5, .int r165.1), (0, .ref v0), (1, .ref v1), (2, .ref v2), (3, .ref v3), (4, .int v4)]) dL_law__1124 (by decide) rfl ?_
      refine j_aload_n C 4 dL_law__1126 rfl ?_
      obtain ⟨r170, h171, hm⟩ := bd_some hm
      refine call_I (run_LV C lk_L_134 ⟨rfl, rfl, Nat.le_of_ble_eq_true rfl, Nat.le_of_ble_eq_true rfl⟩ (As := []) hv2 rfl rfl (Nat.le_of_ble_eq_true rfl) dL_law__1127 (mc_X12_thrown _ _ _ _ _ hv2 h171)) ?_
      refine j_iload C 1 dL_law__1130 rfl ?_
      refine j_icmp_eq C (tgt := 1137) dL_law__1132 (by decide) (fun h172 => ?_) (fun h172 => ?_)
      · replace hm := if_t hm h172
        refine j_iload C 1 dL_law__1137 rfl ?_
        refine j_if_ne C (tgt := 1154) dL_law__1139 (by decide) (fun h173 => ?_) (fun h173 => ?_)
        · replace hm := if_f hm h173
          refine j_sub [2, 3, 4, 5, 6] rfl ?_
          exact tj_L_law__1154 C _ _ _ _ _ _ _ _ _ _ hS hst hAL hKM (hk_sub hk (Nat.le_of_ble_eq_true rfl) (Nat.le_of_ble_eq_true rfl)) hk23 hv1 hv2 hv3 hm
        · replace hm := if_t hm h173
          refine j_aload_n C 5 dL_law__1142 rfl ?_
          refine j_iconst C (v := 0) dL_law__1143 rfl ?_
          obtain ⟨h174, hm⟩ := gd_some hm
          refine j_lald C hv3 h174 dL_law__1144 ?_
          refine j_iload C 0 dL_law__1145 rfl ?_
          refine j_i2l C dL_law__1147 ?_
          refine j_lcmp C dL_law__1148 ?_
          refine j_if_eq C (tgt := 1154) dL_law__1149 (by decide) (fun h175 => ?_) (fun h175 => ?_)
          · replace hm := if_t hm h175
            refine j_sub [2, 3, 4, 5, 6] rfl ?_
            exact tj_L_law__1154 C _ _ _ _ _ _ _ _ _ _ hS hst hAL hKM (hk_sub hk (Nat.le_of_ble_eq_true rfl) (Nat.le_of_ble_eq_true rfl)) hk23 hv1 hv2 hv3 hm
          · replace hm := if_f hm h175
            refine j_iconst C (v := 0) dL_law__1152 rfl ?_
            exact absurd (Option.some.inj hm) (by decide)
      · replace hm := if_f hm h172
        refine j_iconst C (v := 0) dL_law__1135 rfl ?_
        exact absurd (Option.some.inj hm) (by decide)
    replace hm := if_f hm h163
    by_cases h176 : ((sc v4.toNatClampNeg) &&& 63) = 15
    · replace hm := if_t hm h176
      refine j_tabI C (tgt := 1157) 15 dL_law__40 (by rw [h176]; first | done | rfl) (by decide) (by decide) rfl (by decide) ?_
      refine j_aload_n C 1 dL_law__1157 rfl ?_
      refine j_aload_n C 0 dL_law__1158 rfl ?_
      refine j_iload C 4 dL_law__1159 rfl ?_
      refine j_iconst C (v := 1) dL_law__1161 rfl ?_
      refine j_iadd C dL_law__1162 ?_
      obtain ⟨h177, hm⟩ := gd_some hm
      refine j_sld C hS h177 dL_law__1163 ?_
      refine j_aload_n C 3 dL_law__1164 rfl ?_
      obtain ⟨r178, h179, hm⟩ := bd_some hm
      refine call_W C lkw_179 ⟨Nat.le_of_ble_eq_true rfl, Nat.le_of_ble_eq_true rfl⟩ (hk_room (hk_sub hk (Nat.le_of_ble_eq_true rfl) (Nat.le_of_ble_eq_true rfl)) hKM) (As := [.ref v1, .int (sc (v4 + 1).toNatClampNeg), .ref v3]) rfl rfl (Nat.le_of_ble_eq_true rfl) dL_law__1165 (mw_L_hands _ hst _ _ _ _ _ _ hv1 hv3 h179) ?_
      replace C := Cx_bump (a := 1) (b := 6) C (hk_room (a := 1) (b := 6) (hk_sub hk (Nat.le_of_ble_eq_true rfl) (Nat.le_of_ble_eq_true rfl)) hKM)
      replace hk := hk_bump (a := 1) (b := 6) (n := 0) (m := 0) (hk_sub hk (Nat.le_of_ble_eq_true rfl) (Nat.le_of_ble_eq_true rfl))
      refine j_istore C (lv' := [(5, .int r178.1), (0, .ref v0), (1, .ref v1), (2, .ref v2), (3, .ref v3), (4, .int v4)]) dL_law__1168 (by decide) rfl ?_
      refine j_aload_n C 3 dL_law__1170 rfl ?_
      refine j_aload_n C 1 dL_law__1171 rfl ?_
      refine j_iload C 5 dL_law__1172 rfl ?_
      refine j_iconst C (v := 1) dL_law__1174 rfl ?_
      refine j_iadd C dL_law__1175 ?_
      obtain ⟨h180, hm⟩ := gd_some hm
      refine j_sld C hS h180 dL_law__1176 ?_
      obtain ⟨r181, h182, hm⟩ := bd_some hm
      refine call_I (run_LV C lk_L_181 ⟨rfl, rfl, Nat.le_of_ble_eq_true rfl, Nat.le_of_ble_eq_true rfl⟩ (As := [.int (sc (v4 + 1).toNatClampNeg)]) hv2 rfl rfl (Nat.le_of_ble_eq_true rfl) dL_law__1177 (mc_X12_hands _ _ _ _ _ _ hv2 h182)) ?_
      refine j_istore C (lv' := [(6, .int r181.1), (5, .int r178.1), (0, .ref v0), (1, .ref v1), (2, .ref v2), (3, .ref v3), (4, .int v4)]) dL_law__1180 (by decide) rfl ?_
      refine j_aload_n C 4 dL_law__1182 rfl ?_
      obtain ⟨r183, h184, hm⟩ := bd_some hm
      refine call_I (run_LV C lk_L_134 ⟨rfl, rfl, Nat.le_of_ble_eq_true rfl, Nat.le_of_ble_eq_true rfl⟩ (As := []) hv2 rfl rfl (Nat.le_of_ble_eq_true rfl) dL_law__1183 (mc_X12_thrown _ _ _ _ _ hv2 h184)) ?_
      refine j_iload C 1 dL_law__1186 rfl ?_
      refine j_icmp_eq C (tgt := 1193) dL_law__1188 (by decide) (fun h185 => ?_) (fun h185 => ?_)
      · replace hm := if_t hm h185
        refine j_iload C 1 dL_law__1193 rfl ?_
        refine j_if_ne C (tgt := 1210) dL_law__1195 (by decide) (fun h186 => ?_) (fun h186 => ?_)
        · replace hm := if_f hm h186
          refine j_sub [2, 3, 4, 5, 6] rfl ?_
          exact tj_L_law__1210 C _ _ _ _ _ _ _ _ _ _ hS hst hAL hKM (hk_sub hk (Nat.le_of_ble_eq_true rfl) (Nat.le_of_ble_eq_true rfl)) hk23 hv1 hv2 hv3 hm
        · replace hm := if_t hm h186
          refine j_aload_n C 5 dL_law__1198 rfl ?_
          refine j_iconst C (v := 0) dL_law__1199 rfl ?_
          obtain ⟨h187, hm⟩ := gd_some hm
          refine j_lald C hv3 h187 dL_law__1200 ?_
          refine j_iload C 0 dL_law__1201 rfl ?_
          refine j_i2l C dL_law__1203 ?_
          refine j_lcmp C dL_law__1204 ?_
          refine j_if_eq C (tgt := 1210) dL_law__1205 (by decide) (fun h188 => ?_) (fun h188 => ?_)
          · replace hm := if_t hm h188
            refine j_sub [2, 3, 4, 5, 6] rfl ?_
            exact tj_L_law__1210 C _ _ _ _ _ _ _ _ _ _ hS hst hAL hKM (hk_sub hk (Nat.le_of_ble_eq_true rfl) (Nat.le_of_ble_eq_true rfl)) hk23 hv1 hv2 hv3 hm
          · replace hm := if_f hm h188
            refine j_iconst C (v := 0) dL_law__1208 rfl ?_
            exact absurd (Option.some.inj hm) (by decide)
      · replace hm := if_f hm h185
        refine j_iconst C (v := 0) dL_law__1191 rfl ?_
        exact absurd (Option.some.inj hm) (by decide)
    replace hm := if_f hm h176
    by_cases h189 : ((sc v4.toNatClampNeg) &&& 63) = 16
    · replace hm := if_t hm h189
      refine j_tabI C (tgt := 1213) 16 dL_law__40 (by rw [h189]; first | done | rfl) (by decide) (by decide) rfl (by decide) ?_
      refine j_aload_n C 1 dL_law__1213 rfl ?_
      refine j_aload_n C 0 dL_law__1214 rfl ?_
      refine j_iload C 4 dL_law__1215 rfl ?_
      refine j_iconst C (v := 1) dL_law__1217 rfl ?_
      refine j_iadd C dL_law__1218 ?_
      obtain ⟨h190, hm⟩ := gd_some hm
      refine j_sld C hS h190 dL_law__1219 ?_
      refine j_aload_n C 0 dL_law__1220 rfl ?_
      refine j_iload C 4 dL_law__1221 rfl ?_
      refine j_iconst C (v := 2) dL_law__1223 rfl ?_
      refine j_iadd C dL_law__1224 ?_
      obtain ⟨h191, hm⟩ := gd_some hm
      refine j_sld C hS h191 dL_law__1225 ?_
      refine j_aload_n C 3 dL_law__1226 rfl ?_
      obtain ⟨r192, h193, hm⟩ := bd_some hm
      refine call_W C lkw_182 ⟨Nat.le_of_ble_eq_true rfl, Nat.le_of_ble_eq_true rfl⟩ (hk_room (hk_sub hk (Nat.le_of_ble_eq_true rfl) (Nat.le_of_ble_eq_true rfl)) hKM) (As := [.ref v1, .int (sc (v4 + 1).toNatClampNeg), .int (sc (v4 + 2).toNatClampNeg), .ref v3]) rfl rfl (Nat.le_of_ble_eq_true rfl) dL_law__1227 (mw_L_flow _ hst _ _ _ _ _ _ _ hv1 hv3 h193) ?_
      replace C := Cx_bump (a := 2) (b := 12) C (hk_room (a := 2) (b := 12) (hk_sub hk (Nat.le_of_ble_eq_true rfl) (Nat.le_of_ble_eq_true rfl)) hKM)
      replace hk := hk_bump (a := 2) (b := 12) (n := 0) (m := 0) (hk_sub hk (Nat.le_of_ble_eq_true rfl) (Nat.le_of_ble_eq_true rfl))
      refine j_istore C (lv' := [(5, .int r192.1), (0, .ref v0), (1, .ref v1), (2, .ref v2), (3, .ref v3), (4, .int v4)]) dL_law__1230 (by decide) rfl ?_
      refine j_aload_n C 3 dL_law__1232 rfl ?_
      refine j_aload_n C 1 dL_law__1233 rfl ?_
      refine j_iload C 5 dL_law__1234 rfl ?_
      refine j_iconst C (v := 1) dL_law__1236 rfl ?_
      refine j_iadd C dL_law__1237 ?_
      obtain ⟨h194, hm⟩ := gd_some hm
      refine j_sld C hS h194 dL_law__1238 ?_
      refine j_aload_n C 1 dL_law__1239 rfl ?_
      refine j_iload C 5 dL_law__1240 rfl ?_
      refine j_iconst C (v := 2) dL_law__1242 rfl ?_
      refine j_iadd C dL_law__1243 ?_
      obtain ⟨h195, hm⟩ := gd_some hm
      refine j_sld C hS h195 dL_law__1244 ?_
      obtain ⟨r196, h197, hm⟩ := bd_some hm
      refine call_I (run_LV C lk_L_184 ⟨rfl, rfl, Nat.le_of_ble_eq_true rfl, Nat.le_of_ble_eq_true rfl⟩ (As := [.int (sc (v4 + 1).toNatClampNeg), .int (sc (v4 + 2).toNatClampNeg)]) hv2 rfl rfl (Nat.le_of_ble_eq_true rfl) dL_law__1245 (mc_X12_flow _ _ _ _ _ _ _ hv2 h197)) ?_
      refine j_istore C (lv' := [(6, .int r196.1), (5, .int r192.1), (0, .ref v0), (1, .ref v1), (2, .ref v2), (3, .ref v3), (4, .int v4)]) dL_law__1248 (by decide) rfl ?_
      refine j_aload_n C 4 dL_law__1250 rfl ?_
      obtain ⟨r198, h199, hm⟩ := bd_some hm
      refine call_I (run_LV C lk_L_134 ⟨rfl, rfl, Nat.le_of_ble_eq_true rfl, Nat.le_of_ble_eq_true rfl⟩ (As := []) hv2 rfl rfl (Nat.le_of_ble_eq_true rfl) dL_law__1251 (mc_X12_thrown _ _ _ _ _ hv2 h199)) ?_
      refine j_iload C 1 dL_law__1254 rfl ?_
      refine j_icmp_eq C (tgt := 1261) dL_law__1256 (by decide) (fun h200 => ?_) (fun h200 => ?_)
      · replace hm := if_t hm h200
        refine j_iload C 1 dL_law__1261 rfl ?_
        refine j_if_ne C (tgt := 1278) dL_law__1263 (by decide) (fun h201 => ?_) (fun h201 => ?_)
        · replace hm := if_f hm h201
          refine j_sub [2, 3, 4, 5, 6] rfl ?_
          exact tj_L_law__1278 C _ _ _ _ _ _ _ _ _ _ hS hst hAL hKM (hk_sub hk (Nat.le_of_ble_eq_true rfl) (Nat.le_of_ble_eq_true rfl)) hk23 hv1 hv2 hv3 hm
        · replace hm := if_t hm h201
          refine j_aload_n C 5 dL_law__1266 rfl ?_
          refine j_iconst C (v := 0) dL_law__1267 rfl ?_
          obtain ⟨h202, hm⟩ := gd_some hm
          refine j_lald C hv3 h202 dL_law__1268 ?_
          refine j_iload C 0 dL_law__1269 rfl ?_
          refine j_i2l C dL_law__1271 ?_
          refine j_lcmp C dL_law__1272 ?_
          refine j_if_eq C (tgt := 1278) dL_law__1273 (by decide) (fun h203 => ?_) (fun h203 => ?_)
          · replace hm := if_t hm h203
            refine j_sub [2, 3, 4, 5, 6] rfl ?_
            exact tj_L_law__1278 C _ _ _ _ _ _ _ _ _ _ hS hst hAL hKM (hk_sub hk (Nat.le_of_ble_eq_true rfl) (Nat.le_of_ble_eq_true rfl)) hk23 hv1 hv2 hv3 hm
          · replace hm := if_f hm h203
            refine j_iconst C (v := 0) dL_law__1276 rfl ?_
            exact absurd (Option.some.inj hm) (by decide)
      · replace hm := if_f hm h200
        refine j_iconst C (v := 0) dL_law__1259 rfl ?_
        exact absurd (Option.some.inj hm) (by decide)
    replace hm := if_f hm h189
    by_cases h204 : ((sc v4.toNatClampNeg) &&& 63) = 17
    · replace hm := if_t hm h204
      refine j_tabI C (tgt := 1281) 17 dL_law__40 (by rw [h204]; first | done | rfl) (by decide) (by decide) rfl (by decide) ?_
      refine j_aload_n C 1 dL_law__1281 rfl ?_
      obtain ⟨r205, h206, hm⟩ := bd_some hm
      refine call_I (run_LV C lk_L_185 ⟨rfl, rfl, Nat.le_of_ble_eq_true rfl, Nat.le_of_ble_eq_true rfl⟩ (As := []) hv1 rfl rfl (Nat.le_of_ble_eq_true rfl) dL_law__1282 (mc_X11_pulls _ _ _ _ _ hv1 h206)) ?_
      refine j_aload_n C 2 dL_law__1285 rfl ?_
      obtain ⟨r207, h208, hm⟩ := bd_some hm
      refine call_I (run_LV C lk_L_188 ⟨rfl, rfl, Nat.le_of_ble_eq_true rfl, Nat.le_of_ble_eq_true rfl⟩ (As := []) hv2 rfl rfl (Nat.le_of_ble_eq_true rfl) dL_law__1286 (mc_X12_pulls _ _ _ _ _ hv2 h208)) ?_
      refine j_icmp_eq C (tgt := 2587) dL_law__1289 (by decide) (fun h209 => ?_) (fun h209 => ?_)
      · replace hm := if_t hm h209
        exact tj_L_law__2587 C _ _ _ _ _ _ _ _ _ _ hS hst hAL hKM (hk_sub hk (Nat.le_of_ble_eq_true rfl) (Nat.le_of_ble_eq_true rfl)) hk23 hv1 hv2 hv3 hm
      · replace hm := if_f hm h209
        refine j_iconst C (v := 0) dL_law__1292 rfl ?_
        exact absurd (Option.some.inj hm) (by decide)
    replace hm := if_f hm h204
    by_cases h210 : ((sc v4.toNatClampNeg) &&& 63) = 18
    · replace hm := if_t hm h210
      refine j_tabI C (tgt := 1294) 18 dL_law__40 (by rw [h210]; first | done | rfl) (by decide) (by decide) rfl (by decide) ?_
      refine j_aload_n C 1 dL_law__1294 rfl ?_
      obtain ⟨r211, h212, hm⟩ := bd_some hm
      refine call_I (run_LV C lk_L_189 ⟨rfl, rfl, Nat.le_of_ble_eq_true rfl, Nat.le_of_ble_eq_true rfl⟩ (As := []) hv1 rfl rfl (Nat.le_of_ble_eq_true rfl) dL_law__1295 (mc_X11_leaks _ _ _ _ _ hv1 h212)) ?_
      refine j_aload_n C 2 dL_law__1298 rfl ?_
      obtain ⟨r213, h214, hm⟩ := bd_some hm
      refine call_I (run_LV C lk_L_192 ⟨rfl, rfl, Nat.le_of_ble_eq_true rfl, Nat.le_of_ble_eq_true rfl⟩ (As := []) hv2 rfl rfl (Nat.le_of_ble_eq_true rfl) dL_law__1299 (mc_X12_leaks _ _ _ _ _ hv2 h214)) ?_
      refine j_icmp_eq C (tgt := 2587) dL_law__1302 (by decide) (fun h215 => ?_) (fun h215 => ?_)
      · replace hm := if_t hm h215
        exact tj_L_law__2587 C _ _ _ _ _ _ _ _ _ _ hS hst hAL hKM (hk_sub hk (Nat.le_of_ble_eq_true rfl) (Nat.le_of_ble_eq_true rfl)) hk23 hv1 hv2 hv3 hm
      · replace hm := if_f hm h215
        refine j_iconst C (v := 0) dL_law__1305 rfl ?_
        exact absurd (Option.some.inj hm) (by decide)
    replace hm := if_f hm h210
    by_cases h216 : ((sc v4.toNatClampNeg) &&& 63) = 19
    · replace hm := if_t hm h216
      refine j_tabI C (tgt := 1307) 19 dL_law__40 (by rw [h216]; first | done | rfl) (by decide) (by decide) rfl (by decide) ?_
      refine j_aload_n C 1 dL_law__1307 rfl ?_
      obtain ⟨r217, h218, hm⟩ := bd_some hm
      refine call_I (run_LV C lk_L_193 ⟨rfl, rfl, Nat.le_of_ble_eq_true rfl, Nat.le_of_ble_eq_true rfl⟩ (As := []) hv1 rfl rfl (Nat.le_of_ble_eq_true rfl) dL_law__1308 (mc_X11_even _ _ _ _ _ hv1 h218)) ?_
      refine j_aload_n C 2 dL_law__1311 rfl ?_
      obtain ⟨r219, h220, hm⟩ := bd_some hm
      refine call_I (run_LV C lk_L_197 ⟨rfl, rfl, Nat.le_of_ble_eq_true rfl, Nat.le_of_ble_eq_true rfl⟩ (As := []) hv2 rfl rfl (Nat.le_of_ble_eq_true rfl) dL_law__1312 (mc_X12_even _ _ _ _ _ hv2 h220)) ?_
      refine j_icmp_eq C (tgt := 2587) dL_law__1315 (by decide) (fun h221 => ?_) (fun h221 => ?_)
      · replace hm := if_t hm h221
        exact tj_L_law__2587 C _ _ _ _ _ _ _ _ _ _ hS hst hAL hKM (hk_sub hk (Nat.le_of_ble_eq_true rfl) (Nat.le_of_ble_eq_true rfl)) hk23 hv1 hv2 hv3 hm
      · replace hm := if_f hm h221
        refine j_iconst C (v := 0) dL_law__1318 rfl ?_
        exact absurd (Option.some.inj hm) (by decide)
    replace hm := if_f hm h216
    by_cases h222 : ((sc v4.toNatClampNeg) &&& 63) = 20
    · replace hm := if_t hm h222
      refine j_tabI C (tgt := 1320) 20 dL_law__40 (by rw [h222]; first | done | rfl) (by decide) (by decide) rfl (by decide) ?_
      refine j_aload_n C 1 dL_law__1320 rfl ?_
      obtain ⟨r223, h224, hm⟩ := bd_some hm
      refine call_I (run_LV C lk_L_198 ⟨rfl, rfl, Nat.le_of_ble_eq_true rfl, Nat.le_of_ble_eq_true rfl⟩ (As := []) hv1 rfl rfl (Nat.le_of_ble_eq_true rfl) dL_law__1321 (mc_X11_room _ _ _ _ _ hv1 h224)) ?_
      refine j_aload_n C 2 dL_law__1324 rfl ?_
      obtain ⟨r225, h226, hm⟩ := bd_some hm
      refine call_I (run_LV C lk_L_201 ⟨rfl, rfl, Nat.le_of_ble_eq_true rfl, Nat.le_of_ble_eq_true rfl⟩ (As := []) hv2 rfl rfl (Nat.le_of_ble_eq_true rfl) dL_law__1325 (mc_X12_room _ _ _ _ _ hv2 h226)) ?_
      refine j_icmp_eq C (tgt := 2587) dL_law__1328 (by decide) (fun h227 => ?_) (fun h227 => ?_)
      · replace hm := if_t hm h227
        exact tj_L_law__2587 C _ _ _ _ _ _ _ _ _ _ hS hst hAL hKM (hk_sub hk (Nat.le_of_ble_eq_true rfl) (Nat.le_of_ble_eq_true rfl)) hk23 hv1 hv2 hv3 hm
      · replace hm := if_f hm h227
        refine j_iconst C (v := 0) dL_law__1331 rfl ?_
        exact absurd (Option.some.inj hm) (by decide)
    replace hm := if_f hm h222
    by_cases h228 : ((sc v4.toNatClampNeg) &&& 63) = 21
    · replace hm := if_t hm h228
      refine j_tabI C (tgt := 1333) 21 dL_law__40 (by rw [h228]; first | done | rfl) (by decide) (by decide) rfl (by decide) ?_
      refine j_aload_n C 1 dL_law__1333 rfl ?_
      obtain ⟨r229, h230, hm⟩ := bd_some hm
      refine call_I (run_LV C lk_L_202 ⟨rfl, rfl, Nat.le_of_ble_eq_true rfl, Nat.le_of_ble_eq_true rfl⟩ (As := []) hv1 rfl rfl (Nat.le_of_ble_eq_true rfl) dL_law__1334 (mc_X11_load _ _ _ _ _ hv1 h230)) ?_
      refine j_aload_n C 2 dL_law__1337 rfl ?_
      obtain ⟨r231, h232, hm⟩ := bd_some hm
      refine call_I (run_LV C lk_L_205 ⟨rfl, rfl, Nat.le_of_ble_eq_true rfl, Nat.le_of_ble_eq_true rfl⟩ (As := []) hv2 rfl rfl (Nat.le_of_ble_eq_true rfl) dL_law__1338 (mc_X12_load _ _ _ _ _ hv2 h232)) ?_
      refine j_icmp_eq C (tgt := 2587) dL_law__1341 (by decide) (fun h233 => ?_) (fun h233 => ?_)
      · replace hm := if_t hm h233
        exact tj_L_law__2587 C _ _ _ _ _ _ _ _ _ _ hS hst hAL hKM (hk_sub hk (Nat.le_of_ble_eq_true rfl) (Nat.le_of_ble_eq_true rfl)) hk23 hv1 hv2 hv3 hm
      · replace hm := if_f hm h233
        refine j_iconst C (v := 0) dL_law__1344 rfl ?_
        exact absurd (Option.some.inj hm) (by decide)
    replace hm := if_f hm h228
    by_cases h234 : ((sc v4.toNatClampNeg) &&& 63) = 22
    · replace hm := if_t hm h234
      refine j_tabI C (tgt := 1346) 22 dL_law__40 (by rw [h234]; first | done | rfl) (by decide) (by decide) rfl (by decide) ?_
      refine j_aload_n C 1 dL_law__1346 rfl ?_
      obtain ⟨r235, h236, hm⟩ := bd_some hm
      refine call_I (run_LV C lk_L_206 ⟨rfl, rfl, Nat.le_of_ble_eq_true rfl, Nat.le_of_ble_eq_true rfl⟩ (As := []) hv1 rfl rfl (Nat.le_of_ble_eq_true rfl) dL_law__1347 (mc_X11_which _ _ _ _ _ hv1 h236)) ?_
      refine j_aload_n C 2 dL_law__1350 rfl ?_
      obtain ⟨r237, h238, hm⟩ := bd_some hm
      refine call_I (run_LV C lk_L_209 ⟨rfl, rfl, Nat.le_of_ble_eq_true rfl, Nat.le_of_ble_eq_true rfl⟩ (As := []) hv2 rfl rfl (Nat.le_of_ble_eq_true rfl) dL_law__1351 (mc_X12_which _ _ _ _ _ hv2 h238)) ?_
      refine j_icmp_eq C (tgt := 2587) dL_law__1354 (by decide) (fun h239 => ?_) (fun h239 => ?_)
      · replace hm := if_t hm h239
        exact tj_L_law__2587 C _ _ _ _ _ _ _ _ _ _ hS hst hAL hKM (hk_sub hk (Nat.le_of_ble_eq_true rfl) (Nat.le_of_ble_eq_true rfl)) hk23 hv1 hv2 hv3 hm
      · replace hm := if_f hm h239
        refine j_iconst C (v := 0) dL_law__1357 rfl ?_
        exact absurd (Option.some.inj hm) (by decide)
    replace hm := if_f hm h234
    by_cases h240 : ((sc v4.toNatClampNeg) &&& 63) = 23
    · replace hm := if_t hm h240
      refine j_tabI C (tgt := 1359) 23 dL_law__40 (by rw [h240]; first | done | rfl) (by decide) (by decide) rfl (by decide) ?_
      refine j_aload_n C 1 dL_law__1359 rfl ?_
      obtain ⟨r241, h242, hm⟩ := bd_some hm
      refine call_I (run_LV C lk_L_210 ⟨rfl, rfl, Nat.le_of_ble_eq_true rfl, Nat.le_of_ble_eq_true rfl⟩ (As := []) hv1 rfl rfl (Nat.le_of_ble_eq_true rfl) dL_law__1360 (mc_X11_dry _ _ _ _ _ hv1 h242)) ?_
      refine j_aload_n C 2 dL_law__1363 rfl ?_
      obtain ⟨r243, h244, hm⟩ := bd_some hm
      refine call_I (run_LV C lk_L_213 ⟨rfl, rfl, Nat.le_of_ble_eq_true rfl, Nat.le_of_ble_eq_true rfl⟩ (As := []) hv2 rfl rfl (Nat.le_of_ble_eq_true rfl) dL_law__1364 (mc_X12_dry _ _ _ _ _ hv2 h244)) ?_
      refine j_icmp_eq C (tgt := 2587) dL_law__1367 (by decide) (fun h245 => ?_) (fun h245 => ?_)
      · replace hm := if_t hm h245
        exact tj_L_law__2587 C _ _ _ _ _ _ _ _ _ _ hS hst hAL hKM (hk_sub hk (Nat.le_of_ble_eq_true rfl) (Nat.le_of_ble_eq_true rfl)) hk23 hv1 hv2 hv3 hm
      · replace hm := if_f hm h245
        refine j_iconst C (v := 0) dL_law__1370 rfl ?_
        exact absurd (Option.some.inj hm) (by decide)
    replace hm := if_f hm h240
    by_cases h246 : ((sc v4.toNatClampNeg) &&& 63) = 24
    · replace hm := if_t hm h246
      refine j_tabI C (tgt := 1372) 24 dL_law__40 (by rw [h246]; first | done | rfl) (by decide) (by decide) rfl (by decide) ?_
      refine j_aload_n C 1 dL_law__1372 rfl ?_
      obtain ⟨r247, h248, hm⟩ := bd_some hm
      refine call_I (run_LV C lk_L_214 ⟨rfl, rfl, Nat.le_of_ble_eq_true rfl, Nat.le_of_ble_eq_true rfl⟩ (As := []) hv1 rfl rfl (Nat.le_of_ble_eq_true rfl) dL_law__1373 (mc_X11_ready _ _ _ _ _ hv1 h248)) ?_
      refine j_aload_n C 2 dL_law__1376 rfl ?_
      obtain ⟨r249, h250, hm⟩ := bd_some hm
      refine call_I (run_LV C lk_L_217 ⟨rfl, rfl, Nat.le_of_ble_eq_true rfl, Nat.le_of_ble_eq_true rfl⟩ (As := []) hv2 rfl rfl (Nat.le_of_ble_eq_true rfl) dL_law__1377 (mc_X12_ready _ _ _ _ _ hv2 h250)) ?_
      refine j_icmp_eq C (tgt := 2587) dL_law__1380 (by decide) (fun h251 => ?_) (fun h251 => ?_)
      · replace hm := if_t hm h251
        exact tj_L_law__2587 C _ _ _ _ _ _ _ _ _ _ hS hst hAL hKM (hk_sub hk (Nat.le_of_ble_eq_true rfl) (Nat.le_of_ble_eq_true rfl)) hk23 hv1 hv2 hv3 hm
      · replace hm := if_f hm h251
        refine j_iconst C (v := 0) dL_law__1383 rfl ?_
        exact absurd (Option.some.inj hm) (by decide)
    replace hm := if_f hm h246
    by_cases h252 : ((sc v4.toNatClampNeg) &&& 63) = 25
    · replace hm := if_t hm h252
      refine j_tabI C (tgt := 1385) 25 dL_law__40 (by rw [h252]; first | done | rfl) (by decide) (by decide) rfl (by decide) ?_
      refine j_aload_n C 1 dL_law__1385 rfl ?_
      obtain ⟨r253, h254, hm⟩ := bd_some hm
      refine call_I (run_LV C lk_L_218 ⟨rfl, rfl, Nat.le_of_ble_eq_true rfl, Nat.le_of_ble_eq_true rfl⟩ (As := []) hv1 rfl rfl (Nat.le_of_ble_eq_true rfl) dL_law__1386 (mc_X11_ease _ _ _ _ _ hv1 h254)) ?_
      refine j_aload_n C 2 dL_law__1389 rfl ?_
      obtain ⟨r255, h256, hm⟩ := bd_some hm
      refine call_I (run_LV C lk_L_221 ⟨rfl, rfl, Nat.le_of_ble_eq_true rfl, Nat.le_of_ble_eq_true rfl⟩ (As := []) hv2 rfl rfl (Nat.le_of_ble_eq_true rfl) dL_law__1390 (mc_X12_ease _ _ _ _ _ hv2 h256)) ?_
      refine j_icmp_eq C (tgt := 2587) dL_law__1393 (by decide) (fun h257 => ?_) (fun h257 => ?_)
      · replace hm := if_t hm h257
        exact tj_L_law__2587 C _ _ _ _ _ _ _ _ _ _ hS hst hAL hKM (hk_sub hk (Nat.le_of_ble_eq_true rfl) (Nat.le_of_ble_eq_true rfl)) hk23 hv1 hv2 hv3 hm
      · replace hm := if_f hm h257
        refine j_iconst C (v := 0) dL_law__1396 rfl ?_
        exact absurd (Option.some.inj hm) (by decide)
    replace hm := if_f hm h252
    by_cases h258 : ((sc v4.toNatClampNeg) &&& 63) = 26
    · replace hm := if_t hm h258
      refine j_tabI C (tgt := 1398) 26 dL_law__40 (by rw [h258]; first | done | rfl) (by decide) (by decide) rfl (by decide) ?_
      refine j_aload_n C 1 dL_law__1398 rfl ?_
      obtain ⟨r259, h260, hm⟩ := bd_some hm
      refine call_I (run_LV C lk_L_222 ⟨rfl, rfl, Nat.le_of_ble_eq_true rfl, Nat.le_of_ble_eq_true rfl⟩ (As := []) hv1 rfl rfl (Nat.le_of_ble_eq_true rfl) dL_law__1399 (mc_X11_cost _ _ _ _ _ hv1 h260)) ?_
      refine j_aload_n C 2 dL_law__1402 rfl ?_
      obtain ⟨r261, h262, hm⟩ := bd_some hm
      refine call_I (run_LV C lk_L_225 ⟨rfl, rfl, Nat.le_of_ble_eq_true rfl, Nat.le_of_ble_eq_true rfl⟩ (As := []) hv2 rfl rfl (Nat.le_of_ble_eq_true rfl) dL_law__1403 (mc_X12_cost _ _ _ _ _ hv2 h262)) ?_
      refine j_icmp_eq C (tgt := 2587) dL_law__1406 (by decide) (fun h263 => ?_) (fun h263 => ?_)
      · replace hm := if_t hm h263
        exact tj_L_law__2587 C _ _ _ _ _ _ _ _ _ _ hS hst hAL hKM (hk_sub hk (Nat.le_of_ble_eq_true rfl) (Nat.le_of_ble_eq_true rfl)) hk23 hv1 hv2 hv3 hm
      · replace hm := if_f hm h263
        refine j_iconst C (v := 0) dL_law__1409 rfl ?_
        exact absurd (Option.some.inj hm) (by decide)
    replace hm := if_f hm h258
    by_cases h264 : ((sc v4.toNatClampNeg) &&& 63) = 27
    · replace hm := if_t hm h264
      refine j_tabI C (tgt := 1411) 27 dL_law__40 (by rw [h264]; first | done | rfl) (by decide) (by decide) rfl (by decide) ?_
      refine j_aload_n C 1 dL_law__1411 rfl ?_
      obtain ⟨r265, h266, hm⟩ := bd_some hm
      refine call_I (run_LV C lk_L_226 ⟨rfl, rfl, Nat.le_of_ble_eq_true rfl, Nat.le_of_ble_eq_true rfl⟩ (As := []) hv1 rfl rfl (Nat.le_of_ble_eq_true rfl) dL_law__1412 (mc_X11_first _ _ _ _ _ hv1 h266)) ?_
      refine j_aload_n C 2 dL_law__1415 rfl ?_
      obtain ⟨r267, h268, hm⟩ := bd_some hm
      refine call_I (run_LV C lk_L_229 ⟨rfl, rfl, Nat.le_of_ble_eq_true rfl, Nat.le_of_ble_eq_true rfl⟩ (As := []) hv2 rfl rfl (Nat.le_of_ble_eq_true rfl) dL_law__1416 (mc_X12_first _ _ _ _ _ hv2 h268)) ?_
      refine j_icmp_eq C (tgt := 2587) dL_law__1419 (by decide) (fun h269 => ?_) (fun h269 => ?_)
      · replace hm := if_t hm h269
        exact tj_L_law__2587 C _ _ _ _ _ _ _ _ _ _ hS hst hAL hKM (hk_sub hk (Nat.le_of_ble_eq_true rfl) (Nat.le_of_ble_eq_true rfl)) hk23 hv1 hv2 hv3 hm
      · replace hm := if_f hm h269
        refine j_iconst C (v := 0) dL_law__1422 rfl ?_
        exact absurd (Option.some.inj hm) (by decide)
    replace hm := if_f hm h264
    by_cases h270 : ((sc v4.toNatClampNeg) &&& 63) = 28
    · replace hm := if_t hm h270
      refine j_tabI C (tgt := 1424) 28 dL_law__40 (by rw [h270]; first | done | rfl) (by decide) (by decide) rfl (by decide) ?_
      refine j_aload_n C 1 dL_law__1424 rfl ?_
      refine j_aload_n C 0 dL_law__1425 rfl ?_
      refine j_iload C 4 dL_law__1426 rfl ?_
      refine j_iconst C (v := 1) dL_law__1428 rfl ?_
      refine j_iadd C dL_law__1429 ?_
      obtain ⟨h271, hm⟩ := gd_some hm
      refine j_sld C hS h271 dL_law__1430 ?_
      refine j_if_eq C (tgt := 1438) dL_law__1431 (by decide) (fun h272 => ?_) (fun h272 => ?_)
      · replace hm := if_t hm h272
        refine j_iconst C (v := 0) dL_law__1438 rfl ?_
        exact tj_L_law__1439 C _ _ _ _ _ _ _ _ _ _ _ _ hS hst hAL hKM (hk_sub hk (Nat.le_of_ble_eq_true rfl) (Nat.le_of_ble_eq_true rfl)) hk23 hv1 hv2 hv3 hv1 hm
      · replace hm := if_f hm h272
        refine j_iconst C (v := 1) dL_law__1434 rfl ?_
        refine j_goto C (tgt := 1439) dL_law__1435 (by decide) ?_
        exact tj_L_law__1439 C _ _ _ _ _ _ _ _ _ _ _ _ hS hst hAL hKM (hk_sub hk (Nat.le_of_ble_eq_true rfl) (Nat.le_of_ble_eq_true rfl)) hk23 hv1 hv2 hv3 hv1 hm
    replace hm := if_f hm h270
    by_cases h273 : ((sc v4.toNatClampNeg) &&& 63) = 29
    · replace hm := if_t hm h273
      refine j_tabI C (tgt := 1496) 29 dL_law__40 (by rw [h273]; first | done | rfl) (by decide) (by decide) rfl (by decide) ?_
      refine j_aload_n C 1 dL_law__1496 rfl ?_
      refine j_aload_n C 3 dL_law__1497 rfl ?_
      obtain ⟨r274, h275, hm⟩ := bd_some hm
      refine call_W C lkw_233 ⟨Nat.le_of_ble_eq_true rfl, Nat.le_of_ble_eq_true rfl⟩ (hk_room (hk_sub hk (Nat.le_of_ble_eq_true rfl) (Nat.le_of_ble_eq_true rfl)) hKM) (As := [.ref v1, .ref v3]) rfl rfl (Nat.le_of_ble_eq_true rfl) dL_law__1498 (mw_L_ask _ hst _ _ _ _ _ hv1 hv3 h275) ?_
      replace C := Cx_bump (a := 1) (b := 6) C (hk_room (a := 1) (b := 6) (hk_sub hk (Nat.le_of_ble_eq_true rfl) (Nat.le_of_ble_eq_true rfl)) hKM)
      replace hk := hk_bump (a := 1) (b := 6) (n := 0) (m := 0) (hk_sub hk (Nat.le_of_ble_eq_true rfl) (Nat.le_of_ble_eq_true rfl))
      refine j_istore C (lv' := [(5, .int r274.1), (0, .ref v0), (1, .ref v1), (2, .ref v2), (3, .ref v3), (4, .int v4)]) dL_law__1501 (by decide) rfl ?_
      refine j_aload_n C 3 dL_law__1503 rfl ?_
      obtain ⟨r276, h277, hm⟩ := bd_some hm
      refine call_I (run_LV C lk_L_235 ⟨rfl, rfl, Nat.le_of_ble_eq_true rfl, Nat.le_of_ble_eq_true rfl⟩ (As := []) hv2 rfl rfl (Nat.le_of_ble_eq_true rfl) dL_law__1504 (mc_X12_ask _ _ _ _ _ hv2 h277)) ?_
      refine j_istore C (lv' := [(6, .int r276.1), (5, .int r274.1), (0, .ref v0), (1, .ref v1), (2, .ref v2), (3, .ref v3), (4, .int v4)]) dL_law__1507 (by decide) rfl ?_
      refine j_aload_n C 4 dL_law__1509 rfl ?_
      obtain ⟨r278, h279, hm⟩ := bd_some hm
      refine call_I (run_LV C lk_L_134 ⟨rfl, rfl, Nat.le_of_ble_eq_true rfl, Nat.le_of_ble_eq_true rfl⟩ (As := []) hv2 rfl rfl (Nat.le_of_ble_eq_true rfl) dL_law__1510 (mc_X12_thrown _ _ _ _ _ hv2 h279)) ?_
      refine j_iload C 1 dL_law__1513 rfl ?_
      refine j_icmp_eq C (tgt := 1520) dL_law__1515 (by decide) (fun h280 => ?_) (fun h280 => ?_)
      · replace hm := if_t hm h280
        refine j_iload C 1 dL_law__1520 rfl ?_
        refine j_if_ne C (tgt := 1537) dL_law__1522 (by decide) (fun h281 => ?_) (fun h281 => ?_)
        · replace hm := if_f hm h281
          refine j_sub [2, 3, 4, 5, 6] rfl ?_
          exact tj_L_law__1537 C _ _ _ _ _ _ _ _ _ _ hS hst hAL hKM (hk_sub hk (Nat.le_of_ble_eq_true rfl) (Nat.le_of_ble_eq_true rfl)) hk23 hv1 hv2 hv3 hm
        · replace hm := if_t hm h281
          refine j_aload_n C 5 dL_law__1525 rfl ?_
          refine j_iconst C (v := 0) dL_law__1526 rfl ?_
          obtain ⟨h282, hm⟩ := gd_some hm
          refine j_lald C hv3 h282 dL_law__1527 ?_
          refine j_iload C 0 dL_law__1528 rfl ?_
          refine j_i2l C dL_law__1530 ?_
          refine j_lcmp C dL_law__1531 ?_
          refine j_if_eq C (tgt := 1537) dL_law__1532 (by decide) (fun h283 => ?_) (fun h283 => ?_)
          · replace hm := if_t hm h283
            refine j_sub [2, 3, 4, 5, 6] rfl ?_
            exact tj_L_law__1537 C _ _ _ _ _ _ _ _ _ _ hS hst hAL hKM (hk_sub hk (Nat.le_of_ble_eq_true rfl) (Nat.le_of_ble_eq_true rfl)) hk23 hv1 hv2 hv3 hm
          · replace hm := if_f hm h283
            refine j_iconst C (v := 0) dL_law__1535 rfl ?_
            exact absurd (Option.some.inj hm) (by decide)
      · replace hm := if_f hm h280
        refine j_iconst C (v := 0) dL_law__1518 rfl ?_
        exact absurd (Option.some.inj hm) (by decide)
    replace hm := if_f hm h273
    by_cases h284 : ((sc v4.toNatClampNeg) &&& 63) = 30
    · replace hm := if_t hm h284
      refine j_tabI C (tgt := 1540) 30 dL_law__40 (by rw [h284]; first | done | rfl) (by decide) (by decide) rfl (by decide) ?_
      refine j_aload_n C 1 dL_law__1540 rfl ?_
      refine j_aload_n C 3 dL_law__1541 rfl ?_
      obtain ⟨r285, h286, hm⟩ := bd_some hm
      refine call_W C lkw_236 ⟨Nat.le_of_ble_eq_true rfl, Nat.le_of_ble_eq_true rfl⟩ (hk_room (hk_sub hk (Nat.le_of_ble_eq_true rfl) (Nat.le_of_ble_eq_true rfl)) hKM) (As := [.ref v1, .ref v3]) rfl rfl (Nat.le_of_ble_eq_true rfl) dL_law__1542 (mw_L_lies _ hst _ _ _ _ _ hv1 hv3 h286) ?_
      replace C := Cx_bump (a := 1) (b := 6) C (hk_room (a := 1) (b := 6) (hk_sub hk (Nat.le_of_ble_eq_true rfl) (Nat.le_of_ble_eq_true rfl)) hKM)
      replace hk := hk_bump (a := 1) (b := 6) (n := 0) (m := 0) (hk_sub hk (Nat.le_of_ble_eq_true rfl) (Nat.le_of_ble_eq_true rfl))
      refine j_istore C (lv' := [(5, .int r285.1), (0, .ref v0), (1, .ref v1), (2, .ref v2), (3, .ref v3), (4, .int v4)]) dL_law__1545 (by decide) rfl ?_
      refine j_aload_n C 3 dL_law__1547 rfl ?_
      obtain ⟨r287, h288, hm⟩ := bd_some hm
      refine call_I (run_LV C lk_L_238 ⟨rfl, rfl, Nat.le_of_ble_eq_true rfl, Nat.le_of_ble_eq_true rfl⟩ (As := []) hv2 rfl rfl (Nat.le_of_ble_eq_true rfl) dL_law__1548 (mc_X12_lies _ _ _ _ _ hv2 h288)) ?_
      refine j_istore C (lv' := [(6, .int r287.1), (5, .int r285.1), (0, .ref v0), (1, .ref v1), (2, .ref v2), (3, .ref v3), (4, .int v4)]) dL_law__1551 (by decide) rfl ?_
      refine j_aload_n C 4 dL_law__1553 rfl ?_
      obtain ⟨r289, h290, hm⟩ := bd_some hm
      refine call_I (run_LV C lk_L_134 ⟨rfl, rfl, Nat.le_of_ble_eq_true rfl, Nat.le_of_ble_eq_true rfl⟩ (As := []) hv2 rfl rfl (Nat.le_of_ble_eq_true rfl) dL_law__1554 (mc_X12_thrown _ _ _ _ _ hv2 h290)) ?_
      refine j_iload C 1 dL_law__1557 rfl ?_
      refine j_icmp_eq C (tgt := 1564) dL_law__1559 (by decide) (fun h291 => ?_) (fun h291 => ?_)
      · replace hm := if_t hm h291
        refine j_iload C 1 dL_law__1564 rfl ?_
        refine j_if_ne C (tgt := 1581) dL_law__1566 (by decide) (fun h292 => ?_) (fun h292 => ?_)
        · replace hm := if_f hm h292
          refine j_sub [2, 3, 4, 5, 6] rfl ?_
          exact tj_L_law__1581 C _ _ _ _ _ _ _ _ _ _ hS hst hAL hKM (hk_sub hk (Nat.le_of_ble_eq_true rfl) (Nat.le_of_ble_eq_true rfl)) hk23 hv1 hv2 hv3 hm
        · replace hm := if_t hm h292
          refine j_aload_n C 5 dL_law__1569 rfl ?_
          refine j_iconst C (v := 0) dL_law__1570 rfl ?_
          obtain ⟨h293, hm⟩ := gd_some hm
          refine j_lald C hv3 h293 dL_law__1571 ?_
          refine j_iload C 0 dL_law__1572 rfl ?_
          refine j_i2l C dL_law__1574 ?_
          refine j_lcmp C dL_law__1575 ?_
          refine j_if_eq C (tgt := 1581) dL_law__1576 (by decide) (fun h294 => ?_) (fun h294 => ?_)
          · replace hm := if_t hm h294
            refine j_sub [2, 3, 4, 5, 6] rfl ?_
            exact tj_L_law__1581 C _ _ _ _ _ _ _ _ _ _ hS hst hAL hKM (hk_sub hk (Nat.le_of_ble_eq_true rfl) (Nat.le_of_ble_eq_true rfl)) hk23 hv1 hv2 hv3 hm
          · replace hm := if_f hm h294
            refine j_iconst C (v := 0) dL_law__1579 rfl ?_
            exact absurd (Option.some.inj hm) (by decide)
      · replace hm := if_f hm h291
        refine j_iconst C (v := 0) dL_law__1562 rfl ?_
        exact absurd (Option.some.inj hm) (by decide)
    replace hm := if_f hm h284
    by_cases h295 : ((sc v4.toNatClampNeg) &&& 63) = 31
    · replace hm := if_t hm h295
      refine j_tabI C (tgt := 1584) 31 dL_law__40 (by rw [h295]; first | done | rfl) (by decide) (by decide) rfl (by decide) ?_
      refine j_aload_n C 1 dL_law__1584 rfl ?_
      refine j_aload_n C 3 dL_law__1585 rfl ?_
      obtain ⟨r296, h297, hm⟩ := bd_some hm
      refine call_W C lkw_239 ⟨Nat.le_of_ble_eq_true rfl, Nat.le_of_ble_eq_true rfl⟩ (hk_room (hk_sub hk (Nat.le_of_ble_eq_true rfl) (Nat.le_of_ble_eq_true rfl)) hKM) (As := [.ref v1, .ref v3]) rfl rfl (Nat.le_of_ble_eq_true rfl) dL_law__1586 (mw_L_likely _ hst _ _ _ _ _ hv1 hv3 h297) ?_
      replace C := Cx_bump (a := 1) (b := 6) C (hk_room (a := 1) (b := 6) (hk_sub hk (Nat.le_of_ble_eq_true rfl) (Nat.le_of_ble_eq_true rfl)) hKM)
      replace hk := hk_bump (a := 1) (b := 6) (n := 0) (m := 0) (hk_sub hk (Nat.le_of_ble_eq_true rfl) (Nat.le_of_ble_eq_true rfl))
      refine j_istore C (lv' := [(5, .int r296.1), (0, .ref v0), (1, .ref v1), (2, .ref v2), (3, .ref v3), (4, .int v4)]) dL_law__1589 (by decide) rfl ?_
      refine j_aload_n C 3 dL_law__1591 rfl ?_
      obtain ⟨r298, h299, hm⟩ := bd_some hm
      refine call_I (run_LV C lk_L_241 ⟨rfl, rfl, Nat.le_of_ble_eq_true rfl, Nat.le_of_ble_eq_true rfl⟩ (As := []) hv2 rfl rfl (Nat.le_of_ble_eq_true rfl) dL_law__1592 (mc_X12_likely _ _ _ _ _ hv2 h299)) ?_
      refine j_istore C (lv' := [(6, .int r298.1), (5, .int r296.1), (0, .ref v0), (1, .ref v1), (2, .ref v2), (3, .ref v3), (4, .int v4)]) dL_law__1595 (by decide) rfl ?_
      refine j_aload_n C 4 dL_law__1597 rfl ?_
      obtain ⟨r300, h301, hm⟩ := bd_some hm
      refine call_I (run_LV C lk_L_134 ⟨rfl, rfl, Nat.le_of_ble_eq_true rfl, Nat.le_of_ble_eq_true rfl⟩ (As := []) hv2 rfl rfl (Nat.le_of_ble_eq_true rfl) dL_law__1598 (mc_X12_thrown _ _ _ _ _ hv2 h301)) ?_
      refine j_iload C 1 dL_law__1601 rfl ?_
      refine j_icmp_eq C (tgt := 1608) dL_law__1603 (by decide) (fun h302 => ?_) (fun h302 => ?_)
      · replace hm := if_t hm h302
        refine j_iload C 1 dL_law__1608 rfl ?_
        refine j_if_ne C (tgt := 1625) dL_law__1610 (by decide) (fun h303 => ?_) (fun h303 => ?_)
        · replace hm := if_f hm h303
          refine j_sub [2, 3, 4, 5, 6] rfl ?_
          exact tj_L_law__1625 C _ _ _ _ _ _ _ _ _ _ hS hst hAL hKM (hk_sub hk (Nat.le_of_ble_eq_true rfl) (Nat.le_of_ble_eq_true rfl)) hk23 hv1 hv2 hv3 hm
        · replace hm := if_t hm h303
          refine j_aload_n C 5 dL_law__1613 rfl ?_
          refine j_iconst C (v := 0) dL_law__1614 rfl ?_
          obtain ⟨h304, hm⟩ := gd_some hm
          refine j_lald C hv3 h304 dL_law__1615 ?_
          refine j_iload C 0 dL_law__1616 rfl ?_
          refine j_i2l C dL_law__1618 ?_
          refine j_lcmp C dL_law__1619 ?_
          refine j_if_eq C (tgt := 1625) dL_law__1620 (by decide) (fun h305 => ?_) (fun h305 => ?_)
          · replace hm := if_t hm h305
            refine j_sub [2, 3, 4, 5, 6] rfl ?_
            exact tj_L_law__1625 C _ _ _ _ _ _ _ _ _ _ hS hst hAL hKM (hk_sub hk (Nat.le_of_ble_eq_true rfl) (Nat.le_of_ble_eq_true rfl)) hk23 hv1 hv2 hv3 hm
          · replace hm := if_f hm h305
            refine j_iconst C (v := 0) dL_law__1623 rfl ?_
            exact absurd (Option.some.inj hm) (by decide)
      · replace hm := if_f hm h302
        refine j_iconst C (v := 0) dL_law__1606 rfl ?_
        exact absurd (Option.some.inj hm) (by decide)
    replace hm := if_f hm h295
    by_cases h306 : ((sc v4.toNatClampNeg) &&& 63) = 32
    · replace hm := if_t hm h306
      refine j_tabI C (tgt := 1628) 32 dL_law__40 (by rw [h306]; first | done | rfl) (by decide) (by decide) rfl (by decide) ?_
      refine j_aload_n C 1 dL_law__1628 rfl ?_
      refine j_aload_n C 3 dL_law__1629 rfl ?_
      obtain ⟨r307, h308, hm⟩ := bd_some hm
      refine call_W C lkw_242 ⟨Nat.le_of_ble_eq_true rfl, Nat.le_of_ble_eq_true rfl⟩ (hk_room (hk_sub hk (Nat.le_of_ble_eq_true rfl) (Nat.le_of_ble_eq_true rfl)) hKM) (As := [.ref v1, .ref v3]) rfl rfl (Nat.le_of_ble_eq_true rfl) dL_law__1630 (mw_L_sound _ hst _ _ _ _ _ hv1 hv3 h308) ?_
      replace C := Cx_bump (a := 1) (b := 6) C (hk_room (a := 1) (b := 6) (hk_sub hk (Nat.le_of_ble_eq_true rfl) (Nat.le_of_ble_eq_true rfl)) hKM)
      replace hk := hk_bump (a := 1) (b := 6) (n := 0) (m := 0) (hk_sub hk (Nat.le_of_ble_eq_true rfl) (Nat.le_of_ble_eq_true rfl))
      refine j_istore C (lv' := [(5, .int r307.1), (0, .ref v0), (1, .ref v1), (2, .ref v2), (3, .ref v3), (4, .int v4)]) dL_law__1633 (by decide) rfl ?_
      refine j_aload_n C 3 dL_law__1635 rfl ?_
      obtain ⟨r309, h310, hm⟩ := bd_some hm
      refine call_I (run_LV C lk_L_244 ⟨rfl, rfl, Nat.le_of_ble_eq_true rfl, Nat.le_of_ble_eq_true rfl⟩ (As := []) hv2 rfl rfl (Nat.le_of_ble_eq_true rfl) dL_law__1636 (mc_X12_sound _ _ _ _ _ hv2 h310)) ?_
      refine j_istore C (lv' := [(6, .int r309.1), (5, .int r307.1), (0, .ref v0), (1, .ref v1), (2, .ref v2), (3, .ref v3), (4, .int v4)]) dL_law__1639 (by decide) rfl ?_
      refine j_aload_n C 4 dL_law__1641 rfl ?_
      obtain ⟨r311, h312, hm⟩ := bd_some hm
      refine call_I (run_LV C lk_L_134 ⟨rfl, rfl, Nat.le_of_ble_eq_true rfl, Nat.le_of_ble_eq_true rfl⟩ (As := []) hv2 rfl rfl (Nat.le_of_ble_eq_true rfl) dL_law__1642 (mc_X12_thrown _ _ _ _ _ hv2 h312)) ?_
      refine j_iload C 1 dL_law__1645 rfl ?_
      refine j_icmp_eq C (tgt := 1652) dL_law__1647 (by decide) (fun h313 => ?_) (fun h313 => ?_)
      · replace hm := if_t hm h313
        refine j_iload C 1 dL_law__1652 rfl ?_
        refine j_if_ne C (tgt := 1669) dL_law__1654 (by decide) (fun h314 => ?_) (fun h314 => ?_)
        · replace hm := if_f hm h314
          refine j_sub [2, 3, 4, 5, 6] rfl ?_
          exact tj_L_law__1669 C _ _ _ _ _ _ _ _ _ _ hS hst hAL hKM (hk_sub hk (Nat.le_of_ble_eq_true rfl) (Nat.le_of_ble_eq_true rfl)) hk23 hv1 hv2 hv3 hm
        · replace hm := if_t hm h314
          refine j_aload_n C 5 dL_law__1657 rfl ?_
          refine j_iconst C (v := 0) dL_law__1658 rfl ?_
          obtain ⟨h315, hm⟩ := gd_some hm
          refine j_lald C hv3 h315 dL_law__1659 ?_
          refine j_iload C 0 dL_law__1660 rfl ?_
          refine j_i2l C dL_law__1662 ?_
          refine j_lcmp C dL_law__1663 ?_
          refine j_if_eq C (tgt := 1669) dL_law__1664 (by decide) (fun h316 => ?_) (fun h316 => ?_)
          · replace hm := if_t hm h316
            refine j_sub [2, 3, 4, 5, 6] rfl ?_
            exact tj_L_law__1669 C _ _ _ _ _ _ _ _ _ _ hS hst hAL hKM (hk_sub hk (Nat.le_of_ble_eq_true rfl) (Nat.le_of_ble_eq_true rfl)) hk23 hv1 hv2 hv3 hm
          · replace hm := if_f hm h316
            refine j_iconst C (v := 0) dL_law__1667 rfl ?_
            exact absurd (Option.some.inj hm) (by decide)
      · replace hm := if_f hm h313
        refine j_iconst C (v := 0) dL_law__1650 rfl ?_
        exact absurd (Option.some.inj hm) (by decide)
    replace hm := if_f hm h306
    by_cases h317 : ((sc v4.toNatClampNeg) &&& 63) = 33
    · replace hm := if_t hm h317
      refine j_tabI C (tgt := 1672) 33 dL_law__40 (by rw [h317]; first | done | rfl) (by decide) (by decide) rfl (by decide) ?_
      refine j_aload_n C 1 dL_law__1672 rfl ?_
      obtain ⟨r318, h319, hm⟩ := bd_some hm
      refine call_I (run_LV C lk_L_245 ⟨rfl, rfl, Nat.le_of_ble_eq_true rfl, Nat.le_of_ble_eq_true rfl⟩ (As := []) hv1 rfl rfl (Nat.le_of_ble_eq_true rfl) dL_law__1673 (mc_X11_knocks _ _ _ _ _ hv1 h319)) ?_
      refine j_aload_n C 2 dL_law__1676 rfl ?_
      obtain ⟨r320, h321, hm⟩ := bd_some hm
      refine call_I (run_LV C lk_L_248 ⟨rfl, rfl, Nat.le_of_ble_eq_true rfl, Nat.le_of_ble_eq_true rfl⟩ (As := []) hv2 rfl rfl (Nat.le_of_ble_eq_true rfl) dL_law__1677 (mc_X12_knocks _ _ _ _ _ hv2 h321)) ?_
      refine j_icmp_eq C (tgt := 2587) dL_law__1680 (by decide) (fun h322 => ?_) (fun h322 => ?_)
      · replace hm := if_t hm h322
        exact tj_L_law__2587 C _ _ _ _ _ _ _ _ _ _ hS hst hAL hKM (hk_sub hk (Nat.le_of_ble_eq_true rfl) (Nat.le_of_ble_eq_true rfl)) hk23 hv1 hv2 hv3 hm
      · replace hm := if_f hm h322
        refine j_iconst C (v := 0) dL_law__1683 rfl ?_
        exact absurd (Option.some.inj hm) (by decide)
    replace hm := if_f hm h317
    by_cases h323 : ((sc v4.toNatClampNeg) &&& 63) = 34
    · replace hm := if_t hm h323
      refine j_tabI C (tgt := 1685) 34 dL_law__40 (by rw [h323]; first | done | rfl) (by decide) (by decide) rfl (by decide) ?_
      refine j_aload_n C 1 dL_law__1685 rfl ?_
      obtain ⟨r324, h325, hm⟩ := bd_some hm
      refine call_I (run_LV C lk_L_249 ⟨rfl, rfl, Nat.le_of_ble_eq_true rfl, Nat.le_of_ble_eq_true rfl⟩ (As := []) hv1 rfl rfl (Nat.le_of_ble_eq_true rfl) dL_law__1686 (mc_X11_knock _ _ _ _ _ hv1 h325)) ?_
      refine j_aload_n C 2 dL_law__1689 rfl ?_
      obtain ⟨r326, h327, hm⟩ := bd_some hm
      refine call_I (run_LV C lk_L_252 ⟨rfl, rfl, Nat.le_of_ble_eq_true rfl, Nat.le_of_ble_eq_true rfl⟩ (As := []) hv2 rfl rfl (Nat.le_of_ble_eq_true rfl) dL_law__1690 (mc_X12_knock _ _ _ _ _ hv2 h327)) ?_
      refine j_icmp_eq C (tgt := 2587) dL_law__1693 (by decide) (fun h328 => ?_) (fun h328 => ?_)
      · replace hm := if_t hm h328
        exact tj_L_law__2587 C _ _ _ _ _ _ _ _ _ _ hS hst hAL hKM (hk_sub hk (Nat.le_of_ble_eq_true rfl) (Nat.le_of_ble_eq_true rfl)) hk23 hv1 hv2 hv3 hm
      · replace hm := if_f hm h328
        refine j_iconst C (v := 0) dL_law__1696 rfl ?_
        exact absurd (Option.some.inj hm) (by decide)
    replace hm := if_f hm h323
    by_cases h329 : ((sc v4.toNatClampNeg) &&& 63) = 35
    · replace hm := if_t hm h329
      refine j_tabI C (tgt := 1698) 35 dL_law__40 (by rw [h329]; first | done | rfl) (by decide) (by decide) rfl (by decide) ?_
      refine j_aload_n C 1 dL_law__1698 rfl ?_
      refine j_aload_n C 0 dL_law__1699 rfl ?_
      refine j_iload C 4 dL_law__1700 rfl ?_
      refine j_iconst C (v := 1) dL_law__1702 rfl ?_
      refine j_iadd C dL_law__1703 ?_
      obtain ⟨h330, hm⟩ := gd_some hm
      refine j_sld C hS h330 dL_law__1704 ?_
      refine j_aload_n C 3 dL_law__1705 rfl ?_
      obtain ⟨r331, h332, hm⟩ := bd_some hm
      refine call_W C lkw_253 ⟨Nat.le_of_ble_eq_true rfl, Nat.le_of_ble_eq_true rfl⟩ (hk_room (hk_sub hk (Nat.le_of_ble_eq_true rfl) (Nat.le_of_ble_eq_true rfl)) hKM) (As := [.ref v1, .int (sc (v4 + 1).toNatClampNeg), .ref v3]) rfl rfl (Nat.le_of_ble_eq_true rfl) dL_law__1706 (mw_L_beds _ hst _ _ _ _ _ _ hv1 hv3 h332) ?_
      replace C := Cx_bump (a := 1) (b := 6) C (hk_room (a := 1) (b := 6) (hk_sub hk (Nat.le_of_ble_eq_true rfl) (Nat.le_of_ble_eq_true rfl)) hKM)
      replace hk := hk_bump (a := 1) (b := 6) (n := 0) (m := 0) (hk_sub hk (Nat.le_of_ble_eq_true rfl) (Nat.le_of_ble_eq_true rfl))
      refine j_istore C (lv' := [(5, .int r331.1), (0, .ref v0), (1, .ref v1), (2, .ref v2), (3, .ref v3), (4, .int v4)]) dL_law__1709 (by decide) rfl ?_
      refine j_aload_n C 3 dL_law__1711 rfl ?_
      refine j_aload_n C 1 dL_law__1712 rfl ?_
      refine j_iload C 5 dL_law__1713 rfl ?_
      refine j_iconst C (v := 1) dL_law__1715 rfl ?_
      refine j_iadd C dL_law__1716 ?_
      obtain ⟨h333, hm⟩ := gd_some hm
      refine j_sld C hS h333 dL_law__1717 ?_
      obtain ⟨r334, h335, hm⟩ := bd_some hm
      refine call_I (run_LV C lk_L_255 ⟨rfl, rfl, Nat.le_of_ble_eq_true rfl, Nat.le_of_ble_eq_true rfl⟩ (As := [.int (sc (v4 + 1).toNatClampNeg)]) hv2 rfl rfl (Nat.le_of_ble_eq_true rfl) dL_law__1718 (mc_X12_beds _ _ _ _ _ _ hv2 h335)) ?_
      refine j_istore C (lv' := [(6, .int r334.1), (5, .int r331.1), (0, .ref v0), (1, .ref v1), (2, .ref v2), (3, .ref v3), (4, .int v4)]) dL_law__1721 (by decide) rfl ?_
      refine j_aload_n C 4 dL_law__1723 rfl ?_
      obtain ⟨r336, h337, hm⟩ := bd_some hm
      refine call_I (run_LV C lk_L_134 ⟨rfl, rfl, Nat.le_of_ble_eq_true rfl, Nat.le_of_ble_eq_true rfl⟩ (As := []) hv2 rfl rfl (Nat.le_of_ble_eq_true rfl) dL_law__1724 (mc_X12_thrown _ _ _ _ _ hv2 h337)) ?_
      refine j_iload C 1 dL_law__1727 rfl ?_
      refine j_icmp_eq C (tgt := 1734) dL_law__1729 (by decide) (fun h338 => ?_) (fun h338 => ?_)
      · replace hm := if_t hm h338
        refine j_iload C 1 dL_law__1734 rfl ?_
        refine j_if_ne C (tgt := 1751) dL_law__1736 (by decide) (fun h339 => ?_) (fun h339 => ?_)
        · replace hm := if_f hm h339
          refine j_sub [2, 3, 4, 5, 6] rfl ?_
          exact tj_L_law__1751 C _ _ _ _ _ _ _ _ _ _ hS hst hAL hKM (hk_sub hk (Nat.le_of_ble_eq_true rfl) (Nat.le_of_ble_eq_true rfl)) hk23 hv1 hv2 hv3 hm
        · replace hm := if_t hm h339
          refine j_aload_n C 5 dL_law__1739 rfl ?_
          refine j_iconst C (v := 0) dL_law__1740 rfl ?_
          obtain ⟨h340, hm⟩ := gd_some hm
          refine j_lald C hv3 h340 dL_law__1741 ?_
          refine j_iload C 0 dL_law__1742 rfl ?_
          refine j_i2l C dL_law__1744 ?_
          refine j_lcmp C dL_law__1745 ?_
          refine j_if_eq C (tgt := 1751) dL_law__1746 (by decide) (fun h341 => ?_) (fun h341 => ?_)
          · replace hm := if_t hm h341
            refine j_sub [2, 3, 4, 5, 6] rfl ?_
            exact tj_L_law__1751 C _ _ _ _ _ _ _ _ _ _ hS hst hAL hKM (hk_sub hk (Nat.le_of_ble_eq_true rfl) (Nat.le_of_ble_eq_true rfl)) hk23 hv1 hv2 hv3 hm
          · replace hm := if_f hm h341
            refine j_iconst C (v := 0) dL_law__1749 rfl ?_
            exact absurd (Option.some.inj hm) (by decide)
      · replace hm := if_f hm h338
        refine j_iconst C (v := 0) dL_law__1732 rfl ?_
        exact absurd (Option.some.inj hm) (by decide)
    replace hm := if_f hm h329
    by_cases h342 : ((sc v4.toNatClampNeg) &&& 63) = 36
    · replace hm := if_t hm h342
      refine j_tabI C (tgt := 1754) 36 dL_law__40 (by rw [h342]; first | done | rfl) (by decide) (by decide) rfl (by decide) ?_
      refine j_aload_n C 1 dL_law__1754 rfl ?_
      refine j_aload_n C 0 dL_law__1755 rfl ?_
      refine j_iload C 4 dL_law__1756 rfl ?_
      refine j_iconst C (v := 1) dL_law__1758 rfl ?_
      refine j_iadd C dL_law__1759 ?_
      obtain ⟨h343, hm⟩ := gd_some hm
      refine j_sld C hS h343 dL_law__1760 ?_
      refine j_aload_n C 3 dL_law__1761 rfl ?_
      obtain ⟨r344, h345, hm⟩ := bd_some hm
      refine call_W C lkw_256 ⟨Nat.le_of_ble_eq_true rfl, Nat.le_of_ble_eq_true rfl⟩ (hk_room (hk_sub hk (Nat.le_of_ble_eq_true rfl) (Nat.le_of_ble_eq_true rfl)) hKM) (As := [.ref v1, .int (sc (v4 + 1).toNatClampNeg), .ref v3]) rfl rfl (Nat.le_of_ble_eq_true rfl) dL_law__1762 (mw_L_pairs _ hst _ _ _ _ _ _ hv1 hv3 h345) ?_
      replace C := Cx_bump (a := 1) (b := 6) C (hk_room (a := 1) (b := 6) (hk_sub hk (Nat.le_of_ble_eq_true rfl) (Nat.le_of_ble_eq_true rfl)) hKM)
      replace hk := hk_bump (a := 1) (b := 6) (n := 0) (m := 0) (hk_sub hk (Nat.le_of_ble_eq_true rfl) (Nat.le_of_ble_eq_true rfl))
      refine j_istore C (lv' := [(5, .int r344.1), (0, .ref v0), (1, .ref v1), (2, .ref v2), (3, .ref v3), (4, .int v4)]) dL_law__1765 (by decide) rfl ?_
      refine j_aload_n C 3 dL_law__1767 rfl ?_
      refine j_aload_n C 1 dL_law__1768 rfl ?_
      refine j_iload C 5 dL_law__1769 rfl ?_
      refine j_iconst C (v := 1) dL_law__1771 rfl ?_
      refine j_iadd C dL_law__1772 ?_
      obtain ⟨h346, hm⟩ := gd_some hm
      refine j_sld C hS h346 dL_law__1773 ?_
      obtain ⟨r347, h348, hm⟩ := bd_some hm
      refine call_I (run_LV C lk_L_258 ⟨rfl, rfl, Nat.le_of_ble_eq_true rfl, Nat.le_of_ble_eq_true rfl⟩ (As := [.int (sc (v4 + 1).toNatClampNeg)]) hv2 rfl rfl (Nat.le_of_ble_eq_true rfl) dL_law__1774 (mc_X12_pairs _ _ _ _ _ _ hv2 h348)) ?_
      refine j_istore C (lv' := [(6, .int r347.1), (5, .int r344.1), (0, .ref v0), (1, .ref v1), (2, .ref v2), (3, .ref v3), (4, .int v4)]) dL_law__1777 (by decide) rfl ?_
      refine j_aload_n C 4 dL_law__1779 rfl ?_
      obtain ⟨r349, h350, hm⟩ := bd_some hm
      refine call_I (run_LV C lk_L_134 ⟨rfl, rfl, Nat.le_of_ble_eq_true rfl, Nat.le_of_ble_eq_true rfl⟩ (As := []) hv2 rfl rfl (Nat.le_of_ble_eq_true rfl) dL_law__1780 (mc_X12_thrown _ _ _ _ _ hv2 h350)) ?_
      refine j_iload C 1 dL_law__1783 rfl ?_
      refine j_icmp_eq C (tgt := 1790) dL_law__1785 (by decide) (fun h351 => ?_) (fun h351 => ?_)
      · replace hm := if_t hm h351
        refine j_iload C 1 dL_law__1790 rfl ?_
        refine j_if_ne C (tgt := 1807) dL_law__1792 (by decide) (fun h352 => ?_) (fun h352 => ?_)
        · replace hm := if_f hm h352
          refine j_sub [2, 3, 4, 5, 6] rfl ?_
          exact tj_L_law__1807 C _ _ _ _ _ _ _ _ _ _ hS hst hAL hKM (hk_sub hk (Nat.le_of_ble_eq_true rfl) (Nat.le_of_ble_eq_true rfl)) hk23 hv1 hv2 hv3 hm
        · replace hm := if_t hm h352
          refine j_aload_n C 5 dL_law__1795 rfl ?_
          refine j_iconst C (v := 0) dL_law__1796 rfl ?_
          obtain ⟨h353, hm⟩ := gd_some hm
          refine j_lald C hv3 h353 dL_law__1797 ?_
          refine j_iload C 0 dL_law__1798 rfl ?_
          refine j_i2l C dL_law__1800 ?_
          refine j_lcmp C dL_law__1801 ?_
          refine j_if_eq C (tgt := 1807) dL_law__1802 (by decide) (fun h354 => ?_) (fun h354 => ?_)
          · replace hm := if_t hm h354
            refine j_sub [2, 3, 4, 5, 6] rfl ?_
            exact tj_L_law__1807 C _ _ _ _ _ _ _ _ _ _ hS hst hAL hKM (hk_sub hk (Nat.le_of_ble_eq_true rfl) (Nat.le_of_ble_eq_true rfl)) hk23 hv1 hv2 hv3 hm
          · replace hm := if_f hm h354
            refine j_iconst C (v := 0) dL_law__1805 rfl ?_
            exact absurd (Option.some.inj hm) (by decide)
      · replace hm := if_f hm h351
        refine j_iconst C (v := 0) dL_law__1788 rfl ?_
        exact absurd (Option.some.inj hm) (by decide)
    replace hm := if_f hm h342
    by_cases h355 : ((sc v4.toNatClampNeg) &&& 63) = 37
    · replace hm := if_t hm h355
      refine j_tabI C (tgt := 1810) 37 dL_law__40 (by rw [h355]; first | done | rfl) (by decide) (by decide) rfl (by decide) ?_
      refine j_aload_n C 1 dL_law__1810 rfl ?_
      refine j_aload_n C 0 dL_law__1811 rfl ?_
      refine j_iload C 4 dL_law__1812 rfl ?_
      refine j_iconst C (v := 1) dL_law__1814 rfl ?_
      refine j_iadd C dL_law__1815 ?_
      obtain ⟨h356, hm⟩ := gd_some hm
      refine j_sld C hS h356 dL_law__1816 ?_
      refine j_aload_n C 3 dL_law__1817 rfl ?_
      obtain ⟨r357, h358, hm⟩ := bd_some hm
      refine call_W C lkw_259 ⟨Nat.le_of_ble_eq_true rfl, Nat.le_of_ble_eq_true rfl⟩ (hk_room (hk_sub hk (Nat.le_of_ble_eq_true rfl) (Nat.le_of_ble_eq_true rfl)) hKM) (As := [.ref v1, .int (sc (v4 + 1).toNatClampNeg), .ref v3]) rfl rfl (Nat.le_of_ble_eq_true rfl) dL_law__1818 (mw_L_rests _ hst _ _ _ _ _ _ hv1 hv3 h358) ?_
      replace C := Cx_bump (a := 1) (b := 6) C (hk_room (a := 1) (b := 6) (hk_sub hk (Nat.le_of_ble_eq_true rfl) (Nat.le_of_ble_eq_true rfl)) hKM)
      replace hk := hk_bump (a := 1) (b := 6) (n := 0) (m := 0) (hk_sub hk (Nat.le_of_ble_eq_true rfl) (Nat.le_of_ble_eq_true rfl))
      refine j_istore C (lv' := [(5, .int r357.1), (0, .ref v0), (1, .ref v1), (2, .ref v2), (3, .ref v3), (4, .int v4)]) dL_law__1821 (by decide) rfl ?_
      refine j_aload_n C 3 dL_law__1823 rfl ?_
      refine j_aload_n C 1 dL_law__1824 rfl ?_
      refine j_iload C 5 dL_law__1825 rfl ?_
      refine j_iconst C (v := 1) dL_law__1827 rfl ?_
      refine j_iadd C dL_law__1828 ?_
      obtain ⟨h359, hm⟩ := gd_some hm
      refine j_sld C hS h359 dL_law__1829 ?_
      obtain ⟨r360, h361, hm⟩ := bd_some hm
      refine call_I (run_LV C lk_L_261 ⟨rfl, rfl, Nat.le_of_ble_eq_true rfl, Nat.le_of_ble_eq_true rfl⟩ (As := [.int (sc (v4 + 1).toNatClampNeg)]) hv2 rfl rfl (Nat.le_of_ble_eq_true rfl) dL_law__1830 (mc_X12_rests _ _ _ _ _ _ hv2 h361)) ?_
      refine j_istore C (lv' := [(6, .int r360.1), (5, .int r357.1), (0, .ref v0), (1, .ref v1), (2, .ref v2), (3, .ref v3), (4, .int v4)]) dL_law__1833 (by decide) rfl ?_
      refine j_aload_n C 4 dL_law__1835 rfl ?_
      obtain ⟨r362, h363, hm⟩ := bd_some hm
      refine call_I (run_LV C lk_L_134 ⟨rfl, rfl, Nat.le_of_ble_eq_true rfl, Nat.le_of_ble_eq_true rfl⟩ (As := []) hv2 rfl rfl (Nat.le_of_ble_eq_true rfl) dL_law__1836 (mc_X12_thrown _ _ _ _ _ hv2 h363)) ?_
      refine j_iload C 1 dL_law__1839 rfl ?_
      refine j_icmp_eq C (tgt := 1846) dL_law__1841 (by decide) (fun h364 => ?_) (fun h364 => ?_)
      · replace hm := if_t hm h364
        refine j_iload C 1 dL_law__1846 rfl ?_
        refine j_if_ne C (tgt := 1863) dL_law__1848 (by decide) (fun h365 => ?_) (fun h365 => ?_)
        · replace hm := if_f hm h365
          refine j_sub [2, 3, 4, 5, 6] rfl ?_
          exact tj_L_law__1863 C _ _ _ _ _ _ _ _ _ _ hS hst hAL hKM (hk_sub hk (Nat.le_of_ble_eq_true rfl) (Nat.le_of_ble_eq_true rfl)) hk23 hv1 hv2 hv3 hm
        · replace hm := if_t hm h365
          refine j_aload_n C 5 dL_law__1851 rfl ?_
          refine j_iconst C (v := 0) dL_law__1852 rfl ?_
          obtain ⟨h366, hm⟩ := gd_some hm
          refine j_lald C hv3 h366 dL_law__1853 ?_
          refine j_iload C 0 dL_law__1854 rfl ?_
          refine j_i2l C dL_law__1856 ?_
          refine j_lcmp C dL_law__1857 ?_
          refine j_if_eq C (tgt := 1863) dL_law__1858 (by decide) (fun h367 => ?_) (fun h367 => ?_)
          · replace hm := if_t hm h367
            refine j_sub [2, 3, 4, 5, 6] rfl ?_
            exact tj_L_law__1863 C _ _ _ _ _ _ _ _ _ _ hS hst hAL hKM (hk_sub hk (Nat.le_of_ble_eq_true rfl) (Nat.le_of_ble_eq_true rfl)) hk23 hv1 hv2 hv3 hm
          · replace hm := if_f hm h367
            refine j_iconst C (v := 0) dL_law__1861 rfl ?_
            exact absurd (Option.some.inj hm) (by decide)
      · replace hm := if_f hm h364
        refine j_iconst C (v := 0) dL_law__1844 rfl ?_
        exact absurd (Option.some.inj hm) (by decide)
    replace hm := if_f hm h355
    by_cases h368 : ((sc v4.toNatClampNeg) &&& 63) = 38
    · replace hm := if_t hm h368
      refine j_tabI C (tgt := 1866) 38 dL_law__40 (by rw [h368]; first | done | rfl) (by decide) (by decide) rfl (by decide) ?_
      refine j_aload_n C 1 dL_law__1866 rfl ?_
      refine j_aload_n C 0 dL_law__1867 rfl ?_
      refine j_iload C 4 dL_law__1868 rfl ?_
      refine j_iconst C (v := 1) dL_law__1870 rfl ?_
      refine j_iadd C dL_law__1871 ?_
      obtain ⟨h369, hm⟩ := gd_some hm
      refine j_sld C hS h369 dL_law__1872 ?_
      refine j_aload_n C 0 dL_law__1873 rfl ?_
      refine j_iload C 4 dL_law__1874 rfl ?_
      refine j_iconst C (v := 2) dL_law__1876 rfl ?_
      refine j_iadd C dL_law__1877 ?_
      obtain ⟨h370, hm⟩ := gd_some hm
      refine j_sld C hS h370 dL_law__1878 ?_
      refine j_aload_n C 3 dL_law__1879 rfl ?_
      obtain ⟨r371, h372, hm⟩ := bd_some hm
      refine call_W C lkw_262 ⟨Nat.le_of_ble_eq_true rfl, Nat.le_of_ble_eq_true rfl⟩ (hk_room (hk_sub hk (Nat.le_of_ble_eq_true rfl) (Nat.le_of_ble_eq_true rfl)) hKM) (As := [.ref v1, .int (sc (v4 + 1).toNatClampNeg), .int (sc (v4 + 2).toNatClampNeg), .ref v3]) rfl rfl (Nat.le_of_ble_eq_true rfl) dL_law__1880 (mw_L_odds _ hst _ _ _ _ _ _ _ hv1 hv3 h372) ?_
      replace C := Cx_bump (a := 2) (b := 12) C (hk_room (a := 2) (b := 12) (hk_sub hk (Nat.le_of_ble_eq_true rfl) (Nat.le_of_ble_eq_true rfl)) hKM)
      replace hk := hk_bump (a := 2) (b := 12) (n := 0) (m := 0) (hk_sub hk (Nat.le_of_ble_eq_true rfl) (Nat.le_of_ble_eq_true rfl))
      refine j_istore C (lv' := [(5, .int r371.1), (0, .ref v0), (1, .ref v1), (2, .ref v2), (3, .ref v3), (4, .int v4)]) dL_law__1883 (by decide) rfl ?_
      refine j_aload_n C 3 dL_law__1885 rfl ?_
      refine j_aload_n C 1 dL_law__1886 rfl ?_
      refine j_iload C 5 dL_law__1887 rfl ?_
      refine j_iconst C (v := 1) dL_law__1889 rfl ?_
      refine j_iadd C dL_law__1890 ?_
      obtain ⟨h373, hm⟩ := gd_some hm
      refine j_sld C hS h373 dL_law__1891 ?_
      refine j_aload_n C 1 dL_law__1892 rfl ?_
      refine j_iload C 5 dL_law__1893 rfl ?_
      refine j_iconst C (v := 2) dL_law__1895 rfl ?_
      refine j_iadd C dL_law__1896 ?_
      obtain ⟨h374, hm⟩ := gd_some hm
      refine j_sld C hS h374 dL_law__1897 ?_
      obtain ⟨r375, h376, hm⟩ := bd_some hm
      refine call_I (run_LV C lk_L_264 ⟨rfl, rfl, Nat.le_of_ble_eq_true rfl, Nat.le_of_ble_eq_true rfl⟩ (As := [.int (sc (v4 + 1).toNatClampNeg), .int (sc (v4 + 2).toNatClampNeg)]) hv2 rfl rfl (Nat.le_of_ble_eq_true rfl) dL_law__1898 (mc_X12_odds _ _ _ _ _ _ _ hv2 h376)) ?_
      refine j_istore C (lv' := [(6, .int r375.1), (5, .int r371.1), (0, .ref v0), (1, .ref v1), (2, .ref v2), (3, .ref v3), (4, .int v4)]) dL_law__1901 (by decide) rfl ?_
      refine j_aload_n C 4 dL_law__1903 rfl ?_
      obtain ⟨r377, h378, hm⟩ := bd_some hm
      refine call_I (run_LV C lk_L_134 ⟨rfl, rfl, Nat.le_of_ble_eq_true rfl, Nat.le_of_ble_eq_true rfl⟩ (As := []) hv2 rfl rfl (Nat.le_of_ble_eq_true rfl) dL_law__1904 (mc_X12_thrown _ _ _ _ _ hv2 h378)) ?_
      refine j_iload C 1 dL_law__1907 rfl ?_
      refine j_icmp_eq C (tgt := 1914) dL_law__1909 (by decide) (fun h379 => ?_) (fun h379 => ?_)
      · replace hm := if_t hm h379
        refine j_iload C 1 dL_law__1914 rfl ?_
        refine j_if_ne C (tgt := 1931) dL_law__1916 (by decide) (fun h380 => ?_) (fun h380 => ?_)
        · replace hm := if_f hm h380
          refine j_sub [2, 3, 4, 5, 6] rfl ?_
          exact tj_L_law__1931 C _ _ _ _ _ _ _ _ _ _ hS hst hAL hKM (hk_sub hk (Nat.le_of_ble_eq_true rfl) (Nat.le_of_ble_eq_true rfl)) hk23 hv1 hv2 hv3 hm
        · replace hm := if_t hm h380
          refine j_aload_n C 5 dL_law__1919 rfl ?_
          refine j_iconst C (v := 0) dL_law__1920 rfl ?_
          obtain ⟨h381, hm⟩ := gd_some hm
          refine j_lald C hv3 h381 dL_law__1921 ?_
          refine j_iload C 0 dL_law__1922 rfl ?_
          refine j_i2l C dL_law__1924 ?_
          refine j_lcmp C dL_law__1925 ?_
          refine j_if_eq C (tgt := 1931) dL_law__1926 (by decide) (fun h382 => ?_) (fun h382 => ?_)
          · replace hm := if_t hm h382
            refine j_sub [2, 3, 4, 5, 6] rfl ?_
            exact tj_L_law__1931 C _ _ _ _ _ _ _ _ _ _ hS hst hAL hKM (hk_sub hk (Nat.le_of_ble_eq_true rfl) (Nat.le_of_ble_eq_true rfl)) hk23 hv1 hv2 hv3 hm
          · replace hm := if_f hm h382
            refine j_iconst C (v := 0) dL_law__1929 rfl ?_
            exact absurd (Option.some.inj hm) (by decide)
      · replace hm := if_f hm h379
        refine j_iconst C (v := 0) dL_law__1912 rfl ?_
        exact absurd (Option.some.inj hm) (by decide)
    replace hm := if_f hm h368
    by_cases h383 : ((sc v4.toNatClampNeg) &&& 63) = 39
    · replace hm := if_t hm h383
      refine j_tabI C (tgt := 1934) 39 dL_law__40 (by rw [h383]; first | done | rfl) (by decide) (by decide) rfl (by decide) ?_
      refine j_aload_n C 1 dL_law__1934 rfl ?_
      refine j_aload_n C 0 dL_law__1935 rfl ?_
      refine j_iload C 4 dL_law__1936 rfl ?_
      refine j_iconst C (v := 1) dL_law__1938 rfl ?_
      refine j_iadd C dL_law__1939 ?_
      obtain ⟨h384, hm⟩ := gd_some hm
      refine j_sld C hS h384 dL_law__1940 ?_
      refine j_aload_n C 3 dL_law__1941 rfl ?_
      obtain ⟨r385, h386, hm⟩ := bd_some hm
      refine call_W C lkw_265 ⟨Nat.le_of_ble_eq_true rfl, Nat.le_of_ble_eq_true rfl⟩ (hk_room (hk_sub hk (Nat.le_of_ble_eq_true rfl) (Nat.le_of_ble_eq_true rfl)) hKM) (As := [.ref v1, .int (sc (v4 + 1).toNatClampNeg), .ref v3]) rfl rfl (Nat.le_of_ble_eq_true rfl) dL_law__1942 (mw_L_most _ hst _ _ _ _ _ _ hv1 hv3 h386) ?_
      replace C := Cx_bump (a := 1) (b := 6) C (hk_room (a := 1) (b := 6) (hk_sub hk (Nat.le_of_ble_eq_true rfl) (Nat.le_of_ble_eq_true rfl)) hKM)
      replace hk := hk_bump (a := 1) (b := 6) (n := 0) (m := 0) (hk_sub hk (Nat.le_of_ble_eq_true rfl) (Nat.le_of_ble_eq_true rfl))
      refine j_istore C (lv' := [(5, .int r385.1), (0, .ref v0), (1, .ref v1), (2, .ref v2), (3, .ref v3), (4, .int v4)]) dL_law__1945 (by decide) rfl ?_
      refine j_aload_n C 3 dL_law__1947 rfl ?_
      refine j_aload_n C 1 dL_law__1948 rfl ?_
      refine j_iload C 5 dL_law__1949 rfl ?_
      refine j_iconst C (v := 1) dL_law__1951 rfl ?_
      refine j_iadd C dL_law__1952 ?_
      obtain ⟨h387, hm⟩ := gd_some hm
      refine j_sld C hS h387 dL_law__1953 ?_
      obtain ⟨r388, h389, hm⟩ := bd_some hm
      refine call_I (run_LV C lk_L_267 ⟨rfl, rfl, Nat.le_of_ble_eq_true rfl, Nat.le_of_ble_eq_true rfl⟩ (As := [.int (sc (v4 + 1).toNatClampNeg)]) hv2 rfl rfl (Nat.le_of_ble_eq_true rfl) dL_law__1954 (mc_X12_most _ _ _ _ _ _ hv2 h389)) ?_
      refine j_istore C (lv' := [(6, .int r388.1), (5, .int r385.1), (0, .ref v0), (1, .ref v1), (2, .ref v2), (3, .ref v3), (4, .int v4)]) dL_law__1957 (by decide) rfl ?_
      refine j_aload_n C 4 dL_law__1959 rfl ?_
      obtain ⟨r390, h391, hm⟩ := bd_some hm
      refine call_I (run_LV C lk_L_134 ⟨rfl, rfl, Nat.le_of_ble_eq_true rfl, Nat.le_of_ble_eq_true rfl⟩ (As := []) hv2 rfl rfl (Nat.le_of_ble_eq_true rfl) dL_law__1960 (mc_X12_thrown _ _ _ _ _ hv2 h391)) ?_
      refine j_iload C 1 dL_law__1963 rfl ?_
      refine j_icmp_eq C (tgt := 1970) dL_law__1965 (by decide) (fun h392 => ?_) (fun h392 => ?_)
      · replace hm := if_t hm h392
        refine j_iload C 1 dL_law__1970 rfl ?_
        refine j_if_ne C (tgt := 1987) dL_law__1972 (by decide) (fun h393 => ?_) (fun h393 => ?_)
        · replace hm := if_f hm h393
          refine j_sub [2, 3, 4, 5, 6] rfl ?_
          exact tj_L_law__1987 C _ _ _ _ _ _ _ _ _ _ hS hst hAL hKM (hk_sub hk (Nat.le_of_ble_eq_true rfl) (Nat.le_of_ble_eq_true rfl)) hk23 hv1 hv2 hv3 hm
        · replace hm := if_t hm h393
          refine j_aload_n C 5 dL_law__1975 rfl ?_
          refine j_iconst C (v := 0) dL_law__1976 rfl ?_
          obtain ⟨h394, hm⟩ := gd_some hm
          refine j_lald C hv3 h394 dL_law__1977 ?_
          refine j_iload C 0 dL_law__1978 rfl ?_
          refine j_i2l C dL_law__1980 ?_
          refine j_lcmp C dL_law__1981 ?_
          refine j_if_eq C (tgt := 1987) dL_law__1982 (by decide) (fun h395 => ?_) (fun h395 => ?_)
          · replace hm := if_t hm h395
            refine j_sub [2, 3, 4, 5, 6] rfl ?_
            exact tj_L_law__1987 C _ _ _ _ _ _ _ _ _ _ hS hst hAL hKM (hk_sub hk (Nat.le_of_ble_eq_true rfl) (Nat.le_of_ble_eq_true rfl)) hk23 hv1 hv2 hv3 hm
          · replace hm := if_f hm h395
            refine j_iconst C (v := 0) dL_law__1985 rfl ?_
            exact absurd (Option.some.inj hm) (by decide)
      · replace hm := if_f hm h392
        refine j_iconst C (v := 0) dL_law__1968 rfl ?_
        exact absurd (Option.some.inj hm) (by decide)
    replace hm := if_f hm h383
    by_cases h396 : ((sc v4.toNatClampNeg) &&& 63) = 40
    · replace hm := if_t hm h396
      refine j_tabI C (tgt := 1990) 40 dL_law__40 (by rw [h396]; first | done | rfl) (by decide) (by decide) rfl (by decide) ?_
      refine j_aload_n C 1 dL_law__1990 rfl ?_
      obtain ⟨r397, h398, hm⟩ := bd_some hm
      refine call_I (run_LV C lk_L_268 ⟨rfl, rfl, Nat.le_of_ble_eq_true rfl, Nat.le_of_ble_eq_true rfl⟩ (As := []) hv1 rfl rfl (Nat.le_of_ble_eq_true rfl) dL_law__1991 (mc_X11_waiting _ _ _ _ _ hv1 h398)) ?_
      refine j_aload_n C 2 dL_law__1994 rfl ?_
      obtain ⟨r399, h400, hm⟩ := bd_some hm
      refine call_I (run_LV C lk_L_271 ⟨rfl, rfl, Nat.le_of_ble_eq_true rfl, Nat.le_of_ble_eq_true rfl⟩ (As := []) hv2 rfl rfl (Nat.le_of_ble_eq_true rfl) dL_law__1995 (mc_X12_waiting _ _ _ _ _ hv2 h400)) ?_
      refine j_icmp_eq C (tgt := 2587) dL_law__1998 (by decide) (fun h401 => ?_) (fun h401 => ?_)
      · replace hm := if_t hm h401
        exact tj_L_law__2587 C _ _ _ _ _ _ _ _ _ _ hS hst hAL hKM (hk_sub hk (Nat.le_of_ble_eq_true rfl) (Nat.le_of_ble_eq_true rfl)) hk23 hv1 hv2 hv3 hm
      · replace hm := if_f hm h401
        refine j_iconst C (v := 0) dL_law__2001 rfl ?_
        exact absurd (Option.some.inj hm) (by decide)
    replace hm := if_f hm h396
    by_cases h402 : ((sc v4.toNatClampNeg) &&& 63) = 41
    · replace hm := if_t hm h402
      refine j_tabI C (tgt := 2003) 41 dL_law__40 (by rw [h402]; first | done | rfl) (by decide) (by decide) rfl (by decide) ?_
      refine j_aload_n C 1 dL_law__2003 rfl ?_
      obtain ⟨r403, h404, hm⟩ := bd_some hm
      refine call_I (run_LV C lk_L_272 ⟨rfl, rfl, Nat.le_of_ble_eq_true rfl, Nat.le_of_ble_eq_true rfl⟩ (As := []) hv1 rfl rfl (Nat.le_of_ble_eq_true rfl) dL_law__2004 (mc_X11_docked _ _ _ _ _ hv1 h404)) ?_
      refine j_aload_n C 2 dL_law__2007 rfl ?_
      obtain ⟨r405, h406, hm⟩ := bd_some hm
      refine call_I (run_LV C lk_L_275 ⟨rfl, rfl, Nat.le_of_ble_eq_true rfl, Nat.le_of_ble_eq_true rfl⟩ (As := []) hv2 rfl rfl (Nat.le_of_ble_eq_true rfl) dL_law__2008 (mc_X12_docked _ _ _ _ _ hv2 h406)) ?_
      refine j_icmp_eq C (tgt := 2587) dL_law__2011 (by decide) (fun h407 => ?_) (fun h407 => ?_)
      · replace hm := if_t hm h407
        exact tj_L_law__2587 C _ _ _ _ _ _ _ _ _ _ hS hst hAL hKM (hk_sub hk (Nat.le_of_ble_eq_true rfl) (Nat.le_of_ble_eq_true rfl)) hk23 hv1 hv2 hv3 hm
      · replace hm := if_f hm h407
        refine j_iconst C (v := 0) dL_law__2014 rfl ?_
        exact absurd (Option.some.inj hm) (by decide)
    replace hm := if_f hm h402
    by_cases h408 : ((sc v4.toNatClampNeg) &&& 63) = 42
    · replace hm := if_t hm h408
      refine j_tabI C (tgt := 2016) 42 dL_law__40 (by rw [h408]; first | done | rfl) (by decide) (by decide) rfl (by decide) ?_
      refine j_aload_n C 1 dL_law__2016 rfl ?_
      obtain ⟨r409, h410, hm⟩ := bd_some hm
      refine call_I (run_LV C lk_L_276 ⟨rfl, rfl, Nat.le_of_ble_eq_true rfl, Nat.le_of_ble_eq_true rfl⟩ (As := []) hv1 rfl rfl (Nat.le_of_ble_eq_true rfl) dL_law__2017 (mc_X11_gone _ _ _ _ _ hv1 h410)) ?_
      refine j_aload_n C 2 dL_law__2020 rfl ?_
      obtain ⟨r411, h412, hm⟩ := bd_some hm
      refine call_I (run_LV C lk_L_279 ⟨rfl, rfl, Nat.le_of_ble_eq_true rfl, Nat.le_of_ble_eq_true rfl⟩ (As := []) hv2 rfl rfl (Nat.le_of_ble_eq_true rfl) dL_law__2021 (mc_X12_gone _ _ _ _ _ hv2 h412)) ?_
      refine j_icmp_eq C (tgt := 2587) dL_law__2024 (by decide) (fun h413 => ?_) (fun h413 => ?_)
      · replace hm := if_t hm h413
        exact tj_L_law__2587 C _ _ _ _ _ _ _ _ _ _ hS hst hAL hKM (hk_sub hk (Nat.le_of_ble_eq_true rfl) (Nat.le_of_ble_eq_true rfl)) hk23 hv1 hv2 hv3 hm
      · replace hm := if_f hm h413
        refine j_iconst C (v := 0) dL_law__2027 rfl ?_
        exact absurd (Option.some.inj hm) (by decide)
    replace hm := if_f hm h408
    by_cases h414 : ((sc v4.toNatClampNeg) &&& 63) = 43
    · replace hm := if_t hm h414
      refine j_tabI C (tgt := 2029) 43 dL_law__40 (by rw [h414]; first | done | rfl) (by decide) (by decide) rfl (by decide) ?_
      refine j_aload_n C 1 dL_law__2029 rfl ?_
      obtain ⟨r415, h416, hm⟩ := bd_some hm
      refine call_I (run_LV C lk_L_280 ⟨rfl, rfl, Nat.le_of_ble_eq_true rfl, Nat.le_of_ble_eq_true rfl⟩ (As := []) hv1 rfl rfl (Nat.le_of_ble_eq_true rfl) dL_law__2030 (mc_X11_hurt _ _ _ _ _ hv1 h416)) ?_
      refine j_aload_n C 2 dL_law__2033 rfl ?_
      obtain ⟨r417, h418, hm⟩ := bd_some hm
      refine call_I (run_LV C lk_L_283 ⟨rfl, rfl, Nat.le_of_ble_eq_true rfl, Nat.le_of_ble_eq_true rfl⟩ (As := []) hv2 rfl rfl (Nat.le_of_ble_eq_true rfl) dL_law__2034 (mc_X12_hurt _ _ _ _ _ hv2 h418)) ?_
      refine j_icmp_eq C (tgt := 2587) dL_law__2037 (by decide) (fun h419 => ?_) (fun h419 => ?_)
      · replace hm := if_t hm h419
        exact tj_L_law__2587 C _ _ _ _ _ _ _ _ _ _ hS hst hAL hKM (hk_sub hk (Nat.le_of_ble_eq_true rfl) (Nat.le_of_ble_eq_true rfl)) hk23 hv1 hv2 hv3 hm
      · replace hm := if_f hm h419
        refine j_iconst C (v := 0) dL_law__2040 rfl ?_
        exact absurd (Option.some.inj hm) (by decide)
    replace hm := if_f hm h414
    by_cases h420 : ((sc v4.toNatClampNeg) &&& 63) = 44
    · replace hm := if_t hm h420
      refine j_tabI C (tgt := 2042) 44 dL_law__40 (by rw [h420]; first | done | rfl) (by decide) (by decide) rfl (by decide) ?_
      refine j_aload_n C 1 dL_law__2042 rfl ?_
      obtain ⟨r421, h422, hm⟩ := bd_some hm
      refine call_I (run_LV C lk_L_284 ⟨rfl, rfl, Nat.le_of_ble_eq_true rfl, Nat.le_of_ble_eq_true rfl⟩ (As := []) hv1 rfl rfl (Nat.le_of_ble_eq_true rfl) dL_law__2043 (mc_X11_twins _ _ _ _ _ hv1 h422)) ?_
      refine j_aload_n C 2 dL_law__2046 rfl ?_
      obtain ⟨r423, h424, hm⟩ := bd_some hm
      refine call_I (run_LV C lk_L_287 ⟨rfl, rfl, Nat.le_of_ble_eq_true rfl, Nat.le_of_ble_eq_true rfl⟩ (As := []) hv2 rfl rfl (Nat.le_of_ble_eq_true rfl) dL_law__2047 (mc_X12_twins _ _ _ _ _ hv2 h424)) ?_
      refine j_icmp_eq C (tgt := 2587) dL_law__2050 (by decide) (fun h425 => ?_) (fun h425 => ?_)
      · replace hm := if_t hm h425
        exact tj_L_law__2587 C _ _ _ _ _ _ _ _ _ _ hS hst hAL hKM (hk_sub hk (Nat.le_of_ble_eq_true rfl) (Nat.le_of_ble_eq_true rfl)) hk23 hv1 hv2 hv3 hm
      · replace hm := if_f hm h425
        refine j_iconst C (v := 0) dL_law__2053 rfl ?_
        exact absurd (Option.some.inj hm) (by decide)
    replace hm := if_f hm h420
    by_cases h426 : ((sc v4.toNatClampNeg) &&& 63) = 45
    · replace hm := if_t hm h426
      refine j_tabI C (tgt := 2055) 45 dL_law__40 (by rw [h426]; first | done | rfl) (by decide) (by decide) rfl (by decide) ?_
      refine j_aload_n C 1 dL_law__2055 rfl ?_
      refine j_aload_n C 0 dL_law__2056 rfl ?_
      refine j_iload C 4 dL_law__2057 rfl ?_
      refine j_iconst C (v := 1) dL_law__2059 rfl ?_
      refine j_iadd C dL_law__2060 ?_
      obtain ⟨h427, hm⟩ := gd_some hm
      refine j_sld C hS h427 dL_law__2061 ?_
      refine j_if_eq C (tgt := 2069) dL_law__2062 (by decide) (fun h428 => ?_) (fun h428 => ?_)
      · replace hm := if_t hm h428
        refine j_iconst C (v := 0) dL_law__2069 rfl ?_
        exact tj_L_law__2070 C _ _ _ _ _ _ _ _ _ _ _ _ hS hst hAL hKM (hk_sub hk (Nat.le_of_ble_eq_true rfl) (Nat.le_of_ble_eq_true rfl)) hk23 hv1 hv2 hv3 hv1 hm
      · replace hm := if_f hm h428
        refine j_iconst C (v := 1) dL_law__2065 rfl ?_
        refine j_goto C (tgt := 2070) dL_law__2066 (by decide) ?_
        exact tj_L_law__2070 C _ _ _ _ _ _ _ _ _ _ _ _ hS hst hAL hKM (hk_sub hk (Nat.le_of_ble_eq_true rfl) (Nat.le_of_ble_eq_true rfl)) hk23 hv1 hv2 hv3 hv1 hm
    replace hm := if_f hm h426
    by_cases h429 : ((sc v4.toNatClampNeg) &&& 63) = 46
    · replace hm := if_t hm h429
      refine j_tabI C (tgt := 2096) 46 dL_law__40 (by rw [h429]; first | done | rfl) (by decide) (by decide) rfl (by decide) ?_
      refine j_aload_n C 1 dL_law__2096 rfl ?_
      refine j_aload_n C 0 dL_law__2097 rfl ?_
      refine j_iload C 4 dL_law__2098 rfl ?_
      refine j_iconst C (v := 1) dL_law__2100 rfl ?_
      refine j_iadd C dL_law__2101 ?_
      obtain ⟨h430, hm⟩ := gd_some hm
      refine j_sld C hS h430 dL_law__2102 ?_
      refine j_aload_n C 0 dL_law__2103 rfl ?_
      refine j_iload C 4 dL_law__2104 rfl ?_
      refine j_iconst C (v := 2) dL_law__2106 rfl ?_
      refine j_iadd C dL_law__2107 ?_
      obtain ⟨h431, hm⟩ := gd_some hm
      refine j_sld C hS h431 dL_law__2108 ?_
      refine j_if_eq C (tgt := 2116) dL_law__2109 (by decide) (fun h432 => ?_) (fun h432 => ?_)
      · replace hm := if_t hm h432
        refine j_iconst C (v := 0) dL_law__2116 rfl ?_
        exact tj_L_law__2117 C _ _ _ _ _ _ _ _ _ _ _ _ _ hS hst hAL hKM (hk_sub hk (Nat.le_of_ble_eq_true rfl) (Nat.le_of_ble_eq_true rfl)) hk23 hv1 hv2 hv3 hv1 hm
      · replace hm := if_f hm h432
        refine j_iconst C (v := 1) dL_law__2112 rfl ?_
        refine j_goto C (tgt := 2117) dL_law__2113 (by decide) ?_
        exact tj_L_law__2117 C _ _ _ _ _ _ _ _ _ _ _ _ _ hS hst hAL hKM (hk_sub hk (Nat.le_of_ble_eq_true rfl) (Nat.le_of_ble_eq_true rfl)) hk23 hv1 hv2 hv3 hv1 hm
    replace hm := if_f hm h429
    by_cases h433 : ((sc v4.toNatClampNeg) &&& 63) = 47
    · replace hm := if_t hm h433
      refine j_tabI C (tgt := 2180) 47 dL_law__40 (by rw [h433]; first | done | rfl) (by decide) (by decide) rfl (by decide) ?_
      refine j_aload_n C 1 dL_law__2180 rfl ?_
      refine j_aload_n C 0 dL_law__2181 rfl ?_
      refine j_iload C 4 dL_law__2182 rfl ?_
      refine j_iconst C (v := 1) dL_law__2184 rfl ?_
      refine j_iadd C dL_law__2185 ?_
      obtain ⟨h434, hm⟩ := gd_some hm
      refine j_sld C hS h434 dL_law__2186 ?_
      refine j_aload_n C 0 dL_law__2187 rfl ?_
      refine j_iload C 4 dL_law__2188 rfl ?_
      refine j_iconst C (v := 2) dL_law__2190 rfl ?_
      refine j_iadd C dL_law__2191 ?_
      obtain ⟨h435, hm⟩ := gd_some hm
      refine j_sld C hS h435 dL_law__2192 ?_
      refine j_if_eq C (tgt := 2200) dL_law__2193 (by decide) (fun h436 => ?_) (fun h436 => ?_)
      · replace hm := if_t hm h436
        refine j_iconst C (v := 0) dL_law__2200 rfl ?_
        exact tj_L_law__2201 C _ _ _ _ _ _ _ _ _ _ _ _ _ hS hst hAL hKM (hk_sub hk (Nat.le_of_ble_eq_true rfl) (Nat.le_of_ble_eq_true rfl)) hk23 hv1 hv2 hv3 hv1 hm
      · replace hm := if_f hm h436
        refine j_iconst C (v := 1) dL_law__2196 rfl ?_
        refine j_goto C (tgt := 2201) dL_law__2197 (by decide) ?_
        exact tj_L_law__2201 C _ _ _ _ _ _ _ _ _ _ _ _ _ hS hst hAL hKM (hk_sub hk (Nat.le_of_ble_eq_true rfl) (Nat.le_of_ble_eq_true rfl)) hk23 hv1 hv2 hv3 hv1 hm
    replace hm := if_f hm h433
    by_cases h437 : ((sc v4.toNatClampNeg) &&& 63) = 48
    · replace hm := if_t hm h437
      refine j_tabI C (tgt := 2264) 48 dL_law__40 (by rw [h437]; first | done | rfl) (by decide) (by decide) rfl (by decide) ?_
      refine j_aload_n C 1 dL_law__2264 rfl ?_
      refine j_aload_n C 0 dL_law__2265 rfl ?_
      refine j_iload C 4 dL_law__2266 rfl ?_
      refine j_iconst C (v := 1) dL_law__2268 rfl ?_
      refine j_iadd C dL_law__2269 ?_
      obtain ⟨h438, hm⟩ := gd_some hm
      refine j_sld C hS h438 dL_law__2270 ?_
      refine j_aload_n C 0 dL_law__2271 rfl ?_
      refine j_iload C 4 dL_law__2272 rfl ?_
      refine j_iconst C (v := 2) dL_law__2274 rfl ?_
      refine j_iadd C dL_law__2275 ?_
      obtain ⟨h439, hm⟩ := gd_some hm
      refine j_sld C hS h439 dL_law__2276 ?_
      refine j_if_eq C (tgt := 2284) dL_law__2277 (by decide) (fun h440 => ?_) (fun h440 => ?_)
      · replace hm := if_t hm h440
        refine j_iconst C (v := 0) dL_law__2284 rfl ?_
        exact tj_L_law__2285 C _ _ _ _ _ _ _ _ _ _ _ _ _ hS hst hAL hKM (hk_sub hk (Nat.le_of_ble_eq_true rfl) (Nat.le_of_ble_eq_true rfl)) hk23 hv1 hv2 hv3 hv1 hm
      · replace hm := if_f hm h440
        refine j_iconst C (v := 1) dL_law__2280 rfl ?_
        refine j_goto C (tgt := 2285) dL_law__2281 (by decide) ?_
        exact tj_L_law__2285 C _ _ _ _ _ _ _ _ _ _ _ _ _ hS hst hAL hKM (hk_sub hk (Nat.le_of_ble_eq_true rfl) (Nat.le_of_ble_eq_true rfl)) hk23 hv1 hv2 hv3 hv1 hm
    replace hm := if_f hm h437
    by_cases h441 : ((sc v4.toNatClampNeg) &&& 63) = 49
    · replace hm := if_t hm h441
      refine j_tabI C (tgt := 2348) 49 dL_law__40 (by rw [h441]; first | done | rfl) (by decide) (by decide) rfl (by decide) ?_
      refine j_aload_n C 1 dL_law__2348 rfl ?_
      refine j_aload_n C 0 dL_law__2349 rfl ?_
      refine j_iload C 4 dL_law__2350 rfl ?_
      refine j_iconst C (v := 1) dL_law__2352 rfl ?_
      refine j_iadd C dL_law__2353 ?_
      obtain ⟨h442, hm⟩ := gd_some hm
      refine j_sld C hS h442 dL_law__2354 ?_
      refine j_aload_n C 0 dL_law__2355 rfl ?_
      refine j_iload C 4 dL_law__2356 rfl ?_
      refine j_iconst C (v := 2) dL_law__2358 rfl ?_
      refine j_iadd C dL_law__2359 ?_
      obtain ⟨h443, hm⟩ := gd_some hm
      refine j_sld C hS h443 dL_law__2360 ?_
      refine j_if_eq C (tgt := 2368) dL_law__2361 (by decide) (fun h444 => ?_) (fun h444 => ?_)
      · replace hm := if_t hm h444
        refine j_iconst C (v := 0) dL_law__2368 rfl ?_
        exact tj_L_law__2369 C _ _ _ _ _ _ _ _ _ _ _ _ _ hS hst hAL hKM (hk_sub hk (Nat.le_of_ble_eq_true rfl) (Nat.le_of_ble_eq_true rfl)) hk23 hv1 hv2 hv3 hv1 hm
      · replace hm := if_f hm h444
        refine j_iconst C (v := 1) dL_law__2364 rfl ?_
        refine j_goto C (tgt := 2369) dL_law__2365 (by decide) ?_
        exact tj_L_law__2369 C _ _ _ _ _ _ _ _ _ _ _ _ _ hS hst hAL hKM (hk_sub hk (Nat.le_of_ble_eq_true rfl) (Nat.le_of_ble_eq_true rfl)) hk23 hv1 hv2 hv3 hv1 hm
    replace hm := if_f hm h441
    by_cases h445 : ((sc v4.toNatClampNeg) &&& 63) = 50
    · replace hm := if_t hm h445
      refine j_tabI C (tgt := 2432) 50 dL_law__40 (by rw [h445]; first | done | rfl) (by decide) (by decide) rfl (by decide) ?_
      refine j_aload_n C 1 dL_law__2432 rfl ?_
      refine j_aload_n C 0 dL_law__2433 rfl ?_
      refine j_iload C 4 dL_law__2434 rfl ?_
      refine j_iconst C (v := 1) dL_law__2436 rfl ?_
      refine j_iadd C dL_law__2437 ?_
      obtain ⟨h446, hm⟩ := gd_some hm
      refine j_sld C hS h446 dL_law__2438 ?_
      refine j_aload_n C 0 dL_law__2439 rfl ?_
      refine j_iload C 4 dL_law__2440 rfl ?_
      refine j_iconst C (v := 2) dL_law__2442 rfl ?_
      refine j_iadd C dL_law__2443 ?_
      obtain ⟨h447, hm⟩ := gd_some hm
      refine j_sld C hS h447 dL_law__2444 ?_
      refine j_aload_n C 3 dL_law__2445 rfl ?_
      obtain ⟨r448, h449, hm⟩ := bd_some hm
      refine call_W C lkw_304 ⟨Nat.le_of_ble_eq_true rfl, Nat.le_of_ble_eq_true rfl⟩ (hk_room (hk_sub hk (Nat.le_of_ble_eq_true rfl) (Nat.le_of_ble_eq_true rfl)) hKM) (As := [.ref v1, .int (sc (v4 + 1).toNatClampNeg), .int (sc (v4 + 2).toNatClampNeg), .ref v3]) rfl rfl (Nat.le_of_ble_eq_true rfl) dL_law__2446 (mw_L_log _ hst _ _ _ _ _ _ _ hv1 hv3 h449) ?_
      replace C := Cx_bump (a := 1) (b := 6) C (hk_room (a := 1) (b := 6) (hk_sub hk (Nat.le_of_ble_eq_true rfl) (Nat.le_of_ble_eq_true rfl)) hKM)
      replace hk := hk_bump (a := 1) (b := 6) (n := 0) (m := 0) (hk_sub hk (Nat.le_of_ble_eq_true rfl) (Nat.le_of_ble_eq_true rfl))
      refine j_istore C (lv' := [(5, .int r448.1), (0, .ref v0), (1, .ref v1), (2, .ref v2), (3, .ref v3), (4, .int v4)]) dL_law__2449 (by decide) rfl ?_
      refine j_aload_n C 3 dL_law__2451 rfl ?_
      refine j_aload_n C 1 dL_law__2452 rfl ?_
      refine j_iload C 5 dL_law__2453 rfl ?_
      refine j_iconst C (v := 1) dL_law__2455 rfl ?_
      refine j_iadd C dL_law__2456 ?_
      obtain ⟨h450, hm⟩ := gd_some hm
      refine j_sld C hS h450 dL_law__2457 ?_
      refine j_aload_n C 1 dL_law__2458 rfl ?_
      refine j_iload C 5 dL_law__2459 rfl ?_
      refine j_iconst C (v := 2) dL_law__2461 rfl ?_
      refine j_iadd C dL_law__2462 ?_
      obtain ⟨h451, hm⟩ := gd_some hm
      refine j_sld C hS h451 dL_law__2463 ?_
      obtain ⟨r452, h453, hm⟩ := bd_some hm
      refine call_I (run_LV C lk_L_306 ⟨rfl, rfl, Nat.le_of_ble_eq_true rfl, Nat.le_of_ble_eq_true rfl⟩ (As := [.int (sc (v4 + 1).toNatClampNeg), .int (sc (v4 + 2).toNatClampNeg)]) hv2 rfl rfl (Nat.le_of_ble_eq_true rfl) dL_law__2464 (mc_X12_log _ _ _ _ _ _ _ hv2 h453)) ?_
      refine j_istore C (lv' := [(6, .int r452.1), (5, .int r448.1), (0, .ref v0), (1, .ref v1), (2, .ref v2), (3, .ref v3), (4, .int v4)]) dL_law__2467 (by decide) rfl ?_
      refine j_aload_n C 4 dL_law__2469 rfl ?_
      obtain ⟨r454, h455, hm⟩ := bd_some hm
      refine call_I (run_LV C lk_L_134 ⟨rfl, rfl, Nat.le_of_ble_eq_true rfl, Nat.le_of_ble_eq_true rfl⟩ (As := []) hv2 rfl rfl (Nat.le_of_ble_eq_true rfl) dL_law__2470 (mc_X12_thrown _ _ _ _ _ hv2 h455)) ?_
      refine j_iload C 1 dL_law__2473 rfl ?_
      refine j_icmp_eq C (tgt := 2480) dL_law__2475 (by decide) (fun h456 => ?_) (fun h456 => ?_)
      · replace hm := if_t hm h456
        refine j_iload C 1 dL_law__2480 rfl ?_
        refine j_if_ne C (tgt := 2497) dL_law__2482 (by decide) (fun h457 => ?_) (fun h457 => ?_)
        · replace hm := if_f hm h457
          refine j_sub [2, 3, 4, 5, 6] rfl ?_
          exact tj_L_law__2497 C _ _ _ _ _ _ _ _ _ _ hS hst hAL hKM (hk_sub hk (Nat.le_of_ble_eq_true rfl) (Nat.le_of_ble_eq_true rfl)) hk23 hv1 hv2 hv3 hm
        · replace hm := if_t hm h457
          refine j_aload_n C 5 dL_law__2485 rfl ?_
          refine j_iconst C (v := 0) dL_law__2486 rfl ?_
          obtain ⟨h458, hm⟩ := gd_some hm
          refine j_lald C hv3 h458 dL_law__2487 ?_
          refine j_iload C 0 dL_law__2488 rfl ?_
          refine j_i2l C dL_law__2490 ?_
          refine j_lcmp C dL_law__2491 ?_
          refine j_if_eq C (tgt := 2497) dL_law__2492 (by decide) (fun h459 => ?_) (fun h459 => ?_)
          · replace hm := if_t hm h459
            refine j_sub [2, 3, 4, 5, 6] rfl ?_
            exact tj_L_law__2497 C _ _ _ _ _ _ _ _ _ _ hS hst hAL hKM (hk_sub hk (Nat.le_of_ble_eq_true rfl) (Nat.le_of_ble_eq_true rfl)) hk23 hv1 hv2 hv3 hm
          · replace hm := if_f hm h459
            refine j_iconst C (v := 0) dL_law__2495 rfl ?_
            exact absurd (Option.some.inj hm) (by decide)
      · replace hm := if_f hm h456
        refine j_iconst C (v := 0) dL_law__2478 rfl ?_
        exact absurd (Option.some.inj hm) (by decide)
    replace hm := if_f hm h445
    by_cases h460 : ((sc v4.toNatClampNeg) &&& 63) = 51
    · replace hm := if_t hm h460
      refine j_tabI C (tgt := 2500) 51 dL_law__40 (by rw [h460]; first | done | rfl) (by decide) (by decide) rfl (by decide) ?_
      refine j_aload_n C 1 dL_law__2500 rfl ?_
      refine j_aload_n C 0 dL_law__2501 rfl ?_
      refine j_iload C 4 dL_law__2502 rfl ?_
      refine j_iconst C (v := 1) dL_law__2504 rfl ?_
      refine j_iadd C dL_law__2505 ?_
      obtain ⟨h461, hm⟩ := gd_some hm
      refine j_sld C hS h461 dL_law__2506 ?_
      obtain ⟨r462, h463, hm⟩ := bd_some hm
      refine call_I (run_LV C lk_L_307 ⟨rfl, rfl, Nat.le_of_ble_eq_true rfl, Nat.le_of_ble_eq_true rfl⟩ (As := [.int (sc (v4 + 1).toNatClampNeg)]) hv1 rfl rfl (Nat.le_of_ble_eq_true rfl) dL_law__2507 (mc_X11_seed _ _ _ _ _ _ hv1 h463)) ?_
      refine j_aload_n C 2 dL_law__2510 rfl ?_
      refine j_aload_n C 0 dL_law__2511 rfl ?_
      refine j_iload C 4 dL_law__2512 rfl ?_
      refine j_iconst C (v := 1) dL_law__2514 rfl ?_
      refine j_iadd C dL_law__2515 ?_
      obtain ⟨h464, hm⟩ := gd_some hm
      refine j_sld C hS h464 dL_law__2516 ?_
      obtain ⟨r465, h466, hm⟩ := bd_some hm
      refine call_I (run_LV C lk_L_310 ⟨rfl, rfl, Nat.le_of_ble_eq_true rfl, Nat.le_of_ble_eq_true rfl⟩ (As := [.int (sc (v4 + 1).toNatClampNeg)]) hv2 rfl rfl (Nat.le_of_ble_eq_true rfl) dL_law__2517 (mc_X12_seed _ _ _ _ _ _ hv2 h466)) ?_
      refine j_icmp_eq C (tgt := 2587) dL_law__2520 (by decide) (fun h467 => ?_) (fun h467 => ?_)
      · replace hm := if_t hm h467
        exact tj_L_law__2587 C _ _ _ _ _ _ _ _ _ _ hS hst hAL hKM (hk_sub hk (Nat.le_of_ble_eq_true rfl) (Nat.le_of_ble_eq_true rfl)) hk23 hv1 hv2 hv3 hm
      · replace hm := if_f hm h467
        refine j_iconst C (v := 0) dL_law__2523 rfl ?_
        exact absurd (Option.some.inj hm) (by decide)
    replace hm := if_f hm h460
    by_cases h468 : ((sc v4.toNatClampNeg) &&& 63) = 52
    · replace hm := if_t hm h468
      refine j_tabI C (tgt := 2525) 52 dL_law__40 (by rw [h468]; first | done | rfl) (by decide) (by decide) rfl (by decide) ?_
      refine j_aload_n C 1 dL_law__2525 rfl ?_
      obtain ⟨r469, h470, hm⟩ := bd_some hm
      refine call_I (run_LV C lk_L_311 ⟨rfl, rfl, Nat.le_of_ble_eq_true rfl, Nat.le_of_ble_eq_true rfl⟩ (As := []) hv1 rfl rfl (Nat.le_of_ble_eq_true rfl) dL_law__2526 (mc_X11_undo _ _ _ _ _ hv1 h470)) ?_
      refine j_aload_n C 2 dL_law__2529 rfl ?_
      obtain ⟨r471, h472, hm⟩ := bd_some hm
      refine call_I (run_LV C lk_L_314 ⟨rfl, rfl, Nat.le_of_ble_eq_true rfl, Nat.le_of_ble_eq_true rfl⟩ (As := []) hv2 rfl rfl (Nat.le_of_ble_eq_true rfl) dL_law__2530 (mc_X12_undo _ _ _ _ _ hv2 h472)) ?_
      refine j_icmp_eq C (tgt := 2587) dL_law__2533 (by decide) (fun h473 => ?_) (fun h473 => ?_)
      · replace hm := if_t hm h473
        exact tj_L_law__2587 C _ _ _ _ _ _ _ _ _ _ hS hst hAL hKM (hk_sub hk (Nat.le_of_ble_eq_true rfl) (Nat.le_of_ble_eq_true rfl)) hk23 hv1 hv2 hv3 hm
      · replace hm := if_f hm h473
        refine j_iconst C (v := 0) dL_law__2536 rfl ?_
        exact absurd (Option.some.inj hm) (by decide)
    replace hm := if_f hm h468
    by_cases h474 : ((sc v4.toNatClampNeg) &&& 63) = 53
    · replace hm := if_t hm h474
      refine j_tabI C (tgt := 2538) 53 dL_law__40 (by rw [h474]; first | done | rfl) (by decide) (by decide) rfl (by decide) ?_
      refine j_aload_n C 1 dL_law__2538 rfl ?_
      obtain ⟨r475, h476, hm⟩ := bd_some hm
      refine call_V (run_LV C lk_L_315 ⟨rfl, rfl, Nat.le_of_ble_eq_true rfl, Nat.le_of_ble_eq_true rfl⟩ (As := []) hv1 rfl rfl (Nat.le_of_ble_eq_true rfl) dL_law__2539 (mc_X11_image _ _ _ _ _ hv1 h476)) ?_
      refine j_aload_n C 2 dL_law__2542 rfl ?_
      obtain ⟨r477, h478, hm⟩ := bd_some hm
      refine call_V (run_LV C lk_L_318 ⟨rfl, rfl, Nat.le_of_ble_eq_true rfl, Nat.le_of_ble_eq_true rfl⟩ (As := []) hv2 rfl rfl (Nat.le_of_ble_eq_true rfl) dL_law__2543 (mc_X12_image _ _ _ _ _ hv2 h478)) ?_
      refine j_goto C (tgt := 2587) dL_law__2546 (by decide) ?_
      exact tj_L_law__2587 C _ _ _ _ _ _ _ _ _ _ hS hst hAL hKM (hk_sub hk (Nat.le_of_ble_eq_true rfl) (Nat.le_of_ble_eq_true rfl)) hk23 hv1 hv2 hv3 hm
    replace hm := if_f hm h474
    by_cases h479 : ((sc v4.toNatClampNeg) &&& 63) = 54
    · replace hm := if_t hm h479
      refine j_tabI C (tgt := 2549) 54 dL_law__40 (by rw [h479]; first | done | rfl) (by decide) (by decide) rfl (by decide) ?_
      refine j_aload_n C 1 dL_law__2549 rfl ?_
      obtain ⟨r480, h481, hm⟩ := bd_some hm
      refine call_I (run_LV C lk_L_319 ⟨rfl, rfl, Nat.le_of_ble_eq_true rfl, Nat.le_of_ble_eq_true rfl⟩ (As := []) hv1 rfl rfl (Nat.le_of_ble_eq_true rfl) dL_law__2550 (mc_X11_back _ _ _ _ _ hv1 h481)) ?_
      refine j_aload_n C 2 dL_law__2553 rfl ?_
      obtain ⟨r482, h483, hm⟩ := bd_some hm
      refine call_I (run_LV C lk_L_322 ⟨rfl, rfl, Nat.le_of_ble_eq_true rfl, Nat.le_of_ble_eq_true rfl⟩ (As := []) hv2 rfl rfl (Nat.le_of_ble_eq_true rfl) dL_law__2554 (mc_X12_back _ _ _ _ _ hv2 h483)) ?_
      refine j_icmp_eq C (tgt := 2587) dL_law__2557 (by decide) (fun h484 => ?_) (fun h484 => ?_)
      · replace hm := if_t hm h484
        exact tj_L_law__2587 C _ _ _ _ _ _ _ _ _ _ hS hst hAL hKM (hk_sub hk (Nat.le_of_ble_eq_true rfl) (Nat.le_of_ble_eq_true rfl)) hk23 hv1 hv2 hv3 hm
      · replace hm := if_f hm h484
        refine j_iconst C (v := 0) dL_law__2560 rfl ?_
        exact absurd (Option.some.inj hm) (by decide)
    replace hm := if_f hm h479
    by_cases h485 : ((sc v4.toNatClampNeg) &&& 63) = 55
    · replace hm := if_t hm h485
      refine j_tabI C (tgt := 2562) 55 dL_law__40 (by rw [h485]; first | done | rfl) (by decide) (by decide) rfl (by decide) ?_
      refine j_aload_n C 1 dL_law__2562 rfl ?_
      refine j_aload_n C 0 dL_law__2563 rfl ?_
      refine j_iload C 4 dL_law__2564 rfl ?_
      refine j_iconst C (v := 1) dL_law__2566 rfl ?_
      refine j_iadd C dL_law__2567 ?_
      obtain ⟨h486, hm⟩ := gd_some hm
      refine j_sld C hS h486 dL_law__2568 ?_
      obtain ⟨r487, h488, hm⟩ := bd_some hm
      refine call_I (run_LV C lk_L_323 ⟨rfl, rfl, Nat.le_of_ble_eq_true rfl, Nat.le_of_ble_eq_true rfl⟩ (As := [.int (sc (v4 + 1).toNatClampNeg)]) hv1 rfl rfl (Nat.le_of_ble_eq_true rfl) dL_law__2569 (mc_X11_count _ _ _ _ _ _ hv1 h488)) ?_
      refine j_aload_n C 2 dL_law__2572 rfl ?_
      refine j_aload_n C 0 dL_law__2573 rfl ?_
      refine j_iload C 4 dL_law__2574 rfl ?_
      refine j_iconst C (v := 1) dL_law__2576 rfl ?_
      refine j_iadd C dL_law__2577 ?_
      obtain ⟨h489, hm⟩ := gd_some hm
      refine j_sld C hS h489 dL_law__2578 ?_
      obtain ⟨r490, h491, hm⟩ := bd_some hm
      refine call_I (run_LV C lk_L_326 ⟨rfl, rfl, Nat.le_of_ble_eq_true rfl, Nat.le_of_ble_eq_true rfl⟩ (As := [.int (sc (v4 + 1).toNatClampNeg)]) hv2 rfl rfl (Nat.le_of_ble_eq_true rfl) dL_law__2579 (mc_X12_count _ _ _ _ _ _ hv2 h491)) ?_
      refine j_icmp_eq C (tgt := 2587) dL_law__2582 (by decide) (fun h492 => ?_) (fun h492 => ?_)
      · replace hm := if_t hm h492
        exact tj_L_law__2587 C _ _ _ _ _ _ _ _ _ _ hS hst hAL hKM (hk_sub hk (Nat.le_of_ble_eq_true rfl) (Nat.le_of_ble_eq_true rfl)) hk23 hv1 hv2 hv3 hm
      · replace hm := if_f hm h492
        refine j_iconst C (v := 0) dL_law__2585 rfl ?_
        exact absurd (Option.some.inj hm) (by decide)
    replace hm := if_f hm h485
    refine j_tabO C (tgt := 2587) dL_law__40 (sw_out ((sc v4.toNatClampNeg) &&& 63) [0, 1, 2, 3, 4, 5, 6, 7, 8, 9, 10, 11, 12, 13, 14, 15, 16, 17, 18, 19, 20, 21, 22, 23, 24, 25, 26, 27, 28, 29, 30, 31, 32, 33, 34, 35, 36, 37, 38, 39, 40, 41, 42, 43, 44, 45, 46, 47, 48, 49, 50, 51, 52, 53, 54, 55] (by decide +kernel) ?_) (by decide) ?_
    · simp only [List.mem_cons, List.not_mem_nil, or_false, not_or]; exact ⟨h3, h19, h27, h38, h49, h55, h70, h85, h98, h111, h114, h129, h142, h159, h163, h176, h189, h204, h210, h216, h222, h228, h234, h240, h246, h252, h258, h264, h270, h273, h284, h295, h306, h317, h323, h329, h342, h355, h368, h383, h396, h402, h408, h414, h420, h426, h429, h433, h437, h441, h445, h460, h468, h474, h479, h485⟩
    exact tj_L_law__2587 C _ _ _ _ _ _ _ _ _ _ hS hst hAL hKM (hk_sub hk (Nat.le_of_ble_eq_true rfl) (Nat.le_of_ble_eq_true rfl)) hk23 hv1 hv2 hv3 hm

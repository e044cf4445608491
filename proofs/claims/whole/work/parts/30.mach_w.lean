abbrev hh_L_dock : List (Nat × Nat × Nat × Nat) := [(0, 8, 11, 13), (0, 8, 14, 15)]
abbrev rm_L_dock : Room := { frames := 58, cells := 1, slots := 6, locals := 4425 }
set_option maxRecDepth 20000 in
set_option maxHeartbeats 4000000 in
theorem tm_L_dock {x : Ctx} {Λ : Lay} (C : Cx x cL_dock 3 (some .int) RL Λ rm_L_dock) (N : Nat) (μ : Mem) (v0 : Nat) (v1 : Nat) (hT : HT x hh_L_dock) (hk : xk x + 1 ≤ (rm_L_dock).cells ∧ xl x + 6 ≤ (rm_L_dock).slots) (hv0 : inL Λ v0 10) (hv1 : inL Λ v1 14) {r : Int32 × Mem} (hm : m_L_dock N Λ μ v0 v1 = some r) : J x 3 Λ (QW x Λ rm_L_dock r.1 r.2) 0 [(0, .ref v0), (1, .ref v1)] [] μ := by
  refine j_aload_n C 1 dL_dock_0 rfl ?_
  refine j_iconst C (v := 0) dL_dock_1 rfl ?_
  refine j_aload_n C 0 dL_dock_2 rfl ?_
  obtain ⟨r1, h2, hm⟩ := bd_some hm
  refine call_XH (runx_LV C lk_L_7 ⟨Nat.le_of_ble_eq_true rfl, Nat.le_of_ble_eq_true rfl⟩ (hk_sub hk (Nat.le_of_ble_eq_true rfl) (Nat.le_of_ble_eq_true rfl)) (As := []) hv0 rfl rfl (Nat.le_of_ble_eq_true rfl) dL_dock_3 (mcx_X11_dock _ hT.2 _ _ _ _ hv0 h2)) (fun e3 => ?_) (fun E H1 locs1 ls ce q9 hE hw hl hc hv hcl => ?_)
  rotate_left
  · have e0 : ¬ r1.1 = 0 := fun e => by rw [e] at hE; cases hE
    replace hm := if_f hm e0
    by_cases a0 : r1.1 = 1
    · replace hm := if_t hm a0
      have hE1 : E = "java/lang/IllegalArgumentException" := by rw [a0] at hE; exact (Option.some.inj hE).symm
      subst hE1
      obtain rfl := Option.some.inj hm
      refine catch_J (Cx_bump (a := 1) (b := 6) C (hk_sub hk (Nat.le_of_ble_eq_true rfl) (Nat.le_of_ble_eq_true rfl))) (HT_bump hT) [] ⟨0, 8, 11, 13⟩ [⟨0, 8, 14, 15⟩] rfl (fun y hy => by cases hy) rfl (by decide) wk_745 (List.mem_of_getElem? (i := 18) rfl) (fun q8 => ?_) H1 locs1 ls ce q9 hw hl hc hv hcl
      have C := Cx_bump (a := 1) (b := 6) C (hk_sub hk (Nat.le_of_ble_eq_true rfl) (Nat.le_of_ble_eq_true rfl))
      refine j_astore_n C (lv' := [(2, .ref q8), (0, .ref v0), (1, .ref v1)]) dL_dock_11 (by decide) rfl ?_
      refine j_iconst C (v := 1) dL_dock_12 rfl ?_
      exact jw_ireti C dL_dock_13
    replace hm := if_f hm a0
    by_cases a1 : r1.1 = 2
    · replace hm := if_t hm a1
      have hE1 : E = "java/lang/UnsupportedOperationException" := by rw [a1] at hE; exact (Option.some.inj hE).symm
      subst hE1
      obtain rfl := Option.some.inj hm
      refine catch_J (Cx_bump (a := 1) (b := 6) C (hk_sub hk (Nat.le_of_ble_eq_true rfl) (Nat.le_of_ble_eq_true rfl))) (HT_bump hT) [⟨0, 8, 11, 13⟩] ⟨0, 8, 14, 15⟩ [] rfl (fun y hy => by rcases List.mem_cons.mp hy with rfl | hy; exact Or.inr ⟨by decide, "java/lang/IllegalArgumentException", wk_745, by decide⟩; cases hy) rfl (by decide) wk_746 (List.mem_of_getElem? (i := 25) rfl) (fun q8 => ?_) H1 locs1 ls ce q9 hw hl hc hv hcl
      have C := Cx_bump (a := 1) (b := 6) C (hk_sub hk (Nat.le_of_ble_eq_true rfl) (Nat.le_of_ble_eq_true rfl))
      refine j_astore_n C (lv' := [(2, .ref q8), (0, .ref v0), (1, .ref v1)]) dL_dock_14 (by decide) rfl ?_
      refine j_iconst C (v := 2) dL_dock_15 rfl ?_
      exact jw_ireti C dL_dock_16
    replace hm := if_f hm a1
    cases hm
  replace hm := if_t hm e3
  replace C := Cx_bump (a := 1) (b := 6) C (hk_sub hk (Nat.le_of_ble_eq_true rfl) (Nat.le_of_ble_eq_true rfl))
  replace hT := HT_bump (a := 1) (b := 6) hT
  replace hk := hk_bump (a := 1) (b := 6) (n := 0) (m := 0) hk
  refine j_i2l C dL_dock_6 ?_
  obtain ⟨h4, hm⟩ := gd_some hm
  obtain ⟨μ5, e6, hm⟩ := lt_some hm
  refine j_last C hv1 h4 e6 dL_dock_7 ?_
  refine j_goto C (tgt := 17) dL_dock_8 (by decide) ?_
  refine j_iconst C (v := 0) dL_dock_17 rfl ?_
  obtain rfl := Option.some.inj hm
  exact jw_ireti C dL_dock_18
set_option maxRecDepth 20000 in
set_option maxHeartbeats 4000000 in
theorem mw_L_dock (l : Launch) (hst : l.stackTraces = false) (N : Nat) (Λ : Lay) (μ : Mem) (v0 : Nat) (v1 : Nat) (hv0 : inL Λ v0 10) (hv1 : inL Λ v1 14) {r : Int32 × Mem} (hm : m_L_dock N Λ μ v0 v1 = some r) : MW l yL_dock cL_dock 3 hh_L_dock rm_L_dock Λ [.ref v0, .ref v1] μ r.1 r.2 := mw_of hst rfl (Nat.le_of_ble_eq_true rfl) (fun x C _ hT h0 => tm_L_dock C _ _ _ _ hT (hk_0 h0) hv0 hv1 hm)
abbrev hh_L_law : List (Nat × Nat × Nat × Nat) := [(0, 8, 11, 13)]
abbrev rm_L_law : Room := { frames := 58, cells := 1, slots := 6, locals := 4425 }
set_option maxRecDepth 20000 in
set_option maxHeartbeats 4000000 in
theorem tm_L_law {x : Ctx} {Λ : Lay} (C : Cx x cL_law 3 (some .int) RL Λ rm_L_law) (N : Nat) (μ : Mem) (v0 : Nat) (v1 : Nat) (hT : HT x hh_L_law) (hk : xk x + 1 ≤ (rm_L_law).cells ∧ xl x + 6 ≤ (rm_L_law).slots) (hv0 : inL Λ v0 10) (hv1 : inL Λ v1 14) {r : Int32 × Mem} (hm : m_L_law N Λ μ v0 v1 = some r) : J x 3 Λ (QW x Λ rm_L_law r.1 r.2) 0 [(0, .ref v0), (1, .ref v1)] [] μ := by
  refine j_aload_n C 1 dL_law_0 rfl ?_
  refine j_iconst C (v := 0) dL_law_1 rfl ?_
  refine j_aload_n C 0 dL_law_2 rfl ?_
  obtain ⟨r1, h2, hm⟩ := bd_some hm
  refine call_XH (runx_LV C lk_L_17 ⟨Nat.le_of_ble_eq_true rfl, Nat.le_of_ble_eq_true rfl⟩ (hk_sub hk (Nat.le_of_ble_eq_true rfl) (Nat.le_of_ble_eq_true rfl)) (As := []) hv0 rfl rfl (Nat.le_of_ble_eq_true rfl) dL_law_3 (mcx_X11_law _ hT.2 _ _ _ _ hv0 h2)) (fun e3 => ?_) (fun E H1 locs1 ls ce q9 hE hw hl hc hv hcl => ?_)
  rotate_left
  · have e0 : ¬ r1.1 = 0 := fun e => by rw [e] at hE; cases hE
    replace hm := if_f hm e0
    by_cases a0 : r1.1 = 1
    · replace hm := if_t hm a0
      have hE1 : E = "java/lang/IllegalArgumentException" := by rw [a0] at hE; exact (Option.some.inj hE).symm
      subst hE1
      obtain rfl := Option.some.inj hm
      refine catch_J (Cx_bump (a := 1) (b := 6) C (hk_sub hk (Nat.le_of_ble_eq_true rfl) (Nat.le_of_ble_eq_true rfl))) (HT_bump hT) [] ⟨0, 8, 11, 13⟩ [] rfl (fun y hy => by cases hy) rfl (by decide) wk_745 (List.mem_of_getElem? (i := 18) rfl) (fun q8 => ?_) H1 locs1 ls ce q9 hw hl hc hv hcl
      have C := Cx_bump (a := 1) (b := 6) C (hk_sub hk (Nat.le_of_ble_eq_true rfl) (Nat.le_of_ble_eq_true rfl))
      refine j_astore_n C (lv' := [(2, .ref q8), (0, .ref v0), (1, .ref v1)]) dL_law_11 (by decide) rfl ?_
      refine j_iconst C (v := 1) dL_law_12 rfl ?_
      exact jw_ireti C dL_law_13
    replace hm := if_f hm a0
    cases hm
  replace hm := if_t hm e3
  replace C := Cx_bump (a := 1) (b := 6) C (hk_sub hk (Nat.le_of_ble_eq_true rfl) (Nat.le_of_ble_eq_true rfl))
  replace hT := HT_bump (a := 1) (b := 6) hT
  replace hk := hk_bump (a := 1) (b := 6) (n := 0) (m := 0) hk
  refine j_i2l C dL_law_6 ?_
  obtain ⟨h4, hm⟩ := gd_some hm
  obtain ⟨μ5, e6, hm⟩ := lt_some hm
  refine j_last C hv1 h4 e6 dL_law_7 ?_
  refine j_goto C (tgt := 14) dL_law_8 (by decide) ?_
  refine j_iconst C (v := 0) dL_law_14 rfl ?_
  obtain rfl := Option.some.inj hm
  exact jw_ireti C dL_law_15
set_option maxRecDepth 20000 in
set_option maxHeartbeats 4000000 in
theorem mw_L_law (l : Launch) (hst : l.stackTraces = false) (N : Nat) (Λ : Lay) (μ : Mem) (v0 : Nat) (v1 : Nat) (hv0 : inL Λ v0 10) (hv1 : inL Λ v1 14) {r : Int32 × Mem} (hm : m_L_law N Λ μ v0 v1 = some r) : MW l yL_law cL_law 3 hh_L_law rm_L_law Λ [.ref v0, .ref v1] μ r.1 r.2 := mw_of hst rfl (Nat.le_of_ble_eq_true rfl) (fun x C _ hT h0 => tm_L_law C _ _ _ _ hT (hk_0 h0) hv0 hv1 hm)
abbrev hh_L_ship : List (Nat × Nat × Nat × Nat) := [(0, 10, 13, 24), (0, 10, 17, 26)]
abbrev rm_L_ship : Room := { frames := 8, cells := 2, slots := 12, locals := 163 }
set_option maxRecDepth 20000 in
set_option maxHeartbeats 4000000 in
theorem tm_L_ship {x : Ctx} {Λ : Lay} (C : Cx x cL_ship 5 (some .int) RL Λ rm_L_ship) (N : Nat) (μ : Mem) (v0 : Nat) (v1 : Int32) (v2 : Int32) (v3 : Nat) (hT : HT x hh_L_ship) (hk : xk x + 2 ≤ (rm_L_ship).cells ∧ xl x + 12 ≤ (rm_L_ship).slots) (hv0 : inL Λ v0 10) (hv3 : inL Λ v3 14) {r : Int32 × Mem} (hm : m_L_ship N Λ μ v0 v1 v2 v3 = some r) : J x 5 Λ (QW x Λ rm_L_ship r.1 r.2) 0 [(0, .ref v0), (1, .int v1), (2, .int v2), (3, .ref v3)] [] μ := by
  refine j_aload_n C 3 dL_ship_0 rfl ?_
  refine j_iconst C (v := 0) dL_ship_1 rfl ?_
  refine j_aload_n C 0 dL_ship_2 rfl ?_
  refine j_iload_n C 1 dL_ship_3 rfl ?_
  refine j_iload_n C 2 dL_ship_4 rfl ?_
  obtain ⟨r1, h2, hm⟩ := bd_some hm
  refine call_XH (runx_LV C lk_L_20 ⟨Nat.le_of_ble_eq_true rfl, Nat.le_of_ble_eq_true rfl⟩ (hk_sub hk (Nat.le_of_ble_eq_true rfl) (Nat.le_of_ble_eq_true rfl)) (As := [.int v1, .int v2]) hv0 rfl rfl (Nat.le_of_ble_eq_true rfl) dL_ship_5 (mcx_X11_ship _ hT.2 _ _ _ _ _ _ hv0 h2)) (fun e3 => ?_) (fun E H1 locs1 ls ce q9 hE hw hl hc hv hcl => ?_)
  rotate_left
  · have e0 : ¬ r1.1 = 0 := fun e => by rw [e] at hE; cases hE
    replace hm := if_f hm e0
    by_cases a0 : r1.1 = 3
    · replace hm := if_t hm a0
      have hE1 : E = "java/lang/IndexOutOfBoundsException" := by rw [a0] at hE; exact (Option.some.inj hE).symm
      subst hE1
      obtain rfl := Option.some.inj hm
      refine catch_J (Cx_bump (a := 2) (b := 12) C (hk_sub hk (Nat.le_of_ble_eq_true rfl) (Nat.le_of_ble_eq_true rfl))) (HT_bump hT) [] ⟨0, 10, 13, 24⟩ [⟨0, 10, 17, 26⟩] rfl (fun y hy => by cases hy) rfl (by decide) wk_1074 (List.mem_of_getElem? (i := 26) rfl) (fun q8 => ?_) H1 locs1 ls ce q9 hw hl hc hv hcl
      have C := Cx_bump (a := 2) (b := 12) C (hk_sub hk (Nat.le_of_ble_eq_true rfl) (Nat.le_of_ble_eq_true rfl))
      refine j_astore C (lv' := [(4, .ref q8), (0, .ref v0), (1, .int v1), (2, .int v2), (3, .ref v3)]) dL_ship_13 (by decide) rfl ?_
      refine j_iconst C (v := 1) dL_ship_15 rfl ?_
      exact jw_ireti C dL_ship_16
    replace hm := if_f hm a0
    by_cases a1 : r1.1 = 4
    · replace hm := if_t hm a1
      have hE1 : E = "java/util/NoSuchElementException" := by rw [a1] at hE; exact (Option.some.inj hE).symm
      subst hE1
      obtain rfl := Option.some.inj hm
      refine catch_J (Cx_bump (a := 2) (b := 12) C (hk_sub hk (Nat.le_of_ble_eq_true rfl) (Nat.le_of_ble_eq_true rfl))) (HT_bump hT) [⟨0, 10, 13, 24⟩] ⟨0, 10, 17, 26⟩ [] rfl (fun y hy => by rcases List.mem_cons.mp hy with rfl | hy; exact Or.inr ⟨by decide, "java/lang/IndexOutOfBoundsException", wk_1074, by decide⟩; cases hy) rfl (by decide) wk_1075 (List.mem_of_getElem? (i := 27) rfl) (fun q8 => ?_) H1 locs1 ls ce q9 hw hl hc hv hcl
      have C := Cx_bump (a := 2) (b := 12) C (hk_sub hk (Nat.le_of_ble_eq_true rfl) (Nat.le_of_ble_eq_true rfl))
      refine j_astore C (lv' := [(4, .ref q8), (0, .ref v0), (1, .int v1), (2, .int v2), (3, .ref v3)]) dL_ship_17 (by decide) rfl ?_
      refine j_iconst C (v := 2) dL_ship_19 rfl ?_
      exact jw_ireti C dL_ship_20
    replace hm := if_f hm a1
    cases hm
  replace hm := if_t hm e3
  replace C := Cx_bump (a := 2) (b := 12) C (hk_sub hk (Nat.le_of_ble_eq_true rfl) (Nat.le_of_ble_eq_true rfl))
  replace hT := HT_bump (a := 2) (b := 12) hT
  replace hk := hk_bump (a := 2) (b := 12) (n := 0) (m := 0) hk
  refine j_i2l C dL_ship_8 ?_
  obtain ⟨h4, hm⟩ := gd_some hm
  obtain ⟨μ5, e6, hm⟩ := lt_some hm
  refine j_last C hv3 h4 e6 dL_ship_9 ?_
  refine j_goto C (tgt := 21) dL_ship_10 (by decide) ?_
  refine j_iconst C (v := 0) dL_ship_21 rfl ?_
  obtain rfl := Option.some.inj hm
  exact jw_ireti C dL_ship_22
set_option maxRecDepth 20000 in
set_option maxHeartbeats 4000000 in
theorem mw_L_ship (l : Launch) (hst : l.stackTraces = false) (N : Nat) (Λ : Lay) (μ : Mem) (v0 : Nat) (v1 : Int32) (v2 : Int32) (v3 : Nat) (hv0 : inL Λ v0 10) (hv3 : inL Λ v3 14) {r : Int32 × Mem} (hm : m_L_ship N Λ μ v0 v1 v2 v3 = some r) : MW l yL_ship cL_ship 5 hh_L_ship rm_L_ship Λ [.ref v0, .int v1, .int v2, .ref v3] μ r.1 r.2 := mw_of hst rfl (Nat.le_of_ble_eq_true rfl) (fun x C _ hT h0 => tm_L_ship C _ _ _ _ _ _ hT (hk_0 h0) hv0 hv3 hm)
abbrev hh_L_place : List (Nat × Nat × Nat × Nat) := [(0, 10, 13, 24), (0, 10, 17, 26)]
abbrev rm_L_place : Room := { frames := 8, cells := 2, slots := 12, locals := 163 }
set_option maxRecDepth 20000 in
set_option maxHeartbeats 4000000 in
theorem tm_L_place {x : Ctx} {Λ : Lay} (C : Cx x cL_place 5 (some .int) RL Λ rm_L_place) (N : Nat) (μ : Mem) (v0 : Nat) (v1 : Int32) (v2 : Int32) (v3 : Nat) (hT : HT x hh_L_place) (hk : xk x + 2 ≤ (rm_L_place).cells ∧ xl x + 12 ≤ (rm_L_place).slots) (hv0 : inL Λ v0 10) (hv3 : inL Λ v3 14) {r : Int32 × Mem} (hm : m_L_place N Λ μ v0 v1 v2 v3 = some r) : J x 5 Λ (QW x Λ rm_L_place r.1 r.2) 0 [(0, .ref v0), (1, .int v1), (2, .int v2), (3, .ref v3)] [] μ := by
  refine j_aload_n C 3 dL_place_0 rfl ?_
  refine j_iconst C (v := 0) dL_place_1 rfl ?_
  refine j_aload_n C 0 dL_place_2 rfl ?_
  refine j_iload_n C 1 dL_place_3 rfl ?_
  refine j_iload_n C 2 dL_place_4 rfl ?_
  obtain ⟨r1, h2, hm⟩ := bd_some hm
  refine call_XH (runx_LV C lk_L_28 ⟨Nat.le_of_ble_eq_true rfl, Nat.le_of_ble_eq_true rfl⟩ (hk_sub hk (Nat.le_of_ble_eq_true rfl) (Nat.le_of_ble_eq_true rfl)) (As := [.int v1, .int v2]) hv0 rfl rfl (Nat.le_of_ble_eq_true rfl) dL_place_5 (mcx_X11_place _ hT.2 _ _ _ _ _ _ hv0 h2)) (fun e3 => ?_) (fun E H1 locs1 ls ce q9 hE hw hl hc hv hcl => ?_)
  rotate_left
  · have e0 : ¬ r1.1 = 0 := fun e => by rw [e] at hE; cases hE
    replace hm := if_f hm e0
    by_cases a0 : r1.1 = 3
    · replace hm := if_t hm a0
      have hE1 : E = "java/lang/IndexOutOfBoundsException" := by rw [a0] at hE; exact (Option.some.inj hE).symm
      subst hE1
      obtain rfl := Option.some.inj hm
      refine catch_J (Cx_bump (a := 2) (b := 12) C (hk_sub hk (Nat.le_of_ble_eq_true rfl) (Nat.le_of_ble_eq_true rfl))) (HT_bump hT) [] ⟨0, 10, 13, 24⟩ [⟨0, 10, 17, 26⟩] rfl (fun y hy => by cases hy) rfl (by decide) wk_1074 (List.mem_of_getElem? (i := 26) rfl) (fun q8 => ?_) H1 locs1 ls ce q9 hw hl hc hv hcl
      have C := Cx_bump (a := 2) (b := 12) C (hk_sub hk (Nat.le_of_ble_eq_true rfl) (Nat.le_of_ble_eq_true rfl))
      refine j_astore C (lv' := [(4, .ref q8), (0, .ref v0), (1, .int v1), (2, .int v2), (3, .ref v3)]) dL_place_13 (by decide) rfl ?_
      refine j_iconst C (v := 1) dL_place_15 rfl ?_
      exact jw_ireti C dL_place_16
    replace hm := if_f hm a0
    by_cases a1 : r1.1 = 4
    · replace hm := if_t hm a1
      have hE1 : E = "java/util/NoSuchElementException" := by rw [a1] at hE; exact (Option.some.inj hE).symm
      subst hE1
      obtain rfl := Option.some.inj hm
      refine catch_J (Cx_bump (a := 2) (b := 12) C (hk_sub hk (Nat.le_of_ble_eq_true rfl) (Nat.le_of_ble_eq_true rfl))) (HT_bump hT) [⟨0, 10, 13, 24⟩] ⟨0, 10, 17, 26⟩ [] rfl (fun y hy => by rcases List.mem_cons.mp hy with rfl | hy; exact Or.inr ⟨by decide, "java/lang/IndexOutOfBoundsException", wk_1074, by decide⟩; cases hy) rfl (by decide) wk_1075 (List.mem_of_getElem? (i := 27) rfl) (fun q8 => ?_) H1 locs1 ls ce q9 hw hl hc hv hcl
      have C := Cx_bump (a := 2) (b := 12) C (hk_sub hk (Nat.le_of_ble_eq_true rfl) (Nat.le_of_ble_eq_true rfl))
      refine j_astore C (lv' := [(4, .ref q8), (0, .ref v0), (1, .int v1), (2, .int v2), (3, .ref v3)]) dL_place_17 (by decide) rfl ?_
      refine j_iconst C (v := 2) dL_place_19 rfl ?_
      exact jw_ireti C dL_place_20
    replace hm := if_f hm a1
    cases hm
  replace hm := if_t hm e3
  replace C := Cx_bump (a := 2) (b := 12) C (hk_sub hk (Nat.le_of_ble_eq_true rfl) (Nat.le_of_ble_eq_true rfl))
  replace hT := HT_bump (a := 2) (b := 12) hT
  replace hk := hk_bump (a := 2) (b := 12) (n := 0) (m := 0) hk
  refine j_i2l C dL_place_8 ?_
  obtain ⟨h4, hm⟩ := gd_some hm
  obtain ⟨μ5, e6, hm⟩ := lt_some hm
  refine j_last C hv3 h4 e6 dL_place_9 ?_
  refine j_goto C (tgt := 21) dL_place_10 (by decide) ?_
  refine j_iconst C (v := 0) dL_place_21 rfl ?_
  obtain rfl := Option.some.inj hm
  exact jw_ireti C dL_place_22
set_option maxRecDepth 20000 in
set_option maxHeartbeats 4000000 in
theorem mw_L_place (l : Launch) (hst : l.stackTraces = false) (N : Nat) (Λ : Lay) (μ : Mem) (v0 : Nat) (v1 : Int32) (v2 : Int32) (v3 : Nat) (hv0 : inL Λ v0 10) (hv3 : inL Λ v3 14) {r : Int32 × Mem} (hm : m_L_place N Λ μ v0 v1 v2 v3 = some r) : MW l yL_place cL_place 5 hh_L_place rm_L_place Λ [.ref v0, .int v1, .int v2, .ref v3] μ r.1 r.2 := mw_of hst rfl (Nat.le_of_ble_eq_true rfl) (fun x C _ hT h0 => tm_L_place C _ _ _ _ _ _ hT (hk_0 h0) hv0 hv3 hm)
abbrev hh_L_tide : List (Nat × Nat × Nat × Nat) := [(0, 9, 12, 24)]
abbrev rm_L_tide : Room := { frames := 8, cells := 1, slots := 6, locals := 162 }
set_option maxRecDepth 20000 in
set_option maxHeartbeats 4000000 in
theorem tm_L_tide {x : Ctx} {Λ : Lay} (C : Cx x cL_tide 4 (some .int) RL Λ rm_L_tide) (N : Nat) (μ : Mem) (v0 : Nat) (v1 : Int32) (v2 : Nat) (hT : HT x hh_L_tide) (hk : xk x + 1 ≤ (rm_L_tide).cells ∧ xl x + 6 ≤ (rm_L_tide).slots) (hv0 : inL Λ v0 10) (hv2 : inL Λ v2 14) {r : Int32 × Mem} (hm : m_L_tide N Λ μ v0 v1 v2 = some r) : J x 4 Λ (QW x Λ rm_L_tide r.1 r.2) 0 [(0, .ref v0), (1, .int v1), (2, .ref v2)] [] μ := by
  refine j_aload_n C 2 dL_tide_0 rfl ?_
  refine j_iconst C (v := 0) dL_tide_1 rfl ?_
  refine j_aload_n C 0 dL_tide_2 rfl ?_
  refine j_iload_n C 1 dL_tide_3 rfl ?_
  obtain ⟨r1, h2, hm⟩ := bd_some hm
  refine call_XH (runx_LV C lk_L_31 ⟨Nat.le_of_ble_eq_true rfl, Nat.le_of_ble_eq_true rfl⟩ (hk_sub hk (Nat.le_of_ble_eq_true rfl) (Nat.le_of_ble_eq_true rfl)) (As := [.int v1]) hv0 rfl rfl (Nat.le_of_ble_eq_true rfl) dL_tide_4 (mcx_X11_tide _ hT.2 _ _ _ _ _ hv0 h2)) (fun e3 => ?_) (fun E H1 locs1 ls ce q9 hE hw hl hc hv hcl => ?_)
  rotate_left
  · have e0 : ¬ r1.1 = 0 := fun e => by rw [e] at hE; cases hE
    replace hm := if_f hm e0
    by_cases a0 : r1.1 = 3
    · replace hm := if_t hm a0
      have hE1 : E = "java/lang/IndexOutOfBoundsException" := by rw [a0] at hE; exact (Option.some.inj hE).symm
      subst hE1
      obtain rfl := Option.some.inj hm
      refine catch_J (Cx_bump (a := 1) (b := 6) C (hk_sub hk (Nat.le_of_ble_eq_true rfl) (Nat.le_of_ble_eq_true rfl))) (HT_bump hT) [] ⟨0, 9, 12, 24⟩ [] rfl (fun y hy => by cases hy) rfl (by decide) wk_1074 (List.mem_of_getElem? (i := 26) rfl) (fun q8 => ?_) H1 locs1 ls ce q9 hw hl hc hv hcl
      have C := Cx_bump (a := 1) (b := 6) C (hk_sub hk (Nat.le_of_ble_eq_true rfl) (Nat.le_of_ble_eq_true rfl))
      refine j_astore_n C (lv' := [(3, .ref q8), (0, .ref v0), (1, .int v1), (2, .ref v2)]) dL_tide_12 (by decide) rfl ?_
      refine j_iconst C (v := 1) dL_tide_13 rfl ?_
      exact jw_ireti C dL_tide_14
    replace hm := if_f hm a0
    cases hm
  replace hm := if_t hm e3
  replace C := Cx_bump (a := 1) (b := 6) C (hk_sub hk (Nat.le_of_ble_eq_true rfl) (Nat.le_of_ble_eq_true rfl))
  replace hT := HT_bump (a := 1) (b := 6) hT
  replace hk := hk_bump (a := 1) (b := 6) (n := 0) (m := 0) hk
  refine j_i2l C dL_tide_7 ?_
  obtain ⟨h4, hm⟩ := gd_some hm
  obtain ⟨μ5, e6, hm⟩ := lt_some hm
  refine j_last C hv2 h4 e6 dL_tide_8 ?_
  refine j_goto C (tgt := 15) dL_tide_9 (by decide) ?_
  refine j_iconst C (v := 0) dL_tide_15 rfl ?_
  obtain rfl := Option.some.inj hm
  exact jw_ireti C dL_tide_16
set_option maxRecDepth 20000 in
set_option maxHeartbeats 4000000 in
theorem mw_L_tide (l : Launch) (hst : l.stackTraces = false) (N : Nat) (Λ : Lay) (μ : Mem) (v0 : Nat) (v1 : Int32) (v2 : Nat) (hv0 : inL Λ v0 10) (hv2 : inL Λ v2 14) {r : Int32 × Mem} (hm : m_L_tide N Λ μ v0 v1 v2 = some r) : MW l yL_tide cL_tide 4 hh_L_tide rm_L_tide Λ [.ref v0, .int v1, .ref v2] μ r.1 r.2 := mw_of hst rfl (Nat.le_of_ble_eq_true rfl) (fun x C _ hT h0 => tm_L_tide C _ _ _ _ _ hT (hk_0 h0) hv0 hv2 hm)
abbrev hh_L_hours : List (Nat × Nat × Nat × Nat) := [(0, 9, 12, 13)]
abbrev rm_L_hours : Room := { frames := 7, cells := 1, slots := 6, locals := 177 }
set_option maxRecDepth 20000 in
set_option maxHeartbeats 4000000 in
theorem tm_L_hours {x : Ctx} {Λ : Lay} (C : Cx x cL_hours 4 (some .int) RL Λ rm_L_hours) (N : Nat) (μ : Mem) (v0 : Nat) (v1 : Int32) (v2 : Nat) (hT : HT x hh_L_hours) (hk : xk x + 1 ≤ (rm_L_hours).cells ∧ xl x + 6 ≤ (rm_L_hours).slots) (hv0 : inL Λ v0 10) (hv2 : inL Λ v2 14) {r : Int32 × Mem} (hm : m_L_hours N Λ μ v0 v1 v2 = some r) : J x 4 Λ (QW x Λ rm_L_hours r.1 r.2) 0 [(0, .ref v0), (1, .int v1), (2, .ref v2)] [] μ := by
  refine j_aload_n C 2 dL_hours_0 rfl ?_
  refine j_iconst C (v := 0) dL_hours_1 rfl ?_
  refine j_aload_n C 0 dL_hours_2 rfl ?_
  refine j_iload_n C 1 dL_hours_3 rfl ?_
  obtain ⟨r1, h2, hm⟩ := bd_some hm
  refine call_XH (runx_LV C lk_L_35 ⟨Nat.le_of_ble_eq_true rfl, Nat.le_of_ble_eq_true rfl⟩ (hk_sub hk (Nat.le_of_ble_eq_true rfl) (Nat.le_of_ble_eq_true rfl)) (As := [.int v1]) hv0 rfl rfl (Nat.le_of_ble_eq_true rfl) dL_hours_4 (mcx_X11_hours _ hT.2 _ _ _ _ _ hv0 h2)) (fun e3 => ?_) (fun E H1 locs1 ls ce q9 hE hw hl hc hv hcl => ?_)
  rotate_left
  · have e0 : ¬ r1.1 = 0 := fun e => by rw [e] at hE; cases hE
    replace hm := if_f hm e0
    by_cases a0 : r1.1 = 1
    · replace hm := if_t hm a0
      have hE1 : E = "java/lang/IllegalArgumentException" := by rw [a0] at hE; exact (Option.some.inj hE).symm
      subst hE1
      obtain rfl := Option.some.inj hm
      refine catch_J (Cx_bump (a := 1) (b := 6) C (hk_sub hk (Nat.le_of_ble_eq_true rfl) (Nat.le_of_ble_eq_true rfl))) (HT_bump hT) [] ⟨0, 9, 12, 13⟩ [] rfl (fun y hy => by cases hy) rfl (by decide) wk_745 (List.mem_of_getElem? (i := 18) rfl) (fun q8 => ?_) H1 locs1 ls ce q9 hw hl hc hv hcl
      have C := Cx_bump (a := 1) (b := 6) C (hk_sub hk (Nat.le_of_ble_eq_true rfl) (Nat.le_of_ble_eq_true rfl))
      refine j_astore_n C (lv' := [(3, .ref q8), (0, .ref v0), (1, .int v1), (2, .ref v2)]) dL_hours_12 (by decide) rfl ?_
      refine j_iconst C (v := 1) dL_hours_13 rfl ?_
      exact jw_ireti C dL_hours_14
    replace hm := if_f hm a0
    cases hm
  replace hm := if_t hm e3
  replace C := Cx_bump (a := 1) (b := 6) C (hk_sub hk (Nat.le_of_ble_eq_true rfl) (Nat.le_of_ble_eq_true rfl))
  replace hT := HT_bump (a := 1) (b := 6) hT
  replace hk := hk_bump (a := 1) (b := 6) (n := 0) (m := 0) hk
  refine j_i2l C dL_hours_7 ?_
  obtain ⟨h4, hm⟩ := gd_some hm
  obtain ⟨μ5, e6, hm⟩ := lt_some hm
  refine j_last C hv2 h4 e6 dL_hours_8 ?_
  refine j_goto C (tgt := 15) dL_hours_9 (by decide) ?_
  refine j_iconst C (v := 0) dL_hours_15 rfl ?_
  obtain rfl := Option.some.inj hm
  exact jw_ireti C dL_hours_16
set_option maxRecDepth 20000 in
set_option maxHeartbeats 4000000 in
theorem mw_L_hours (l : Launch) (hst : l.stackTraces = false) (N : Nat) (Λ : Lay) (μ : Mem) (v0 : Nat) (v1 : Int32) (v2 : Nat) (hv0 : inL Λ v0 10) (hv2 : inL Λ v2 14) {r : Int32 × Mem} (hm : m_L_hours N Λ μ v0 v1 v2 = some r) : MW l yL_hours cL_hours 4 hh_L_hours rm_L_hours Λ [.ref v0, .int v1, .ref v2] μ r.1 r.2 := mw_of hst rfl (Nat.le_of_ble_eq_true rfl) (fun x C _ hT h0 => tm_L_hours C _ _ _ _ _ hT (hk_0 h0) hv0 hv2 hm)
abbrev hh_L_gate : List (Nat × Nat × Nat × Nat) := [(0, 16, 19, 42)]
abbrev rm_L_gate : Room := { frames := 7, cells := 1, slots := 6, locals := 145 }
set_option maxRecDepth 20000 in
set_option maxHeartbeats 4000000 in
theorem tj_L_gate_15 {x : Ctx} {Λ : Lay} (C : Cx x cL_gate 4 (some .int) RL Λ rm_L_gate) (N : Nat) (μ : Mem) (s0 : Nat) (s1 : Int32) (s2 : Int64) (hT : HT x hh_L_gate) (hk : xk x + 0 ≤ (rm_L_gate).cells ∧ xl x + 0 ≤ (rm_L_gate).slots) (hs0 : inL Λ s0 14) {r : Int32 × Mem} (hm : jn_L_gate_15 N Λ μ s0 s1 s2 = some r) : J x 4 Λ (QW x Λ rm_L_gate r.1 r.2) 15 [] [.long s2, .int s1, .ref s0] μ := by
  obtain ⟨h1, hm⟩ := gd_some hm
  obtain ⟨μ2, e3, hm⟩ := lt_some hm
  refine j_last C hs0 h1 e3 dL_gate_15 ?_
  refine j_goto C (tgt := 22) dL_gate_16 (by decide) ?_
  refine j_iconst C (v := 0) dL_gate_22 rfl ?_
  obtain rfl := Option.some.inj hm
  exact jw_ireti C dL_gate_23
set_option maxRecDepth 20000 in
set_option maxHeartbeats 4000000 in
theorem tm_L_gate {x : Ctx} {Λ : Lay} (C : Cx x cL_gate 4 (some .int) RL Λ rm_L_gate) (N : Nat) (μ : Mem) (v0 : Nat) (v1 : Int32) (v2 : Nat) (hT : HT x hh_L_gate) (hk : xk x + 1 ≤ (rm_L_gate).cells ∧ xl x + 6 ≤ (rm_L_gate).slots) (hv0 : inL Λ v0 10) (hv2 : inL Λ v2 14) {r : Int32 × Mem} (hm : m_L_gate N Λ μ v0 v1 v2 = some r) : J x 4 Λ (QW x Λ rm_L_gate r.1 r.2) 0 [(0, .ref v0), (1, .int v1), (2, .ref v2)] [] μ := by
  refine j_aload_n C 2 dL_gate_0 rfl ?_
  refine j_iconst C (v := 0) dL_gate_1 rfl ?_
  refine j_aload_n C 0 dL_gate_2 rfl ?_
  refine j_iload_n C 1 dL_gate_3 rfl ?_
  obtain ⟨r1, h2, hm⟩ := bd_some hm
  refine call_XH (runx_LV C lk_L_38 ⟨Nat.le_of_ble_eq_true rfl, Nat.le_of_ble_eq_true rfl⟩ (hk_sub hk (Nat.le_of_ble_eq_true rfl) (Nat.le_of_ble_eq_true rfl)) (As := [.int v1]) hv0 rfl rfl (Nat.le_of_ble_eq_true rfl) dL_gate_4 (mcx_X11_gate _ hT.2 _ _ _ _ _ hv0 h2)) (fun e3 => ?_) (fun E H1 locs1 ls ce q9 hE hw hl hc hv hcl => ?_)
  rotate_left
  · have e0 : ¬ r1.1 = 0 := fun e => by rw [e] at hE; cases hE
    replace hm := if_f hm e0
    by_cases a0 : r1.1 = 5
    · replace hm := if_t hm a0
      have hE1 : E = "java/lang/IllegalStateException" := by rw [a0] at hE; exact (Option.some.inj hE).symm
      subst hE1
      obtain rfl := Option.some.inj hm
      refine catch_J (Cx_bump (a := 1) (b := 6) C (hk_sub hk (Nat.le_of_ble_eq_true rfl) (Nat.le_of_ble_eq_true rfl))) (HT_bump hT) [] ⟨0, 16, 19, 42⟩ [] rfl (fun y hy => by cases hy) rfl (by decide) wk_1187 (List.mem_of_getElem? (i := 28) rfl) (fun q8 => ?_) H1 locs1 ls ce q9 hw hl hc hv hcl
      have C := Cx_bump (a := 1) (b := 6) C (hk_sub hk (Nat.le_of_ble_eq_true rfl) (Nat.le_of_ble_eq_true rfl))
      refine j_astore_n C (lv' := [(3, .ref q8), (0, .ref v0), (1, .int v1), (2, .ref v2)]) dL_gate_19 (by decide) rfl ?_
      refine j_iconst C (v := 1) dL_gate_20 rfl ?_
      exact jw_ireti C dL_gate_21
    replace hm := if_f hm a0
    cases hm
  replace hm := if_t hm e3
  replace C := Cx_bump (a := 1) (b := 6) C (hk_sub hk (Nat.le_of_ble_eq_true rfl) (Nat.le_of_ble_eq_true rfl))
  replace hT := HT_bump (a := 1) (b := 6) hT
  replace hk := hk_bump (a := 1) (b := 6) (n := 0) (m := 0) hk
  refine j_if_eq C (tgt := 14) dL_gate_7 (by decide) (fun h4 => ?_) (fun h4 => ?_)
  · replace hm := if_t hm h4
    refine j_lconst C (v := 0) dL_gate_14 rfl ?_
    refine j_sub [] rfl ?_
    exact tj_L_gate_15 C _ _ _ _ _ hT ((hk_sub hk (Nat.le_of_ble_eq_true rfl) (Nat.le_of_ble_eq_true rfl))) hv2 hm
  · replace hm := if_f hm h4
    refine j_lconst C (v := 1) dL_gate_10 rfl ?_
    refine j_goto C (tgt := 15) dL_gate_11 (by decide) ?_
    refine j_sub [] rfl ?_
    exact tj_L_gate_15 C _ _ _ _ _ hT ((hk_sub hk (Nat.le_of_ble_eq_true rfl) (Nat.le_of_ble_eq_true rfl))) hv2 hm
set_option maxRecDepth 20000 in
set_option maxHeartbeats 4000000 in
theorem mw_L_gate (l : Launch) (hst : l.stackTraces = false) (N : Nat) (Λ : Lay) (μ : Mem) (v0 : Nat) (v1 : Int32) (v2 : Nat) (hv0 : inL Λ v0 10) (hv2 : inL Λ v2 14) {r : Int32 × Mem} (hm : m_L_gate N Λ μ v0 v1 v2 = some r) : MW l yL_gate cL_gate 4 hh_L_gate rm_L_gate Λ [.ref v0, .int v1, .ref v2] μ r.1 r.2 := mw_of hst rfl (Nat.le_of_ble_eq_true rfl) (fun x C _ hT h0 => tm_L_gate C _ _ _ _ _ hT (hk_0 h0) hv0 hv2 hm)
abbrev hh_L_enter : List (Nat × Nat × Nat × Nat) := [(0, 10, 13, 24), (0, 10, 17, 42)]
abbrev rm_L_enter : Room := { frames := 8, cells := 3, slots := 18, locals := 163 }
set_option maxRecDepth 20000 in
set_option maxHeartbeats 4000000 in
theorem tm_L_enter {x : Ctx} {Λ : Lay} (C : Cx x cL_enter 5 (some .int) RL Λ rm_L_enter) (N : Nat) (μ : Mem) (v0 : Nat) (v1 : Int32) (v2 : Int32) (v3 : Nat) (hT : HT x hh_L_enter) (hk : xk x + 3 ≤ (rm_L_enter).cells ∧ xl x + 18 ≤ (rm_L_enter).slots) (hv0 : inL Λ v0 10) (hv3 : inL Λ v3 14) {r : Int32 × Mem} (hm : m_L_enter N Λ μ v0 v1 v2 v3 = some r) : J x 5 Λ (QW x Λ rm_L_enter r.1 r.2) 0 [(0, .ref v0), (1, .int v1), (2, .int v2), (3, .ref v3)] [] μ := by
  refine j_aload_n C 3 dL_enter_0 rfl ?_
  refine j_iconst C (v := 0) dL_enter_1 rfl ?_
  refine j_aload_n C 0 dL_enter_2 rfl ?_
  refine j_iload_n C 1 dL_enter_3 rfl ?_
  refine j_iload_n C 2 dL_enter_4 rfl ?_
  obtain ⟨r1, h2, hm⟩ := bd_some hm
  refine call_XH (runx_LV C lk_L_44 ⟨Nat.le_of_ble_eq_true rfl, Nat.le_of_ble_eq_true rfl⟩ (hk_sub hk (Nat.le_of_ble_eq_true rfl) (Nat.le_of_ble_eq_true rfl)) (As := [.int v1, .int v2]) hv0 rfl rfl (Nat.le_of_ble_eq_true rfl) dL_enter_5 (mcx_X11_enter _ hT.2 _ _ _ _ _ _ hv0 h2)) (fun e3 => ?_) (fun E H1 locs1 ls ce q9 hE hw hl hc hv hcl => ?_)
  rotate_left
  · have e0 : ¬ r1.1 = 0 := fun e => by rw [e] at hE; cases hE
    replace hm := if_f hm e0
    by_cases a0 : r1.1 = 3
    · replace hm := if_t hm a0
      have hE1 : E = "java/lang/IndexOutOfBoundsException" := by rw [a0] at hE; exact (Option.some.inj hE).symm
      subst hE1
      obtain rfl := Option.some.inj hm
      refine catch_J (Cx_bump (a := 3) (b := 18) C (hk_sub hk (Nat.le_of_ble_eq_true rfl) (Nat.le_of_ble_eq_true rfl))) (HT_bump hT) [] ⟨0, 10, 13, 24⟩ [⟨0, 10, 17, 42⟩] rfl (fun y hy => by cases hy) rfl (by decide) wk_1074 (List.mem_of_getElem? (i := 26) rfl) (fun q8 => ?_) H1 locs1 ls ce q9 hw hl hc hv hcl
      have C := Cx_bump (a := 3) (b := 18) C (hk_sub hk (Nat.le_of_ble_eq_true rfl) (Nat.le_of_ble_eq_true rfl))
      refine j_astore C (lv' := [(4, .ref q8), (0, .ref v0), (1, .int v1), (2, .int v2), (3, .ref v3)]) dL_enter_13 (by decide) rfl ?_
      refine j_iconst C (v := 1) dL_enter_15 rfl ?_
      exact jw_ireti C dL_enter_16
    replace hm := if_f hm a0
    by_cases a1 : r1.1 = 5
    · replace hm := if_t hm a1
      have hE1 : E = "java/lang/IllegalStateException" := by rw [a1] at hE; exact (Option.some.inj hE).symm
      subst hE1
      obtain rfl := Option.some.inj hm
      refine catch_J (Cx_bump (a := 3) (b := 18) C (hk_sub hk (Nat.le_of_ble_eq_true rfl) (Nat.le_of_ble_eq_true rfl))) (HT_bump hT) [⟨0, 10, 13, 24⟩] ⟨0, 10, 17, 42⟩ [] rfl (fun y hy => by rcases List.mem_cons.mp hy with rfl | hy; exact Or.inr ⟨by decide, "java/lang/IndexOutOfBoundsException", wk_1074, by decide⟩; cases hy) rfl (by decide) wk_1187 (List.mem_of_getElem? (i := 28) rfl) (fun q8 => ?_) H1 locs1 ls ce q9 hw hl hc hv hcl
      have C := Cx_bump (a := 3) (b := 18) C (hk_sub hk (Nat.le_of_ble_eq_true rfl) (Nat.le_of_ble_eq_true rfl))
      refine j_astore C (lv' := [(4, .ref q8), (0, .ref v0), (1, .int v1), (2, .int v2), (3, .ref v3)]) dL_enter_17 (by decide) rfl ?_
      refine j_iconst C (v := 2) dL_enter_19 rfl ?_
      exact jw_ireti C dL_enter_20
    replace hm := if_f hm a1
    cases hm
  replace hm := if_t hm e3
  replace C := Cx_bump (a := 3) (b := 18) C (hk_sub hk (Nat.le_of_ble_eq_true rfl) (Nat.le_of_ble_eq_true rfl))
  replace hT := HT_bump (a := 3) (b := 18) hT
  replace hk := hk_bump (a := 3) (b := 18) (n := 0) (m := 0) hk
  refine j_i2l C dL_enter_8 ?_
  obtain ⟨h4, hm⟩ := gd_some hm
  obtain ⟨μ5, e6, hm⟩ := lt_some hm
  refine j_last C hv3 h4 e6 dL_enter_9 ?_
  refine j_goto C (tgt := 21) dL_enter_10 (by decide) ?_
  refine j_iconst C (v := 0) dL_enter_21 rfl ?_
  obtain rfl := Option.some.inj hm
  exact jw_ireti C dL_enter_22
set_option maxRecDepth 20000 in
set_option maxHeartbeats 4000000 in
theorem mw_L_enter (l : Launch) (hst : l.stackTraces = false) (N : Nat) (Λ : Lay) (μ : Mem) (v0 : Nat) (v1 : Int32) (v2 : Int32) (v3 : Nat) (hv0 : inL Λ v0 10) (hv3 : inL Λ v3 14) {r : Int32 × Mem} (hm : m_L_enter N Λ μ v0 v1 v2 v3 = some r) : MW l yL_enter cL_enter 5 hh_L_enter rm_L_enter Λ [.ref v0, .int v1, .int v2, .ref v3] μ r.1 r.2 := mw_of hst rfl (Nat.le_of_ble_eq_true rfl) (fun x C _ hT h0 => tm_L_enter C _ _ _ _ _ _ hT (hk_0 h0) hv0 hv3 hm)
abbrev hh_L_leave : List (Nat × Nat × Nat × Nat) := [(0, 9, 12, 24), (0, 9, 15, 42)]
abbrev rm_L_leave : Room := { frames := 8, cells := 2, slots := 12, locals := 162 }
set_option maxRecDepth 20000 in
set_option maxHeartbeats 4000000 in
theorem tm_L_leave {x : Ctx} {Λ : Lay} (C : Cx x cL_leave 4 (some .int) RL Λ rm_L_leave) (N : Nat) (μ : Mem) (v0 : Nat) (v1 : Int32) (v2 : Nat) (hT : HT x hh_L_leave) (hk : xk x + 2 ≤ (rm_L_leave).cells ∧ xl x + 12 ≤ (rm_L_leave).slots) (hv0 : inL Λ v0 10) (hv2 : inL Λ v2 14) {r : Int32 × Mem} (hm : m_L_leave N Λ μ v0 v1 v2 = some r) : J x 4 Λ (QW x Λ rm_L_leave r.1 r.2) 0 [(0, .ref v0), (1, .int v1), (2, .ref v2)] [] μ := by
  refine j_aload_n C 2 dL_leave_0 rfl ?_
  refine j_iconst C (v := 0) dL_leave_1 rfl ?_
  refine j_aload_n C 0 dL_leave_2 rfl ?_
  refine j_iload_n C 1 dL_leave_3 rfl ?_
  obtain ⟨r1, h2, hm⟩ := bd_some hm
  refine call_XH (runx_LV C lk_L_47 ⟨Nat.le_of_ble_eq_true rfl, Nat.le_of_ble_eq_true rfl⟩ (hk_sub hk (Nat.le_of_ble_eq_true rfl) (Nat.le_of_ble_eq_true rfl)) (As := [.int v1]) hv0 rfl rfl (Nat.le_of_ble_eq_true rfl) dL_leave_4 (mcx_X11_leave _ hT.2 _ _ _ _ _ hv0 h2)) (fun e3 => ?_) (fun E H1 locs1 ls ce q9 hE hw hl hc hv hcl => ?_)
  rotate_left
  · have e0 : ¬ r1.1 = 0 := fun e => by rw [e] at hE; cases hE
    replace hm := if_f hm e0
    by_cases a0 : r1.1 = 3
    · replace hm := if_t hm a0
      have hE1 : E = "java/lang/IndexOutOfBoundsException" := by rw [a0] at hE; exact (Option.some.inj hE).symm
      subst hE1
      obtain rfl := Option.some.inj hm
      refine catch_J (Cx_bump (a := 2) (b := 12) C (hk_sub hk (Nat.le_of_ble_eq_true rfl) (Nat.le_of_ble_eq_true rfl))) (HT_bump hT) [] ⟨0, 9, 12, 24⟩ [⟨0, 9, 15, 42⟩] rfl (fun y hy => by cases hy) rfl (by decide) wk_1074 (List.mem_of_getElem? (i := 26) rfl) (fun q8 => ?_) H1 locs1 ls ce q9 hw hl hc hv hcl
      have C := Cx_bump (a := 2) (b := 12) C (hk_sub hk (Nat.le_of_ble_eq_true rfl) (Nat.le_of_ble_eq_true rfl))
      refine j_astore_n C (lv' := [(3, .ref q8), (0, .ref v0), (1, .int v1), (2, .ref v2)]) dL_leave_12 (by decide) rfl ?_
      refine j_iconst C (v := 1) dL_leave_13 rfl ?_
      exact jw_ireti C dL_leave_14
    replace hm := if_f hm a0
    by_cases a1 : r1.1 = 5
    · replace hm := if_t hm a1
      have hE1 : E = "java/lang/IllegalStateException" := by rw [a1] at hE; exact (Option.some.inj hE).symm
      subst hE1
      obtain rfl := Option.some.inj hm
      refine catch_J (Cx_bump (a := 2) (b := 12) C (hk_sub hk (Nat.le_of_ble_eq_true rfl) (Nat.le_of_ble_eq_true rfl))) (HT_bump hT) [⟨0, 9, 12, 24⟩] ⟨0, 9, 15, 42⟩ [] rfl (fun y hy => by rcases List.mem_cons.mp hy with rfl | hy; exact Or.inr ⟨by decide, "java/lang/IndexOutOfBoundsException", wk_1074, by decide⟩; cases hy) rfl (by decide) wk_1187 (List.mem_of_getElem? (i := 28) rfl) (fun q8 => ?_) H1 locs1 ls ce q9 hw hl hc hv hcl
      have C := Cx_bump (a := 2) (b := 12) C (hk_sub hk (Nat.le_of_ble_eq_true rfl) (Nat.le_of_ble_eq_true rfl))
      refine j_astore_n C (lv' := [(3, .ref q8), (0, .ref v0), (1, .int v1), (2, .ref v2)]) dL_leave_15 (by decide) rfl ?_
      refine j_iconst C (v := 2) dL_leave_16 rfl ?_
      exact jw_ireti C dL_leave_17
    replace hm := if_f hm a1
    cases hm
  replace hm := if_t hm e3
  replace C := Cx_bump (a := 2) (b := 12) C (hk_sub hk (Nat.le_of_ble_eq_true rfl) (Nat.le_of_ble_eq_true rfl))
  replace hT := HT_bump (a := 2) (b := 12) hT
  replace hk := hk_bump (a := 2) (b := 12) (n := 0) (m := 0) hk
  refine j_i2l C dL_leave_7 ?_
  obtain ⟨h4, hm⟩ := gd_some hm
  obtain ⟨μ5, e6, hm⟩ := lt_some hm
  refine j_last C hv2 h4 e6 dL_leave_8 ?_
  refine j_goto C (tgt := 18) dL_leave_9 (by decide) ?_
  refine j_iconst C (v := 0) dL_leave_18 rfl ?_
  obtain rfl := Option.some.inj hm
  exact jw_ireti C dL_leave_19
set_option maxRecDepth 20000 in
set_option maxHeartbeats 4000000 in
theorem mw_L_leave (l : Launch) (hst : l.stackTraces = false) (N : Nat) (Λ : Lay) (μ : Mem) (v0 : Nat) (v1 : Int32) (v2 : Nat) (hv0 : inL Λ v0 10) (hv2 : inL Λ v2 14) {r : Int32 × Mem} (hm : m_L_leave N Λ μ v0 v1 v2 = some r) : MW l yL_leave cL_leave 4 hh_L_leave rm_L_leave Λ [.ref v0, .int v1, .ref v2] μ r.1 r.2 := mw_of hst rfl (Nat.le_of_ble_eq_true rfl) (fun x C _ hT h0 => tm_L_leave C _ _ _ _ _ hT (hk_0 h0) hv0 hv2 hm)
abbrev hh_L_comes : List (Nat × Nat × Nat × Nat) := [(0, 12, 15, 13), (0, 12, 19, 42)]
abbrev rm_L_comes : Room := { frames := 7, cells := 1, slots := 6, locals := 146 }
set_option maxRecDepth 20000 in
set_option maxHeartbeats 4000000 in
theorem tm_L_comes {x : Ctx} {Λ : Lay} (C : Cx x cL_comes 6 (some .int) RL Λ rm_L_comes) (N : Nat) (μ : Mem) (v0 : Nat) (v1 : Int32) (v2 : Int32) (v3 : Int32) (v4 : Nat) (hT : HT x hh_L_comes) (hk : xk x + 1 ≤ (rm_L_comes).cells ∧ xl x + 6 ≤ (rm_L_comes).slots) (hv0 : inL Λ v0 10) (hv4 : inL Λ v4 14) {r : Int32 × Mem} (hm : m_L_comes N Λ μ v0 v1 v2 v3 v4 = some r) : J x 6 Λ (QW x Λ rm_L_comes r.1 r.2) 0 [(0, .ref v0), (1, .int v1), (2, .int v2), (3, .int v3), (4, .ref v4)] [] μ := by
  refine j_aload C 4 dL_comes_0 rfl ?_
  refine j_iconst C (v := 0) dL_comes_2 rfl ?_
  refine j_aload_n C 0 dL_comes_3 rfl ?_
  refine j_iload_n C 1 dL_comes_4 rfl ?_
  refine j_iload_n C 2 dL_comes_5 rfl ?_
  refine j_iload_n C 3 dL_comes_6 rfl ?_
  obtain ⟨r1, h2, hm⟩ := bd_some hm
  refine call_XH (runx_LV C lk_L_50 ⟨Nat.le_of_ble_eq_true rfl, Nat.le_of_ble_eq_true rfl⟩ (hk_sub hk (Nat.le_of_ble_eq_true rfl) (Nat.le_of_ble_eq_true rfl)) (As := [.int v1, .int v2, .int v3]) hv0 rfl rfl (Nat.le_of_ble_eq_true rfl) dL_comes_7 (mcx_X11_comes _ hT.2 _ _ _ _ _ _ _ hv0 h2)) (fun e3 => ?_) (fun E H1 locs1 ls ce q9 hE hw hl hc hv hcl => ?_)
  rotate_left
  · have e0 : ¬ r1.1 = 0 := fun e => by rw [e] at hE; cases hE
    replace hm := if_f hm e0
    by_cases a0 : r1.1 = 1
    · replace hm := if_t hm a0
      have hE1 : E = "java/lang/IllegalArgumentException" := by rw [a0] at hE; exact (Option.some.inj hE).symm
      subst hE1
      obtain rfl := Option.some.inj hm
      refine catch_J (Cx_bump (a := 1) (b := 6) C (hk_sub hk (Nat.le_of_ble_eq_true rfl) (Nat.le_of_ble_eq_true rfl))) (HT_bump hT) [] ⟨0, 12, 15, 13⟩ [⟨0, 12, 19, 42⟩] rfl (fun y hy => by cases hy) rfl (by decide) wk_745 (List.mem_of_getElem? (i := 18) rfl) (fun q8 => ?_) H1 locs1 ls ce q9 hw hl hc hv hcl
      have C := Cx_bump (a := 1) (b := 6) C (hk_sub hk (Nat.le_of_ble_eq_true rfl) (Nat.le_of_ble_eq_true rfl))
      refine j_astore C (lv' := [(5, .ref q8), (0, .ref v0), (1, .int v1), (2, .int v2), (3, .int v3), (4, .ref v4)]) dL_comes_15 (by decide) rfl ?_
      refine j_iconst C (v := 1) dL_comes_17 rfl ?_
      exact jw_ireti C dL_comes_18
    replace hm := if_f hm a0
    by_cases a1 : r1.1 = 5
    · replace hm := if_t hm a1
      have hE1 : E = "java/lang/IllegalStateException" := by rw [a1] at hE; exact (Option.some.inj hE).symm
      subst hE1
      obtain rfl := Option.some.inj hm
      refine catch_J (Cx_bump (a := 1) (b := 6) C (hk_sub hk (Nat.le_of_ble_eq_true rfl) (Nat.le_of_ble_eq_true rfl))) (HT_bump hT) [⟨0, 12, 15, 13⟩] ⟨0, 12, 19, 42⟩ [] rfl (fun y hy => by rcases List.mem_cons.mp hy with rfl | hy; exact Or.inr ⟨by decide, "java/lang/IllegalArgumentException", wk_745, by decide⟩; cases hy) rfl (by decide) wk_1187 (List.mem_of_getElem? (i := 28) rfl) (fun q8 => ?_) H1 locs1 ls ce q9 hw hl hc hv hcl
      have C := Cx_bump (a := 1) (b := 6) C (hk_sub hk (Nat.le_of_ble_eq_true rfl) (Nat.le_of_ble_eq_true rfl))
      refine j_astore C (lv' := [(5, .ref q8), (0, .ref v0), (1, .int v1), (2, .int v2), (3, .int v3), (4, .ref v4)]) dL_comes_19 (by decide) rfl ?_
      refine j_iconst C (v := 2) dL_comes_21 rfl ?_
      exact jw_ireti C dL_comes_22
    replace hm := if_f hm a1
    cases hm
  replace hm := if_t hm e3
  replace C := Cx_bump (a := 1) (b := 6) C (hk_sub hk (Nat.le_of_ble_eq_true rfl) (Nat.le_of_ble_eq_true rfl))
  replace hT := HT_bump (a := 1) (b := 6) hT
  replace hk := hk_bump (a := 1) (b := 6) (n := 0) (m := 0) hk
  refine j_i2l C dL_comes_10 ?_
  obtain ⟨h4, hm⟩ := gd_some hm
  obtain ⟨μ5, e6, hm⟩ := lt_some hm
  refine j_last C hv4 h4 e6 dL_comes_11 ?_
  refine j_goto C (tgt := 23) dL_comes_12 (by decide) ?_
  refine j_iconst C (v := 0) dL_comes_23 rfl ?_
  obtain rfl := Option.some.inj hm
  exact jw_ireti C dL_comes_24
set_option maxRecDepth 20000 in
set_option maxHeartbeats 4000000 in
theorem mw_L_comes (l : Launch) (hst : l.stackTraces = false) (N : Nat) (Λ : Lay) (μ : Mem) (v0 : Nat) (v1 : Int32) (v2 : Int32) (v3 : Int32) (v4 : Nat) (hv0 : inL Λ v0 10) (hv4 : inL Λ v4 14) {r : Int32 × Mem} (hm : m_L_comes N Λ μ v0 v1 v2 v3 v4 = some r) : MW l yL_comes cL_comes 6 hh_L_comes rm_L_comes Λ [.ref v0, .int v1, .int v2, .int v3, .ref v4] μ r.1 r.2 := mw_of hst rfl (Nat.le_of_ble_eq_true rfl) (fun x C _ hT h0 => tm_L_comes C _ _ _ _ _ _ _ hT (hk_0 h0) hv0 hv4 hm)
abbrev hh_L_block : List (Nat × Nat × Nat × Nat) := [(0, 17, 20, 24)]
abbrev rm_L_block : Room := { frames := 8, cells := 1, slots := 6, locals := 165 }
set_option maxRecDepth 20000 in
set_option maxHeartbeats 4000000 in
theorem tj_L_block_16 {x : Ctx} {Λ : Lay} (C : Cx x cL_block 5 (some .int) RL Λ rm_L_block) (N : Nat) (μ : Mem) (s0 : Nat) (s1 : Int32) (s2 : Int64) (hT : HT x hh_L_block) (hk : xk x + 0 ≤ (rm_L_block).cells ∧ xl x + 0 ≤ (rm_L_block).slots) (hs0 : inL Λ s0 14) {r : Int32 × Mem} (hm : jn_L_block_16 N Λ μ s0 s1 s2 = some r) : J x 5 Λ (QW x Λ rm_L_block r.1 r.2) 16 [] [.long s2, .int s1, .ref s0] μ := by
  obtain ⟨h1, hm⟩ := gd_some hm
  obtain ⟨μ2, e3, hm⟩ := lt_some hm
  refine j_last C hs0 h1 e3 dL_block_16 ?_
  refine j_goto C (tgt := 24) dL_block_17 (by decide) ?_
  refine j_iconst C (v := 0) dL_block_24 rfl ?_
  obtain rfl := Option.some.inj hm
  exact jw_ireti C dL_block_25
set_option maxRecDepth 20000 in
set_option maxHeartbeats 4000000 in
theorem tm_L_block {x : Ctx} {Λ : Lay} (C : Cx x cL_block 5 (some .int) RL Λ rm_L_block) (N : Nat) (μ : Mem) (v0 : Nat) (v1 : Int32) (v2 : Int32) (v3 : Nat) (hT : HT x hh_L_block) (hk : xk x + 1 ≤ (rm_L_block).cells ∧ xl x + 6 ≤ (rm_L_block).slots) (hv0 : inL Λ v0 10) (hv3 : inL Λ v3 14) {r : Int32 × Mem} (hm : m_L_block N Λ μ v0 v1 v2 v3 = some r) : J x 5 Λ (QW x Λ rm_L_block r.1 r.2) 0 [(0, .ref v0), (1, .int v1), (2, .int v2), (3, .ref v3)] [] μ := by
  refine j_aload_n C 3 dL_block_0 rfl ?_
  refine j_iconst C (v := 0) dL_block_1 rfl ?_
  refine j_aload_n C 0 dL_block_2 rfl ?_
  refine j_iload_n C 1 dL_block_3 rfl ?_
  refine j_iload_n C 2 dL_block_4 rfl ?_
  obtain ⟨r1, h2, hm⟩ := bd_some hm
  refine call_XH (runx_LV C lk_L_54 ⟨Nat.le_of_ble_eq_true rfl, Nat.le_of_ble_eq_true rfl⟩ (hk_sub hk (Nat.le_of_ble_eq_true rfl) (Nat.le_of_ble_eq_true rfl)) (As := [.int v1, .int v2]) hv0 rfl rfl (Nat.le_of_ble_eq_true rfl) dL_block_5 (mcx_X11_block _ hT.2 _ _ _ _ _ _ hv0 h2)) (fun e3 => ?_) (fun E H1 locs1 ls ce q9 hE hw hl hc hv hcl => ?_)
  rotate_left
  · have e0 : ¬ r1.1 = 0 := fun e => by rw [e] at hE; cases hE
    replace hm := if_f hm e0
    by_cases a0 : r1.1 = 3
    · replace hm := if_t hm a0
      have hE1 : E = "java/lang/IndexOutOfBoundsException" := by rw [a0] at hE; exact (Option.some.inj hE).symm
      subst hE1
      obtain rfl := Option.some.inj hm
      refine catch_J (Cx_bump (a := 1) (b := 6) C (hk_sub hk (Nat.le_of_ble_eq_true rfl) (Nat.le_of_ble_eq_true rfl))) (HT_bump hT) [] ⟨0, 17, 20, 24⟩ [] rfl (fun y hy => by cases hy) rfl (by decide) wk_1074 (List.mem_of_getElem? (i := 26) rfl) (fun q8 => ?_) H1 locs1 ls ce q9 hw hl hc hv hcl
      have C := Cx_bump (a := 1) (b := 6) C (hk_sub hk (Nat.le_of_ble_eq_true rfl) (Nat.le_of_ble_eq_true rfl))
      refine j_astore C (lv' := [(4, .ref q8), (0, .ref v0), (1, .int v1), (2, .int v2), (3, .ref v3)]) dL_block_20 (by decide) rfl ?_
      refine j_iconst C (v := 1) dL_block_22 rfl ?_
      exact jw_ireti C dL_block_23
    replace hm := if_f hm a0
    cases hm
  replace hm := if_t hm e3
  replace C := Cx_bump (a := 1) (b := 6) C (hk_sub hk (Nat.le_of_ble_eq_true rfl) (Nat.le_of_ble_eq_true rfl))
  replace hT := HT_bump (a := 1) (b := 6) hT
  replace hk := hk_bump (a := 1) (b := 6) (n := 0) (m := 0) hk
  refine j_if_eq C (tgt := 15) dL_block_8 (by decide) (fun h4 => ?_) (fun h4 => ?_)
  · replace hm := if_t hm h4
    refine j_lconst C (v := 0) dL_block_15 rfl ?_
    refine j_sub [] rfl ?_
    exact tj_L_block_16 C _ _ _ _ _ hT ((hk_sub hk (Nat.le_of_ble_eq_true rfl) (Nat.le_of_ble_eq_true rfl))) hv3 hm
  · replace hm := if_f hm h4
    refine j_lconst C (v := 1) dL_block_11 rfl ?_
    refine j_goto C (tgt := 16) dL_block_12 (by decide) ?_
    refine j_sub [] rfl ?_
    exact tj_L_block_16 C _ _ _ _ _ hT ((hk_sub hk (Nat.le_of_ble_eq_true rfl) (Nat.le_of_ble_eq_true rfl))) hv3 hm
set_option maxRecDepth 20000 in
set_option maxHeartbeats 4000000 in
theorem mw_L_block (l : Launch) (hst : l.stackTraces = false) (N : Nat) (Λ : Lay) (μ : Mem) (v0 : Nat) (v1 : Int32) (v2 : Int32) (v3 : Nat) (hv0 : inL Λ v0 10) (hv3 : inL Λ v3 14) {r : Int32 × Mem} (hm : m_L_block N Λ μ v0 v1 v2 v3 = some r) : MW l yL_block cL_block 5 hh_L_block rm_L_block Λ [.ref v0, .int v1, .int v2, .ref v3] μ r.1 r.2 := mw_of hst rfl (Nat.le_of_ble_eq_true rfl) (fun x C _ hT h0 => tm_L_block C _ _ _ _ _ _ hT (hk_0 h0) hv0 hv3 hm)
abbrev hh_L_pumps : List (Nat × Nat × Nat × Nat) := [(0, 9, 12, 13)]
abbrev rm_L_pumps : Room := { frames := 8, cells := 1, slots := 6, locals := 164 }
set_option maxRecDepth 20000 in
set_option maxHeartbeats 4000000 in
theorem tm_L_pumps {x : Ctx} {Λ : Lay} (C : Cx x cL_pumps 4 (some .int) RL Λ rm_L_pumps) (N : Nat) (μ : Mem) (v0 : Nat) (v1 : Int32) (v2 : Nat) (hT : HT x hh_L_pumps) (hk : xk x + 1 ≤ (rm_L_pumps).cells ∧ xl x + 6 ≤ (rm_L_pumps).slots) (hv0 : inL Λ v0 10) (hv2 : inL Λ v2 14) {r : Int32 × Mem} (hm : m_L_pumps N Λ μ v0 v1 v2 = some r) : J x 4 Λ (QW x Λ rm_L_pumps r.1 r.2) 0 [(0, .ref v0), (1, .int v1), (2, .ref v2)] [] μ := by
  refine j_aload_n C 2 dL_pumps_0 rfl ?_
  refine j_iconst C (v := 0) dL_pumps_1 rfl ?_
  refine j_aload_n C 0 dL_pumps_2 rfl ?_
  refine j_iload_n C 1 dL_pumps_3 rfl ?_
  obtain ⟨r1, h2, hm⟩ := bd_some hm
  refine call_XH (runx_LV C lk_L_58 ⟨Nat.le_of_ble_eq_true rfl, Nat.le_of_ble_eq_true rfl⟩ (hk_sub hk (Nat.le_of_ble_eq_true rfl) (Nat.le_of_ble_eq_true rfl)) (As := [.int v1]) hv0 rfl rfl (Nat.le_of_ble_eq_true rfl) dL_pumps_4 (mcx_X11_pumps _ hT.2 _ _ _ _ _ hv0 h2)) (fun e3 => ?_) (fun E H1 locs1 ls ce q9 hE hw hl hc hv hcl => ?_)
  rotate_left
  · have e0 : ¬ r1.1 = 0 := fun e => by rw [e] at hE; cases hE
    replace hm := if_f hm e0
    by_cases a0 : r1.1 = 1
    · replace hm := if_t hm a0
      have hE1 : E = "java/lang/IllegalArgumentException" := by rw [a0] at hE; exact (Option.some.inj hE).symm
      subst hE1
      obtain rfl := Option.some.inj hm
      refine catch_J (Cx_bump (a := 1) (b := 6) C (hk_sub hk (Nat.le_of_ble_eq_true rfl) (Nat.le_of_ble_eq_true rfl))) (HT_bump hT) [] ⟨0, 9, 12, 13⟩ [] rfl (fun y hy => by cases hy) rfl (by decide) wk_745 (List.mem_of_getElem? (i := 18) rfl) (fun q8 => ?_) H1 locs1 ls ce q9 hw hl hc hv hcl
      have C := Cx_bump (a := 1) (b := 6) C (hk_sub hk (Nat.le_of_ble_eq_true rfl) (Nat.le_of_ble_eq_true rfl))
      refine j_astore_n C (lv' := [(3, .ref q8), (0, .ref v0), (1, .int v1), (2, .ref v2)]) dL_pumps_12 (by decide) rfl ?_
      refine j_iconst C (v := 1) dL_pumps_13 rfl ?_
      exact jw_ireti C dL_pumps_14
    replace hm := if_f hm a0
    cases hm
  replace hm := if_t hm e3
  replace C := Cx_bump (a := 1) (b := 6) C (hk_sub hk (Nat.le_of_ble_eq_true rfl) (Nat.le_of_ble_eq_true rfl))
  replace hT := HT_bump (a := 1) (b := 6) hT
  replace hk := hk_bump (a := 1) (b := 6) (n := 0) (m := 0) hk
  refine j_i2l C dL_pumps_7 ?_
  obtain ⟨h4, hm⟩ := gd_some hm
  obtain ⟨μ5, e6, hm⟩ := lt_some hm
  refine j_last C hv2 h4 e6 dL_pumps_8 ?_
  refine j_goto C (tgt := 15) dL_pumps_9 (by decide) ?_
  refine j_iconst C (v := 0) dL_pumps_15 rfl ?_
  obtain rfl := Option.some.inj hm
  exact jw_ireti C dL_pumps_16
set_option maxRecDepth 20000 in
set_option maxHeartbeats 4000000 in
theorem mw_L_pumps (l : Launch) (hst : l.stackTraces = false) (N : Nat) (Λ : Lay) (μ : Mem) (v0 : Nat) (v1 : Int32) (v2 : Nat) (hv0 : inL Λ v0 10) (hv2 : inL Λ v2 14) {r : Int32 × Mem} (hm : m_L_pumps N Λ μ v0 v1 v2 = some r) : MW l yL_pumps cL_pumps 4 hh_L_pumps rm_L_pumps Λ [.ref v0, .int v1, .ref v2] μ r.1 r.2 := mw_of hst rfl (Nat.le_of_ble_eq_true rfl) (fun x C _ hT h0 => tm_L_pumps C _ _ _ _ _ hT (hk_0 h0) hv0 hv2 hm)
abbrev hh_L_hands : List (Nat × Nat × Nat × Nat) := [(0, 9, 12, 13)]
abbrev rm_L_hands : Room := { frames := 8, cells := 1, slots := 6, locals := 164 }
set_option maxRecDepth 20000 in
set_option maxHeartbeats 4000000 in
theorem tm_L_hands {x : Ctx} {Λ : Lay} (C : Cx x cL_hands 4 (some .int) RL Λ rm_L_hands) (N : Nat) (μ : Mem) (v0 : Nat) (v1 : Int32) (v2 : Nat) (hT : HT x hh_L_hands) (hk : xk x + 1 ≤ (rm_L_hands).cells ∧ xl x + 6 ≤ (rm_L_hands).slots) (hv0 : inL Λ v0 10) (hv2 : inL Λ v2 14) {r : Int32 × Mem} (hm : m_L_hands N Λ μ v0 v1 v2 = some r) : J x 4 Λ (QW x Λ rm_L_hands r.1 r.2) 0 [(0, .ref v0), (1, .int v1), (2, .ref v2)] [] μ := by
  refine j_aload_n C 2 dL_hands_0 rfl ?_
  refine j_iconst C (v := 0) dL_hands_1 rfl ?_
  refine j_aload_n C 0 dL_hands_2 rfl ?_
  refine j_iload_n C 1 dL_hands_3 rfl ?_
  obtain ⟨r1, h2, hm⟩ := bd_some hm
  refine call_XH (runx_LV C lk_L_61 ⟨Nat.le_of_ble_eq_true rfl, Nat.le_of_ble_eq_true rfl⟩ (hk_sub hk (Nat.le_of_ble_eq_true rfl) (Nat.le_of_ble_eq_true rfl)) (As := [.int v1]) hv0 rfl rfl (Nat.le_of_ble_eq_true rfl) dL_hands_4 (mcx_X11_hands _ hT.2 _ _ _ _ _ hv0 h2)) (fun e3 => ?_) (fun E H1 locs1 ls ce q9 hE hw hl hc hv hcl => ?_)
  rotate_left
  · have e0 : ¬ r1.1 = 0 := fun e => by rw [e] at hE; cases hE
    replace hm := if_f hm e0
    by_cases a0 : r1.1 = 1
    · replace hm := if_t hm a0
      have hE1 : E = "java/lang/IllegalArgumentException" := by rw [a0] at hE; exact (Option.some.inj hE).symm
      subst hE1
      obtain rfl := Option.some.inj hm
      refine catch_J (Cx_bump (a := 1) (b := 6) C (hk_sub hk (Nat.le_of_ble_eq_true rfl) (Nat.le_of_ble_eq_true rfl))) (HT_bump hT) [] ⟨0, 9, 12, 13⟩ [] rfl (fun y hy => by cases hy) rfl (by decide) wk_745 (List.mem_of_getElem? (i := 18) rfl) (fun q8 => ?_) H1 locs1 ls ce q9 hw hl hc hv hcl
      have C := Cx_bump (a := 1) (b := 6) C (hk_sub hk (Nat.le_of_ble_eq_true rfl) (Nat.le_of_ble_eq_true rfl))
      refine j_astore_n C (lv' := [(3, .ref q8), (0, .ref v0), (1, .int v1), (2, .ref v2)]) dL_hands_12 (by decide) rfl ?_
      refine j_iconst C (v := 1) dL_hands_13 rfl ?_
      exact jw_ireti C dL_hands_14
    replace hm := if_f hm a0
    cases hm
  replace hm := if_t hm e3
  replace C := Cx_bump (a := 1) (b := 6) C (hk_sub hk (Nat.le_of_ble_eq_true rfl) (Nat.le_of_ble_eq_true rfl))
  replace hT := HT_bump (a := 1) (b := 6) hT
  replace hk := hk_bump (a := 1) (b := 6) (n := 0) (m := 0) hk
  refine j_i2l C dL_hands_7 ?_
  obtain ⟨h4, hm⟩ := gd_some hm
  obtain ⟨μ5, e6, hm⟩ := lt_some hm
  refine j_last C hv2 h4 e6 dL_hands_8 ?_
  refine j_goto C (tgt := 15) dL_hands_9 (by decide) ?_
  refine j_iconst C (v := 0) dL_hands_15 rfl ?_
  obtain rfl := Option.some.inj hm
  exact jw_ireti C dL_hands_16
set_option maxRecDepth 20000 in
set_option maxHeartbeats 4000000 in
theorem mw_L_hands (l : Launch) (hst : l.stackTraces = false) (N : Nat) (Λ : Lay) (μ : Mem) (v0 : Nat) (v1 : Int32) (v2 : Nat) (hv0 : inL Λ v0 10) (hv2 : inL Λ v2 14) {r : Int32 × Mem} (hm : m_L_hands N Λ μ v0 v1 v2 = some r) : MW l yL_hands cL_hands 4 hh_L_hands rm_L_hands Λ [.ref v0, .int v1, .ref v2] μ r.1 r.2 := mw_of hst rfl (Nat.le_of_ble_eq_true rfl) (fun x C _ hT h0 => tm_L_hands C _ _ _ _ _ hT (hk_0 h0) hv0 hv2 hm)
abbrev hh_L_flow : List (Nat × Nat × Nat × Nat) := [(0, 10, 13, 24), (0, 10, 17, 13)]
abbrev rm_L_flow : Room := { frames := 8, cells := 2, slots := 12, locals := 165 }
set_option maxRecDepth 20000 in
set_option maxHeartbeats 4000000 in
theorem tm_L_flow {x : Ctx} {Λ : Lay} (C : Cx x cL_flow 5 (some .int) RL Λ rm_L_flow) (N : Nat) (μ : Mem) (v0 : Nat) (v1 : Int32) (v2 : Int32) (v3 : Nat) (hT : HT x hh_L_flow) (hk : xk x + 2 ≤ (rm_L_flow).cells ∧ xl x + 12 ≤ (rm_L_flow).slots) (hv0 : inL Λ v0 10) (hv3 : inL Λ v3 14) {r : Int32 × Mem} (hm : m_L_flow N Λ μ v0 v1 v2 v3 = some r) : J x 5 Λ (QW x Λ rm_L_flow r.1 r.2) 0 [(0, .ref v0), (1, .int v1), (2, .int v2), (3, .ref v3)] [] μ := by
  refine j_aload_n C 3 dL_flow_0 rfl ?_
  refine j_iconst C (v := 0) dL_flow_1 rfl ?_
  refine j_aload_n C 0 dL_flow_2 rfl ?_
  refine j_iload_n C 1 dL_flow_3 rfl ?_
  refine j_iload_n C 2 dL_flow_4 rfl ?_
  obtain ⟨r1, h2, hm⟩ := bd_some hm
  refine call_XH (runx_LV C lk_L_64 ⟨Nat.le_of_ble_eq_true rfl, Nat.le_of_ble_eq_true rfl⟩ (hk_sub hk (Nat.le_of_ble_eq_true rfl) (Nat.le_of_ble_eq_true rfl)) (As := [.int v1, .int v2]) hv0 rfl rfl (Nat.le_of_ble_eq_true rfl) dL_flow_5 (mcx_X11_flow _ hT.2 _ _ _ _ _ _ hv0 h2)) (fun e3 => ?_) (fun E H1 locs1 ls ce q9 hE hw hl hc hv hcl => ?_)
  rotate_left
  · have e0 : ¬ r1.1 = 0 := fun e => by rw [e] at hE; cases hE
    replace hm := if_f hm e0
    by_cases a0 : r1.1 = 3
    · replace hm := if_t hm a0
      have hE1 : E = "java/lang/IndexOutOfBoundsException" := by rw [a0] at hE; exact (Option.some.inj hE).symm
      subst hE1
      obtain rfl := Option.some.inj hm
      refine catch_J (Cx_bump (a := 2) (b := 12) C (hk_sub hk (Nat.le_of_ble_eq_true rfl) (Nat.le_of_ble_eq_true rfl))) (HT_bump hT) [] ⟨0, 10, 13, 24⟩ [⟨0, 10, 17, 13⟩] rfl (fun y hy => by cases hy) rfl (by decide) wk_1074 (List.mem_of_getElem? (i := 26) rfl) (fun q8 => ?_) H1 locs1 ls ce q9 hw hl hc hv hcl
      have C := Cx_bump (a := 2) (b := 12) C (hk_sub hk (Nat.le_of_ble_eq_true rfl) (Nat.le_of_ble_eq_true rfl))
      refine j_astore C (lv' := [(4, .ref q8), (0, .ref v0), (1, .int v1), (2, .int v2), (3, .ref v3)]) dL_flow_13 (by decide) rfl ?_
      refine j_iconst C (v := 1) dL_flow_15 rfl ?_
      exact jw_ireti C dL_flow_16
    replace hm := if_f hm a0
    by_cases a1 : r1.1 = 1
    · replace hm := if_t hm a1
      have hE1 : E = "java/lang/IllegalArgumentException" := by rw [a1] at hE; exact (Option.some.inj hE).symm
      subst hE1
      obtain rfl := Option.some.inj hm
      refine catch_J (Cx_bump (a := 2) (b := 12) C (hk_sub hk (Nat.le_of_ble_eq_true rfl) (Nat.le_of_ble_eq_true rfl))) (HT_bump hT) [⟨0, 10, 13, 24⟩] ⟨0, 10, 17, 13⟩ [] rfl (fun y hy => by rcases List.mem_cons.mp hy with rfl | hy; exact Or.inr ⟨by decide, "java/lang/IndexOutOfBoundsException", wk_1074, by decide⟩; cases hy) rfl (by decide) wk_745 (List.mem_of_getElem? (i := 18) rfl) (fun q8 => ?_) H1 locs1 ls ce q9 hw hl hc hv hcl
      have C := Cx_bump (a := 2) (b := 12) C (hk_sub hk (Nat.le_of_ble_eq_true rfl) (Nat.le_of_ble_eq_true rfl))
      refine j_astore C (lv' := [(4, .ref q8), (0, .ref v0), (1, .int v1), (2, .int v2), (3, .ref v3)]) dL_flow_17 (by decide) rfl ?_
      refine j_iconst C (v := 2) dL_flow_19 rfl ?_
      exact jw_ireti C dL_flow_20
    replace hm := if_f hm a1
    cases hm
  replace hm := if_t hm e3
  replace C := Cx_bump (a := 2) (b := 12) C (hk_sub hk (Nat.le_of_ble_eq_true rfl) (Nat.le_of_ble_eq_true rfl))
  replace hT := HT_bump (a := 2) (b := 12) hT
  replace hk := hk_bump (a := 2) (b := 12) (n := 0) (m := 0) hk
  refine j_i2l C dL_flow_8 ?_
  obtain ⟨h4, hm⟩ := gd_some hm
  obtain ⟨μ5, e6, hm⟩ := lt_some hm
  refine j_last C hv3 h4 e6 dL_flow_9 ?_
  refine j_goto C (tgt := 21) dL_flow_10 (by decide) ?_
  refine j_iconst C (v := 0) dL_flow_21 rfl ?_
  obtain rfl := Option.some.inj hm
  exact jw_ireti C dL_flow_22
set_option maxRecDepth 20000 in
set_option maxHeartbeats 4000000 in
theorem mw_L_flow (l : Launch) (hst : l.stackTraces = false) (N : Nat) (Λ : Lay) (μ : Mem) (v0 : Nat) (v1 : Int32) (v2 : Int32) (v3 : Nat) (hv0 : inL Λ v0 10) (hv3 : inL Λ v3 14) {r : Int32 × Mem} (hm : m_L_flow N Λ μ v0 v1 v2 v3 = some r) : MW l yL_flow cL_flow 5 hh_L_flow rm_L_flow Λ [.ref v0, .int v1, .int v2, .ref v3] μ r.1 r.2 := mw_of hst rfl (Nat.le_of_ble_eq_true rfl) (fun x C _ hT h0 => tm_L_flow C _ _ _ _ _ _ hT (hk_0 h0) hv0 hv3 hm)
abbrev hh_L_goes : List (Nat × Nat × Nat × Nat) := [(0, 9, 12, 13)]
abbrev rm_L_goes : Room := { frames := 8, cells := 1, slots := 6, locals := 162 }
set_option maxRecDepth 20000 in
set_option maxHeartbeats 4000000 in
theorem tm_L_goes {x : Ctx} {Λ : Lay} (C : Cx x cL_goes 4 (some .int) RL Λ rm_L_goes) (N : Nat) (μ : Mem) (v0 : Nat) (v1 : Int32) (v2 : Nat) (hT : HT x hh_L_goes) (hk : xk x + 1 ≤ (rm_L_goes).cells ∧ xl x + 6 ≤ (rm_L_goes).slots) (hv0 : inL Λ v0 10) (hv2 : inL Λ v2 14) {r : Int32 × Mem} (hm : m_L_goes N Λ μ v0 v1 v2 = some r) : J x 4 Λ (QW x Λ rm_L_goes r.1 r.2) 0 [(0, .ref v0), (1, .int v1), (2, .ref v2)] [] μ := by
  refine j_aload_n C 2 dL_goes_0 rfl ?_
  refine j_iconst C (v := 0) dL_goes_1 rfl ?_
  refine j_aload_n C 0 dL_goes_2 rfl ?_
  refine j_iload_n C 1 dL_goes_3 rfl ?_
  obtain ⟨r1, h2, hm⟩ := bd_some hm
  refine call_XH (runx_LV C lk_L_67 ⟨Nat.le_of_ble_eq_true rfl, Nat.le_of_ble_eq_true rfl⟩ (hk_sub hk (Nat.le_of_ble_eq_true rfl) (Nat.le_of_ble_eq_true rfl)) (As := [.int v1]) hv0 rfl rfl (Nat.le_of_ble_eq_true rfl) dL_goes_4 (mcx_X11_goes _ hT.2 _ _ _ _ _ hv0 h2)) (fun e3 => ?_) (fun E H1 locs1 ls ce q9 hE hw hl hc hv hcl => ?_)
  rotate_left
  · have e0 : ¬ r1.1 = 0 := fun e => by rw [e] at hE; cases hE
    replace hm := if_f hm e0
    by_cases a0 : r1.1 = 1
    · replace hm := if_t hm a0
      have hE1 : E = "java/lang/IllegalArgumentException" := by rw [a0] at hE; exact (Option.some.inj hE).symm
      subst hE1
      obtain rfl := Option.some.inj hm
      refine catch_J (Cx_bump (a := 1) (b := 6) C (hk_sub hk (Nat.le_of_ble_eq_true rfl) (Nat.le_of_ble_eq_true rfl))) (HT_bump hT) [] ⟨0, 9, 12, 13⟩ [] rfl (fun y hy => by cases hy) rfl (by decide) wk_745 (List.mem_of_getElem? (i := 18) rfl) (fun q8 => ?_) H1 locs1 ls ce q9 hw hl hc hv hcl
      have C := Cx_bump (a := 1) (b := 6) C (hk_sub hk (Nat.le_of_ble_eq_true rfl) (Nat.le_of_ble_eq_true rfl))
      refine j_astore_n C (lv' := [(3, .ref q8), (0, .ref v0), (1, .int v1), (2, .ref v2)]) dL_goes_12 (by decide) rfl ?_
      refine j_iconst C (v := 1) dL_goes_13 rfl ?_
      exact jw_ireti C dL_goes_14
    replace hm := if_f hm a0
    cases hm
  replace hm := if_t hm e3
  replace C := Cx_bump (a := 1) (b := 6) C (hk_sub hk (Nat.le_of_ble_eq_true rfl) (Nat.le_of_ble_eq_true rfl))
  replace hT := HT_bump (a := 1) (b := 6) hT
  replace hk := hk_bump (a := 1) (b := 6) (n := 0) (m := 0) hk
  refine j_i2l C dL_goes_7 ?_
  obtain ⟨h4, hm⟩ := gd_some hm
  obtain ⟨μ5, e6, hm⟩ := lt_some hm
  refine j_last C hv2 h4 e6 dL_goes_8 ?_
  refine j_goto C (tgt := 15) dL_goes_9 (by decide) ?_
  refine j_iconst C (v := 0) dL_goes_15 rfl ?_
  obtain rfl := Option.some.inj hm
  exact jw_ireti C dL_goes_16
set_option maxRecDepth 20000 in
set_option maxHeartbeats 4000000 in
theorem mw_L_goes (l : Launch) (hst : l.stackTraces = false) (N : Nat) (Λ : Lay) (μ : Mem) (v0 : Nat) (v1 : Int32) (v2 : Nat) (hv0 : inL Λ v0 10) (hv2 : inL Λ v2 14) {r : Int32 × Mem} (hm : m_L_goes N Λ μ v0 v1 v2 = some r) : MW l yL_goes cL_goes 4 hh_L_goes rm_L_goes Λ [.ref v0, .int v1, .ref v2] μ r.1 r.2 := mw_of hst rfl (Nat.le_of_ble_eq_true rfl) (fun x C _ hT h0 => tm_L_goes C _ _ _ _ _ hT (hk_0 h0) hv0 hv2 hm)
abbrev hh_L_ask : List (Nat × Nat × Nat × Nat) := [(0, 8, 11, 13)]
abbrev rm_L_ask : Room := { frames := 8, cells := 1, slots := 6, locals := 161 }
set_option maxRecDepth 20000 in
set_option maxHeartbeats 4000000 in
theorem tm_L_ask {x : Ctx} {Λ : Lay} (C : Cx x cL_ask 3 (some .int) RL Λ rm_L_ask) (N : Nat) (μ : Mem) (v0 : Nat) (v1 : Nat) (hT : HT x hh_L_ask) (hk : xk x + 1 ≤ (rm_L_ask).cells ∧ xl x + 6 ≤ (rm_L_ask).slots) (hv0 : inL Λ v0 10) (hv1 : inL Λ v1 14) {r : Int32 × Mem} (hm : m_L_ask N Λ μ v0 v1 = some r) : J x 3 Λ (QW x Λ rm_L_ask r.1 r.2) 0 [(0, .ref v0), (1, .ref v1)] [] μ := by
  refine j_aload_n C 1 dL_ask_0 rfl ?_
  refine j_iconst C (v := 0) dL_ask_1 rfl ?_
  refine j_aload_n C 0 dL_ask_2 rfl ?_
  obtain ⟨r1, h2, hm⟩ := bd_some hm
  refine call_XH (runx_LV C lk_L_71 ⟨Nat.le_of_ble_eq_true rfl, Nat.le_of_ble_eq_true rfl⟩ (hk_sub hk (Nat.le_of_ble_eq_true rfl) (Nat.le_of_ble_eq_true rfl)) (As := []) hv0 rfl rfl (Nat.le_of_ble_eq_true rfl) dL_ask_3 (mcx_X11_ask _ hT.2 _ _ _ _ hv0 h2)) (fun e3 => ?_) (fun E H1 locs1 ls ce q9 hE hw hl hc hv hcl => ?_)
  rotate_left
  · have e0 : ¬ r1.1 = 0 := fun e => by rw [e] at hE; cases hE
    replace hm := if_f hm e0
    by_cases a0 : r1.1 = 1
    · replace hm := if_t hm a0
      have hE1 : E = "java/lang/IllegalArgumentException" := by rw [a0] at hE; exact (Option.some.inj hE).symm
      subst hE1
      obtain rfl := Option.some.inj hm
      refine catch_J (Cx_bump (a := 1) (b := 6) C (hk_sub hk (Nat.le_of_ble_eq_true rfl) (Nat.le_of_ble_eq_true rfl))) (HT_bump hT) [] ⟨0, 8, 11, 13⟩ [] rfl (fun y hy => by cases hy) rfl (by decide) wk_745 (List.mem_of_getElem? (i := 18) rfl) (fun q8 => ?_) H1 locs1 ls ce q9 hw hl hc hv hcl
      have C := Cx_bump (a := 1) (b := 6) C (hk_sub hk (Nat.le_of_ble_eq_true rfl) (Nat.le_of_ble_eq_true rfl))
      refine j_astore_n C (lv' := [(2, .ref q8), (0, .ref v0), (1, .ref v1)]) dL_ask_11 (by decide) rfl ?_
      refine j_iconst C (v := 1) dL_ask_12 rfl ?_
      exact jw_ireti C dL_ask_13
    replace hm := if_f hm a0
    cases hm
  replace hm := if_t hm e3
  replace C := Cx_bump (a := 1) (b := 6) C (hk_sub hk (Nat.le_of_ble_eq_true rfl) (Nat.le_of_ble_eq_true rfl))
  replace hT := HT_bump (a := 1) (b := 6) hT
  replace hk := hk_bump (a := 1) (b := 6) (n := 0) (m := 0) hk
  refine j_i2l C dL_ask_6 ?_
  obtain ⟨h4, hm⟩ := gd_some hm
  obtain ⟨μ5, e6, hm⟩ := lt_some hm
  refine j_last C hv1 h4 e6 dL_ask_7 ?_
  refine j_goto C (tgt := 14) dL_ask_8 (by decide) ?_
  refine j_iconst C (v := 0) dL_ask_14 rfl ?_
  obtain rfl := Option.some.inj hm
  exact jw_ireti C dL_ask_15
set_option maxRecDepth 20000 in
set_option maxHeartbeats 4000000 in
theorem mw_L_ask (l : Launch) (hst : l.stackTraces = false) (N : Nat) (Λ : Lay) (μ : Mem) (v0 : Nat) (v1 : Nat) (hv0 : inL Λ v0 10) (hv1 : inL Λ v1 14) {r : Int32 × Mem} (hm : m_L_ask N Λ μ v0 v1 = some r) : MW l yL_ask cL_ask 3 hh_L_ask rm_L_ask Λ [.ref v0, .ref v1] μ r.1 r.2 := mw_of hst rfl (Nat.le_of_ble_eq_true rfl) (fun x C _ hT h0 => tm_L_ask C _ _ _ _ hT (hk_0 h0) hv0 hv1 hm)
abbrev hh_L_lies : List (Nat × Nat × Nat × Nat) := [(0, 8, 11, 13)]
abbrev rm_L_lies : Room := { frames := 8, cells := 1, slots := 6, locals := 161 }
set_option maxRecDepth 20000 in
set_option maxHeartbeats 4000000 in
theorem tm_L_lies {x : Ctx} {Λ : Lay} (C : Cx x cL_lies 3 (some .int) RL Λ rm_L_lies) (N : Nat) (μ : Mem) (v0 : Nat) (v1 : Nat) (hT : HT x hh_L_lies) (hk : xk x + 1 ≤ (rm_L_lies).cells ∧ xl x + 6 ≤ (rm_L_lies).slots) (hv0 : inL Λ v0 10) (hv1 : inL Λ v1 14) {r : Int32 × Mem} (hm : m_L_lies N Λ μ v0 v1 = some r) : J x 3 Λ (QW x Λ rm_L_lies r.1 r.2) 0 [(0, .ref v0), (1, .ref v1)] [] μ := by
  refine j_aload_n C 1 dL_lies_0 rfl ?_
  refine j_iconst C (v := 0) dL_lies_1 rfl ?_
  refine j_aload_n C 0 dL_lies_2 rfl ?_
  obtain ⟨r1, h2, hm⟩ := bd_some hm
  refine call_XH (runx_LV C lk_L_74 ⟨Nat.le_of_ble_eq_true rfl, Nat.le_of_ble_eq_true rfl⟩ (hk_sub hk (Nat.le_of_ble_eq_true rfl) (Nat.le_of_ble_eq_true rfl)) (As := []) hv0 rfl rfl (Nat.le_of_ble_eq_true rfl) dL_lies_3 (mcx_X11_lies _ hT.2 _ _ _ _ hv0 h2)) (fun e3 => ?_) (fun E H1 locs1 ls ce q9 hE hw hl hc hv hcl => ?_)
  rotate_left
  · have e0 : ¬ r1.1 = 0 := fun e => by rw [e] at hE; cases hE
    replace hm := if_f hm e0
    by_cases a0 : r1.1 = 1
    · replace hm := if_t hm a0
      have hE1 : E = "java/lang/IllegalArgumentException" := by rw [a0] at hE; exact (Option.some.inj hE).symm
      subst hE1
      obtain rfl := Option.some.inj hm
      refine catch_J (Cx_bump (a := 1) (b := 6) C (hk_sub hk (Nat.le_of_ble_eq_true rfl) (Nat.le_of_ble_eq_true rfl))) (HT_bump hT) [] ⟨0, 8, 11, 13⟩ [] rfl (fun y hy => by cases hy) rfl (by decide) wk_745 (List.mem_of_getElem? (i := 18) rfl) (fun q8 => ?_) H1 locs1 ls ce q9 hw hl hc hv hcl
      have C := Cx_bump (a := 1) (b := 6) C (hk_sub hk (Nat.le_of_ble_eq_true rfl) (Nat.le_of_ble_eq_true rfl))
      refine j_astore_n C (lv' := [(2, .ref q8), (0, .ref v0), (1, .ref v1)]) dL_lies_11 (by decide) rfl ?_
      refine j_iconst C (v := 1) dL_lies_12 rfl ?_
      exact jw_ireti C dL_lies_13
    replace hm := if_f hm a0
    cases hm
  replace hm := if_t hm e3
  replace C := Cx_bump (a := 1) (b := 6) C (hk_sub hk (Nat.le_of_ble_eq_true rfl) (Nat.le_of_ble_eq_true rfl))
  replace hT := HT_bump (a := 1) (b := 6) hT
  replace hk := hk_bump (a := 1) (b := 6) (n := 0) (m := 0) hk
  refine j_i2l C dL_lies_6 ?_
  obtain ⟨h4, hm⟩ := gd_some hm
  obtain ⟨μ5, e6, hm⟩ := lt_some hm
  refine j_last C hv1 h4 e6 dL_lies_7 ?_
  refine j_goto C (tgt := 14) dL_lies_8 (by decide) ?_
  refine j_iconst C (v := 0) dL_lies_14 rfl ?_
  obtain rfl := Option.some.inj hm
  exact jw_ireti C dL_lies_15
set_option maxRecDepth 20000 in
set_option maxHeartbeats 4000000 in
theorem mw_L_lies (l : Launch) (hst : l.stackTraces = false) (N : Nat) (Λ : Lay) (μ : Mem) (v0 : Nat) (v1 : Nat) (hv0 : inL Λ v0 10) (hv1 : inL Λ v1 14) {r : Int32 × Mem} (hm : m_L_lies N Λ μ v0 v1 = some r) : MW l yL_lies cL_lies 3 hh_L_lies rm_L_lies Λ [.ref v0, .ref v1] μ r.1 r.2 := mw_of hst rfl (Nat.le_of_ble_eq_true rfl) (fun x C _ hT h0 => tm_L_lies C _ _ _ _ hT (hk_0 h0) hv0 hv1 hm)
abbrev hh_L_likely : List (Nat × Nat × Nat × Nat) := [(0, 8, 11, 13)]
abbrev rm_L_likely : Room := { frames := 8, cells := 1, slots := 6, locals := 161 }
set_option maxRecDepth 20000 in
set_option maxHeartbeats 4000000 in
theorem tm_L_likely {x : Ctx} {Λ : Lay} (C : Cx x cL_likely 3 (some .int) RL Λ rm_L_likely) (N : Nat) (μ : Mem) (v0 : Nat) (v1 : Nat) (hT : HT x hh_L_likely) (hk : xk x + 1 ≤ (rm_L_likely).cells ∧ xl x + 6 ≤ (rm_L_likely).slots) (hv0 : inL Λ v0 10) (hv1 : inL Λ v1 14) {r : Int32 × Mem} (hm : m_L_likely N Λ μ v0 v1 = some r) : J x 3 Λ (QW x Λ rm_L_likely r.1 r.2) 0 [(0, .ref v0), (1, .ref v1)] [] μ := by
  refine j_aload_n C 1 dL_likely_0 rfl ?_
  refine j_iconst C (v := 0) dL_likely_1 rfl ?_
  refine j_aload_n C 0 dL_likely_2 rfl ?_
  obtain ⟨r1, h2, hm⟩ := bd_some hm
  refine call_XH (runx_LV C lk_L_77 ⟨Nat.le_of_ble_eq_true rfl, Nat.le_of_ble_eq_true rfl⟩ (hk_sub hk (Nat.le_of_ble_eq_true rfl) (Nat.le_of_ble_eq_true rfl)) (As := []) hv0 rfl rfl (Nat.le_of_ble_eq_true rfl) dL_likely_3 (mcx_X11_likely _ hT.2 _ _ _ _ hv0 h2)) (fun e3 => ?_) (fun E H1 locs1 ls ce q9 hE hw hl hc hv hcl => ?_)
  rotate_left
  · have e0 : ¬ r1.1 = 0 := fun e => by rw [e] at hE; cases hE
    replace hm := if_f hm e0
    by_cases a0 : r1.1 = 1
    · replace hm := if_t hm a0
      have hE1 : E = "java/lang/IllegalArgumentException" := by rw [a0] at hE; exact (Option.some.inj hE).symm
      subst hE1
      obtain rfl := Option.some.inj hm
      refine catch_J (Cx_bump (a := 1) (b := 6) C (hk_sub hk (Nat.le_of_ble_eq_true rfl) (Nat.le_of_ble_eq_true rfl))) (HT_bump hT) [] ⟨0, 8, 11, 13⟩ [] rfl (fun y hy => by cases hy) rfl (by decide) wk_745 (List.mem_of_getElem? (i := 18) rfl) (fun q8 => ?_) H1 locs1 ls ce q9 hw hl hc hv hcl
      have C := Cx_bump (a := 1) (b := 6) C (hk_sub hk (Nat.le_of_ble_eq_true rfl) (Nat.le_of_ble_eq_true rfl))
      refine j_astore_n C (lv' := [(2, .ref q8), (0, .ref v0), (1, .ref v1)]) dL_likely_11 (by decide) rfl ?_
      refine j_iconst C (v := 1) dL_likely_12 rfl ?_
      exact jw_ireti C dL_likely_13
    replace hm := if_f hm a0
    cases hm
  replace hm := if_t hm e3
  replace C := Cx_bump (a := 1) (b := 6) C (hk_sub hk (Nat.le_of_ble_eq_true rfl) (Nat.le_of_ble_eq_true rfl))
  replace hT := HT_bump (a := 1) (b := 6) hT
  replace hk := hk_bump (a := 1) (b := 6) (n := 0) (m := 0) hk
  refine j_i2l C dL_likely_6 ?_
  obtain ⟨h4, hm⟩ := gd_some hm
  obtain ⟨μ5, e6, hm⟩ := lt_some hm
  refine j_last C hv1 h4 e6 dL_likely_7 ?_
  refine j_goto C (tgt := 14) dL_likely_8 (by decide) ?_
  refine j_iconst C (v := 0) dL_likely_14 rfl ?_
  obtain rfl := Option.some.inj hm
  exact jw_ireti C dL_likely_15
set_option maxRecDepth 20000 in
set_option maxHeartbeats 4000000 in
theorem mw_L_likely (l : Launch) (hst : l.stackTraces = false) (N : Nat) (Λ : Lay) (μ : Mem) (v0 : Nat) (v1 : Nat) (hv0 : inL Λ v0 10) (hv1 : inL Λ v1 14) {r : Int32 × Mem} (hm : m_L_likely N Λ μ v0 v1 = some r) : MW l yL_likely cL_likely 3 hh_L_likely rm_L_likely Λ [.ref v0, .ref v1] μ r.1 r.2 := mw_of hst rfl (Nat.le_of_ble_eq_true rfl) (fun x C _ hT h0 => tm_L_likely C _ _ _ _ hT (hk_0 h0) hv0 hv1 hm)
abbrev hh_L_sound : List (Nat × Nat × Nat × Nat) := [(0, 8, 11, 13)]
abbrev rm_L_sound : Room := { frames := 8, cells := 1, slots := 6, locals := 161 }
set_option maxRecDepth 20000 in
set_option maxHeartbeats 4000000 in
theorem tm_L_sound {x : Ctx} {Λ : Lay} (C : Cx x cL_sound 3 (some .int) RL Λ rm_L_sound) (N : Nat) (μ : Mem) (v0 : Nat) (v1 : Nat) (hT : HT x hh_L_sound) (hk : xk x + 1 ≤ (rm_L_sound).cells ∧ xl x + 6 ≤ (rm_L_sound).slots) (hv0 : inL Λ v0 10) (hv1 : inL Λ v1 14) {r : Int32 × Mem} (hm : m_L_sound N Λ μ v0 v1 = some r) : J x 3 Λ (QW x Λ rm_L_sound r.1 r.2) 0 [(0, .ref v0), (1, .ref v1)] [] μ := by
  refine j_aload_n C 1 dL_sound_0 rfl ?_
  refine j_iconst C (v := 0) dL_sound_1 rfl ?_
  refine j_aload_n C 0 dL_sound_2 rfl ?_
  obtain ⟨r1, h2, hm⟩ := bd_some hm
  refine call_XH (runx_LV C lk_L_80 ⟨Nat.le_of_ble_eq_true rfl, Nat.le_of_ble_eq_true rfl⟩ (hk_sub hk (Nat.le_of_ble_eq_true rfl) (Nat.le_of_ble_eq_true rfl)) (As := []) hv0 rfl rfl (Nat.le_of_ble_eq_true rfl) dL_sound_3 (mcx_X11_sound _ hT.2 _ _ _ _ hv0 h2)) (fun e3 => ?_) (fun E H1 locs1 ls ce q9 hE hw hl hc hv hcl => ?_)
  rotate_left
  · have e0 : ¬ r1.1 = 0 := fun e => by rw [e] at hE; cases hE
    replace hm := if_f hm e0
    by_cases a0 : r1.1 = 1
    · replace hm := if_t hm a0
      have hE1 : E = "java/lang/IllegalArgumentException" := by rw [a0] at hE; exact (Option.some.inj hE).symm
      subst hE1
      obtain rfl := Option.some.inj hm
      refine catch_J (Cx_bump (a := 1) (b := 6) C (hk_sub hk (Nat.le_of_ble_eq_true rfl) (Nat.le_of_ble_eq_true rfl))) (HT_bump hT) [] ⟨0, 8, 11, 13⟩ [] rfl (fun y hy => by cases hy) rfl (by decide) wk_745 (List.mem_of_getElem? (i := 18) rfl) (fun q8 => ?_) H1 locs1 ls ce q9 hw hl hc hv hcl
      have C := Cx_bump (a := 1) (b := 6) C (hk_sub hk (Nat.le_of_ble_eq_true rfl) (Nat.le_of_ble_eq_true rfl))
      refine j_astore_n C (lv' := [(2, .ref q8), (0, .ref v0), (1, .ref v1)]) dL_sound_11 (by decide) rfl ?_
      refine j_iconst C (v := 1) dL_sound_12 rfl ?_
      exact jw_ireti C dL_sound_13
    replace hm := if_f hm a0
    cases hm
  replace hm := if_t hm e3
  replace C := Cx_bump (a := 1) (b := 6) C (hk_sub hk (Nat.le_of_ble_eq_true rfl) (Nat.le_of_ble_eq_true rfl))
  replace hT := HT_bump (a := 1) (b := 6) hT
  replace hk := hk_bump (a := 1) (b := 6) (n := 0) (m := 0) hk
  refine j_i2l C dL_sound_6 ?_
  obtain ⟨h4, hm⟩ := gd_some hm
  obtain ⟨μ5, e6, hm⟩ := lt_some hm
  refine j_last C hv1 h4 e6 dL_sound_7 ?_
  refine j_goto C (tgt := 14) dL_sound_8 (by decide) ?_
  refine j_iconst C (v := 0) dL_sound_14 rfl ?_
  obtain rfl := Option.some.inj hm
  exact jw_ireti C dL_sound_15
set_option maxRecDepth 20000 in
set_option maxHeartbeats 4000000 in
theorem mw_L_sound (l : Launch) (hst : l.stackTraces = false) (N : Nat) (Λ : Lay) (μ : Mem) (v0 : Nat) (v1 : Nat) (hv0 : inL Λ v0 10) (hv1 : inL Λ v1 14) {r : Int32 × Mem} (hm : m_L_sound N Λ μ v0 v1 = some r) : MW l yL_sound cL_sound 3 hh_L_sound rm_L_sound Λ [.ref v0, .ref v1] μ r.1 r.2 := mw_of hst rfl (Nat.le_of_ble_eq_true rfl) (fun x C _ hT h0 => tm_L_sound C _ _ _ _ hT (hk_0 h0) hv0 hv1 hm)
abbrev hh_L_beds : List (Nat × Nat × Nat × Nat) := [(0, 9, 12, 24)]
abbrev rm_L_beds : Room := { frames := 8, cells := 1, slots := 6, locals := 162 }
set_option maxRecDepth 20000 in
set_option maxHeartbeats 4000000 in
theorem tm_L_beds {x : Ctx} {Λ : Lay} (C : Cx x cL_beds 4 (some .int) RL Λ rm_L_beds) (N : Nat) (μ : Mem) (v0 : Nat) (v1 : Int32) (v2 : Nat) (hT : HT x hh_L_beds) (hk : xk x + 1 ≤ (rm_L_beds).cells ∧ xl x + 6 ≤ (rm_L_beds).slots) (hv0 : inL Λ v0 10) (hv2 : inL Λ v2 14) {r : Int32 × Mem} (hm : m_L_beds N Λ μ v0 v1 v2 = some r) : J x 4 Λ (QW x Λ rm_L_beds r.1 r.2) 0 [(0, .ref v0), (1, .int v1), (2, .ref v2)] [] μ := by
  refine j_aload_n C 2 dL_beds_0 rfl ?_
  refine j_iconst C (v := 0) dL_beds_1 rfl ?_
  refine j_aload_n C 0 dL_beds_2 rfl ?_
  refine j_iload_n C 1 dL_beds_3 rfl ?_
  obtain ⟨r1, h2, hm⟩ := bd_some hm
  refine call_XH (runx_LV C lk_L_83 ⟨Nat.le_of_ble_eq_true rfl, Nat.le_of_ble_eq_true rfl⟩ (hk_sub hk (Nat.le_of_ble_eq_true rfl) (Nat.le_of_ble_eq_true rfl)) (As := [.int v1]) hv0 rfl rfl (Nat.le_of_ble_eq_true rfl) dL_beds_4 (mcx_X11_beds _ hT.2 _ _ _ _ _ hv0 h2)) (fun e3 => ?_) (fun E H1 locs1 ls ce q9 hE hw hl hc hv hcl => ?_)
  rotate_left
  · have e0 : ¬ r1.1 = 0 := fun e => by rw [e] at hE; cases hE
    replace hm := if_f hm e0
    by_cases a0 : r1.1 = 3
    · replace hm := if_t hm a0
      have hE1 : E = "java/lang/IndexOutOfBoundsException" := by rw [a0] at hE; exact (Option.some.inj hE).symm
      subst hE1
      obtain rfl := Option.some.inj hm
      refine catch_J (Cx_bump (a := 1) (b := 6) C (hk_sub hk (Nat.le_of_ble_eq_true rfl) (Nat.le_of_ble_eq_true rfl))) (HT_bump hT) [] ⟨0, 9, 12, 24⟩ [] rfl (fun y hy => by cases hy) rfl (by decide) wk_1074 (List.mem_of_getElem? (i := 26) rfl) (fun q8 => ?_) H1 locs1 ls ce q9 hw hl hc hv hcl
      have C := Cx_bump (a := 1) (b := 6) C (hk_sub hk (Nat.le_of_ble_eq_true rfl) (Nat.le_of_ble_eq_true rfl))
      refine j_astore_n C (lv' := [(3, .ref q8), (0, .ref v0), (1, .int v1), (2, .ref v2)]) dL_beds_12 (by decide) rfl ?_
      refine j_iconst C (v := 1) dL_beds_13 rfl ?_
      exact jw_ireti C dL_beds_14
    replace hm := if_f hm a0
    cases hm
  replace hm := if_t hm e3
  replace C := Cx_bump (a := 1) (b := 6) C (hk_sub hk (Nat.le_of_ble_eq_true rfl) (Nat.le_of_ble_eq_true rfl))
  replace hT := HT_bump (a := 1) (b := 6) hT
  replace hk := hk_bump (a := 1) (b := 6) (n := 0) (m := 0) hk
  refine j_i2l C dL_beds_7 ?_
  obtain ⟨h4, hm⟩ := gd_some hm
  obtain ⟨μ5, e6, hm⟩ := lt_some hm
  refine j_last C hv2 h4 e6 dL_beds_8 ?_
  refine j_goto C (tgt := 15) dL_beds_9 (by decide) ?_
  refine j_iconst C (v := 0) dL_beds_15 rfl ?_
  obtain rfl := Option.some.inj hm
  exact jw_ireti C dL_beds_16
set_option maxRecDepth 20000 in
set_option maxHeartbeats 4000000 in
theorem mw_L_beds (l : Launch) (hst : l.stackTraces = false) (N : Nat) (Λ : Lay) (μ : Mem) (v0 : Nat) (v1 : Int32) (v2 : Nat) (hv0 : inL Λ v0 10) (hv2 : inL Λ v2 14) {r : Int32 × Mem} (hm : m_L_beds N Λ μ v0 v1 v2 = some r) : MW l yL_beds cL_beds 4 hh_L_beds rm_L_beds Λ [.ref v0, .int v1, .ref v2] μ r.1 r.2 := mw_of hst rfl (Nat.le_of_ble_eq_true rfl) (fun x C _ hT h0 => tm_L_beds C _ _ _ _ _ hT (hk_0 h0) hv0 hv2 hm)
abbrev hh_L_pairs : List (Nat × Nat × Nat × Nat) := [(0, 9, 12, 24)]
abbrev rm_L_pairs : Room := { frames := 8, cells := 1, slots := 6, locals := 162 }
set_option maxRecDepth 20000 in
set_option maxHeartbeats 4000000 in
theorem tm_L_pairs {x : Ctx} {Λ : Lay} (C : Cx x cL_pairs 4 (some .int) RL Λ rm_L_pairs) (N : Nat) (μ : Mem) (v0 : Nat) (v1 : Int32) (v2 : Nat) (hT : HT x hh_L_pairs) (hk : xk x + 1 ≤ (rm_L_pairs).cells ∧ xl x + 6 ≤ (rm_L_pairs).slots) (hv0 : inL Λ v0 10) (hv2 : inL Λ v2 14) {r : Int32 × Mem} (hm : m_L_pairs N Λ μ v0 v1 v2 = some r) : J x 4 Λ (QW x Λ rm_L_pairs r.1 r.2) 0 [(0, .ref v0), (1, .int v1), (2, .ref v2)] [] μ := by
  refine j_aload_n C 2 dL_pairs_0 rfl ?_
  refine j_iconst C (v := 0) dL_pairs_1 rfl ?_
  refine j_aload_n C 0 dL_pairs_2 rfl ?_
  refine j_iload_n C 1 dL_pairs_3 rfl ?_
  obtain ⟨r1, h2, hm⟩ := bd_some hm
  refine call_XH (runx_LV C lk_L_86 ⟨Nat.le_of_ble_eq_true rfl, Nat.le_of_ble_eq_true rfl⟩ (hk_sub hk (Nat.le_of_ble_eq_true rfl) (Nat.le_of_ble_eq_true rfl)) (As := [.int v1]) hv0 rfl rfl (Nat.le_of_ble_eq_true rfl) dL_pairs_4 (mcx_X11_pairs _ hT.2 _ _ _ _ _ hv0 h2)) (fun e3 => ?_) (fun E H1 locs1 ls ce q9 hE hw hl hc hv hcl => ?_)
  rotate_left
  · have e0 : ¬ r1.1 = 0 := fun e => by rw [e] at hE; cases hE
    replace hm := if_f hm e0
    by_cases a0 : r1.1 = 3
    · replace hm := if_t hm a0
      have hE1 : E = "java/lang/IndexOutOfBoundsException" := by rw [a0] at hE; exact (Option.some.inj hE).symm
      subst hE1
      obtain rfl := Option.some.inj hm
      refine catch_J (Cx_bump (a := 1) (b := 6) C (hk_sub hk (Nat.le_of_ble_eq_true rfl) (Nat.le_of_ble_eq_true rfl))) (HT_bump hT) [] ⟨0, 9, 12, 24⟩ [] rfl (fun y hy => by cases hy) rfl (by decide) wk_1074 (List.mem_of_getElem? (i := 26) rfl) (fun q8 => ?_) H1 locs1 ls ce q9 hw hl hc hv hcl
      have C := Cx_bump (a := 1) (b := 6) C (hk_sub hk (Nat.le_of_ble_eq_true rfl) (Nat.le_of_ble_eq_true rfl))
      refine j_astore_n C (lv' := [(3, .ref q8), (0, .ref v0), (1, .int v1), (2, .ref v2)]) dL_pairs_12 (by decide) rfl ?_
      refine j_iconst C (v := 1) dL_pairs_13 rfl ?_
      exact jw_ireti C dL_pairs_14
    replace hm := if_f hm a0
    cases hm
  replace hm := if_t hm e3
  replace C := Cx_bump (a := 1) (b := 6) C (hk_sub hk (Nat.le_of_ble_eq_true rfl) (Nat.le_of_ble_eq_true rfl))
  replace hT := HT_bump (a := 1) (b := 6) hT
  replace hk := hk_bump (a := 1) (b := 6) (n := 0) (m := 0) hk
  refine j_i2l C dL_pairs_7 ?_
  obtain ⟨h4, hm⟩ := gd_some hm
  obtain ⟨μ5, e6, hm⟩ := lt_some hm
  refine j_last C hv2 h4 e6 dL_pairs_8 ?_
  refine j_goto C (tgt := 15) dL_pairs_9 (by decide) ?_
  refine j_iconst C (v := 0) dL_pairs_15 rfl ?_
  obtain rfl := Option.some.inj hm
  exact jw_ireti C dL_pairs_16
set_option maxRecDepth 20000 in
set_option maxHeartbeats 4000000 in
theorem mw_L_pairs (l : Launch) (hst : l.stackTraces = false) (N : Nat) (Λ : Lay) (μ : Mem) (v0 : Nat) (v1 : Int32) (v2 : Nat) (hv0 : inL Λ v0 10) (hv2 : inL Λ v2 14) {r : Int32 × Mem} (hm : m_L_pairs N Λ μ v0 v1 v2 = some r) : MW l yL_pairs cL_pairs 4 hh_L_pairs rm_L_pairs Λ [.ref v0, .int v1, .ref v2] μ r.1 r.2 := mw_of hst rfl (Nat.le_of_ble_eq_true rfl) (fun x C _ hT h0 => tm_L_pairs C _ _ _ _ _ hT (hk_0 h0) hv0 hv2 hm)
abbrev hh_L_rests : List (Nat × Nat × Nat × Nat) := [(0, 9, 12, 24)]
abbrev rm_L_rests : Room := { frames := 8, cells := 1, slots := 6, locals := 162 }
set_option maxRecDepth 20000 in
set_option maxHeartbeats 4000000 in
theorem tm_L_rests {x : Ctx} {Λ : Lay} (C : Cx x cL_rests 4 (some .int) RL Λ rm_L_rests) (N : Nat) (μ : Mem) (v0 : Nat) (v1 : Int32) (v2 : Nat) (hT : HT x hh_L_rests) (hk : xk x + 1 ≤ (rm_L_rests).cells ∧ xl x + 6 ≤ (rm_L_rests).slots) (hv0 : inL Λ v0 10) (hv2 : inL Λ v2 14) {r : Int32 × Mem} (hm : m_L_rests N Λ μ v0 v1 v2 = some r) : J x 4 Λ (QW x Λ rm_L_rests r.1 r.2) 0 [(0, .ref v0), (1, .int v1), (2, .ref v2)] [] μ := by
  refine j_aload_n C 2 dL_rests_0 rfl ?_
  refine j_iconst C (v := 0) dL_rests_1 rfl ?_
  refine j_aload_n C 0 dL_rests_2 rfl ?_
  refine j_iload_n C 1 dL_rests_3 rfl ?_
  obtain ⟨r1, h2, hm⟩ := bd_some hm
  refine call_XH (runx_LV C lk_L_89 ⟨Nat.le_of_ble_eq_true rfl, Nat.le_of_ble_eq_true rfl⟩ (hk_sub hk (Nat.le_of_ble_eq_true rfl) (Nat.le_of_ble_eq_true rfl)) (As := [.int v1]) hv0 rfl rfl (Nat.le_of_ble_eq_true rfl) dL_rests_4 (mcx_X11_rests _ hT.2 _ _ _ _ _ hv0 h2)) (fun e3 => ?_) (fun E H1 locs1 ls ce q9 hE hw hl hc hv hcl => ?_)
  rotate_left
  · have e0 : ¬ r1.1 = 0 := fun e => by rw [e] at hE; cases hE
    replace hm := if_f hm e0
    by_cases a0 : r1.1 = 3
    · replace hm := if_t hm a0
      have hE1 : E = "java/lang/IndexOutOfBoundsException" := by rw [a0] at hE; exact (Option.some.inj hE).symm
      subst hE1
      obtain rfl := Option.some.inj hm
      refine catch_J (Cx_bump (a := 1) (b := 6) C (hk_sub hk (Nat.le_of_ble_eq_true rfl) (Nat.le_of_ble_eq_true rfl))) (HT_bump hT) [] ⟨0, 9, 12, 24⟩ [] rfl (fun y hy => by cases hy) rfl (by decide) wk_1074 (List.mem_of_getElem? (i := 26) rfl) (fun q8 => ?_) H1 locs1 ls ce q9 hw hl hc hv hcl
      have C := Cx_bump (a := 1) (b := 6) C (hk_sub hk (Nat.le_of_ble_eq_true rfl) (Nat.le_of_ble_eq_true rfl))
      refine j_astore_n C (lv' := [(3, .ref q8), (0, .ref v0), (1, .int v1), (2, .ref v2)]) dL_rests_12 (by decide) rfl ?_
      refine j_iconst C (v := 1) dL_rests_13 rfl ?_
      exact jw_ireti C dL_rests_14
    replace hm := if_f hm a0
    cases hm
  replace hm := if_t hm e3
  replace C := Cx_bump (a := 1) (b := 6) C (hk_sub hk (Nat.le_of_ble_eq_true rfl) (Nat.le_of_ble_eq_true rfl))
  replace hT := HT_bump (a := 1) (b := 6) hT
  replace hk := hk_bump (a := 1) (b := 6) (n := 0) (m := 0) hk
  refine j_i2l C dL_rests_7 ?_
  obtain ⟨h4, hm⟩ := gd_some hm
  obtain ⟨μ5, e6, hm⟩ := lt_some hm
  refine j_last C hv2 h4 e6 dL_rests_8 ?_
  refine j_goto C (tgt := 15) dL_rests_9 (by decide) ?_
  refine j_iconst C (v := 0) dL_rests_15 rfl ?_
  obtain rfl := Option.some.inj hm
  exact jw_ireti C dL_rests_16
set_option maxRecDepth 20000 in
set_option maxHeartbeats 4000000 in
theorem mw_L_rests (l : Launch) (hst : l.stackTraces = false) (N : Nat) (Λ : Lay) (μ : Mem) (v0 : Nat) (v1 : Int32) (v2 : Nat) (hv0 : inL Λ v0 10) (hv2 : inL Λ v2 14) {r : Int32 × Mem} (hm : m_L_rests N Λ μ v0 v1 v2 = some r) : MW l yL_rests cL_rests 4 hh_L_rests rm_L_rests Λ [.ref v0, .int v1, .ref v2] μ r.1 r.2 := mw_of hst rfl (Nat.le_of_ble_eq_true rfl) (fun x C _ hT h0 => tm_L_rests C _ _ _ _ _ hT (hk_0 h0) hv0 hv2 hm)
abbrev hh_L_odds : List (Nat × Nat × Nat × Nat) := [(0, 10, 13, 13)]
abbrev rm_L_odds : Room := { frames := 8, cells := 2, slots := 12, locals := 164 }
set_option maxRecDepth 20000 in
set_option maxHeartbeats 4000000 in
theorem tm_L_odds {x : Ctx} {Λ : Lay} (C : Cx x cL_odds 5 (some .int) RL Λ rm_L_odds) (N : Nat) (μ : Mem) (v0 : Nat) (v1 : Int32) (v2 : Int32) (v3 : Nat) (hT : HT x hh_L_odds) (hk : xk x + 2 ≤ (rm_L_odds).cells ∧ xl x + 12 ≤ (rm_L_odds).slots) (hv0 : inL Λ v0 10) (hv3 : inL Λ v3 14) {r : Int32 × Mem} (hm : m_L_odds N Λ μ v0 v1 v2 v3 = some r) : J x 5 Λ (QW x Λ rm_L_odds r.1 r.2) 0 [(0, .ref v0), (1, .int v1), (2, .int v2), (3, .ref v3)] [] μ := by
  refine j_aload_n C 3 dL_odds_0 rfl ?_
  refine j_iconst C (v := 0) dL_odds_1 rfl ?_
  refine j_aload_n C 0 dL_odds_2 rfl ?_
  refine j_iload_n C 1 dL_odds_3 rfl ?_
  refine j_iload_n C 2 dL_odds_4 rfl ?_
  obtain ⟨r1, h2, hm⟩ := bd_some hm
  refine call_XH (runx_LV C lk_L_92 ⟨Nat.le_of_ble_eq_true rfl, Nat.le_of_ble_eq_true rfl⟩ (hk_sub hk (Nat.le_of_ble_eq_true rfl) (Nat.le_of_ble_eq_true rfl)) (As := [.int v1, .int v2]) hv0 rfl rfl (Nat.le_of_ble_eq_true rfl) dL_odds_5 (mcx_X11_odds _ hT.2 _ _ _ _ _ _ hv0 h2)) (fun e3 => ?_) (fun E H1 locs1 ls ce q9 hE hw hl hc hv hcl => ?_)
  rotate_left
  · have e0 : ¬ r1.1 = 0 := fun e => by rw [e] at hE; cases hE
    replace hm := if_f hm e0
    by_cases a0 : r1.1 = 1
    · replace hm := if_t hm a0
      have hE1 : E = "java/lang/IllegalArgumentException" := by rw [a0] at hE; exact (Option.some.inj hE).symm
      subst hE1
      obtain rfl := Option.some.inj hm
      refine catch_J (Cx_bump (a := 2) (b := 12) C (hk_sub hk (Nat.le_of_ble_eq_true rfl) (Nat.le_of_ble_eq_true rfl))) (HT_bump hT) [] ⟨0, 10, 13, 13⟩ [] rfl (fun y hy => by cases hy) rfl (by decide) wk_745 (List.mem_of_getElem? (i := 18) rfl) (fun q8 => ?_) H1 locs1 ls ce q9 hw hl hc hv hcl
      have C := Cx_bump (a := 2) (b := 12) C (hk_sub hk (Nat.le_of_ble_eq_true rfl) (Nat.le_of_ble_eq_true rfl))
      refine j_astore C (lv' := [(4, .ref q8), (0, .ref v0), (1, .int v1), (2, .int v2), (3, .ref v3)]) dL_odds_13 (by decide) rfl ?_
      refine j_iconst C (v := 1) dL_odds_15 rfl ?_
      exact jw_ireti C dL_odds_16
    replace hm := if_f hm a0
    cases hm
  replace hm := if_t hm e3
  replace C := Cx_bump (a := 2) (b := 12) C (hk_sub hk (Nat.le_of_ble_eq_true rfl) (Nat.le_of_ble_eq_true rfl))
  replace hT := HT_bump (a := 2) (b := 12) hT
  replace hk := hk_bump (a := 2) (b := 12) (n := 0) (m := 0) hk
  refine j_i2l C dL_odds_8 ?_
  obtain ⟨h4, hm⟩ := gd_some hm
  obtain ⟨μ5, e6, hm⟩ := lt_some hm
  refine j_last C hv3 h4 e6 dL_odds_9 ?_
  refine j_goto C (tgt := 17) dL_odds_10 (by decide) ?_
  refine j_iconst C (v := 0) dL_odds_17 rfl ?_
  obtain rfl := Option.some.inj hm
  exact jw_ireti C dL_odds_18
set_option maxRecDepth 20000 in
set_option maxHeartbeats 4000000 in
theorem mw_L_odds (l : Launch) (hst : l.stackTraces = false) (N : Nat) (Λ : Lay) (μ : Mem) (v0 : Nat) (v1 : Int32) (v2 : Int32) (v3 : Nat) (hv0 : inL Λ v0 10) (hv3 : inL Λ v3 14) {r : Int32 × Mem} (hm : m_L_odds N Λ μ v0 v1 v2 v3 = some r) : MW l yL_odds cL_odds 5 hh_L_odds rm_L_odds Λ [.ref v0, .int v1, .int v2, .ref v3] μ r.1 r.2 := mw_of hst rfl (Nat.le_of_ble_eq_true rfl) (fun x C _ hT h0 => tm_L_odds C _ _ _ _ _ _ hT (hk_0 h0) hv0 hv3 hm)
abbrev hh_L_most : List (Nat × Nat × Nat × Nat) := [(0, 9, 12, 26)]
abbrev rm_L_most : Room := { frames := 7, cells := 1, slots := 6, locals := 141 }
set_option maxRecDepth 20000 in
set_option maxHeartbeats 4000000 in
theorem tm_L_most {x : Ctx} {Λ : Lay} (C : Cx x cL_most 4 (some .int) RL Λ rm_L_most) (N : Nat) (μ : Mem) (v0 : Nat) (v1 : Int32) (v2 : Nat) (hT : HT x hh_L_most) (hk : xk x + 1 ≤ (rm_L_most).cells ∧ xl x + 6 ≤ (rm_L_most).slots) (hv0 : inL Λ v0 10) (hv2 : inL Λ v2 14) {r : Int32 × Mem} (hm : m_L_most N Λ μ v0 v1 v2 = some r) : J x 4 Λ (QW x Λ rm_L_most r.1 r.2) 0 [(0, .ref v0), (1, .int v1), (2, .ref v2)] [] μ := by
  refine j_aload_n C 2 dL_most_0 rfl ?_
  refine j_iconst C (v := 0) dL_most_1 rfl ?_
  refine j_aload_n C 0 dL_most_2 rfl ?_
  refine j_iload_n C 1 dL_most_3 rfl ?_
  obtain ⟨r1, h2, hm⟩ := bd_some hm
  refine call_XH (runx_LV C lk_L_95 ⟨Nat.le_of_ble_eq_true rfl, Nat.le_of_ble_eq_true rfl⟩ (hk_sub hk (Nat.le_of_ble_eq_true rfl) (Nat.le_of_ble_eq_true rfl)) (As := [.int v1]) hv0 rfl rfl (Nat.le_of_ble_eq_true rfl) dL_most_4 (mcx_X11_most _ hT.2 _ _ _ _ _ hv0 h2)) (fun e3 => ?_) (fun E H1 locs1 ls ce q9 hE hw hl hc hv hcl => ?_)
  rotate_left
  · have e0 : ¬ r1.1 = 0 := fun e => by rw [e] at hE; cases hE
    replace hm := if_f hm e0
    by_cases a0 : r1.1 = 4
    · replace hm := if_t hm a0
      have hE1 : E = "java/util/NoSuchElementException" := by rw [a0] at hE; exact (Option.some.inj hE).symm
      subst hE1
      obtain rfl := Option.some.inj hm
      refine catch_J (Cx_bump (a := 1) (b := 6) C (hk_sub hk (Nat.le_of_ble_eq_true rfl) (Nat.le_of_ble_eq_true rfl))) (HT_bump hT) [] ⟨0, 9, 12, 26⟩ [] rfl (fun y hy => by cases hy) rfl (by decide) wk_1075 (List.mem_of_getElem? (i := 27) rfl) (fun q8 => ?_) H1 locs1 ls ce q9 hw hl hc hv hcl
      have C := Cx_bump (a := 1) (b := 6) C (hk_sub hk (Nat.le_of_ble_eq_true rfl) (Nat.le_of_ble_eq_true rfl))
      refine j_astore_n C (lv' := [(3, .ref q8), (0, .ref v0), (1, .int v1), (2, .ref v2)]) dL_most_12 (by decide) rfl ?_
      refine j_iconst C (v := 1) dL_most_13 rfl ?_
      exact jw_ireti C dL_most_14
    replace hm := if_f hm a0
    cases hm
  replace hm := if_t hm e3
  replace C := Cx_bump (a := 1) (b := 6) C (hk_sub hk (Nat.le_of_ble_eq_true rfl) (Nat.le_of_ble_eq_true rfl))
  replace hT := HT_bump (a := 1) (b := 6) hT
  replace hk := hk_bump (a := 1) (b := 6) (n := 0) (m := 0) hk
  refine j_i2l C dL_most_7 ?_
  obtain ⟨h4, hm⟩ := gd_some hm
  obtain ⟨μ5, e6, hm⟩ := lt_some hm
  refine j_last C hv2 h4 e6 dL_most_8 ?_
  refine j_goto C (tgt := 15) dL_most_9 (by decide) ?_
  refine j_iconst C (v := 0) dL_most_15 rfl ?_
  obtain rfl := Option.some.inj hm
  exact jw_ireti C dL_most_16
set_option maxRecDepth 20000 in
set_option maxHeartbeats 4000000 in
theorem mw_L_most (l : Launch) (hst : l.stackTraces = false) (N : Nat) (Λ : Lay) (μ : Mem) (v0 : Nat) (v1 : Int32) (v2 : Nat) (hv0 : inL Λ v0 10) (hv2 : inL Λ v2 14) {r : Int32 × Mem} (hm : m_L_most N Λ μ v0 v1 v2 = some r) : MW l yL_most cL_most 4 hh_L_most rm_L_most Λ [.ref v0, .int v1, .ref v2] μ r.1 r.2 := mw_of hst rfl (Nat.le_of_ble_eq_true rfl) (fun x C _ hT h0 => tm_L_most C _ _ _ _ _ hT (hk_0 h0) hv0 hv2 hm)
abbrev hh_L_ahead : List (Nat × Nat × Nat × Nat) := [(0, 10, 13, 13)]
abbrev rm_L_ahead : Room := { frames := 8, cells := 1, slots := 6, locals := 201 }
set_option maxRecDepth 20000 in
set_option maxHeartbeats 4000000 in
theorem tm_L_ahead {x : Ctx} {Λ : Lay} (C : Cx x cL_ahead 5 (some .int) RL Λ rm_L_ahead) (N : Nat) (μ : Mem) (v0 : Nat) (v1 : Int32) (v2 : Int32) (v3 : Nat) (hT : HT x hh_L_ahead) (hk : xk x + 1 ≤ (rm_L_ahead).cells ∧ xl x + 6 ≤ (rm_L_ahead).slots) (hv0 : inL Λ v0 10) (hv3 : inL Λ v3 14) {r : Int32 × Mem} (hm : m_L_ahead N Λ μ v0 v1 v2 v3 = some r) : J x 5 Λ (QW x Λ rm_L_ahead r.1 r.2) 0 [(0, .ref v0), (1, .int v1), (2, .int v2), (3, .ref v3)] [] μ := by
  refine j_aload_n C 3 dL_ahead_0 rfl ?_
  refine j_iconst C (v := 0) dL_ahead_1 rfl ?_
  refine j_aload_n C 0 dL_ahead_2 rfl ?_
  refine j_iload_n C 1 dL_ahead_3 rfl ?_
  refine j_iload_n C 2 dL_ahead_4 rfl ?_
  obtain ⟨r1, h2, hm⟩ := bd_some hm
  refine call_XH (runx_LV C lk_L_98 ⟨Nat.le_of_ble_eq_true rfl, Nat.le_of_ble_eq_true rfl⟩ (hk_sub hk (Nat.le_of_ble_eq_true rfl) (Nat.le_of_ble_eq_true rfl)) (As := [.int v1, .int v2]) hv0 rfl rfl (Nat.le_of_ble_eq_true rfl) dL_ahead_5 (mcx_X11_ahead _ hT.2 _ _ _ _ _ _ hv0 h2)) (fun e3 => ?_) (fun E H1 locs1 ls ce q9 hE hw hl hc hv hcl => ?_)
  rotate_left
  · have e0 : ¬ r1.1 = 0 := fun e => by rw [e] at hE; cases hE
    replace hm := if_f hm e0
    by_cases a0 : r1.1 = 1
    · replace hm := if_t hm a0
      have hE1 : E = "java/lang/IllegalArgumentException" := by rw [a0] at hE; exact (Option.some.inj hE).symm
      subst hE1
      obtain rfl := Option.some.inj hm
      refine catch_J (Cx_bump (a := 1) (b := 6) C (hk_sub hk (Nat.le_of_ble_eq_true rfl) (Nat.le_of_ble_eq_true rfl))) (HT_bump hT) [] ⟨0, 10, 13, 13⟩ [] rfl (fun y hy => by cases hy) rfl (by decide) wk_745 (List.mem_of_getElem? (i := 18) rfl) (fun q8 => ?_) H1 locs1 ls ce q9 hw hl hc hv hcl
      have C := Cx_bump (a := 1) (b := 6) C (hk_sub hk (Nat.le_of_ble_eq_true rfl) (Nat.le_of_ble_eq_true rfl))
      refine j_astore C (lv' := [(4, .ref q8), (0, .ref v0), (1, .int v1), (2, .int v2), (3, .ref v3)]) dL_ahead_13 (by decide) rfl ?_
      refine j_iconst C (v := 1) dL_ahead_15 rfl ?_
      exact jw_ireti C dL_ahead_16
    replace hm := if_f hm a0
    cases hm
  replace hm := if_t hm e3
  replace C := Cx_bump (a := 1) (b := 6) C (hk_sub hk (Nat.le_of_ble_eq_true rfl) (Nat.le_of_ble_eq_true rfl))
  replace hT := HT_bump (a := 1) (b := 6) hT
  replace hk := hk_bump (a := 1) (b := 6) (n := 0) (m := 0) hk
  refine j_i2l C dL_ahead_8 ?_
  obtain ⟨h4, hm⟩ := gd_some hm
  obtain ⟨μ5, e6, hm⟩ := lt_some hm
  refine j_last C hv3 h4 e6 dL_ahead_9 ?_
  refine j_goto C (tgt := 17) dL_ahead_10 (by decide) ?_
  refine j_iconst C (v := 0) dL_ahead_17 rfl ?_
  obtain rfl := Option.some.inj hm
  exact jw_ireti C dL_ahead_18
set_option maxRecDepth 20000 in
set_option maxHeartbeats 4000000 in
theorem mw_L_ahead (l : Launch) (hst : l.stackTraces = false) (N : Nat) (Λ : Lay) (μ : Mem) (v0 : Nat) (v1 : Int32) (v2 : Int32) (v3 : Nat) (hv0 : inL Λ v0 10) (hv3 : inL Λ v3 14) {r : Int32 × Mem} (hm : m_L_ahead N Λ μ v0 v1 v2 v3 = some r) : MW l yL_ahead cL_ahead 5 hh_L_ahead rm_L_ahead Λ [.ref v0, .int v1, .int v2, .ref v3] μ r.1 r.2 := mw_of hst rfl (Nat.le_of_ble_eq_true rfl) (fun x C _ hT h0 => tm_L_ahead C _ _ _ _ _ _ hT (hk_0 h0) hv0 hv3 hm)
abbrev hh_L_trial : List (Nat × Nat × Nat × Nat) := [(0, 10, 13, 13)]
abbrev rm_L_trial : Room := { frames := 8, cells := 1, slots := 6, locals := 201 }
set_option maxRecDepth 20000 in
set_option maxHeartbeats 4000000 in
theorem tm_L_trial {x : Ctx} {Λ : Lay} (C : Cx x cL_trial 5 (some .int) RL Λ rm_L_trial) (N : Nat) (μ : Mem) (v0 : Nat) (v1 : Int32) (v2 : Int32) (v3 : Nat) (hT : HT x hh_L_trial) (hk : xk x + 1 ≤ (rm_L_trial).cells ∧ xl x + 6 ≤ (rm_L_trial).slots) (hv0 : inL Λ v0 10) (hv3 : inL Λ v3 14) {r : Int32 × Mem} (hm : m_L_trial N Λ μ v0 v1 v2 v3 = some r) : J x 5 Λ (QW x Λ rm_L_trial r.1 r.2) 0 [(0, .ref v0), (1, .int v1), (2, .int v2), (3, .ref v3)] [] μ := by
  refine j_aload_n C 3 dL_trial_0 rfl ?_
  refine j_iconst C (v := 0) dL_trial_1 rfl ?_
  refine j_aload_n C 0 dL_trial_2 rfl ?_
  refine j_iload_n C 1 dL_trial_3 rfl ?_
  refine j_iload_n C 2 dL_trial_4 rfl ?_
  obtain ⟨r1, h2, hm⟩ := bd_some hm
  refine call_XH (runx_LV C lk_L_102 ⟨Nat.le_of_ble_eq_true rfl, Nat.le_of_ble_eq_true rfl⟩ (hk_sub hk (Nat.le_of_ble_eq_true rfl) (Nat.le_of_ble_eq_true rfl)) (As := [.int v1, .int v2]) hv0 rfl rfl (Nat.le_of_ble_eq_true rfl) dL_trial_5 (mcx_X11_trial _ hT.2 _ _ _ _ _ _ hv0 h2)) (fun e3 => ?_) (fun E H1 locs1 ls ce q9 hE hw hl hc hv hcl => ?_)
  rotate_left
  · have e0 : ¬ r1.1 = 0 := fun e => by rw [e] at hE; cases hE
    replace hm := if_f hm e0
    by_cases a0 : r1.1 = 1
    · replace hm := if_t hm a0
      have hE1 : E = "java/lang/IllegalArgumentException" := by rw [a0] at hE; exact (Option.some.inj hE).symm
      subst hE1
      obtain rfl := Option.some.inj hm
      refine catch_J (Cx_bump (a := 1) (b := 6) C (hk_sub hk (Nat.le_of_ble_eq_true rfl) (Nat.le_of_ble_eq_true rfl))) (HT_bump hT) [] ⟨0, 10, 13, 13⟩ [] rfl (fun y hy => by cases hy) rfl (by decide) wk_745 (List.mem_of_getElem? (i := 18) rfl) (fun q8 => ?_) H1 locs1 ls ce q9 hw hl hc hv hcl
      have C := Cx_bump (a := 1) (b := 6) C (hk_sub hk (Nat.le_of_ble_eq_true rfl) (Nat.le_of_ble_eq_true rfl))
      refine j_astore C (lv' := [(4, .ref q8), (0, .ref v0), (1, .int v1), (2, .int v2), (3, .ref v3)]) dL_trial_13 (by decide) rfl ?_
      refine j_iconst C (v := 1) dL_trial_15 rfl ?_
      exact jw_ireti C dL_trial_16
    replace hm := if_f hm a0
    cases hm
  replace hm := if_t hm e3
  replace C := Cx_bump (a := 1) (b := 6) C (hk_sub hk (Nat.le_of_ble_eq_true rfl) (Nat.le_of_ble_eq_true rfl))
  replace hT := HT_bump (a := 1) (b := 6) hT
  replace hk := hk_bump (a := 1) (b := 6) (n := 0) (m := 0) hk
  refine j_i2l C dL_trial_8 ?_
  obtain ⟨h4, hm⟩ := gd_some hm
  obtain ⟨μ5, e6, hm⟩ := lt_some hm
  refine j_last C hv3 h4 e6 dL_trial_9 ?_
  refine j_goto C (tgt := 17) dL_trial_10 (by decide) ?_
  refine j_iconst C (v := 0) dL_trial_17 rfl ?_
  obtain rfl := Option.some.inj hm
  exact jw_ireti C dL_trial_18
set_option maxRecDepth 20000 in
set_option maxHeartbeats 4000000 in
theorem mw_L_trial (l : Launch) (hst : l.stackTraces = false) (N : Nat) (Λ : Lay) (μ : Mem) (v0 : Nat) (v1 : Int32) (v2 : Int32) (v3 : Nat) (hv0 : inL Λ v0 10) (hv3 : inL Λ v3 14) {r : Int32 × Mem} (hm : m_L_trial N Λ μ v0 v1 v2 v3 = some r) : MW l yL_trial cL_trial 5 hh_L_trial rm_L_trial Λ [.ref v0, .int v1, .int v2, .ref v3] μ r.1 r.2 := mw_of hst rfl (Nat.le_of_ble_eq_true rfl) (fun x C _ hT h0 => tm_L_trial C _ _ _ _ _ _ hT (hk_0 h0) hv0 hv3 hm)
abbrev hh_L_span : List (Nat × Nat × Nat × Nat) := [(0, 10, 13, 13)]
abbrev rm_L_span : Room := { frames := 8, cells := 1, slots := 6, locals := 180 }
set_option maxRecDepth 20000 in
set_option maxHeartbeats 4000000 in
theorem tm_L_span {x : Ctx} {Λ : Lay} (C : Cx x cL_span 5 (some .int) RL Λ rm_L_span) (N : Nat) (μ : Mem) (v0 : Nat) (v1 : Int32) (v2 : Int32) (v3 : Nat) (hT : HT x hh_L_span) (hk : xk x + 1 ≤ (rm_L_span).cells ∧ xl x + 6 ≤ (rm_L_span).slots) (hv0 : inL Λ v0 10) (hv3 : inL Λ v3 14) {r : Int32 × Mem} (hm : m_L_span N Λ μ v0 v1 v2 v3 = some r) : J x 5 Λ (QW x Λ rm_L_span r.1 r.2) 0 [(0, .ref v0), (1, .int v1), (2, .int v2), (3, .ref v3)] [] μ := by
  refine j_aload_n C 3 dL_span_0 rfl ?_
  refine j_iconst C (v := 0) dL_span_1 rfl ?_
  refine j_aload_n C 0 dL_span_2 rfl ?_
  refine j_iload_n C 1 dL_span_3 rfl ?_
  refine j_iload_n C 2 dL_span_4 rfl ?_
  obtain ⟨r1, h2, hm⟩ := bd_some hm
  refine call_XH (runx_LV C lk_L_105 ⟨Nat.le_of_ble_eq_true rfl, Nat.le_of_ble_eq_true rfl⟩ (hk_sub hk (Nat.le_of_ble_eq_true rfl) (Nat.le_of_ble_eq_true rfl)) (As := [.int v1, .int v2]) hv0 rfl rfl (Nat.le_of_ble_eq_true rfl) dL_span_5 (mcx_X11_span _ hT.2 _ _ _ _ _ _ hv0 h2)) (fun e3 => ?_) (fun E H1 locs1 ls ce q9 hE hw hl hc hv hcl => ?_)
  rotate_left
  · have e0 : ¬ r1.1 = 0 := fun e => by rw [e] at hE; cases hE
    replace hm := if_f hm e0
    by_cases a0 : r1.1 = 1
    · replace hm := if_t hm a0
      have hE1 : E = "java/lang/IllegalArgumentException" := by rw [a0] at hE; exact (Option.some.inj hE).symm
      subst hE1
      obtain rfl := Option.some.inj hm
      refine catch_J (Cx_bump (a := 1) (b := 6) C (hk_sub hk (Nat.le_of_ble_eq_true rfl) (Nat.le_of_ble_eq_true rfl))) (HT_bump hT) [] ⟨0, 10, 13, 13⟩ [] rfl (fun y hy => by cases hy) rfl (by decide) wk_745 (List.mem_of_getElem? (i := 18) rfl) (fun q8 => ?_) H1 locs1 ls ce q9 hw hl hc hv hcl
      have C := Cx_bump (a := 1) (b := 6) C (hk_sub hk (Nat.le_of_ble_eq_true rfl) (Nat.le_of_ble_eq_true rfl))
      refine j_astore C (lv' := [(4, .ref q8), (0, .ref v0), (1, .int v1), (2, .int v2), (3, .ref v3)]) dL_span_13 (by decide) rfl ?_
      refine j_iconst C (v := 1) dL_span_15 rfl ?_
      exact jw_ireti C dL_span_16
    replace hm := if_f hm a0
    cases hm
  replace hm := if_t hm e3
  replace C := Cx_bump (a := 1) (b := 6) C (hk_sub hk (Nat.le_of_ble_eq_true rfl) (Nat.le_of_ble_eq_true rfl))
  replace hT := HT_bump (a := 1) (b := 6) hT
  replace hk := hk_bump (a := 1) (b := 6) (n := 0) (m := 0) hk
  refine j_i2l C dL_span_8 ?_
  obtain ⟨h4, hm⟩ := gd_some hm
  obtain ⟨μ5, e6, hm⟩ := lt_some hm
  refine j_last C hv3 h4 e6 dL_span_9 ?_
  refine j_goto C (tgt := 17) dL_span_10 (by decide) ?_
  refine j_iconst C (v := 0) dL_span_17 rfl ?_
  obtain rfl := Option.some.inj hm
  exact jw_ireti C dL_span_18
set_option maxRecDepth 20000 in
set_option maxHeartbeats 4000000 in
theorem mw_L_span (l : Launch) (hst : l.stackTraces = false) (N : Nat) (Λ : Lay) (μ : Mem) (v0 : Nat) (v1 : Int32) (v2 : Int32) (v3 : Nat) (hv0 : inL Λ v0 10) (hv3 : inL Λ v3 14) {r : Int32 × Mem} (hm : m_L_span N Λ μ v0 v1 v2 v3 = some r) : MW l yL_span cL_span 5 hh_L_span rm_L_span Λ [.ref v0, .int v1, .int v2, .ref v3] μ r.1 r.2 := mw_of hst rfl (Nat.le_of_ble_eq_true rfl) (fun x C _ hT h0 => tm_L_span C _ _ _ _ _ _ hT (hk_0 h0) hv0 hv3 hm)
abbrev hh_L_led : List (Nat × Nat × Nat × Nat) := [(0, 10, 13, 24)]
abbrev rm_L_led : Room := { frames := 8, cells := 1, slots := 6, locals := 163 }
set_option maxRecDepth 20000 in
set_option maxHeartbeats 4000000 in
theorem tm_L_led {x : Ctx} {Λ : Lay} (C : Cx x cL_led 5 (some .int) RL Λ rm_L_led) (N : Nat) (μ : Mem) (v0 : Nat) (v1 : Int32) (v2 : Int32) (v3 : Nat) (hT : HT x hh_L_led) (hk : xk x + 1 ≤ (rm_L_led).cells ∧ xl x + 6 ≤ (rm_L_led).slots) (hv0 : inL Λ v0 10) (hv3 : inL Λ v3 14) {r : Int32 × Mem} (hm : m_L_led N Λ μ v0 v1 v2 v3 = some r) : J x 5 Λ (QW x Λ rm_L_led r.1 r.2) 0 [(0, .ref v0), (1, .int v1), (2, .int v2), (3, .ref v3)] [] μ := by
  refine j_aload_n C 3 dL_led_0 rfl ?_
  refine j_iconst C (v := 0) dL_led_1 rfl ?_
  refine j_aload_n C 0 dL_led_2 rfl ?_
  refine j_iload_n C 1 dL_led_3 rfl ?_
  refine j_iload_n C 2 dL_led_4 rfl ?_
  obtain ⟨r1, h2, hm⟩ := bd_some hm
  refine call_XH (runx_LV C lk_L_108 ⟨Nat.le_of_ble_eq_true rfl, Nat.le_of_ble_eq_true rfl⟩ (hk_sub hk (Nat.le_of_ble_eq_true rfl) (Nat.le_of_ble_eq_true rfl)) (As := [.int v1, .int v2]) hv0 rfl rfl (Nat.le_of_ble_eq_true rfl) dL_led_5 (mcx_X11_led _ hT.2 _ _ _ _ _ _ hv0 h2)) (fun e3 => ?_) (fun E H1 locs1 ls ce q9 hE hw hl hc hv hcl => ?_)
  rotate_left
  · have e0 : ¬ r1.1 = 0 := fun e => by rw [e] at hE; cases hE
    replace hm := if_f hm e0
    by_cases a0 : r1.1 = 3
    · replace hm := if_t hm a0
      have hE1 : E = "java/lang/IndexOutOfBoundsException" := by rw [a0] at hE; exact (Option.some.inj hE).symm
      subst hE1
      obtain rfl := Option.some.inj hm
      refine catch_J (Cx_bump (a := 1) (b := 6) C (hk_sub hk (Nat.le_of_ble_eq_true rfl) (Nat.le_of_ble_eq_true rfl))) (HT_bump hT) [] ⟨0, 10, 13, 24⟩ [] rfl (fun y hy => by cases hy) rfl (by decide) wk_1074 (List.mem_of_getElem? (i := 26) rfl) (fun q8 => ?_) H1 locs1 ls ce q9 hw hl hc hv hcl
      have C := Cx_bump (a := 1) (b := 6) C (hk_sub hk (Nat.le_of_ble_eq_true rfl) (Nat.le_of_ble_eq_true rfl))
      refine j_astore C (lv' := [(4, .ref q8), (0, .ref v0), (1, .int v1), (2, .int v2), (3, .ref v3)]) dL_led_13 (by decide) rfl ?_
      refine j_iconst C (v := 1) dL_led_15 rfl ?_
      exact jw_ireti C dL_led_16
    replace hm := if_f hm a0
    cases hm
  replace hm := if_t hm e3
  replace C := Cx_bump (a := 1) (b := 6) C (hk_sub hk (Nat.le_of_ble_eq_true rfl) (Nat.le_of_ble_eq_true rfl))
  replace hT := HT_bump (a := 1) (b := 6) hT
  replace hk := hk_bump (a := 1) (b := 6) (n := 0) (m := 0) hk
  refine j_i2l C dL_led_8 ?_
  obtain ⟨h4, hm⟩ := gd_some hm
  obtain ⟨μ5, e6, hm⟩ := lt_some hm
  refine j_last C hv3 h4 e6 dL_led_9 ?_
  refine j_goto C (tgt := 17) dL_led_10 (by decide) ?_
  refine j_iconst C (v := 0) dL_led_17 rfl ?_
  obtain rfl := Option.some.inj hm
  exact jw_ireti C dL_led_18
set_option maxRecDepth 20000 in
set_option maxHeartbeats 4000000 in
theorem mw_L_led (l : Launch) (hst : l.stackTraces = false) (N : Nat) (Λ : Lay) (μ : Mem) (v0 : Nat) (v1 : Int32) (v2 : Int32) (v3 : Nat) (hv0 : inL Λ v0 10) (hv3 : inL Λ v3 14) {r : Int32 × Mem} (hm : m_L_led N Λ μ v0 v1 v2 v3 = some r) : MW l yL_led cL_led 5 hh_L_led rm_L_led Λ [.ref v0, .int v1, .int v2, .ref v3] μ r.1 r.2 := mw_of hst rfl (Nat.le_of_ble_eq_true rfl) (fun x C _ hT h0 => tm_L_led C _ _ _ _ _ _ hT (hk_0 h0) hv0 hv3 hm)
abbrev hh_L_log : List (Nat × Nat × Nat × Nat) := [(0, 10, 13, 26)]
abbrev rm_L_log : Room := { frames := 7, cells := 1, slots := 6, locals := 142 }
set_option maxRecDepth 20000 in
set_option maxHeartbeats 4000000 in
theorem tm_L_log {x : Ctx} {Λ : Lay} (C : Cx x cL_log 5 (some .int) RL Λ rm_L_log) (N : Nat) (μ : Mem) (v0 : Nat) (v1 : Int32) (v2 : Int32) (v3 : Nat) (hT : HT x hh_L_log) (hk : xk x + 1 ≤ (rm_L_log).cells ∧ xl x + 6 ≤ (rm_L_log).slots) (hv0 : inL Λ v0 10) (hv3 : inL Λ v3 14) {r : Int32 × Mem} (hm : m_L_log N Λ μ v0 v1 v2 v3 = some r) : J x 5 Λ (QW x Λ rm_L_log r.1 r.2) 0 [(0, .ref v0), (1, .int v1), (2, .int v2), (3, .ref v3)] [] μ := by
  refine j_aload_n C 3 dL_log_0 rfl ?_
  refine j_iconst C (v := 0) dL_log_1 rfl ?_
  refine j_aload_n C 0 dL_log_2 rfl ?_
  refine j_iload_n C 1 dL_log_3 rfl ?_
  refine j_iload_n C 2 dL_log_4 rfl ?_
  obtain ⟨r1, h2, hm⟩ := bd_some hm
  refine call_XH (runx_LV C lk_L_111 ⟨Nat.le_of_ble_eq_true rfl, Nat.le_of_ble_eq_true rfl⟩ (hk_sub hk (Nat.le_of_ble_eq_true rfl) (Nat.le_of_ble_eq_true rfl)) (As := [.int v1, .int v2]) hv0 rfl rfl (Nat.le_of_ble_eq_true rfl) dL_log_5 (mcx_X11_log _ hT.2 _ _ _ _ _ _ hv0 h2)) (fun e3 => ?_) (fun E H1 locs1 ls ce q9 hE hw hl hc hv hcl => ?_)
  rotate_left
  · have e0 : ¬ r1.1 = 0 := fun e => by rw [e] at hE; cases hE
    replace hm := if_f hm e0
    by_cases a0 : r1.1 = 4
    · replace hm := if_t hm a0
      have hE1 : E = "java/util/NoSuchElementException" := by rw [a0] at hE; exact (Option.some.inj hE).symm
      subst hE1
      obtain rfl := Option.some.inj hm
      refine catch_J (Cx_bump (a := 1) (b := 6) C (hk_sub hk (Nat.le_of_ble_eq_true rfl) (Nat.le_of_ble_eq_true rfl))) (HT_bump hT) [] ⟨0, 10, 13, 26⟩ [] rfl (fun y hy => by cases hy) rfl (by decide) wk_1075 (List.mem_of_getElem? (i := 27) rfl) (fun q8 => ?_) H1 locs1 ls ce q9 hw hl hc hv hcl
      have C := Cx_bump (a := 1) (b := 6) C (hk_sub hk (Nat.le_of_ble_eq_true rfl) (Nat.le_of_ble_eq_true rfl))
      refine j_astore C (lv' := [(4, .ref q8), (0, .ref v0), (1, .int v1), (2, .int v2), (3, .ref v3)]) dL_log_13 (by decide) rfl ?_
      refine j_iconst C (v := 1) dL_log_15 rfl ?_
      exact jw_ireti C dL_log_16
    replace hm := if_f hm a0
    cases hm
  replace hm := if_t hm e3
  replace C := Cx_bump (a := 1) (b := 6) C (hk_sub hk (Nat.le_of_ble_eq_true rfl) (Nat.le_of_ble_eq_true rfl))
  replace hT := HT_bump (a := 1) (b := 6) hT
  replace hk := hk_bump (a := 1) (b := 6) (n := 0) (m := 0) hk
  refine j_i2l C dL_log_8 ?_
  obtain ⟨h4, hm⟩ := gd_some hm
  obtain ⟨μ5, e6, hm⟩ := lt_some hm
  refine j_last C hv3 h4 e6 dL_log_9 ?_
  refine j_goto C (tgt := 17) dL_log_10 (by decide) ?_
  refine j_iconst C (v := 0) dL_log_17 rfl ?_
  obtain rfl := Option.some.inj hm
  exact jw_ireti C dL_log_18
set_option maxRecDepth 20000 in
set_option maxHeartbeats 4000000 in
theorem mw_L_log (l : Launch) (hst : l.stackTraces = false) (N : Nat) (Λ : Lay) (μ : Mem) (v0 : Nat) (v1 : Int32) (v2 : Int32) (v3 : Nat) (hv0 : inL Λ v0 10) (hv3 : inL Λ v3 14) {r : Int32 × Mem} (hm : m_L_log N Λ μ v0 v1 v2 v3 = some r) : MW l yL_log cL_log 5 hh_L_log rm_L_log Λ [.ref v0, .int v1, .int v2, .ref v3] μ r.1 r.2 := mw_of hst rfl (Nat.le_of_ble_eq_true rfl) (fun x C _ hT h0 => tm_L_log C _ _ _ _ _ _ hT (hk_0 h0) hv0 hv3 hm)

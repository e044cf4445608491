abbrev rm_X3_readAtom (d : Nat) : Room := { frames := 4 * d + 20, cells := 0, slots := 0, locals := 400 * d + 900 }
abbrev rm_X3_readAll (d : Nat) : Room := { frames := 4 * d + 21, cells := 0, slots := 0, locals := 400 * d + 1020 }
abbrev rm_X3_readAny (d : Nat) : Room := { frames := 4 * d + 22, cells := 0, slots := 0, locals := 400 * d + 1140 }
set_option maxRecDepth 20000 in
set_option maxHeartbeats 4000000 in
theorem tj_X3_readAll_54 {x : Ctx} {Λ : Lay} {d : Nat} (C : Cx x cX3_readAll 3 (some .boolean) RX3 Λ (rm_X3_readAll d)) (N : Nat) (fA : Mem → Nat → Int32 → Option (Int32 × Mem)) (μ : Mem) (hfA : ∀ (ν : Mem) (a : Nat) (a0 : Int32) (r : Int32 × Mem), inL Λ a 3 → fA ν a a0 = some r → MI x.2.1 yX3_readAtom cX3_readAtom 5 (some .boolean) (rm_X3_readAtom d) Λ [.ref a, .int a0] ν r.1 r.2) {r : Int32 × Mem} (hm : jn_X3_readAll_54 N Λ fA μ = some r) : J x 3 Λ (QI x Λ r.1 r.2) 54 [] [] μ := by
  refine j_iconst C (v := 1) dX3_readAll_54 rfl ?_
  obtain rfl := Option.some.inj hm
  exact j_iretz C rfl dX3_readAll_55
set_option maxRecDepth 20000 in
set_option maxHeartbeats 4000000 in
theorem tb_X3_readAll_12 {x : Ctx} {Λ : Lay} {d : Nat} (C : Cx x cX3_readAll 3 (some .boolean) RX3 Λ (rm_X3_readAll d)) (N : Nat) (fA : Mem → Nat → Int32 → Option (Int32 × Mem)) (μ : Mem) (k12 : Int32 × Mem → Option (Int32 × Mem)) (v0 : Nat) (v1 : Int32) (v2 : Int32) (hfA : ∀ (ν : Mem) (a : Nat) (a0 : Int32) (r : Int32 × Mem), inL Λ a 3 → fA ν a a0 = some r → MI x.2.1 yX3_readAtom cX3_readAtom 5 (some .boolean) (rm_X3_readAtom d) Λ [.ref a, .int a0] ν r.1 r.2) (hk12 : ∀ (s : Int32 × Mem) (r : Int32 × Mem), k12 s = some r → J x 3 Λ (QI x Λ r.1 r.2) 12 [(0, .ref v0), (1, .int v1), (2, .int s.1)] [] (s.2)) (hv0 : inL Λ v0 3) {r : Int32 × Mem} (hm : bd_X3_readAll_12 N Λ fA μ k12 v0 v1 v2 = some r) : J x 3 Λ (QI x Λ r.1 r.2) 12 [(0, .ref v0), (1, .int v1), (2, .int v2)] [] μ := by
  refine j_iload_n C 2 dX3_readAll_12 rfl ?_
  refine j_sipush C (v := 400) dX3_readAll_13 rfl ?_
  refine j_icmp_ge C (tgt := 54) dX3_readAll_16 (by decide) (fun h1 => ?_) (fun h1 => ?_)
  · replace hm := if_t hm h1
    refine j_sub [] rfl ?_
    exact tj_X3_readAll_54 C _ _ _ hfA hm
  · replace hm := if_f hm h1
    refine j_aload_n C 0 dX3_readAll_19 rfl ?_
    refine j_ldcS C (i := 0) (tx := "and") (List.mem_of_getElem? (i := 28) rfl) dX3_readAll_20 ?_
    obtain ⟨r2, h3, hm⟩ := bd_some hm
    refine call_I (run_LU C lu_X3_35_3 (by refine ⟨rfl, rfl, ?_, ?_⟩ <;> (simp only [rm_X7_takeWord, rm_X3_readAll]; omega)) (As := [.ref (sK Λ 0)]) hv0 rfl rfl (Nat.le_of_ble_eq_true rfl) dX3_readAll_22 (mc_X7_takeWord_3 _ _ _ _ _ _ hv0 ((by decide)) h3)) ?_
    refine j_if_eq C (tgt := 54) dX3_readAll_25 (by decide) (fun h4 => ?_) (fun h4 => ?_)
    · replace hm := if_t hm h4
      refine j_sub [] rfl ?_
      exact tj_X3_readAll_54 C _ _ _ hfA hm
    · replace hm := if_f hm h4
      refine j_aload_n C 0 dX3_readAll_28 rfl ?_
      refine j_iload_n C 1 dX3_readAll_29 rfl ?_
      obtain ⟨r5, h6, hm⟩ := bd_some hm
      refine call_I (run_LV C lk_X3_61 (by refine ⟨rfl, rfl, ?_, ?_⟩ <;> (simp only [rm_X3_readAtom, rm_X3_readAll]; omega)) (As := [.int v1]) hv0 rfl rfl (Nat.le_of_ble_eq_true rfl) dX3_readAll_30 (hfA _ _ _ _ hv0 h6)) ?_
      refine j_if_ne C (tgt := 38) dX3_readAll_33 (by decide) (fun h7 => ?_) (fun h7 => ?_)
      · replace hm := if_f hm h7
        refine j_aload_n C 0 dX3_readAll_38 rfl ?_
        obtain ⟨q8, h9, hm⟩ := bd_some hm
        refine j_getR C fg_X3_9_3 hv0 (dr_spec h9).1 dX3_readAll_39 ?_
        refine j_bipush C (v := -12) dX3_readAll_42 rfl ?_
        obtain ⟨r10, h11, hm⟩ := bd_some hm
        refine call_I (run_LV C lk_X3_58 (by refine ⟨rfl, rfl, ?_, ?_⟩ <;> (simp only [rm_X2_add, rm_X3_readAll]; omega)) (As := [.int (-12)]) ((dr_spec h9).2) rfl rfl (Nat.le_of_ble_eq_true rfl) dX3_readAll_44 (mc_X2_add _ _ _ _ _ _ ((dr_spec h9).2) h11)) ?_
        refine j_pop C dX3_readAll_47 rfl ?_
        obtain ⟨y12, e13, hm⟩ := lt_some hm
        refine j_iinc C 2 (v := y12) (lv' := [(2, .int y12), (0, .ref v0), (1, .int v1)]) dX3_readAll_48 rfl (by rw [e13]; rfl) (by decide) rfl ?_
        refine j_goto C (tgt := 12) dX3_readAll_51 (by decide) ?_
        refine j_sub [1, 2, 0] rfl ?_
        exact hk12 (y12, r10.2) _ hm
      · replace hm := if_t hm h7
        refine j_iconst C (v := 0) dX3_readAll_36 rfl ?_
        obtain rfl := Option.some.inj hm
        exact j_iretz C rfl dX3_readAll_37
set_option maxRecDepth 20000 in
set_option maxHeartbeats 4000000 in
theorem tl_X3_readAll_12 {x : Ctx} {Λ : Lay} {d : Nat} (C : Cx x cX3_readAll 3 (some .boolean) RX3 Λ (rm_X3_readAll d)) (N : Nat) (fA : Mem → Nat → Int32 → Option (Int32 × Mem)) (v0 : Nat) (v1 : Int32) (hfA : ∀ (ν : Mem) (a : Nat) (a0 : Int32) (r : Int32 × Mem), inL Λ a 3 → fA ν a a0 = some r → MI x.2.1 yX3_readAtom cX3_readAtom 5 (some .boolean) (rm_X3_readAtom d) Λ [.ref a, .int a0] ν r.1 r.2) (hv0 : inL Λ v0 3) (s : Int32 × Mem) {r : Int32 × Mem} (hm : lp_X3_readAll_12 N Λ fA v0 v1 s = some r) : J x 3 Λ (QI x Λ r.1 r.2) 12 [(0, .ref v0), (1, .int v1), (2, .int s.1)] [] (s.2) :=
  cw_ind (P := fun s r => J x 3 Λ (QI x Λ r.1 r.2) 12 [(0, .ref v0), (1, .int v1), (2, .int s.1)] [] (s.2)) (fun k hkk s r e => tb_X3_readAll_12 C _ _ _ _ _ _ _ hfA hkk hv0 e) N s r hm
set_option maxRecDepth 20000 in
set_option maxHeartbeats 4000000 in
theorem tm_X3_readAll {x : Ctx} {Λ : Lay} {d : Nat} (C : Cx x cX3_readAll 3 (some .boolean) RX3 Λ (rm_X3_readAll d)) (N : Nat) (fA : Mem → Nat → Int32 → Option (Int32 × Mem)) (μ : Mem) (v0 : Nat) (v1 : Int32) (hfA : ∀ (ν : Mem) (a : Nat) (a0 : Int32) (r : Int32 × Mem), inL Λ a 3 → fA ν a a0 = some r → MI x.2.1 yX3_readAtom cX3_readAtom 5 (some .boolean) (rm_X3_readAtom d) Λ [.ref a, .int a0] ν r.1 r.2) (hv0 : inL Λ v0 3) {r : Int32 × Mem} (hm : m_X3_readAll N Λ fA μ v0 v1 = some r) : J x 3 Λ (QI x Λ r.1 r.2) 0 [(0, .ref v0), (1, .int v1)] [] μ := by
  refine j_aload_n C 0 dX3_readAll_0 rfl ?_
  refine j_iload_n C 1 dX3_readAll_1 rfl ?_
  obtain ⟨r1, h2, hm⟩ := bd_some hm
  refine call_I (run_LV C lk_X3_61 (by refine ⟨rfl, rfl, ?_, ?_⟩ <;> (simp only [rm_X3_readAtom, rm_X3_readAll]; omega)) (As := [.int v1]) hv0 rfl rfl (Nat.le_of_ble_eq_true rfl) dX3_readAll_2 (hfA _ _ _ _ hv0 h2)) ?_
  refine j_if_ne C (tgt := 10) dX3_readAll_5 (by decide) (fun h3 => ?_) (fun h3 => ?_)
  · replace hm := if_f hm h3
    refine j_iconst C (v := 0) dX3_readAll_10 rfl ?_
    refine j_istore_n C (lv' := [(2, .int 0), (0, .ref v0), (1, .int v1)]) dX3_readAll_11 (by decide) rfl ?_
    refine j_sub [1, 2, 0] rfl ?_
    exact tl_X3_readAll_12 C _ _ _ _ hfA hv0 (0, r1.2) hm
  · replace hm := if_t hm h3
    refine j_iconst C (v := 0) dX3_readAll_8 rfl ?_
    obtain rfl := Option.some.inj hm
    exact j_iretz C rfl dX3_readAll_9
set_option maxRecDepth 20000 in
set_option maxHeartbeats 4000000 in
theorem mc_X3_readAll (l : Launch) (N : Nat) (Λ : Lay) (fA : Mem → Nat → Int32 → Option (Int32 × Mem)) (d : Nat) (hfA : ∀ (ν : Mem) (a : Nat) (a0 : Int32) (r : Int32 × Mem), inL Λ a 3 → fA ν a a0 = some r → MI l yX3_readAtom cX3_readAtom 5 (some .boolean) (rm_X3_readAtom d) Λ [.ref a, .int a0] ν r.1 r.2) (μ : Mem) (v0 : Nat) (v1 : Int32) (hv0 : inL Λ v0 3) {r : Int32 × Mem} (hm : m_X3_readAll N Λ fA μ v0 v1 = some r) : MI l yX3_readAll cX3_readAll 3 (some .boolean) (rm_X3_readAll d) Λ [.ref v0, .int v1] μ r.1 r.2 := mi_of rfl (Nat.le_of_ble_eq_true rfl) (fun x C hxl => tm_X3_readAll C _ _ _ _ _ (by subst hxl; exact hfA) hv0 hm)

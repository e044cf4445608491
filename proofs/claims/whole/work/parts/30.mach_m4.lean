abbrev rm_X12_canLoad : Room := { frames := 6, cells := 0, slots := 0, locals := 130 }
set_option maxRecDepth 20000 in
set_option maxHeartbeats 4000000 in
theorem tj_X12_canLoad_175 {x : Ctx} {Λ : Lay} (C : Cx x cX12_canLoad 7 (some .boolean) RX12 Λ rm_X12_canLoad) (N : Nat) (μ : Mem) (k37 : Int32 × Mem → Option (Int32 × Mem)) (v0 : Nat) (v2 : Int32) (v3 : Int32) (s0 : Int32) (s1 : Int32) (hk37 : ∀ (s : Int32 × Mem) (r : Int32 × Mem), k37 s = some r → J x 7 Λ (QI x Λ r.1 r.2) 37 [(0, .ref v0), (2, .int v2), (3, .int v3), (4, .int s.1)] [] (s.2)) (hv0 : inL Λ v0 11) {r : Int32 × Mem} (hm : jn_X12_canLoad_175 N Λ μ k37 v0 v2 v3 s0 s1 = some r) : J x 7 Λ (QI x Λ r.1 r.2) 175 [(0, .ref v0), (2, .int v2), (3, .int v3)] [.int s1, .int s0] μ := by
  refine j_iadd C dX12_canLoad_175 ?_
  obtain ⟨y1, e2, hm⟩ := lt_some hm
  refine j_topi e2 ?_
  refine j_istore C (lv' := [(4, .int y1), (0, .ref v0), (2, .int v2), (3, .int v3)]) dX12_canLoad_176 (by decide) rfl ?_
  refine j_goto C (tgt := 37) dX12_canLoad_178 (by decide) ?_
  refine j_sub [1, 2, 3, 0] rfl ?_
  exact hk37 (y1, μ) _ hm
set_option maxRecDepth 20000 in
set_option maxHeartbeats 4000000 in
theorem tj_X12_canLoad_162 {x : Ctx} {Λ : Lay} (C : Cx x cX12_canLoad 7 (some .boolean) RX12 Λ rm_X12_canLoad) (N : Nat) (μ : Mem) (k37 : Int32 × Mem → Option (Int32 × Mem)) (v0 : Nat) (v2 : Int32) (v3 : Int32) (v4 : Int32) (v6 : Int32) (hk37 : ∀ (s : Int32 × Mem) (r : Int32 × Mem), k37 s = some r → J x 7 Λ (QI x Λ r.1 r.2) 37 [(0, .ref v0), (2, .int v2), (3, .int v3), (4, .int s.1)] [] (s.2)) (hv0 : inL Λ v0 11) {r : Int32 × Mem} (hm : jn_X12_canLoad_162 N Λ μ k37 v0 v2 v3 v4 v6 = some r) : J x 7 Λ (QI x Λ r.1 r.2) 162 [(0, .ref v0), (2, .int v2), (3, .int v3), (4, .int v4), (6, .int v6)] [] μ := by
  refine j_iload C 3 dX12_canLoad_162 rfl ?_
  refine j_iload C 4 dX12_canLoad_164 rfl ?_
  refine j_iload_n C 1 dX12_canLoad_166 rfl ?_
  refine j_icmp_ge C (tgt := 174) dX12_canLoad_167 (by decide) (fun h1 => ?_) (fun h1 => ?_)
  · replace hm := if_t hm h1
    refine j_iconst C (v := -1) dX12_canLoad_174 rfl ?_
    refine j_sub [0, 1, 2] rfl ?_
    exact tj_X12_canLoad_175 C _ _ _ _ _ _ _ _ hk37 hv0 hm
  · replace hm := if_f hm h1
    refine j_iconst C (v := 1) dX12_canLoad_170 rfl ?_
    refine j_goto C (tgt := 175) dX12_canLoad_171 (by decide) ?_
    refine j_sub [0, 1, 2] rfl ?_
    exact tj_X12_canLoad_175 C _ _ _ _ _ _ _ _ hk37 hv0 hm
set_option maxRecDepth 20000 in
set_option maxHeartbeats 4000000 in
theorem tj_X12_canLoad_143 {x : Ctx} {Λ : Lay} (C : Cx x cX12_canLoad 7 (some .boolean) RX12 Λ rm_X12_canLoad) (N : Nat) (μ : Mem) (k37 : Int32 × Mem → Option (Int32 × Mem)) (v0 : Nat) (v2 : Int32) (v3 : Int32) (v4 : Int32) (v5 : Int32) (v6 : Int32) (s0 : Nat) (s1 : Int32) (s2 : Int32) (hk37 : ∀ (s : Int32 × Mem) (r : Int32 × Mem), k37 s = some r → J x 7 Λ (QI x Λ r.1 r.2) 37 [(0, .ref v0), (2, .int v2), (3, .int v3), (4, .int s.1)] [] (s.2)) (hv0 : inL Λ v0 11) (hs0 : inL Λ s0 13) {r : Int32 × Mem} (hm : jn_X12_canLoad_143 N Λ μ k37 v0 v2 v3 v4 v5 v6 s0 s1 s2 = some r) : J x 7 Λ (QI x Λ r.1 r.2) 143 [(0, .ref v0), (2, .int v2), (3, .int v3), (4, .int v4), (5, .int v5), (6, .int v6)] [.int s2, .int s1, .ref s0] μ := by
  obtain ⟨h1, hm⟩ := gd_some hm
  obtain ⟨μ2, e3, hm⟩ := lt_some hm
  refine j_iast C hs0 h1 e3 dX12_canLoad_143 ?_
  refine j_iload C 5 dX12_canLoad_144 rfl ?_
  refine j_iload_n C 1 dX12_canLoad_146 rfl ?_
  refine j_icmp_ge C (tgt := 162) dX12_canLoad_147 (by decide) (fun h4 => ?_) (fun h4 => ?_)
  · replace hm := if_t hm h4
    refine j_sub [0, 1, 2, 3, 5] rfl ?_
    exact tj_X12_canLoad_162 C _ _ _ _ _ _ _ _ hk37 hv0 hm
  · replace hm := if_f hm h4
    refine j_aload_n C 0 dX12_canLoad_150 rfl ?_
    obtain ⟨q5, h6, hm⟩ := bd_some hm
    refine j_getR C fg_X12_45_11 hv0 (dr_spec h6).1 dX12_canLoad_151 ?_
    refine j_iload C 5 dX12_canLoad_154 rfl ?_
    refine j_dup2 C dX12_canLoad_156 rfl rfl ?_
    obtain ⟨h7, hm⟩ := gd_some hm
    refine j_iald C ((dr_spec h6).2) h7 dX12_canLoad_157 ?_
    refine j_iload C 4 dX12_canLoad_158 rfl ?_
    refine j_isub C dX12_canLoad_160 ?_
    obtain ⟨h8, hm⟩ := gd_some hm
    obtain ⟨μ9, e10, hm⟩ := lt_some hm
    refine j_iast C ((dr_spec h6).2) h8 e10 dX12_canLoad_161 ?_
    refine j_sub [0, 1, 2, 3, 5] rfl ?_
    exact tj_X12_canLoad_162 C _ _ _ _ _ _ _ _ hk37 hv0 hm
set_option maxRecDepth 20000 in
set_option maxHeartbeats 4000000 in
theorem tj_X12_canLoad_125 {x : Ctx} {Λ : Lay} (C : Cx x cX12_canLoad 7 (some .boolean) RX12 Λ rm_X12_canLoad) (N : Nat) (μ : Mem) (k37 : Int32 × Mem → Option (Int32 × Mem)) (v0 : Nat) (v2 : Int32) (v3 : Int32) (v4 : Int32) (v5 : Int32) (v6 : Int32) (hk37 : ∀ (s : Int32 × Mem) (r : Int32 × Mem), k37 s = some r → J x 7 Λ (QI x Λ r.1 r.2) 37 [(0, .ref v0), (2, .int v2), (3, .int v3), (4, .int s.1)] [] (s.2)) (hv0 : inL Λ v0 11) {r : Int32 × Mem} (hm : jn_X12_canLoad_125 N Λ μ k37 v0 v2 v3 v4 v5 v6 = some r) : J x 7 Λ (QI x Λ r.1 r.2) 125 [(0, .ref v0), (2, .int v2), (3, .int v3), (4, .int v4), (5, .int v5), (6, .int v6)] [] μ := by
  refine j_aload_n C 0 dX12_canLoad_125 rfl ?_
  obtain ⟨q1, h2, hm⟩ := bd_some hm
  refine j_getR C fg_X12_48_11 hv0 (dr_spec h2).1 dX12_canLoad_126 ?_
  refine j_iload C 3 dX12_canLoad_129 rfl ?_
  refine j_iload C 5 dX12_canLoad_131 rfl ?_
  refine j_iload_n C 1 dX12_canLoad_133 rfl ?_
  refine j_icmp_ge C (tgt := 142) dX12_canLoad_134 (by decide) (fun h3 => ?_) (fun h3 => ?_)
  · replace hm := if_t hm h3
    refine j_iconst C (v := -1) dX12_canLoad_142 rfl ?_
    exact tj_X12_canLoad_143 C _ _ _ _ _ _ _ _ _ _ _ _ hk37 hv0 ((dr_spec h2).2) hm
  · replace hm := if_f hm h3
    refine j_iload C 5 dX12_canLoad_137 rfl ?_
    refine j_goto C (tgt := 143) dX12_canLoad_139 (by decide) ?_
    exact tj_X12_canLoad_143 C _ _ _ _ _ _ _ _ _ _ _ _ hk37 hv0 ((dr_spec h2).2) hm
set_option maxRecDepth 20000 in
set_option maxHeartbeats 4000000 in
theorem tb_X12_canLoad_101 {x : Ctx} {Λ : Lay} (C : Cx x cX12_canLoad 7 (some .boolean) RX12 Λ rm_X12_canLoad) (N : Nat) (μ : Mem) (k37 : Int32 × Mem → Option (Int32 × Mem)) (k101 : Int32 × Mem → Option (Int32 × Mem)) (v0 : Nat) (v2 : Int32) (v3 : Int32) (v4 : Int32) (v5 : Int32) (v6 : Int32) (hk37 : ∀ (s : Int32 × Mem) (r : Int32 × Mem), k37 s = some r → J x 7 Λ (QI x Λ r.1 r.2) 37 [(0, .ref v0), (2, .int v2), (3, .int v3), (4, .int s.1)] [] (s.2)) (hk101 : ∀ (s : Int32 × Mem) (r : Int32 × Mem), k101 s = some r → J x 7 Λ (QI x Λ r.1 r.2) 101 [(0, .ref v0), (2, .int v2), (3, .int v3), (4, .int v4), (5, .int v5), (6, .int s.1)] [] (s.2)) (hv0 : inL Λ v0 11) {r : Int32 × Mem} (hm : bd_X12_canLoad_101 N Λ μ k37 k101 v0 v2 v3 v4 v5 v6 = some r) : J x 7 Λ (QI x Λ r.1 r.2) 101 [(0, .ref v0), (2, .int v2), (3, .int v3), (4, .int v4), (5, .int v5), (6, .int v6)] [] μ := by
  refine j_iload C 5 dX12_canLoad_101 rfl ?_
  refine j_iload_n C 1 dX12_canLoad_103 rfl ?_
  refine j_icmp_ge C (tgt := 125) dX12_canLoad_104 (by decide) (fun h1 => ?_) (fun h1 => ?_)
  · replace hm := if_t hm h1
    exact tj_X12_canLoad_125 C _ _ _ _ _ _ _ _ _ hk37 hv0 hm
  · replace hm := if_f hm h1
    refine j_aload_n C 0 dX12_canLoad_107 rfl ?_
    obtain ⟨q2, h3, hm⟩ := bd_some hm
    refine j_getR C fg_X12_45_11 hv0 (dr_spec h3).1 dX12_canLoad_108 ?_
    refine j_iload C 5 dX12_canLoad_111 rfl ?_
    obtain ⟨h4, hm⟩ := gd_some hm
    refine j_iald C ((dr_spec h3).2) h4 dX12_canLoad_113 ?_
    refine j_iload C 4 dX12_canLoad_114 rfl ?_
    refine j_icmp_ge C (tgt := 125) dX12_canLoad_116 (by decide) (fun h5 => ?_) (fun h5 => ?_)
    · replace hm := if_t hm h5
      exact tj_X12_canLoad_125 C _ _ _ _ _ _ _ _ _ hk37 hv0 hm
    · replace hm := if_f hm h5
      obtain ⟨y6, e7, hm⟩ := lt_some hm
      refine j_iinc C 5 (v := y6) (lv' := [(6, .int y6), (0, .ref v0), (2, .int v2), (3, .int v3), (4, .int v4), (5, .int v5)]) dX12_canLoad_119 rfl (by rw [e7]; rfl) (by decide) rfl ?_
      refine j_goto C (tgt := 101) dX12_canLoad_122 (by decide) ?_
      refine j_sub [1, 2, 3, 4, 5, 0] rfl ?_
      exact hk101 (y6, μ) _ hm
set_option maxRecDepth 20000 in
set_option maxHeartbeats 4000000 in
theorem tl_X12_canLoad_101 {x : Ctx} {Λ : Lay} (C : Cx x cX12_canLoad 7 (some .boolean) RX12 Λ rm_X12_canLoad) (N : Nat) (k37 : Int32 × Mem → Option (Int32 × Mem)) (v0 : Nat) (v2 : Int32) (v3 : Int32) (v4 : Int32) (v5 : Int32) (hk37 : ∀ (s : Int32 × Mem) (r : Int32 × Mem), k37 s = some r → J x 7 Λ (QI x Λ r.1 r.2) 37 [(0, .ref v0), (2, .int v2), (3, .int v3), (4, .int s.1)] [] (s.2)) (hv0 : inL Λ v0 11) (s : Int32 × Mem) {r : Int32 × Mem} (hm : lp_X12_canLoad_101 N Λ k37 v0 v2 v3 v4 v5 s = some r) : J x 7 Λ (QI x Λ r.1 r.2) 101 [(0, .ref v0), (2, .int v2), (3, .int v3), (4, .int v4), (5, .int v5), (6, .int s.1)] [] (s.2) :=
  cw_ind (P := fun s r => J x 7 Λ (QI x Λ r.1 r.2) 101 [(0, .ref v0), (2, .int v2), (3, .int v3), (4, .int v4), (5, .int v5), (6, .int s.1)] [] (s.2)) (fun k hkk s r e => tb_X12_canLoad_101 C _ _ _ _ _ _ _ _ _ _ hk37 hkk hv0 e) N s r hm
set_option maxRecDepth 20000 in
set_option maxHeartbeats 4000000 in
theorem tj_X12_canLoad_90 {x : Ctx} {Λ : Lay} (C : Cx x cX12_canLoad 7 (some .boolean) RX12 Λ rm_X12_canLoad) (N : Nat) (μ : Mem) (k37 : Int32 × Mem → Option (Int32 × Mem)) (v0 : Nat) (v2 : Int32) (v3 : Int32) (v4 : Int32) (v5 : Int32) (hk37 : ∀ (s : Int32 × Mem) (r : Int32 × Mem), k37 s = some r → J x 7 Λ (QI x Λ r.1 r.2) 37 [(0, .ref v0), (2, .int v2), (3, .int v3), (4, .int s.1)] [] (s.2)) (hv0 : inL Λ v0 11) {r : Int32 × Mem} (hm : jn_X12_canLoad_90 N Λ μ k37 v0 v2 v3 v4 v5 = some r) : J x 7 Λ (QI x Λ r.1 r.2) 90 [(0, .ref v0), (2, .int v2), (3, .int v3), (4, .int v4), (5, .int v5)] [] μ := by
  refine j_aload_n C 0 dX12_canLoad_90 rfl ?_
  obtain ⟨q1, h2, hm⟩ := bd_some hm
  refine j_getR C fg_X12_48_11 hv0 (dr_spec h2).1 dX12_canLoad_91 ?_
  refine j_iload C 3 dX12_canLoad_94 rfl ?_
  obtain ⟨h3, hm⟩ := gd_some hm
  refine j_iald C ((dr_spec h2).2) h3 dX12_canLoad_96 ?_
  refine j_iconst C (v := 1) dX12_canLoad_97 rfl ?_
  refine j_iadd C dX12_canLoad_98 ?_
  obtain ⟨y4, e5, hm⟩ := lt_some hm
  refine j_topi e5 ?_
  refine j_istore C (lv' := [(6, .int y4), (0, .ref v0), (2, .int v2), (3, .int v3), (4, .int v4), (5, .int v5)]) dX12_canLoad_99 (by decide) rfl ?_
  refine j_sub [1, 2, 3, 4, 5, 0] rfl ?_
  exact tl_X12_canLoad_101 C _ _ _ _ _ _ _ hk37 hv0 (y4, μ) hm
set_option maxRecDepth 20000 in
set_option maxHeartbeats 4000000 in
theorem tj_X12_canLoad_192 {x : Ctx} {Λ : Lay} (C : Cx x cX12_canLoad 7 (some .boolean) RX12 Λ rm_X12_canLoad) (N : Nat) (μ : Mem) (s0 : Int32) {r : Int32 × Mem} (hm : jn_X12_canLoad_192 N Λ μ s0 = some r) : J x 7 Λ (QI x Λ r.1 r.2) 192 [] [.int s0] μ := by
  obtain ⟨h1, hm⟩ := gd_some hm
  obtain rfl := Option.some.inj hm
  exact j_iretz C h1 dX12_canLoad_192
set_option maxRecDepth 20000 in
set_option maxHeartbeats 4000000 in
theorem tj_X12_canLoad_181 {x : Ctx} {Λ : Lay} (C : Cx x cX12_canLoad 7 (some .boolean) RX12 Λ rm_X12_canLoad) (N : Nat) (μ : Mem) (v3 : Int32) (v4 : Int32) {r : Int32 × Mem} (hm : jn_X12_canLoad_181 N Λ μ v3 v4 = some r) : J x 7 Λ (QI x Λ r.1 r.2) 181 [(3, .int v3), (4, .int v4)] [] μ := by
  refine j_iload C 1 dX12_canLoad_181 rfl ?_
  refine j_iload_n C 0 dX12_canLoad_183 rfl ?_
  refine j_icmp_ne C (tgt := 191) dX12_canLoad_184 (by decide) (fun h1 => ?_) (fun h1 => ?_)
  · replace hm := if_f hm h1
    refine j_iconst C (v := 0) dX12_canLoad_191 rfl ?_
    refine j_sub [] rfl ?_
    exact tj_X12_canLoad_192 C _ _ _  hm
  · replace hm := if_t hm h1
    refine j_iconst C (v := 1) dX12_canLoad_187 rfl ?_
    refine j_goto C (tgt := 192) dX12_canLoad_188 (by decide) ?_
    refine j_sub [] rfl ?_
    exact tj_X12_canLoad_192 C _ _ _  hm
set_option maxRecDepth 20000 in
set_option maxHeartbeats 4000000 in
theorem tb_X12_canLoad_37 {x : Ctx} {Λ : Lay} (C : Cx x cX12_canLoad 7 (some .boolean) RX12 Λ rm_X12_canLoad) (N : Nat) (μ : Mem) (k37 : Int32 × Mem → Option (Int32 × Mem)) (v0 : Nat) (v2 : Int32) (v3 : Int32) (v4 : Int32) (hk37 : ∀ (s : Int32 × Mem) (r : Int32 × Mem), k37 s = some r → J x 7 Λ (QI x Λ r.1 r.2) 37 [(0, .ref v0), (2, .int v2), (3, .int v3), (4, .int s.1)] [] (s.2)) (hv0 : inL Λ v0 11) {r : Int32 × Mem} (hm : bd_X12_canLoad_37 N Λ μ k37 v0 v2 v3 v4 = some r) : J x 7 Λ (QI x Λ r.1 r.2) 37 [(0, .ref v0), (2, .int v2), (3, .int v3), (4, .int v4)] [] μ := by
  refine j_iload C 3 dX12_canLoad_37 rfl ?_
  refine j_if_lt C (tgt := 181) dX12_canLoad_39 (by decide) (fun h1 => ?_) (fun h1 => ?_)
  · replace hm := if_t hm h1
    refine j_sub [2, 3] rfl ?_
    exact tj_X12_canLoad_181 C _ _ _ _  hm
  · replace hm := if_f hm h1
    refine j_iload C 3 dX12_canLoad_42 rfl ?_
    refine j_iload_n C 2 dX12_canLoad_44 rfl ?_
    refine j_icmp_ge C (tgt := 181) dX12_canLoad_45 (by decide) (fun h2 => ?_) (fun h2 => ?_)
    · replace hm := if_t hm h2
      refine j_sub [2, 3] rfl ?_
      exact tj_X12_canLoad_181 C _ _ _ _  hm
    · replace hm := if_f hm h2
      refine j_aload_n C 0 dX12_canLoad_48 rfl ?_
      refine j_aload_n C 0 dX12_canLoad_49 rfl ?_
      obtain ⟨q3, h4, hm⟩ := bd_some hm
      refine j_getR C fg_X12_42_11 hv0 (dr_spec h4).1 dX12_canLoad_50 ?_
      refine j_iload C 3 dX12_canLoad_53 rfl ?_
      obtain ⟨h5, hm⟩ := gd_some hm
      refine j_iald C ((dr_spec h4).2) h5 dX12_canLoad_55 ?_
      refine j_iconst C (v := 0) dX12_canLoad_56 rfl ?_
      obtain ⟨r6, h7, hm⟩ := bd_some hm
      refine call_I (run_LV C lk_X12_85 ⟨rfl, rfl, Nat.le_of_ble_eq_true rfl, Nat.le_of_ble_eq_true rfl⟩ (As := [.int (μ.1 q3 v4.toNatClampNeg), .int 0]) hv0 rfl rfl (Nat.le_of_ble_eq_true rfl) dX12_canLoad_57 (mc_X12_of _ _ _ _ _ _ _ hv0 h7)) ?_
      refine j_istore C (lv' := [(5, .int r6), (0, .ref v0), (2, .int v2), (3, .int v3), (4, .int v4)]) dX12_canLoad_60 (by decide) rfl ?_
      refine j_aload_n C 1 dX12_canLoad_62 rfl ?_
      obtain ⟨q8, h9, hm⟩ := bd_some hm
      refine j_getR C fg_X12_48_11 hv0 (dr_spec h9).1 dX12_canLoad_63 ?_
      refine j_iload C 4 dX12_canLoad_66 rfl ?_
      obtain ⟨h10, hm⟩ := gd_some hm
      refine j_iald C ((dr_spec h9).2) h10 dX12_canLoad_68 ?_
      refine j_iconst C (v := -1) dX12_canLoad_69 rfl ?_
      refine j_icmp_eq C (tgt := 90) dX12_canLoad_70 (by decide) (fun h11 => ?_) (fun h11 => ?_)
      · replace hm := if_t hm h11
        refine j_sub [1, 2, 3, 4, 0] rfl ?_
        exact tj_X12_canLoad_90 C _ _ _ _ _ _ _ _ hk37 hv0 hm
      · replace hm := if_f hm h11
        refine j_aload_n C 1 dX12_canLoad_73 rfl ?_
        obtain ⟨q12, h13, hm⟩ := bd_some hm
        refine j_getR C fg_X12_45_11 hv0 (dr_spec h13).1 dX12_canLoad_74 ?_
        refine j_aload_n C 1 dX12_canLoad_77 rfl ?_
        obtain ⟨q14, h15, hm⟩ := bd_some hm
        refine j_getR C fg_X12_48_11 hv0 (dr_spec h15).1 dX12_canLoad_78 ?_
        refine j_iload C 4 dX12_canLoad_81 rfl ?_
        obtain ⟨h16, hm⟩ := gd_some hm
        refine j_iald C ((dr_spec h15).2) h16 dX12_canLoad_83 ?_
        refine j_dup2 C dX12_canLoad_84 rfl rfl ?_
        obtain ⟨h17, hm⟩ := gd_some hm
        refine j_iald C ((dr_spec h13).2) h17 dX12_canLoad_85 ?_
        refine j_iload C 0 dX12_canLoad_86 rfl ?_
        refine j_iadd C dX12_canLoad_88 ?_
        obtain ⟨h18, hm⟩ := gd_some hm
        obtain ⟨μ19, e20, hm⟩ := lt_some hm
        refine j_iast C ((dr_spec h13).2) h18 e20 dX12_canLoad_89 ?_
        refine j_sub [1, 2, 3, 4, 0] rfl ?_
        exact tj_X12_canLoad_90 C _ _ _ _ _ _ _ _ hk37 hv0 hm
set_option maxRecDepth 20000 in
set_option maxHeartbeats 4000000 in
theorem tl_X12_canLoad_37 {x : Ctx} {Λ : Lay} (C : Cx x cX12_canLoad 7 (some .boolean) RX12 Λ rm_X12_canLoad) (N : Nat) (v0 : Nat) (v2 : Int32) (v3 : Int32) (hv0 : inL Λ v0 11) (s : Int32 × Mem) {r : Int32 × Mem} (hm : lp_X12_canLoad_37 N Λ v0 v2 v3 s = some r) : J x 7 Λ (QI x Λ r.1 r.2) 37 [(0, .ref v0), (2, .int v2), (3, .int v3), (4, .int s.1)] [] (s.2) :=
  cw_ind (P := fun s r => J x 7 Λ (QI x Λ r.1 r.2) 37 [(0, .ref v0), (2, .int v2), (3, .int v3), (4, .int s.1)] [] (s.2)) (fun k hkk s r e => tb_X12_canLoad_37 C _ _ _ _ _ _ _ hkk hv0 e) N s r hm
set_option maxRecDepth 20000 in
set_option maxHeartbeats 4000000 in
theorem tb_X12_canLoad_17 {x : Ctx} {Λ : Lay} (C : Cx x cX12_canLoad 7 (some .boolean) RX12 Λ rm_X12_canLoad) (N : Nat) (μ : Mem) (k17 : Int32 × Mem → Option (Int32 × Mem)) (v0 : Nat) (v2 : Int32) (v3 : Int32) (v4 : Int32) (v5 : Int32) (hk17 : ∀ (s : Int32 × Mem) (r : Int32 × Mem), k17 s = some r → J x 7 Λ (QI x Λ r.1 r.2) 17 [(0, .ref v0), (2, .int v2), (3, .int v3), (4, .int v4), (5, .int s.1)] [] (s.2)) (hv0 : inL Λ v0 11) {r : Int32 × Mem} (hm : bd_X12_canLoad_17 N Λ μ k17 v0 v2 v3 v4 v5 = some r) : J x 7 Λ (QI x Λ r.1 r.2) 17 [(0, .ref v0), (2, .int v2), (3, .int v3), (4, .int v4), (5, .int v5)] [] μ := by
  refine j_iload C 4 dX12_canLoad_17 rfl ?_
  refine j_iload_n C 2 dX12_canLoad_19 rfl ?_
  refine j_icmp_ge C (tgt := 37) dX12_canLoad_20 (by decide) (fun h1 => ?_) (fun h1 => ?_)
  · replace hm := if_t hm h1
    refine j_sub [0, 1, 2, 3] rfl ?_
    exact tl_X12_canLoad_37 C _ _ _ _ hv0 (v4, μ) hm
  · replace hm := if_f hm h1
    refine j_aload_n C 0 dX12_canLoad_23 rfl ?_
    obtain ⟨q2, h3, hm⟩ := bd_some hm
    refine j_getR C fg_X12_48_11 hv0 (dr_spec h3).1 dX12_canLoad_24 ?_
    refine j_iload C 4 dX12_canLoad_27 rfl ?_
    refine j_iconst C (v := -1) dX12_canLoad_29 rfl ?_
    obtain ⟨h4, hm⟩ := gd_some hm
    obtain ⟨μ5, e6, hm⟩ := lt_some hm
    refine j_iast C ((dr_spec h3).2) h4 e6 dX12_canLoad_30 ?_
    obtain ⟨y7, e8, hm⟩ := lt_some hm
    refine j_iinc C 4 (v := y7) (lv' := [(5, .int y7), (0, .ref v0), (2, .int v2), (3, .int v3), (4, .int v4)]) dX12_canLoad_31 rfl (by rw [e8]; rfl) (by decide) rfl ?_
    refine j_goto C (tgt := 17) dX12_canLoad_34 (by decide) ?_
    refine j_sub [1, 2, 3, 4, 0] rfl ?_
    exact hk17 (y7, μ5) _ hm
set_option maxRecDepth 20000 in
set_option maxHeartbeats 4000000 in
theorem tl_X12_canLoad_17 {x : Ctx} {Λ : Lay} (C : Cx x cX12_canLoad 7 (some .boolean) RX12 Λ rm_X12_canLoad) (N : Nat) (v0 : Nat) (v2 : Int32) (v3 : Int32) (v4 : Int32) (hv0 : inL Λ v0 11) (s : Int32 × Mem) {r : Int32 × Mem} (hm : lp_X12_canLoad_17 N Λ v0 v2 v3 v4 s = some r) : J x 7 Λ (QI x Λ r.1 r.2) 17 [(0, .ref v0), (2, .int v2), (3, .int v3), (4, .int v4), (5, .int s.1)] [] (s.2) :=
  cw_ind (P := fun s r => J x 7 Λ (QI x Λ r.1 r.2) 17 [(0, .ref v0), (2, .int v2), (3, .int v3), (4, .int v4), (5, .int s.1)] [] (s.2)) (fun k hkk s r e => tb_X12_canLoad_17 C _ _ _ _ _ _ _ _ hkk hv0 e) N s r hm
set_option maxRecDepth 20000 in
set_option maxHeartbeats 4000000 in
theorem tm_X12_canLoad {x : Ctx} {Λ : Lay} (C : Cx x cX12_canLoad 7 (some .boolean) RX12 Λ rm_X12_canLoad) (N : Nat) (μ : Mem) (v0 : Nat) (v1 : Int32) (hv0 : inL Λ v0 11) {r : Int32 × Mem} (hm : m_X12_canLoad N Λ μ v0 v1 = some r) : J x 7 Λ (QI x Λ r.1 r.2) 0 [(0, .ref v0), (1, .int v1)] [] μ := by
  refine j_aload_n C 0 dX12_canLoad_0 rfl ?_
  obtain ⟨r1, h2, hm⟩ := bd_some hm
  refine call_I (run_LV C lk_X12_390 ⟨rfl, rfl, Nat.le_of_ble_eq_true rfl, Nat.le_of_ble_eq_true rfl⟩ (As := []) hv0 rfl rfl (Nat.le_of_ble_eq_true rfl) dX12_canLoad_1 (mc_X12_laysRuns _ _ _ _ _ hv0 h2)) ?_
  refine j_istore_n C (lv' := [(2, .int r1.1), (0, .ref v0), (1, .int v1)]) dX12_canLoad_4 (by decide) rfl ?_
  refine j_aload_n C 1 dX12_canLoad_5 rfl ?_
  refine j_iload_n C 2 dX12_canLoad_6 rfl ?_
  obtain ⟨r3, h4, hm⟩ := bd_some hm
  refine call_I (run_LV C lk_X12_393 ⟨rfl, rfl, Nat.le_of_ble_eq_true rfl, Nat.le_of_ble_eq_true rfl⟩ (As := [.int v1]) hv0 rfl rfl (Nat.le_of_ble_eq_true rfl) dX12_canLoad_7 (mc_X12_laysMembers _ _ _ _ _ _ hv0 h4)) ?_
  refine j_istore_n C (lv' := [(3, .int r3.1), (2, .int r1.1), (0, .ref v0), (1, .int v1)]) dX12_canLoad_10 (by decide) rfl ?_
  refine j_iconst C (v := 0) dX12_canLoad_11 rfl ?_
  refine j_istore C (lv' := [(4, .int 0), (3, .int r3.1), (2, .int r1.1), (0, .ref v0), (1, .int v1)]) dX12_canLoad_12 (by decide) rfl ?_
  refine j_iconst C (v := 0) dX12_canLoad_14 rfl ?_
  refine j_istore C (lv' := [(5, .int 0), (4, .int 0), (3, .int r3.1), (2, .int r1.1), (0, .ref v0), (1, .int v1)]) dX12_canLoad_15 (by decide) rfl ?_
  refine j_sub [4, 3, 2, 1, 0] rfl ?_
  exact tl_X12_canLoad_17 C _ _ _ _ _ hv0 (0, r3.2) hm
set_option maxRecDepth 20000 in
set_option maxHeartbeats 4000000 in
theorem mc_X12_canLoad (l : Launch) (N : Nat) (Λ : Lay) (μ : Mem) (v0 : Nat) (v1 : Int32) (hv0 : inL Λ v0 11) {r : Int32 × Mem} (hm : m_X12_canLoad N Λ μ v0 v1 = some r) : MI l yX12_canLoad cX12_canLoad 7 (some .boolean) rm_X12_canLoad Λ [.ref v0, .int v1] μ r.1 r.2 := mi_of rfl (Nat.le_of_ble_eq_true rfl) (fun x C _ => tm_X12_canLoad C _ _ _ _ hv0 hm)
abbrev rm_X12_bestLoad : Room := { frames := 8, cells := 0, slots := 0, locals := 185 }
set_option maxRecDepth 20000 in
set_option maxHeartbeats 4000000 in
theorem tj_X12_bestLoad_59 {x : Ctx} {Λ : Lay} (C : Cx x cX12_bestLoad 5 (some .int) RX12 Λ rm_X12_bestLoad) (N : Nat) (μ : Mem) (k12 : Int32 × Int32 × Int32 × Mem → Option (Int32 × Mem)) (v0 : Nat) (v1 : Int32) (v2 : Int32) (v3 : Int32) (v4 : Int32) (hk12 : ∀ (s : Int32 × Int32 × Int32 × Mem) (r : Int32 × Mem), k12 s = some r → J x 5 Λ (QI x Λ r.1 r.2) 12 [(0, .ref v0), (1, .int v1), (2, .int s.1), (3, .int s.2.1), (4, .int s.2.2.1)] [] (s.2.2.2)) (hv0 : inL Λ v0 11) {r : Int32 × Mem} (hm : jn_X12_bestLoad_59 N Λ μ k12 v0 v1 v2 v3 v4 = some r) : J x 5 Λ (QI x Λ r.1 r.2) 59 [(0, .ref v0), (1, .int v1), (2, .int v2), (3, .int v3), (4, .int v4)] [] μ := by
  obtain ⟨y1, e2, hm⟩ := lt_some hm
  refine j_iinc C 4 (v := y1) (lv' := [(4, .int y1), (0, .ref v0), (1, .int v1), (2, .int v2), (3, .int v3)]) dX12_bestLoad_59 rfl (by rw [e2]; rfl) (by decide) rfl ?_
  refine j_goto C (tgt := 12) dX12_bestLoad_62 (by decide) ?_
  refine j_sub [1, 2, 3, 4, 0] rfl ?_
  exact hk12 (v2, v3, y1, μ) _ hm
set_option maxRecDepth 20000 in
set_option maxHeartbeats 4000000 in
theorem tb_X12_bestLoad_12 {x : Ctx} {Λ : Lay} (C : Cx x cX12_bestLoad 5 (some .int) RX12 Λ rm_X12_bestLoad) (N : Nat) (μ : Mem) (k12 : Int32 × Int32 × Int32 × Mem → Option (Int32 × Mem)) (v0 : Nat) (v1 : Int32) (v2 : Int32) (v3 : Int32) (v4 : Int32) (hk12 : ∀ (s : Int32 × Int32 × Int32 × Mem) (r : Int32 × Mem), k12 s = some r → J x 5 Λ (QI x Λ r.1 r.2) 12 [(0, .ref v0), (1, .int v1), (2, .int s.1), (3, .int s.2.1), (4, .int s.2.2.1)] [] (s.2.2.2)) (hv0 : inL Λ v0 11) {r : Int32 × Mem} (hm : bd_X12_bestLoad_12 N Λ μ k12 v0 v1 v2 v3 v4 = some r) : J x 5 Λ (QI x Λ r.1 r.2) 12 [(0, .ref v0), (1, .int v1), (2, .int v2), (3, .int v3), (4, .int v4)] [] μ := by
  refine j_iload C 4 dX12_bestLoad_12 rfl ?_
  refine j_iload_n C 1 dX12_bestLoad_14 rfl ?_
  refine j_icmp_gt C (tgt := 65) dX12_bestLoad_15 (by decide) (fun h1 => ?_) (fun h1 => ?_)
  · replace hm := if_t hm h1
    refine j_iload_n C 2 dX12_bestLoad_65 rfl ?_
    obtain rfl := Option.some.inj hm
    exact j_ireti C dX12_bestLoad_66
  · replace hm := if_f hm h1
    refine j_iload C 4 dX12_bestLoad_18 rfl ?_
    refine j_iload_n C 1 dX12_bestLoad_20 rfl ?_
    refine j_iconst C (v := -1) dX12_bestLoad_21 rfl ?_
    refine j_ixor C dX12_bestLoad_22 ?_
    refine j_iand C dX12_bestLoad_23 ?_
    refine j_if_ne C (tgt := 59) dX12_bestLoad_24 (by decide) (fun h2 => ?_) (fun h2 => ?_)
    · replace hm := if_f hm h2
      exact tj_X12_bestLoad_59 C _ _ _ _ _ _ _ _ hk12 hv0 hm
    · replace hm := if_t hm h2
      refine j_aload_n C 0 dX12_bestLoad_27 rfl ?_
      refine j_iload C 4 dX12_bestLoad_28 rfl ?_
      obtain ⟨r3, h4, hm⟩ := bd_some hm
      refine call_I (run_LV C lk_X12_399 ⟨rfl, rfl, Nat.le_of_ble_eq_true rfl, Nat.le_of_ble_eq_true rfl⟩ (As := [.int v4]) hv0 rfl rfl (Nat.le_of_ble_eq_true rfl) dX12_bestLoad_30 (mc_X12_feesOf _ _ _ _ _ _ hv0 h4)) ?_
      refine j_iload_n C 3 dX12_bestLoad_33 rfl ?_
      refine j_icmp_le C (tgt := 59) dX12_bestLoad_34 (by decide) (fun h5 => ?_) (fun h5 => ?_)
      · replace hm := if_t hm h5
        exact tj_X12_bestLoad_59 C _ _ _ _ _ _ _ _ hk12 hv0 hm
      · replace hm := if_f hm h5
        refine j_aload_n C 0 dX12_bestLoad_37 rfl ?_
        refine j_iload C 4 dX12_bestLoad_38 rfl ?_
        obtain ⟨r6, h7, hm⟩ := bd_some hm
        refine call_I (run_LV C lk_X12_402 ⟨rfl, rfl, Nat.le_of_ble_eq_true rfl, Nat.le_of_ble_eq_true rfl⟩ (As := [.int v4]) hv0 rfl rfl (Nat.le_of_ble_eq_true rfl) dX12_bestLoad_40 (mc_X12_canLoad _ _ _ _ _ _ hv0 h7)) ?_
        refine j_if_ne C (tgt := 49) dX12_bestLoad_43 (by decide) (fun h8 => ?_) (fun h8 => ?_)
        · replace hm := if_f hm h8
          refine j_iload C 4 dX12_bestLoad_49 rfl ?_
          refine j_istore_n C (lv' := [(2, .int v4), (0, .ref v0), (1, .int v1), (3, .int v3), (4, .int v4)]) dX12_bestLoad_51 (by decide) rfl ?_
          refine j_aload_n C 1 dX12_bestLoad_52 rfl ?_
          refine j_iload C 4 dX12_bestLoad_53 rfl ?_
          obtain ⟨r9, h10, hm⟩ := bd_some hm
          refine call_I (run_LV C lk_X12_399 ⟨rfl, rfl, Nat.le_of_ble_eq_true rfl, Nat.le_of_ble_eq_true rfl⟩ (As := [.int v4]) hv0 rfl rfl (Nat.le_of_ble_eq_true rfl) dX12_bestLoad_55 (mc_X12_feesOf _ _ _ _ _ _ hv0 h10)) ?_
          refine j_istore_n C (lv' := [(3, .int r9.1), (2, .int v4), (0, .ref v0), (1, .int v1), (4, .int v4)]) dX12_bestLoad_58 (by decide) rfl ?_
          refine j_sub [2, 3, 1, 0, 4] rfl ?_
          exact tj_X12_bestLoad_59 C _ _ _ _ _ _ _ _ hk12 hv0 hm
        · replace hm := if_t hm h8
          refine j_goto C (tgt := 59) dX12_bestLoad_46 (by decide) ?_
          exact tj_X12_bestLoad_59 C _ _ _ _ _ _ _ _ hk12 hv0 hm
set_option maxRecDepth 20000 in
set_option maxHeartbeats 4000000 in
theorem tl_X12_bestLoad_12 {x : Ctx} {Λ : Lay} (C : Cx x cX12_bestLoad 5 (some .int) RX12 Λ rm_X12_bestLoad) (N : Nat) (v0 : Nat) (v1 : Int32) (hv0 : inL Λ v0 11) (s : Int32 × Int32 × Int32 × Mem) {r : Int32 × Mem} (hm : lp_X12_bestLoad_12 N Λ v0 v1 s = some r) : J x 5 Λ (QI x Λ r.1 r.2) 12 [(0, .ref v0), (1, .int v1), (2, .int s.1), (3, .int s.2.1), (4, .int s.2.2.1)] [] (s.2.2.2) :=
  cw_ind (P := fun s r => J x 5 Λ (QI x Λ r.1 r.2) 12 [(0, .ref v0), (1, .int v1), (2, .int s.1), (3, .int s.2.1), (4, .int s.2.2.1)] [] (s.2.2.2)) (fun k hkk s r e => tb_X12_bestLoad_12 C _ _ _ _ _ _ _ _ hkk hv0 e) N s r hm
set_option maxRecDepth 20000 in
set_option maxHeartbeats 4000000 in
theorem tm_X12_bestLoad {x : Ctx} {Λ : Lay} (C : Cx x cX12_bestLoad 5 (some .int) RX12 Λ rm_X12_bestLoad) (N : Nat) (μ : Mem) (v0 : Nat) (hv0 : inL Λ v0 11) {r : Int32 × Mem} (hm : m_X12_bestLoad N Λ μ v0 = some r) : J x 5 Λ (QI x Λ r.1 r.2) 0 [(0, .ref v0)] [] μ := by
  refine j_aload_n C 0 dX12_bestLoad_0 rfl ?_
  obtain ⟨r1, h2, hm⟩ := bd_some hm
  refine call_I (run_LV C lk_X12_396 ⟨rfl, rfl, Nat.le_of_ble_eq_true rfl, Nat.le_of_ble_eq_true rfl⟩ (As := []) hv0 rfl rfl (Nat.le_of_ble_eq_true rfl) dX12_bestLoad_1 (mc_X12_mayEnter _ _ _ _ _ hv0 h2)) ?_
  refine j_istore_n C (lv' := [(1, .int r1), (0, .ref v0)]) dX12_bestLoad_4 (by decide) rfl ?_
  refine j_iconst C (v := 0) dX12_bestLoad_5 rfl ?_
  refine j_istore_n C (lv' := [(2, .int 0), (1, .int r1), (0, .ref v0)]) dX12_bestLoad_6 (by decide) rfl ?_
  refine j_iconst C (v := 0) dX12_bestLoad_7 rfl ?_
  refine j_istore_n C (lv' := [(3, .int 0), (2, .int 0), (1, .int r1), (0, .ref v0)]) dX12_bestLoad_8 (by decide) rfl ?_
  refine j_iconst C (v := 1) dX12_bestLoad_9 rfl ?_
  refine j_istore C (lv' := [(4, .int 1), (3, .int 0), (2, .int 0), (1, .int r1), (0, .ref v0)]) dX12_bestLoad_10 (by decide) rfl ?_
  refine j_sub [4, 3, 2, 1, 0] rfl ?_
  exact tl_X12_bestLoad_12 C _ _ _ hv0 (0, 0, 1, μ) hm
set_option maxRecDepth 20000 in
set_option maxHeartbeats 4000000 in
theorem mc_X12_bestLoad (l : Launch) (N : Nat) (Λ : Lay) (μ : Mem) (v0 : Nat) (hv0 : inL Λ v0 11) {r : Int32 × Mem} (hm : m_X12_bestLoad N Λ μ v0 = some r) : MI l yX12_bestLoad cX12_bestLoad 5 (some .int) rm_X12_bestLoad Λ [.ref v0] μ r.1 r.2 := mi_of rfl (Nat.le_of_ble_eq_true rfl) (fun x C _ => tm_X12_bestLoad C _ _ _ hv0 hm)
abbrev rm_X12_load : Room := { frames := 9, cells := 0, slots := 0, locals := 209 }
set_option maxRecDepth 20000 in
set_option maxHeartbeats 4000000 in
theorem tm_X12_load {x : Ctx} {Λ : Lay} (C : Cx x cX12_load 1 (some .int) RX12 Λ rm_X12_load) (N : Nat) (μ : Mem) (v0 : Nat) (hv0 : inL Λ v0 11) {r : Int32 × Mem} (hm : m_X12_load N Λ μ v0 = some r) : J x 1 Λ (QI x Λ r.1 r.2) 0 [(0, .ref v0)] [] μ := by
  refine j_aload_n C 0 dX12_load_0 rfl ?_
  refine j_iconst C (v := 0) dX12_load_1 rfl ?_
  obtain ⟨μ1, e2, hm⟩ := lt_some hm
  refine j_putI C fp_X12_3_11 hv0 e2 dX12_load_2 ?_
  refine j_aload_n C 0 dX12_load_5 rfl ?_
  refine j_aload_n C 0 dX12_load_6 rfl ?_
  obtain ⟨r3, h4, hm⟩ := bd_some hm
  refine call_I (run_LV C lk_X12_405 ⟨rfl, rfl, Nat.le_of_ble_eq_true rfl, Nat.le_of_ble_eq_true rfl⟩ (As := []) hv0 rfl rfl (Nat.le_of_ble_eq_true rfl) dX12_load_7 (mc_X12_bestLoad _ _ _ _ _ hv0 h4)) ?_
  obtain ⟨r5, h6, hm⟩ := bd_some hm
  refine call_I (run_LV C lk_X12_399 ⟨rfl, rfl, Nat.le_of_ble_eq_true rfl, Nat.le_of_ble_eq_true rfl⟩ (As := [.int r3.1]) hv0 rfl rfl (Nat.le_of_ble_eq_true rfl) dX12_load_10 (mc_X12_feesOf _ _ _ _ _ _ hv0 h6)) ?_
  obtain rfl := Option.some.inj hm
  exact j_ireti C dX12_load_13
set_option maxRecDepth 20000 in
set_option maxHeartbeats 4000000 in
theorem mc_X12_load (l : Launch) (N : Nat) (Λ : Lay) (μ : Mem) (v0 : Nat) (hv0 : inL Λ v0 11) {r : Int32 × Mem} (hm : m_X12_load N Λ μ v0 = some r) : MI l yX12_load cX12_load 1 (some .int) rm_X12_load Λ [.ref v0] μ r.1 r.2 := mi_of rfl (Nat.le_of_ble_eq_true rfl) (fun x C _ => tm_X12_load C _ _ _ hv0 hm)
abbrev rm_X12_which : Room := { frames := 9, cells := 0, slots := 0, locals := 209 }
set_option maxRecDepth 20000 in
set_option maxHeartbeats 4000000 in
theorem tm_X12_which {x : Ctx} {Λ : Lay} (C : Cx x cX12_which 1 (some .int) RX12 Λ rm_X12_which) (N : Nat) (μ : Mem) (v0 : Nat) (hv0 : inL Λ v0 11) {r : Int32 × Mem} (hm : m_X12_which N Λ μ v0 = some r) : J x 1 Λ (QI x Λ r.1 r.2) 0 [(0, .ref v0)] [] μ := by
  refine j_aload_n C 0 dX12_which_0 rfl ?_
  refine j_iconst C (v := 0) dX12_which_1 rfl ?_
  obtain ⟨μ1, e2, hm⟩ := lt_some hm
  refine j_putI C fp_X12_3_11 hv0 e2 dX12_which_2 ?_
  refine j_aload_n C 0 dX12_which_5 rfl ?_
  obtain ⟨r3, h4, hm⟩ := bd_some hm
  refine call_I (run_LV C lk_X12_405 ⟨rfl, rfl, Nat.le_of_ble_eq_true rfl, Nat.le_of_ble_eq_true rfl⟩ (As := []) hv0 rfl rfl (Nat.le_of_ble_eq_true rfl) dX12_which_6 (mc_X12_bestLoad _ _ _ _ _ hv0 h4)) ?_
  obtain rfl := Option.some.inj hm
  exact j_ireti C dX12_which_9
set_option maxRecDepth 20000 in
set_option maxHeartbeats 4000000 in
theorem mc_X12_which (l : Launch) (N : Nat) (Λ : Lay) (μ : Mem) (v0 : Nat) (hv0 : inL Λ v0 11) {r : Int32 × Mem} (hm : m_X12_which N Λ μ v0 = some r) : MI l yX12_which cX12_which 1 (some .int) rm_X12_which Λ [.ref v0] μ r.1 r.2 := mi_of rfl (Nat.le_of_ble_eq_true rfl) (fun x C _ => tm_X12_which C _ _ _ hv0 hm)
abbrev rm_X12_workDocked : Room := { frames := 3, cells := 0, slots := 0, locals := 64 }
set_option maxRecDepth 20000 in
set_option maxHeartbeats 4000000 in
theorem tj_X12_workDocked_31 {x : Ctx} {Λ : Lay} (C : Cx x cX12_workDocked 3 (some .int) RX12 Λ rm_X12_workDocked) (N : Nat) (μ : Mem) (k4 : Int32 × Int32 → Option (Int32)) (v0 : Nat) (v2 : Int32) (s0 : Int32) (s1 : Int32) (hk4 : ∀ (s : Int32 × Int32) (r : Int32), k4 s = some r → J x 3 Λ (QI x Λ r μ) 4 [(0, .ref v0), (1, .int s.1), (2, .int s.2)] [] (μ)) (hv0 : inL Λ v0 11) {r : Int32} (hm : jn_X12_workDocked_31 N Λ μ k4 v0 v2 s0 s1 = some r) : J x 3 Λ (QI x Λ r μ) 31 [(0, .ref v0), (2, .int v2)] [.int s1, .int s0] μ := by
  refine j_iadd C dX12_workDocked_31 ?_
  obtain ⟨y1, e2, hm⟩ := lt_some hm
  refine j_topi e2 ?_
  refine j_istore_n C (lv' := [(1, .int y1), (0, .ref v0), (2, .int v2)]) dX12_workDocked_32 (by decide) rfl ?_
  obtain ⟨y3, e4, hm⟩ := lt_some hm
  refine j_iinc C 2 (v := y3) (lv' := [(2, .int y3), (1, .int y1), (0, .ref v0)]) dX12_workDocked_33 rfl (by rw [e4]; rfl) (by decide) rfl ?_
  refine j_goto C (tgt := 4) dX12_workDocked_36 (by decide) ?_
  refine j_sub [2, 1, 0] rfl ?_
  exact hk4 (y1, y3) _ hm
set_option maxRecDepth 20000 in
set_option maxHeartbeats 4000000 in
theorem tb_X12_workDocked_4 {x : Ctx} {Λ : Lay} (C : Cx x cX12_workDocked 3 (some .int) RX12 Λ rm_X12_workDocked) (N : Nat) (μ : Mem) (k4 : Int32 × Int32 → Option (Int32)) (v0 : Nat) (v1 : Int32) (v2 : Int32) (hk4 : ∀ (s : Int32 × Int32) (r : Int32), k4 s = some r → J x 3 Λ (QI x Λ r μ) 4 [(0, .ref v0), (1, .int s.1), (2, .int s.2)] [] (μ)) (hv0 : inL Λ v0 11) {r : Int32} (hm : bd_X12_workDocked_4 N Λ μ k4 v0 v1 v2 = some r) : J x 3 Λ (QI x Λ r μ) 4 [(0, .ref v0), (1, .int v1), (2, .int v2)] [] μ := by
  refine j_iload_n C 2 dX12_workDocked_4 rfl ?_
  refine j_aload_n C 0 dX12_workDocked_5 rfl ?_
  obtain ⟨r1, h2, hm⟩ := bd_some hm
  refine call_I (run_LV C lk_X12_95 ⟨rfl, rfl, Nat.le_of_ble_eq_true rfl, Nat.le_of_ble_eq_true rfl⟩ (As := []) hv0 rfl rfl (Nat.le_of_ble_eq_true rfl) dX12_workDocked_6 (mc_X12_ships _ _ _ _ _ hv0 h2)) ?_
  refine j_icmp_ge C (tgt := 39) dX12_workDocked_9 (by decide) (fun h3 => ?_) (fun h3 => ?_)
  · replace hm := if_t hm h3
    refine j_iload_n C 1 dX12_workDocked_39 rfl ?_
    obtain rfl := Option.some.inj hm
    exact j_ireti C dX12_workDocked_40
  · replace hm := if_f hm h3
    refine j_iload_n C 1 dX12_workDocked_12 rfl ?_
    refine j_aload_n C 0 dX12_workDocked_13 rfl ?_
    refine j_iload_n C 2 dX12_workDocked_14 rfl ?_
    obtain ⟨r4, h5, hm⟩ := bd_some hm
    refine call_I (run_LV C lk_X12_88 ⟨rfl, rfl, Nat.le_of_ble_eq_true rfl, Nat.le_of_ble_eq_true rfl⟩ (As := [.int v2]) hv0 rfl rfl (Nat.le_of_ble_eq_true rfl) dX12_workDocked_15 (mc_X12_isDocked _ _ _ _ _ _ hv0 h5)) ?_
    refine j_if_eq C (tgt := 30) dX12_workDocked_18 (by decide) (fun h6 => ?_) (fun h6 => ?_)
    · replace hm := if_t hm h6
      refine j_iconst C (v := 0) dX12_workDocked_30 rfl ?_
      refine j_sub [0, 2] rfl ?_
      exact tj_X12_workDocked_31 C _ _ _ _ _ _ _ hk4 hv0 hm
    · replace hm := if_f hm h6
      refine j_aload_n C 0 dX12_workDocked_21 rfl ?_
      refine j_iload_n C 2 dX12_workDocked_22 rfl ?_
      refine j_iconst C (v := 2) dX12_workDocked_23 rfl ?_
      obtain ⟨r7, h8, hm⟩ := bd_some hm
      refine call_I (run_LV C lk_X12_85 ⟨rfl, rfl, Nat.le_of_ble_eq_true rfl, Nat.le_of_ble_eq_true rfl⟩ (As := [.int v2, .int 2]) hv0 rfl rfl (Nat.le_of_ble_eq_true rfl) dX12_workDocked_24 (mc_X12_of _ _ _ _ _ _ _ hv0 h8)) ?_
      refine j_goto C (tgt := 31) dX12_workDocked_27 (by decide) ?_
      refine j_sub [0, 2] rfl ?_
      exact tj_X12_workDocked_31 C _ _ _ _ _ _ _ hk4 hv0 hm
set_option maxRecDepth 20000 in
set_option maxHeartbeats 4000000 in
theorem tl_X12_workDocked_4 {x : Ctx} {Λ : Lay} (C : Cx x cX12_workDocked 3 (some .int) RX12 Λ rm_X12_workDocked) (N : Nat) (μ : Mem) (v0 : Nat) (hv0 : inL Λ v0 11) (s : Int32 × Int32) {r : Int32} (hm : lp_X12_workDocked_4 N Λ μ v0 s = some r) : J x 3 Λ (QI x Λ r μ) 4 [(0, .ref v0), (1, .int s.1), (2, .int s.2)] [] (μ) :=
  cw_ind (P := fun s r => J x 3 Λ (QI x Λ r μ) 4 [(0, .ref v0), (1, .int s.1), (2, .int s.2)] [] (μ)) (fun k hkk s r e => tb_X12_workDocked_4 C _ _ _ _ _ _ hkk hv0 e) N s r hm
set_option maxRecDepth 20000 in
set_option maxHeartbeats 4000000 in
theorem tm_X12_workDocked {x : Ctx} {Λ : Lay} (C : Cx x cX12_workDocked 3 (some .int) RX12 Λ rm_X12_workDocked) (N : Nat) (μ : Mem) (v0 : Nat) (hv0 : inL Λ v0 11) {r : Int32} (hm : m_X12_workDocked N Λ μ v0 = some r) : J x 3 Λ (QI x Λ r μ) 0 [(0, .ref v0)] [] μ := by
  refine j_iconst C (v := 0) dX12_workDocked_0 rfl ?_
  refine j_istore_n C (lv' := [(1, .int 0), (0, .ref v0)]) dX12_workDocked_1 (by decide) rfl ?_
  refine j_iconst C (v := 0) dX12_workDocked_2 rfl ?_
  refine j_istore_n C (lv' := [(2, .int 0), (1, .int 0), (0, .ref v0)]) dX12_workDocked_3 (by decide) rfl ?_
  refine j_sub [2, 1, 0] rfl ?_
  exact tl_X12_workDocked_4 C _ _ _ hv0 (0, 0) hm
set_option maxRecDepth 20000 in
set_option maxHeartbeats 4000000 in
theorem mc_X12_workDocked (l : Launch) (N : Nat) (Λ : Lay) (μ : Mem) (v0 : Nat) (hv0 : inL Λ v0 11) {r : Int32} (hm : m_X12_workDocked N Λ μ v0 = some r) : MI l yX12_workDocked cX12_workDocked 3 (some .int) rm_X12_workDocked Λ [.ref v0] μ r μ := mi_of rfl (Nat.le_of_ble_eq_true rfl) (fun x C _ => tm_X12_workDocked C _ _ _ hv0 hm)
abbrev rm_X12_isSo : Room := { frames := 4, cells := 0, slots := 0, locals := 86 }
set_option maxRecDepth 20000 in
set_option maxHeartbeats 4000000 in
theorem tj_X12_isSo_64 {x : Ctx} {Λ : Lay} (C : Cx x cX12_isSo 2 (some .boolean) RX12 Λ rm_X12_isSo) (N : Nat) (μ : Mem) (s0 : Int32) {r : Int32} (hm : jn_X12_isSo_64 N Λ μ s0 = some r) : J x 2 Λ (QI x Λ r μ) 64 [] [.int s0] μ := by
  obtain ⟨h1, hm⟩ := gd_some hm
  obtain rfl := Option.some.inj hm
  exact j_iretz C h1 dX12_isSo_64
set_option maxRecDepth 20000 in
set_option maxHeartbeats 4000000 in
theorem tj_X12_isSo_59 {x : Ctx} {Λ : Lay} (C : Cx x cX12_isSo 2 (some .boolean) RX12 Λ rm_X12_isSo) (N : Nat) (μ : Mem) {r : Int32} (hm : jn_X12_isSo_59 N Λ μ = some r) : J x 2 Λ (QI x Λ r μ) 59 [] [] μ := by
  refine j_iconst C (v := 1) dX12_isSo_59 rfl ?_
  refine j_goto C (tgt := 64) dX12_isSo_60 (by decide) ?_
  exact tj_X12_isSo_64 C _ _ _  hm
set_option maxRecDepth 20000 in
set_option maxHeartbeats 4000000 in
theorem tm_X12_isSo {x : Ctx} {Λ : Lay} (C : Cx x cX12_isSo 2 (some .boolean) RX12 Λ rm_X12_isSo) (N : Nat) (μ : Mem) (v0 : Nat) (v1 : Int32) (hv0 : inL Λ v0 11) {r : Int32} (hm : m_X12_isSo N Λ μ v0 v1 = some r) : J x 2 Λ (QI x Λ r μ) 0 [(0, .ref v0), (1, .int v1)] [] μ := by
  refine j_iload_n C 1 dX12_isSo_0 rfl ?_
  refine j_if_ne C (tgt := 22) dX12_isSo_1 (by decide) (fun h1 => ?_) (fun h1 => ?_)
  · replace hm := if_f hm h1
    refine j_iload_n C 1 dX12_isSo_22 rfl ?_
    refine j_iconst C (v := 1) dX12_isSo_23 rfl ?_
    refine j_icmp_ne C (tgt := 42) dX12_isSo_24 (by decide) (fun h2 => ?_) (fun h2 => ?_)
    · replace hm := if_f hm h2
      refine j_aload_n C 0 dX12_isSo_42 rfl ?_
      obtain ⟨r3, h4, hm⟩ := bd_some hm
      refine call_I (run_LV C lk_X12_370 ⟨rfl, rfl, Nat.le_of_ble_eq_true rfl, Nat.le_of_ble_eq_true rfl⟩ (As := []) hv0 rfl rfl (Nat.le_of_ble_eq_true rfl) dX12_isSo_43 (mc_X12_isEven _ _ _ _ _ hv0 h4)) ?_
      refine j_if_ne C (tgt := 59) dX12_isSo_46 (by decide) (fun h5 => ?_) (fun h5 => ?_)
      · replace hm := if_f hm h5
        refine j_sub [] rfl ?_
        exact tj_X12_isSo_59 C _ _  hm
      · replace hm := if_t hm h5
        refine j_aload_n C 0 dX12_isSo_49 rfl ?_
        obtain ⟨q6, h7, hm⟩ := bd_some hm
        refine j_getR C fg_X12_13_11 hv0 (dr_spec h7).1 dX12_isSo_50 ?_
        refine j_iconst C (v := 4) dX12_isSo_53 rfl ?_
        obtain ⟨h8, hm⟩ := gd_some hm
        refine j_iald C ((dr_spec h7).2) h8 dX12_isSo_54 ?_
        refine j_iconst C (v := 1) dX12_isSo_55 rfl ?_
        refine j_icmp_ne C (tgt := 63) dX12_isSo_56 (by decide) (fun h9 => ?_) (fun h9 => ?_)
        · replace hm := if_f hm h9
          refine j_iconst C (v := 0) dX12_isSo_63 rfl ?_
          refine j_sub [] rfl ?_
          exact tj_X12_isSo_64 C _ _ _  hm
        · replace hm := if_t hm h9
          refine j_sub [] rfl ?_
          exact tj_X12_isSo_59 C _ _  hm
    · replace hm := if_t hm h2
      refine j_aload_n C 0 dX12_isSo_27 rfl ?_
      obtain ⟨r10, h11, hm⟩ := bd_some hm
      refine call_I (run_LV C lk_X12_408 ⟨rfl, rfl, Nat.le_of_ble_eq_true rfl, Nat.le_of_ble_eq_true rfl⟩ (As := []) hv0 rfl rfl (Nat.le_of_ble_eq_true rfl) dX12_isSo_28 (mc_X12_workDocked _ _ _ _ _ hv0 h11)) ?_
      refine j_if_ne C (tgt := 38) dX12_isSo_31 (by decide) (fun h12 => ?_) (fun h12 => ?_)
      · replace hm := if_f hm h12
        refine j_iconst C (v := 0) dX12_isSo_38 rfl ?_
        refine j_goto C (tgt := 64) dX12_isSo_39 (by decide) ?_
        refine j_sub [] rfl ?_
        exact tj_X12_isSo_64 C _ _ _  hm
      · replace hm := if_t hm h12
        refine j_iconst C (v := 1) dX12_isSo_34 rfl ?_
        refine j_goto C (tgt := 64) dX12_isSo_35 (by decide) ?_
        refine j_sub [] rfl ?_
        exact tj_X12_isSo_64 C _ _ _  hm
  · replace hm := if_t hm h1
    refine j_aload_n C 0 dX12_isSo_4 rfl ?_
    obtain ⟨q13, h14, hm⟩ := bd_some hm
    refine j_getR C fg_X12_13_11 hv0 (dr_spec h14).1 dX12_isSo_5 ?_
    refine j_iconst C (v := 3) dX12_isSo_8 rfl ?_
    obtain ⟨h15, hm⟩ := gd_some hm
    refine j_iald C ((dr_spec h14).2) h15 dX12_isSo_9 ?_
    refine j_iconst C (v := 2) dX12_isSo_10 rfl ?_
    refine j_icmp_gt C (tgt := 18) dX12_isSo_11 (by decide) (fun h16 => ?_) (fun h16 => ?_)
    · replace hm := if_t hm h16
      refine j_iconst C (v := 0) dX12_isSo_18 rfl ?_
      refine j_goto C (tgt := 64) dX12_isSo_19 (by decide) ?_
      refine j_sub [] rfl ?_
      exact tj_X12_isSo_64 C _ _ _  hm
    · replace hm := if_f hm h16
      refine j_iconst C (v := 1) dX12_isSo_14 rfl ?_
      refine j_goto C (tgt := 64) dX12_isSo_15 (by decide) ?_
      refine j_sub [] rfl ?_
      exact tj_X12_isSo_64 C _ _ _  hm
set_option maxRecDepth 20000 in
set_option maxHeartbeats 4000000 in
theorem mc_X12_isSo (l : Launch) (N : Nat) (Λ : Lay) (μ : Mem) (v0 : Nat) (v1 : Int32) (hv0 : inL Λ v0 11) {r : Int32} (hm : m_X12_isSo N Λ μ v0 v1 = some r) : MI l yX12_isSo cX12_isSo 2 (some .boolean) rm_X12_isSo Λ [.ref v0, .int v1] μ r μ := mi_of rfl (Nat.le_of_ble_eq_true rfl) (fun x C _ => tm_X12_isSo C _ _ _ _ hv0 hm)
abbrev rm_X12_firstIn : Room := { frames := 8, cells := 0, slots := 0, locals := 182 }
set_option maxRecDepth 20000 in
set_option maxHeartbeats 4000000 in
theorem tj_X12_firstIn_37 {x : Ctx} {Λ : Lay} (C : Cx x cX12_firstIn 4 (some .int) RX12 Λ rm_X12_firstIn) (N : Nat) (μ : Mem) (k13 : Int32 × Int32 × Mem → Option (Int32 × Mem)) (v0 : Nat) (v1 : Int32) (v3 : Int32) (s0 : Int32) (hk13 : ∀ (s : Int32 × Int32 × Mem) (r : Int32 × Mem), k13 s = some r → J x 4 Λ (QI x Λ r.1 r.2) 13 [(0, .ref v0), (1, .int v1), (2, .int s.1), (3, .int s.2.1)] [] (s.2.2)) (hv0 : inL Λ v0 11) {r : Int32 × Mem} (hm : jn_X12_firstIn_37 N Λ μ k13 v0 v1 v3 s0 = some r) : J x 4 Λ (QI x Λ r.1 r.2) 37 [(0, .ref v0), (1, .int v1), (3, .int v3)] [.int s0] μ := by
  refine j_istore_n C (lv' := [(2, .int s0), (0, .ref v0), (1, .int v1), (3, .int v3)]) dX12_firstIn_37 (by decide) rfl ?_
  refine j_aload_n C 1 dX12_firstIn_38 rfl ?_
  refine j_iconst C (v := 1) dX12_firstIn_39 rfl ?_
  obtain ⟨r1, h2, hm⟩ := bd_some hm
  refine call_I (run_LV C lk_X12_342 ⟨rfl, rfl, Nat.le_of_ble_eq_true rfl, Nat.le_of_ble_eq_true rfl⟩ (As := [.int 1]) hv0 rfl rfl (Nat.le_of_ble_eq_true rfl) dX12_firstIn_40 (mc_X12_oneHour _ _ _ _ _ _ hv0 h2)) ?_
  refine j_pop C dX12_firstIn_43 rfl ?_
  obtain ⟨y3, e4, hm⟩ := lt_some hm
  refine j_iinc C 3 (v := y3) (lv' := [(3, .int y3), (2, .int s0), (0, .ref v0), (1, .int v1)]) dX12_firstIn_44 rfl (by rw [e4]; rfl) (by decide) rfl ?_
  refine j_goto C (tgt := 13) dX12_firstIn_47 (by decide) ?_
  refine j_sub [2, 3, 1, 0] rfl ?_
  exact hk13 (s0, y3, r1.2) _ hm
set_option maxRecDepth 20000 in
set_option maxHeartbeats 4000000 in
theorem tj_X12_firstIn_50 {x : Ctx} {Λ : Lay} (C : Cx x cX12_firstIn 4 (some .int) RX12 Λ rm_X12_firstIn) (N : Nat) (μ : Mem) (v0 : Nat) (v2 : Int32) (hv0 : inL Λ v0 11) {r : Int32 × Mem} (hm : jn_X12_firstIn_50 N Λ μ v0 v2 = some r) : J x 4 Λ (QI x Λ r.1 r.2) 50 [(0, .ref v0), (2, .int v2)] [] μ := by
  refine j_aload_n C 0 dX12_firstIn_50 rfl ?_
  obtain ⟨r1, h2, hm⟩ := bd_some hm
  refine call_V (run_LV C lk_X12_417 ⟨rfl, rfl, Nat.le_of_ble_eq_true rfl, Nat.le_of_ble_eq_true rfl⟩ (As := []) hv0 rfl rfl (Nat.le_of_ble_eq_true rfl) dX12_firstIn_51 (mc_X12_bringsBack _ _ _ _ _ hv0 h2)) ?_
  refine j_iload_n C 1 dX12_firstIn_54 rfl ?_
  obtain rfl := Option.some.inj hm
  exact j_ireti C dX12_firstIn_55
set_option maxRecDepth 20000 in
set_option maxHeartbeats 4000000 in
theorem tb_X12_firstIn_13 {x : Ctx} {Λ : Lay} (C : Cx x cX12_firstIn 4 (some .int) RX12 Λ rm_X12_firstIn) (N : Nat) (μ : Mem) (k13 : Int32 × Int32 × Mem → Option (Int32 × Mem)) (v0 : Nat) (v1 : Int32) (v2 : Int32) (v3 : Int32) (hk13 : ∀ (s : Int32 × Int32 × Mem) (r : Int32 × Mem), k13 s = some r → J x 4 Λ (QI x Λ r.1 r.2) 13 [(0, .ref v0), (1, .int v1), (2, .int s.1), (3, .int s.2.1)] [] (s.2.2)) (hv0 : inL Λ v0 11) {r : Int32 × Mem} (hm : bd_X12_firstIn_13 N Λ μ k13 v0 v1 v2 v3 = some r) : J x 4 Λ (QI x Λ r.1 r.2) 13 [(0, .ref v0), (1, .int v1), (2, .int v2), (3, .int v3)] [] μ := by
  refine j_iload_n C 3 dX12_firstIn_13 rfl ?_
  refine j_bipush C (v := 60) dX12_firstIn_14 rfl ?_
  refine j_icmp_gt C (tgt := 50) dX12_firstIn_16 (by decide) (fun h1 => ?_) (fun h1 => ?_)
  · replace hm := if_t hm h1
    refine j_sub [0, 2] rfl ?_
    exact tj_X12_firstIn_50 C _ _ _ _ hv0 hm
  · replace hm := if_f hm h1
    refine j_iload_n C 2 dX12_firstIn_19 rfl ?_
    refine j_iconst C (v := -1) dX12_firstIn_20 rfl ?_
    refine j_icmp_ne C (tgt := 50) dX12_firstIn_21 (by decide) (fun h2 => ?_) (fun h2 => ?_)
    · replace hm := if_f hm h2
      refine j_sub [0, 2] rfl ?_
      exact tj_X12_firstIn_50 C _ _ _ _ hv0 hm
    · replace hm := if_t hm h2
      refine j_aload_n C 0 dX12_firstIn_24 rfl ?_
      refine j_iload_n C 1 dX12_firstIn_25 rfl ?_
      obtain ⟨r3, h4, hm⟩ := bd_some hm
      refine call_I (run_LV C lk_X12_414 ⟨rfl, rfl, Nat.le_of_ble_eq_true rfl, Nat.le_of_ble_eq_true rfl⟩ (As := [.int v1]) hv0 rfl rfl (Nat.le_of_ble_eq_true rfl) dX12_firstIn_26 (mc_X12_isSo _ _ _ _ _ _ hv0 h4)) ?_
      refine j_if_eq C (tgt := 36) dX12_firstIn_29 (by decide) (fun h5 => ?_) (fun h5 => ?_)
      · replace hm := if_t hm h5
        refine j_iconst C (v := -1) dX12_firstIn_36 rfl ?_
        refine j_sub [0, 1, 3] rfl ?_
        exact tj_X12_firstIn_37 C _ _ _ _ _ _ _ hk13 hv0 hm
      · replace hm := if_f hm h5
        refine j_iload_n C 3 dX12_firstIn_32 rfl ?_
        refine j_goto C (tgt := 37) dX12_firstIn_33 (by decide) ?_
        refine j_sub [0, 1, 3] rfl ?_
        exact tj_X12_firstIn_37 C _ _ _ _ _ _ _ hk13 hv0 hm
set_option maxRecDepth 20000 in
set_option maxHeartbeats 4000000 in
theorem tl_X12_firstIn_13 {x : Ctx} {Λ : Lay} (C : Cx x cX12_firstIn 4 (some .int) RX12 Λ rm_X12_firstIn) (N : Nat) (v0 : Nat) (v1 : Int32) (hv0 : inL Λ v0 11) (s : Int32 × Int32 × Mem) {r : Int32 × Mem} (hm : lp_X12_firstIn_13 N Λ v0 v1 s = some r) : J x 4 Λ (QI x Λ r.1 r.2) 13 [(0, .ref v0), (1, .int v1), (2, .int s.1), (3, .int s.2.1)] [] (s.2.2) :=
  cw_ind (P := fun s r => J x 4 Λ (QI x Λ r.1 r.2) 13 [(0, .ref v0), (1, .int v1), (2, .int s.1), (3, .int s.2.1)] [] (s.2.2)) (fun k hkk s r e => tb_X12_firstIn_13 C _ _ _ _ _ _ _ hkk hv0 e) N s r hm
set_option maxRecDepth 20000 in
set_option maxHeartbeats 4000000 in
theorem tm_X12_firstIn {x : Ctx} {Λ : Lay} (C : Cx x cX12_firstIn 4 (some .int) RX12 Λ rm_X12_firstIn) (N : Nat) (μ : Mem) (v0 : Nat) (v1 : Int32) (hv0 : inL Λ v0 11) {r : Int32 × Mem} (hm : m_X12_firstIn N Λ μ v0 v1 = some r) : J x 4 Λ (QI x Λ r.1 r.2) 0 [(0, .ref v0), (1, .int v1)] [] μ := by
  refine j_aload_n C 0 dX12_firstIn_0 rfl ?_
  refine j_iconst C (v := 0) dX12_firstIn_1 rfl ?_
  obtain ⟨μ1, e2, hm⟩ := lt_some hm
  refine j_putI C fp_X12_3_11 hv0 e2 dX12_firstIn_2 ?_
  refine j_aload_n C 0 dX12_firstIn_5 rfl ?_
  obtain ⟨r3, h4, hm⟩ := bd_some hm
  refine call_V (run_LV C lk_X12_411 ⟨rfl, rfl, Nat.le_of_ble_eq_true rfl, Nat.le_of_ble_eq_true rfl⟩ (As := []) hv0 rfl rfl (Nat.le_of_ble_eq_true rfl) dX12_firstIn_6 (mc_X12_keepsAll _ _ _ _ _ hv0 h4)) ?_
  refine j_iconst C (v := -1) dX12_firstIn_9 rfl ?_
  refine j_istore_n C (lv' := [(2, .int (-1)), (0, .ref v0), (1, .int v1)]) dX12_firstIn_10 (by decide) rfl ?_
  refine j_iconst C (v := 0) dX12_firstIn_11 rfl ?_
  refine j_istore_n C (lv' := [(3, .int 0), (2, .int (-1)), (0, .ref v0), (1, .int v1)]) dX12_firstIn_12 (by decide) rfl ?_
  refine j_sub [2, 3, 1, 0] rfl ?_
  exact tl_X12_firstIn_13 C _ _ _ hv0 ((-1), 0, r3) hm
set_option maxRecDepth 20000 in
set_option maxHeartbeats 4000000 in
theorem mc_X12_firstIn (l : Launch) (N : Nat) (Λ : Lay) (μ : Mem) (v0 : Nat) (v1 : Int32) (hv0 : inL Λ v0 11) {r : Int32 × Mem} (hm : m_X12_firstIn N Λ μ v0 v1 = some r) : MI l yX12_firstIn cX12_firstIn 4 (some .int) rm_X12_firstIn Λ [.ref v0, .int v1] μ r.1 r.2 := mi_of rfl (Nat.le_of_ble_eq_true rfl) (fun x C _ => tm_X12_firstIn C _ _ _ _ hv0 hm)
abbrev rm_X12_dry : Room := { frames := 9, cells := 0, slots := 0, locals := 205 }
set_option maxRecDepth 20000 in
set_option maxHeartbeats 4000000 in
theorem tm_X12_dry {x : Ctx} {Λ : Lay} (C : Cx x cX12_dry 1 (some .int) RX12 Λ rm_X12_dry) (N : Nat) (μ : Mem) (v0 : Nat) (hv0 : inL Λ v0 11) {r : Int32 × Mem} (hm : m_X12_dry N Λ μ v0 = some r) : J x 1 Λ (QI x Λ r.1 r.2) 0 [(0, .ref v0)] [] μ := by
  refine j_aload_n C 0 dX12_dry_0 rfl ?_
  refine j_iconst C (v := 0) dX12_dry_1 rfl ?_
  obtain ⟨r1, h2, hm⟩ := bd_some hm
  refine call_I (run_LV C lk_X12_420 ⟨rfl, rfl, Nat.le_of_ble_eq_true rfl, Nat.le_of_ble_eq_true rfl⟩ (As := [.int 0]) hv0 rfl rfl (Nat.le_of_ble_eq_true rfl) dX12_dry_2 (mc_X12_firstIn _ _ _ _ _ _ hv0 h2)) ?_
  obtain rfl := Option.some.inj hm
  exact j_ireti C dX12_dry_5
set_option maxRecDepth 20000 in
set_option maxHeartbeats 4000000 in
theorem mc_X12_dry (l : Launch) (N : Nat) (Λ : Lay) (μ : Mem) (v0 : Nat) (hv0 : inL Λ v0 11) {r : Int32 × Mem} (hm : m_X12_dry N Λ μ v0 = some r) : MI l yX12_dry cX12_dry 1 (some .int) rm_X12_dry Λ [.ref v0] μ r.1 r.2 := mi_of rfl (Nat.le_of_ble_eq_true rfl) (fun x C _ => tm_X12_dry C _ _ _ hv0 hm)
abbrev rm_X12_ready : Room := { frames := 9, cells := 0, slots := 0, locals := 205 }
set_option maxRecDepth 20000 in
set_option maxHeartbeats 4000000 in
theorem tm_X12_ready {x : Ctx} {Λ : Lay} (C : Cx x cX12_ready 1 (some .int) RX12 Λ rm_X12_ready) (N : Nat) (μ : Mem) (v0 : Nat) (hv0 : inL Λ v0 11) {r : Int32 × Mem} (hm : m_X12_ready N Λ μ v0 = some r) : J x 1 Λ (QI x Λ r.1 r.2) 0 [(0, .ref v0)] [] μ := by
  refine j_aload_n C 0 dX12_ready_0 rfl ?_
  refine j_iconst C (v := 1) dX12_ready_1 rfl ?_
  obtain ⟨r1, h2, hm⟩ := bd_some hm
  refine call_I (run_LV C lk_X12_420 ⟨rfl, rfl, Nat.le_of_ble_eq_true rfl, Nat.le_of_ble_eq_true rfl⟩ (As := [.int 1]) hv0 rfl rfl (Nat.le_of_ble_eq_true rfl) dX12_ready_2 (mc_X12_firstIn _ _ _ _ _ _ hv0 h2)) ?_
  obtain rfl := Option.some.inj hm
  exact j_ireti C dX12_ready_5
set_option maxRecDepth 20000 in
set_option maxHeartbeats 4000000 in
theorem mc_X12_ready (l : Launch) (N : Nat) (Λ : Lay) (μ : Mem) (v0 : Nat) (hv0 : inL Λ v0 11) {r : Int32 × Mem} (hm : m_X12_ready N Λ μ v0 = some r) : MI l yX12_ready cX12_ready 1 (some .int) rm_X12_ready Λ [.ref v0] μ r.1 r.2 := mi_of rfl (Nat.le_of_ble_eq_true rfl) (fun x C _ => tm_X12_ready C _ _ _ hv0 hm)
abbrev rm_X12_ease : Room := { frames := 9, cells := 0, slots := 0, locals := 205 }
set_option maxRecDepth 20000 in
set_option maxHeartbeats 4000000 in
theorem tm_X12_ease {x : Ctx} {Λ : Lay} (C : Cx x cX12_ease 1 (some .int) RX12 Λ rm_X12_ease) (N : Nat) (μ : Mem) (v0 : Nat) (hv0 : inL Λ v0 11) {r : Int32 × Mem} (hm : m_X12_ease N Λ μ v0 = some r) : J x 1 Λ (QI x Λ r.1 r.2) 0 [(0, .ref v0)] [] μ := by
  refine j_aload_n C 0 dX12_ease_0 rfl ?_
  refine j_iconst C (v := 2) dX12_ease_1 rfl ?_
  obtain ⟨r1, h2, hm⟩ := bd_some hm
  refine call_I (run_LV C lk_X12_420 ⟨rfl, rfl, Nat.le_of_ble_eq_true rfl, Nat.le_of_ble_eq_true rfl⟩ (As := [.int 2]) hv0 rfl rfl (Nat.le_of_ble_eq_true rfl) dX12_ease_2 (mc_X12_firstIn _ _ _ _ _ _ hv0 h2)) ?_
  obtain rfl := Option.some.inj hm
  exact j_ireti C dX12_ease_5
set_option maxRecDepth 20000 in
set_option maxHeartbeats 4000000 in
theorem mc_X12_ease (l : Launch) (N : Nat) (Λ : Lay) (μ : Mem) (v0 : Nat) (hv0 : inL Λ v0 11) {r : Int32 × Mem} (hm : m_X12_ease N Λ μ v0 = some r) : MI l yX12_ease cX12_ease 1 (some .int) rm_X12_ease Λ [.ref v0] μ r.1 r.2 := mi_of rfl (Nat.le_of_ble_eq_true rfl) (fun x C _ => tm_X12_ease C _ _ _ hv0 hm)
abbrev rm_X12_busyOnes : Room := { frames := 3, cells := 0, slots := 0, locals := 64 }
set_option maxRecDepth 20000 in
set_option maxHeartbeats 4000000 in
theorem tj_X12_busyOnes_37 {x : Ctx} {Λ : Lay} (C : Cx x cX12_busyOnes 3 (some .int) RX12 Λ rm_X12_busyOnes) (N : Nat) (μ : Mem) (k4 : Int32 × Int32 → Option (Int32)) (v0 : Nat) (v2 : Int32) (s0 : Int32) (s1 : Int32) (hk4 : ∀ (s : Int32 × Int32) (r : Int32), k4 s = some r → J x 3 Λ (QI x Λ r μ) 4 [(0, .ref v0), (1, .int s.1), (2, .int s.2)] [] (μ)) (hv0 : inL Λ v0 11) {r : Int32} (hm : jn_X12_busyOnes_37 N Λ μ k4 v0 v2 s0 s1 = some r) : J x 3 Λ (QI x Λ r μ) 37 [(0, .ref v0), (2, .int v2)] [.int s1, .int s0] μ := by
  refine j_ior C dX12_busyOnes_37 ?_
  obtain ⟨y1, e2, hm⟩ := lt_some hm
  refine j_topi e2 ?_
  refine j_istore_n C (lv' := [(1, .int y1), (0, .ref v0), (2, .int v2)]) dX12_busyOnes_38 (by decide) rfl ?_
  obtain ⟨y3, e4, hm⟩ := lt_some hm
  refine j_iinc C 2 (v := y3) (lv' := [(2, .int y3), (1, .int y1), (0, .ref v0)]) dX12_busyOnes_39 rfl (by rw [e4]; rfl) (by decide) rfl ?_
  refine j_goto C (tgt := 4) dX12_busyOnes_42 (by decide) ?_
  refine j_sub [2, 1, 0] rfl ?_
  exact hk4 (y1, y3) _ hm
set_option maxRecDepth 20000 in
set_option maxHeartbeats 4000000 in
theorem tj_X12_busyOnes_36 {x : Ctx} {Λ : Lay} (C : Cx x cX12_busyOnes 3 (some .int) RX12 Λ rm_X12_busyOnes) (N : Nat) (μ : Mem) (k4 : Int32 × Int32 → Option (Int32)) (v0 : Nat) (v2 : Int32) (s0 : Int32) (hk4 : ∀ (s : Int32 × Int32) (r : Int32), k4 s = some r → J x 3 Λ (QI x Λ r μ) 4 [(0, .ref v0), (1, .int s.1), (2, .int s.2)] [] (μ)) (hv0 : inL Λ v0 11) {r : Int32} (hm : jn_X12_busyOnes_36 N Λ μ k4 v0 v2 s0 = some r) : J x 3 Λ (QI x Λ r μ) 36 [(0, .ref v0), (2, .int v2)] [.int s0] μ := by
  refine j_iconst C (v := 0) dX12_busyOnes_36 rfl ?_
  exact tj_X12_busyOnes_37 C _ _ _ _ _ _ _ hk4 hv0 hm
set_option maxRecDepth 20000 in
set_option maxHeartbeats 4000000 in
theorem tb_X12_busyOnes_4 {x : Ctx} {Λ : Lay} (C : Cx x cX12_busyOnes 3 (some .int) RX12 Λ rm_X12_busyOnes) (N : Nat) (μ : Mem) (k4 : Int32 × Int32 → Option (Int32)) (v0 : Nat) (v1 : Int32) (v2 : Int32) (hk4 : ∀ (s : Int32 × Int32) (r : Int32), k4 s = some r → J x 3 Λ (QI x Λ r μ) 4 [(0, .ref v0), (1, .int s.1), (2, .int s.2)] [] (μ)) (hv0 : inL Λ v0 11) {r : Int32} (hm : bd_X12_busyOnes_4 N Λ μ k4 v0 v1 v2 = some r) : J x 3 Λ (QI x Λ r μ) 4 [(0, .ref v0), (1, .int v1), (2, .int v2)] [] μ := by
  refine j_iload_n C 2 dX12_busyOnes_4 rfl ?_
  refine j_aload_n C 0 dX12_busyOnes_5 rfl ?_
  obtain ⟨r1, h2, hm⟩ := bd_some hm
  refine call_I (run_LV C lk_X12_95 ⟨rfl, rfl, Nat.le_of_ble_eq_true rfl, Nat.le_of_ble_eq_true rfl⟩ (As := []) hv0 rfl rfl (Nat.le_of_ble_eq_true rfl) dX12_busyOnes_6 (mc_X12_ships _ _ _ _ _ hv0 h2)) ?_
  refine j_icmp_ge C (tgt := 45) dX12_busyOnes_9 (by decide) (fun h3 => ?_) (fun h3 => ?_)
  · replace hm := if_t hm h3
    refine j_iload_n C 1 dX12_busyOnes_45 rfl ?_
    obtain rfl := Option.some.inj hm
    exact j_ireti C dX12_busyOnes_46
  · replace hm := if_f hm h3
    refine j_iload_n C 1 dX12_busyOnes_12 rfl ?_
    refine j_aload_n C 0 dX12_busyOnes_13 rfl ?_
    refine j_iload_n C 2 dX12_busyOnes_14 rfl ?_
    obtain ⟨r4, h5, hm⟩ := bd_some hm
    refine call_I (run_LV C lk_X12_88 ⟨rfl, rfl, Nat.le_of_ble_eq_true rfl, Nat.le_of_ble_eq_true rfl⟩ (As := [.int v2]) hv0 rfl rfl (Nat.le_of_ble_eq_true rfl) dX12_busyOnes_15 (mc_X12_isDocked _ _ _ _ _ _ hv0 h5)) ?_
    refine j_if_eq C (tgt := 36) dX12_busyOnes_18 (by decide) (fun h6 => ?_) (fun h6 => ?_)
    · replace hm := if_t hm h6
      refine j_sub [0, 2] rfl ?_
      exact tj_X12_busyOnes_36 C _ _ _ _ _ _ hk4 hv0 hm
    · replace hm := if_f hm h6
      refine j_aload_n C 0 dX12_busyOnes_21 rfl ?_
      refine j_iload_n C 2 dX12_busyOnes_22 rfl ?_
      refine j_iconst C (v := 2) dX12_busyOnes_23 rfl ?_
      obtain ⟨r7, h8, hm⟩ := bd_some hm
      refine call_I (run_LV C lk_X12_85 ⟨rfl, rfl, Nat.le_of_ble_eq_true rfl, Nat.le_of_ble_eq_true rfl⟩ (As := [.int v2, .int 2]) hv0 rfl rfl (Nat.le_of_ble_eq_true rfl) dX12_busyOnes_24 (mc_X12_of _ _ _ _ _ _ _ hv0 h8)) ?_
      refine j_if_le C (tgt := 36) dX12_busyOnes_27 (by decide) (fun h9 => ?_) (fun h9 => ?_)
      · replace hm := if_t hm h9
        refine j_sub [0, 2] rfl ?_
        exact tj_X12_busyOnes_36 C _ _ _ _ _ _ hk4 hv0 hm
      · replace hm := if_f hm h9
        refine j_iconst C (v := 1) dX12_busyOnes_30 rfl ?_
        refine j_iload_n C 2 dX12_busyOnes_31 rfl ?_
        refine j_ishl C dX12_busyOnes_32 ?_
        refine j_goto C (tgt := 37) dX12_busyOnes_33 (by decide) ?_
        refine j_sub [0, 2] rfl ?_
        exact tj_X12_busyOnes_37 C _ _ _ _ _ _ _ hk4 hv0 hm
set_option maxRecDepth 20000 in
set_option maxHeartbeats 4000000 in
theorem tl_X12_busyOnes_4 {x : Ctx} {Λ : Lay} (C : Cx x cX12_busyOnes 3 (some .int) RX12 Λ rm_X12_busyOnes) (N : Nat) (μ : Mem) (v0 : Nat) (hv0 : inL Λ v0 11) (s : Int32 × Int32) {r : Int32} (hm : lp_X12_busyOnes_4 N Λ μ v0 s = some r) : J x 3 Λ (QI x Λ r μ) 4 [(0, .ref v0), (1, .int s.1), (2, .int s.2)] [] (μ) :=
  cw_ind (P := fun s r => J x 3 Λ (QI x Λ r μ) 4 [(0, .ref v0), (1, .int s.1), (2, .int s.2)] [] (μ)) (fun k hkk s r e => tb_X12_busyOnes_4 C _ _ _ _ _ _ hkk hv0 e) N s r hm
set_option maxRecDepth 20000 in
set_option maxHeartbeats 4000000 in
theorem tm_X12_busyOnes {x : Ctx} {Λ : Lay} (C : Cx x cX12_busyOnes 3 (some .int) RX12 Λ rm_X12_busyOnes) (N : Nat) (μ : Mem) (v0 : Nat) (hv0 : inL Λ v0 11) {r : Int32} (hm : m_X12_busyOnes N Λ μ v0 = some r) : J x 3 Λ (QI x Λ r μ) 0 [(0, .ref v0)] [] μ := by
  refine j_iconst C (v := 0) dX12_busyOnes_0 rfl ?_
  refine j_istore_n C (lv' := [(1, .int 0), (0, .ref v0)]) dX12_busyOnes_1 (by decide) rfl ?_
  refine j_iconst C (v := 0) dX12_busyOnes_2 rfl ?_
  refine j_istore_n C (lv' := [(2, .int 0), (1, .int 0), (0, .ref v0)]) dX12_busyOnes_3 (by decide) rfl ?_
  refine j_sub [2, 1, 0] rfl ?_
  exact tl_X12_busyOnes_4 C _ _ _ hv0 (0, 0) hm
set_option maxRecDepth 20000 in
set_option maxHeartbeats 4000000 in
theorem mc_X12_busyOnes (l : Launch) (N : Nat) (Λ : Lay) (μ : Mem) (v0 : Nat) (hv0 : inL Λ v0 11) {r : Int32} (hm : m_X12_busyOnes N Λ μ v0 = some r) : MI l yX12_busyOnes cX12_busyOnes 3 (some .int) rm_X12_busyOnes Λ [.ref v0] μ r μ := mi_of rfl (Nat.le_of_ble_eq_true rfl) (fun x C _ => tm_X12_busyOnes C _ _ _ hv0 hm)
abbrev rm_X12_costNext : Room := { frames := 7, cells := 0, slots := 0, locals := 162 }
set_option maxRecDepth 20000 in
set_option maxHeartbeats 4000000 in
theorem tj_X12_costNext_40 {x : Ctx} {Λ : Lay} (C : Cx x cX12_costNext 5 (some .int) RX12 Λ rm_X12_costNext) (N : Nat) (μ : Mem) (k10 : Int32 × Int32 × Mem → Option (Int32 × Mem)) (v0 : Nat) (v1 : Int32) (v2 : Int32) (v4 : Int32) (s0 : Int32) (s1 : Int32) (hk10 : ∀ (s : Int32 × Int32 × Mem) (r : Int32 × Mem), k10 s = some r → J x 5 Λ (QI x Λ r.1 r.2) 10 [(0, .ref v0), (1, .int v1), (2, .int v2), (3, .int s.1), (4, .int s.2.1)] [] (s.2.2)) (hv0 : inL Λ v0 11) {r : Int32 × Mem} (hm : jn_X12_costNext_40 N Λ μ k10 v0 v1 v2 v4 s0 s1 = some r) : J x 5 Λ (QI x Λ r.1 r.2) 40 [(0, .ref v0), (1, .int v1), (2, .int v2), (4, .int v4)] [.int s1, .int s0] μ := by
  refine j_iadd C dX12_costNext_40 ?_
  obtain ⟨y1, e2, hm⟩ := lt_some hm
  refine j_topi e2 ?_
  refine j_istore_n C (lv' := [(3, .int y1), (0, .ref v0), (1, .int v1), (2, .int v2), (4, .int v4)]) dX12_costNext_41 (by decide) rfl ?_
  obtain ⟨y3, e4, hm⟩ := lt_some hm
  refine j_iinc C 4 (v := y3) (lv' := [(4, .int y3), (3, .int y1), (0, .ref v0), (1, .int v1), (2, .int v2)]) dX12_costNext_42 rfl (by rw [e4]; rfl) (by decide) rfl ?_
  refine j_goto C (tgt := 10) dX12_costNext_45 (by decide) ?_
  refine j_sub [2, 3, 4, 1, 0] rfl ?_
  exact hk10 (y1, y3, μ) _ hm
set_option maxRecDepth 20000 in
set_option maxHeartbeats 4000000 in
theorem tb_X12_costNext_10 {x : Ctx} {Λ : Lay} (C : Cx x cX12_costNext 5 (some .int) RX12 Λ rm_X12_costNext) (N : Nat) (μ : Mem) (k10 : Int32 × Int32 × Mem → Option (Int32 × Mem)) (v0 : Nat) (v1 : Int32) (v2 : Int32) (v3 : Int32) (v4 : Int32) (hk10 : ∀ (s : Int32 × Int32 × Mem) (r : Int32 × Mem), k10 s = some r → J x 5 Λ (QI x Λ r.1 r.2) 10 [(0, .ref v0), (1, .int v1), (2, .int v2), (3, .int s.1), (4, .int s.2.1)] [] (s.2.2)) (hv0 : inL Λ v0 11) {r : Int32 × Mem} (hm : bd_X12_costNext_10 N Λ μ k10 v0 v1 v2 v3 v4 = some r) : J x 5 Λ (QI x Λ r.1 r.2) 10 [(0, .ref v0), (1, .int v1), (2, .int v2), (3, .int v3), (4, .int v4)] [] μ := by
  refine j_iload C 4 dX12_costNext_10 rfl ?_
  refine j_aload_n C 0 dX12_costNext_12 rfl ?_
  obtain ⟨r1, h2, hm⟩ := bd_some hm
  refine call_I (run_LV C lk_X12_95 ⟨rfl, rfl, Nat.le_of_ble_eq_true rfl, Nat.le_of_ble_eq_true rfl⟩ (As := []) hv0 rfl rfl (Nat.le_of_ble_eq_true rfl) dX12_costNext_13 (mc_X12_ships _ _ _ _ _ hv0 h2)) ?_
  refine j_icmp_ge C (tgt := 48) dX12_costNext_16 (by decide) (fun h3 => ?_) (fun h3 => ?_)
  · replace hm := if_t hm h3
    refine j_aload_n C 0 dX12_costNext_48 rfl ?_
    refine j_iload_n C 2 dX12_costNext_49 rfl ?_
    obtain ⟨r4, h5, hm⟩ := bd_some hm
    refine call_I (run_LV C lk_X12_348 ⟨rfl, rfl, Nat.le_of_ble_eq_true rfl, Nat.le_of_ble_eq_true rfl⟩ (As := [.int v2]) hv0 rfl rfl (Nat.le_of_ble_eq_true rfl) dX12_costNext_50 (mc_X12_feeOf _ _ _ _ _ _ hv0 h5)) ?_
    refine j_iload_n C 3 dX12_costNext_53 rfl ?_
    refine j_aload_n C 0 dX12_costNext_54 rfl ?_
    obtain ⟨q6, h7, hm⟩ := bd_some hm
    refine j_getR C fg_X12_13_11 hv0 (dr_spec h7).1 dX12_costNext_55 ?_
    refine j_bipush C (v := 6) dX12_costNext_58 rfl ?_
    obtain ⟨h8, hm⟩ := gd_some hm
    refine j_iald C ((dr_spec h7).2) h8 dX12_costNext_60 ?_
    refine j_iadd C dX12_costNext_61 ?_
    refine j_iconst C (v := 1) dX12_costNext_62 rfl ?_
    refine j_isub C dX12_costNext_63 ?_
    refine j_aload_n C 0 dX12_costNext_64 rfl ?_
    obtain ⟨q9, h10, hm⟩ := bd_some hm
    refine j_getR C fg_X12_13_11 hv0 (dr_spec h10).1 dX12_costNext_65 ?_
    refine j_bipush C (v := 6) dX12_costNext_68 rfl ?_
    obtain ⟨h11, hm⟩ := gd_some hm
    refine j_iald C ((dr_spec h10).2) h11 dX12_costNext_70 ?_
    obtain ⟨h12, hm⟩ := gd_some hm
    refine j_idiv C dX12_costNext_71 (of_decide_eq_true h12) ?_
    refine j_imul C dX12_costNext_72 ?_
    refine j_aload_n C 0 dX12_costNext_73 rfl ?_
    obtain ⟨q13, h14, hm⟩ := bd_some hm
    refine j_getR C fg_X12_51_11 hv0 (dr_spec h14).1 dX12_costNext_74 ?_
    refine j_iload_n C 1 dX12_costNext_77 rfl ?_
    refine j_iconst C (v := 1) dX12_costNext_78 rfl ?_
    refine j_iload_n C 2 dX12_costNext_79 rfl ?_
    refine j_ishl C dX12_costNext_80 ?_
    refine j_ior C dX12_costNext_81 ?_
    obtain ⟨h15, hm⟩ := gd_some hm
    refine j_iald C ((dr_spec h14).2) h15 dX12_costNext_82 ?_
    refine j_iadd C dX12_costNext_83 ?_
    obtain rfl := Option.some.inj hm
    exact j_ireti C dX12_costNext_84
  · replace hm := if_f hm h3
    refine j_iload_n C 3 dX12_costNext_19 rfl ?_
    refine j_iload_n C 1 dX12_costNext_20 rfl ?_
    refine j_iload C 4 dX12_costNext_21 rfl ?_
    obtain ⟨r16, h17, hm⟩ := bd_some hm
    refine call_I (run_LS C ls_X12_306 ⟨rfl, rfl, Nat.le_of_ble_eq_true rfl, Nat.le_of_ble_eq_true rfl⟩ (As := [.int v1, .int v4]) rfl rfl (Nat.le_of_ble_eq_true rfl) dX12_costNext_23 (mc_X12_has _ _ _ _ _ _  h17)) ?_
    refine j_if_eq C (tgt := 39) dX12_costNext_26 (by decide) (fun h18 => ?_) (fun h18 => ?_)
    · replace hm := if_t hm h18
      refine j_iconst C (v := 0) dX12_costNext_39 rfl ?_
      refine j_sub [0, 1, 2, 4] rfl ?_
      exact tj_X12_costNext_40 C _ _ _ _ _ _ _ _ _ hk10 hv0 hm
    · replace hm := if_f hm h18
      refine j_aload_n C 0 dX12_costNext_29 rfl ?_
      refine j_iload C 4 dX12_costNext_30 rfl ?_
      refine j_iconst C (v := 2) dX12_costNext_32 rfl ?_
      obtain ⟨r19, h20, hm⟩ := bd_some hm
      refine call_I (run_LV C lk_X12_85 ⟨rfl, rfl, Nat.le_of_ble_eq_true rfl, Nat.le_of_ble_eq_true rfl⟩ (As := [.int v4, .int 2]) hv0 rfl rfl (Nat.le_of_ble_eq_true rfl) dX12_costNext_33 (mc_X12_of _ _ _ _ _ _ _ hv0 h20)) ?_
      refine j_goto C (tgt := 40) dX12_costNext_36 (by decide) ?_
      refine j_sub [0, 1, 2, 4] rfl ?_
      exact tj_X12_costNext_40 C _ _ _ _ _ _ _ _ _ hk10 hv0 hm
set_option maxRecDepth 20000 in
set_option maxHeartbeats 4000000 in
theorem tl_X12_costNext_10 {x : Ctx} {Λ : Lay} (C : Cx x cX12_costNext 5 (some .int) RX12 Λ rm_X12_costNext) (N : Nat) (v0 : Nat) (v1 : Int32) (v2 : Int32) (hv0 : inL Λ v0 11) (s : Int32 × Int32 × Mem) {r : Int32 × Mem} (hm : lp_X12_costNext_10 N Λ v0 v1 v2 s = some r) : J x 5 Λ (QI x Λ r.1 r.2) 10 [(0, .ref v0), (1, .int v1), (2, .int v2), (3, .int s.1), (4, .int s.2.1)] [] (s.2.2) :=
  cw_ind (P := fun s r => J x 5 Λ (QI x Λ r.1 r.2) 10 [(0, .ref v0), (1, .int v1), (2, .int v2), (3, .int s.1), (4, .int s.2.1)] [] (s.2.2)) (fun k hkk s r e => tb_X12_costNext_10 C _ _ _ _ _ _ _ _ hkk hv0 e) N s r hm
set_option maxRecDepth 20000 in
set_option maxHeartbeats 4000000 in
theorem tm_X12_costNext {x : Ctx} {Λ : Lay} (C : Cx x cX12_costNext 5 (some .int) RX12 Λ rm_X12_costNext) (N : Nat) (μ : Mem) (v0 : Nat) (v1 : Int32) (v2 : Int32) (hv0 : inL Λ v0 11) {r : Int32 × Mem} (hm : m_X12_costNext N Λ μ v0 v1 v2 = some r) : J x 5 Λ (QI x Λ r.1 r.2) 0 [(0, .ref v0), (1, .int v1), (2, .int v2)] [] μ := by
  refine j_aload_n C 0 dX12_costNext_0 rfl ?_
  refine j_iload_n C 2 dX12_costNext_1 rfl ?_
  refine j_iconst C (v := 2) dX12_costNext_2 rfl ?_
  obtain ⟨r1, h2, hm⟩ := bd_some hm
  refine call_I (run_LV C lk_X12_85 ⟨rfl, rfl, Nat.le_of_ble_eq_true rfl, Nat.le_of_ble_eq_true rfl⟩ (As := [.int v2, .int 2]) hv0 rfl rfl (Nat.le_of_ble_eq_true rfl) dX12_costNext_3 (mc_X12_of _ _ _ _ _ _ _ hv0 h2)) ?_
  refine j_istore_n C (lv' := [(3, .int r1), (0, .ref v0), (1, .int v1), (2, .int v2)]) dX12_costNext_6 (by decide) rfl ?_
  refine j_iconst C (v := 0) dX12_costNext_7 rfl ?_
  refine j_istore C (lv' := [(4, .int 0), (3, .int r1), (0, .ref v0), (1, .int v1), (2, .int v2)]) dX12_costNext_8 (by decide) rfl ?_
  refine j_sub [2, 3, 4, 1, 0] rfl ?_
  exact tl_X12_costNext_10 C _ _ _ _ hv0 (r1, 0, μ) hm
set_option maxRecDepth 20000 in
set_option maxHeartbeats 4000000 in
theorem mc_X12_costNext (l : Launch) (N : Nat) (Λ : Lay) (μ : Mem) (v0 : Nat) (v1 : Int32) (v2 : Int32) (hv0 : inL Λ v0 11) {r : Int32 × Mem} (hm : m_X12_costNext N Λ μ v0 v1 v2 = some r) : MI l yX12_costNext cX12_costNext 5 (some .int) rm_X12_costNext Λ [.ref v0, .int v1, .int v2] μ r.1 r.2 := mi_of rfl (Nat.le_of_ble_eq_true rfl) (fun x C _ => tm_X12_costNext C _ _ _ _ _ hv0 hm)
abbrev rm_X12_laysCosts : Room := { frames := 8, cells := 0, slots := 0, locals := 186 }
set_option maxRecDepth 20000 in
set_option maxHeartbeats 4000000 in
theorem tj_X12_laysCosts_66 {x : Ctx} {Λ : Lay} (C : Cx x cX12_laysCosts 5 none RX12 Λ rm_X12_laysCosts) (N : Nat) (μ : Mem) (k2 : Int32 × Mem → Option (Mem)) (k32 : Int32 × Int32 × Mem → Option (Mem)) (v0 : Nat) (v1 : Int32) (v2 : Int32) (v3 : Int32) (v4 : Int32) (hk2 : ∀ (s : Int32 × Mem) (r : Mem), k2 s = some r → J x 5 Λ (QV x Λ r) 2 [(0, .ref v0), (1, .int v1), (2, .int s.1)] [] (s.2)) (hk32 : ∀ (s : Int32 × Int32 × Mem) (r : Mem), k32 s = some r → J x 5 Λ (QV x Λ r) 32 [(0, .ref v0), (1, .int v1), (2, .int v2), (3, .int s.1), (4, .int s.2.1)] [] (s.2.2)) (hv0 : inL Λ v0 11) {r : Mem} (hm : jn_X12_laysCosts_66 N Λ μ k2 k32 v0 v1 v2 v3 v4 = some r) : J x 5 Λ (QV x Λ r) 66 [(0, .ref v0), (1, .int v1), (2, .int v2), (3, .int v3), (4, .int v4)] [] μ := by
  obtain ⟨y1, e2, hm⟩ := lt_some hm
  refine j_iinc C 4 (v := y1) (lv' := [(4, .int y1), (0, .ref v0), (1, .int v1), (2, .int v2), (3, .int v3)]) dX12_laysCosts_66 rfl (by rw [e2]; rfl) (by decide) rfl ?_
  refine j_goto C (tgt := 32) dX12_laysCosts_69 (by decide) ?_
  refine j_sub [1, 2, 3, 4, 0] rfl ?_
  exact hk32 (v3, y1, μ) _ hm
set_option maxRecDepth 20000 in
set_option maxHeartbeats 4000000 in
theorem tj_X12_laysCosts_79 {x : Ctx} {Λ : Lay} (C : Cx x cX12_laysCosts 5 none RX12 Λ rm_X12_laysCosts) (N : Nat) (μ : Mem) (k2 : Int32 × Mem → Option (Mem)) (v0 : Nat) (v1 : Int32) (v2 : Int32) (hk2 : ∀ (s : Int32 × Mem) (r : Mem), k2 s = some r → J x 5 Λ (QV x Λ r) 2 [(0, .ref v0), (1, .int v1), (2, .int s.1)] [] (s.2)) (hv0 : inL Λ v0 11) {r : Mem} (hm : jn_X12_laysCosts_79 N Λ μ k2 v0 v1 v2 = some r) : J x 5 Λ (QV x Λ r) 79 [(0, .ref v0), (1, .int v1), (2, .int v2)] [] μ := by
  obtain ⟨y1, e2, hm⟩ := lt_some hm
  refine j_iinc C 2 (v := y1) (lv' := [(2, .int y1), (0, .ref v0), (1, .int v1)]) dX12_laysCosts_79 rfl (by rw [e2]; rfl) (by decide) rfl ?_
  refine j_goto C (tgt := 2) dX12_laysCosts_82 (by decide) ?_
  refine j_sub [1, 2, 0] rfl ?_
  exact hk2 (y1, μ) _ hm
set_option maxRecDepth 20000 in
set_option maxHeartbeats 4000000 in
theorem tb_X12_laysCosts_32 {x : Ctx} {Λ : Lay} (C : Cx x cX12_laysCosts 5 none RX12 Λ rm_X12_laysCosts) (N : Nat) (μ : Mem) (k2 : Int32 × Mem → Option (Mem)) (k32 : Int32 × Int32 × Mem → Option (Mem)) (v0 : Nat) (v1 : Int32) (v2 : Int32) (v3 : Int32) (v4 : Int32) (hk2 : ∀ (s : Int32 × Mem) (r : Mem), k2 s = some r → J x 5 Λ (QV x Λ r) 2 [(0, .ref v0), (1, .int v1), (2, .int s.1)] [] (s.2)) (hk32 : ∀ (s : Int32 × Int32 × Mem) (r : Mem), k32 s = some r → J x 5 Λ (QV x Λ r) 32 [(0, .ref v0), (1, .int v1), (2, .int v2), (3, .int s.1), (4, .int s.2.1)] [] (s.2.2)) (hv0 : inL Λ v0 11) {r : Mem} (hm : bd_X12_laysCosts_32 N Λ μ k2 k32 v0 v1 v2 v3 v4 = some r) : J x 5 Λ (QV x Λ r) 32 [(0, .ref v0), (1, .int v1), (2, .int v2), (3, .int v3), (4, .int v4)] [] μ := by
  refine j_iload C 4 dX12_laysCosts_32 rfl ?_
  refine j_aload_n C 0 dX12_laysCosts_34 rfl ?_
  obtain ⟨r1, h2, hm⟩ := bd_some hm
  refine call_I (run_LV C lk_X12_95 ⟨rfl, rfl, Nat.le_of_ble_eq_true rfl, Nat.le_of_ble_eq_true rfl⟩ (As := []) hv0 rfl rfl (Nat.le_of_ble_eq_true rfl) dX12_laysCosts_35 (mc_X12_ships _ _ _ _ _ hv0 h2)) ?_
  refine j_icmp_ge C (tgt := 72) dX12_laysCosts_38 (by decide) (fun h3 => ?_) (fun h3 => ?_)
  · replace hm := if_t hm h3
    refine j_aload_n C 0 dX12_laysCosts_72 rfl ?_
    obtain ⟨q4, h5, hm⟩ := bd_some hm
    refine j_getR C fg_X12_51_11 hv0 (dr_spec h5).1 dX12_laysCosts_73 ?_
    refine j_iload_n C 2 dX12_laysCosts_76 rfl ?_
    refine j_iload_n C 3 dX12_laysCosts_77 rfl ?_
    obtain ⟨h6, hm⟩ := gd_some hm
    obtain ⟨μ7, e8, hm⟩ := lt_some hm
    refine j_iast C ((dr_spec h5).2) h6 e8 dX12_laysCosts_78 ?_
    refine j_sub [0, 1, 2] rfl ?_
    exact tj_X12_laysCosts_79 C _ _ _ _ _ _ hk2 hv0 hm
  · replace hm := if_f hm h3
    refine j_iload_n C 1 dX12_laysCosts_41 rfl ?_
    refine j_iload_n C 2 dX12_laysCosts_42 rfl ?_
    refine j_iconst C (v := -1) dX12_laysCosts_43 rfl ?_
    refine j_ixor C dX12_laysCosts_44 ?_
    refine j_iand C dX12_laysCosts_45 ?_
    refine j_iload C 4 dX12_laysCosts_46 rfl ?_
    obtain ⟨r9, h10, hm⟩ := bd_some hm
    refine call_I (run_LS C ls_X12_306 ⟨rfl, rfl, Nat.le_of_ble_eq_true rfl, Nat.le_of_ble_eq_true rfl⟩ (As := [.int (v1 &&& (v2 ^^^ (-1))), .int v4]) rfl rfl (Nat.le_of_ble_eq_true rfl) dX12_laysCosts_48 (mc_X12_has _ _ _ _ _ _  h10)) ?_
    refine j_if_eq C (tgt := 66) dX12_laysCosts_51 (by decide) (fun h11 => ?_) (fun h11 => ?_)
    · replace hm := if_t hm h11
      exact tj_X12_laysCosts_66 C _ _ _ _ _ _ _ _ _ hk2 hk32 hv0 hm
    · replace hm := if_f hm h11
      refine j_iload_n C 3 dX12_laysCosts_54 rfl ?_
      refine j_aload_n C 0 dX12_laysCosts_55 rfl ?_
      refine j_iload_n C 2 dX12_laysCosts_56 rfl ?_
      refine j_iload C 4 dX12_laysCosts_57 rfl ?_
      obtain ⟨r12, h13, hm⟩ := bd_some hm
      refine call_I (run_LV C lk_X12_423 ⟨rfl, rfl, Nat.le_of_ble_eq_true rfl, Nat.le_of_ble_eq_true rfl⟩ (As := [.int v2, .int v4]) hv0 rfl rfl (Nat.le_of_ble_eq_true rfl) dX12_laysCosts_59 (mc_X12_costNext _ _ _ _ _ _ _ hv0 h13)) ?_
      refine j_mmin C wk_1928 ⟨Nat.le_of_ble_eq_true rfl, Nat.le_of_ble_eq_true rfl⟩ dX12_laysCosts_62 ?_
      obtain ⟨y14, e15, hm⟩ := lt_some hm
      refine j_topi e15 ?_
      refine j_istore_n C (lv' := [(3, .int y14), (0, .ref v0), (1, .int v1), (2, .int v2), (4, .int v4)]) dX12_laysCosts_65 (by decide) rfl ?_
      refine j_sub [1, 2, 3, 0, 4] rfl ?_
      exact tj_X12_laysCosts_66 C _ _ _ _ _ _ _ _ _ hk2 hk32 hv0 hm
set_option maxRecDepth 20000 in
set_option maxHeartbeats 4000000 in
theorem tl_X12_laysCosts_32 {x : Ctx} {Λ : Lay} (C : Cx x cX12_laysCosts 5 none RX12 Λ rm_X12_laysCosts) (N : Nat) (k2 : Int32 × Mem → Option (Mem)) (v0 : Nat) (v1 : Int32) (v2 : Int32) (hk2 : ∀ (s : Int32 × Mem) (r : Mem), k2 s = some r → J x 5 Λ (QV x Λ r) 2 [(0, .ref v0), (1, .int v1), (2, .int s.1)] [] (s.2)) (hv0 : inL Λ v0 11) (s : Int32 × Int32 × Mem) {r : Mem} (hm : lp_X12_laysCosts_32 N Λ k2 v0 v1 v2 s = some r) : J x 5 Λ (QV x Λ r) 32 [(0, .ref v0), (1, .int v1), (2, .int v2), (3, .int s.1), (4, .int s.2.1)] [] (s.2.2) :=
  cw_ind (P := fun s r => J x 5 Λ (QV x Λ r) 32 [(0, .ref v0), (1, .int v1), (2, .int v2), (3, .int s.1), (4, .int s.2.1)] [] (s.2.2)) (fun k hkk s r e => tb_X12_laysCosts_32 C _ _ _ _ _ _ _ _ _ hk2 hkk hv0 e) N s r hm
set_option maxRecDepth 20000 in
set_option maxHeartbeats 4000000 in
theorem tj_X12_laysCosts_28 {x : Ctx} {Λ : Lay} (C : Cx x cX12_laysCosts 5 none RX12 Λ rm_X12_laysCosts) (N : Nat) (μ : Mem) (k2 : Int32 × Mem → Option (Mem)) (v0 : Nat) (v1 : Int32) (v2 : Int32) (s0 : Int32) (hk2 : ∀ (s : Int32 × Mem) (r : Mem), k2 s = some r → J x 5 Λ (QV x Λ r) 2 [(0, .ref v0), (1, .int v1), (2, .int s.1)] [] (s.2)) (hv0 : inL Λ v0 11) {r : Mem} (hm : jn_X12_laysCosts_28 N Λ μ k2 v0 v1 v2 s0 = some r) : J x 5 Λ (QV x Λ r) 28 [(0, .ref v0), (1, .int v1), (2, .int v2)] [.int s0] μ := by
  refine j_istore_n C (lv' := [(3, .int s0), (0, .ref v0), (1, .int v1), (2, .int v2)]) dX12_laysCosts_28 (by decide) rfl ?_
  refine j_iconst C (v := 0) dX12_laysCosts_29 rfl ?_
  refine j_istore C (lv' := [(4, .int 0), (3, .int s0), (0, .ref v0), (1, .int v1), (2, .int v2)]) dX12_laysCosts_30 (by decide) rfl ?_
  refine j_sub [2, 3, 4, 1, 0] rfl ?_
  exact tl_X12_laysCosts_32 C _ _ _ _ _ hk2 hv0 (s0, 0, μ) hm
set_option maxRecDepth 20000 in
set_option maxHeartbeats 4000000 in
theorem tb_X12_laysCosts_2 {x : Ctx} {Λ : Lay} (C : Cx x cX12_laysCosts 5 none RX12 Λ rm_X12_laysCosts) (N : Nat) (μ : Mem) (k2 : Int32 × Mem → Option (Mem)) (v0 : Nat) (v1 : Int32) (v2 : Int32) (hk2 : ∀ (s : Int32 × Mem) (r : Mem), k2 s = some r → J x 5 Λ (QV x Λ r) 2 [(0, .ref v0), (1, .int v1), (2, .int s.1)] [] (s.2)) (hv0 : inL Λ v0 11) {r : Mem} (hm : bd_X12_laysCosts_2 N Λ μ k2 v0 v1 v2 = some r) : J x 5 Λ (QV x Λ r) 2 [(0, .ref v0), (1, .int v1), (2, .int v2)] [] μ := by
  refine j_iload_n C 2 dX12_laysCosts_2 rfl ?_
  refine j_if_lt C (tgt := 85) dX12_laysCosts_3 (by decide) (fun h1 => ?_) (fun h1 => ?_)
  · replace hm := if_t hm h1
    obtain rfl := Option.some.inj hm
    exact j_vret C dX12_laysCosts_85
  · replace hm := if_f hm h1
    refine j_iload_n C 2 dX12_laysCosts_6 rfl ?_
    refine j_iload_n C 1 dX12_laysCosts_7 rfl ?_
    refine j_iconst C (v := -1) dX12_laysCosts_8 rfl ?_
    refine j_ixor C dX12_laysCosts_9 ?_
    refine j_iand C dX12_laysCosts_10 ?_
    refine j_if_eq C (tgt := 17) dX12_laysCosts_11 (by decide) (fun h2 => ?_) (fun h2 => ?_)
    · replace hm := if_t hm h2
      refine j_iload_n C 2 dX12_laysCosts_17 rfl ?_
      refine j_iload_n C 1 dX12_laysCosts_18 rfl ?_
      refine j_icmp_ne C (tgt := 26) dX12_laysCosts_19 (by decide) (fun h3 => ?_) (fun h3 => ?_)
      · replace hm := if_f hm h3
        refine j_ldc C (v := 100000000) wk_1722 dX12_laysCosts_26 ?_
        exact tj_X12_laysCosts_28 C _ _ _ _ _ _ _ hk2 hv0 hm
      · replace hm := if_t hm h3
        refine j_iconst C (v := 0) dX12_laysCosts_22 rfl ?_
        refine j_goto C (tgt := 28) dX12_laysCosts_23 (by decide) ?_
        exact tj_X12_laysCosts_28 C _ _ _ _ _ _ _ hk2 hv0 hm
    · replace hm := if_f hm h2
      refine j_goto C (tgt := 79) dX12_laysCosts_14 (by decide) ?_
      exact tj_X12_laysCosts_79 C _ _ _ _ _ _ hk2 hv0 hm
set_option maxRecDepth 20000 in
set_option maxHeartbeats 4000000 in
theorem tl_X12_laysCosts_2 {x : Ctx} {Λ : Lay} (C : Cx x cX12_laysCosts 5 none RX12 Λ rm_X12_laysCosts) (N : Nat) (v0 : Nat) (v1 : Int32) (hv0 : inL Λ v0 11) (s : Int32 × Mem) {r : Mem} (hm : lp_X12_laysCosts_2 N Λ v0 v1 s = some r) : J x 5 Λ (QV x Λ r) 2 [(0, .ref v0), (1, .int v1), (2, .int s.1)] [] (s.2) :=
  cw_ind (P := fun s r => J x 5 Λ (QV x Λ r) 2 [(0, .ref v0), (1, .int v1), (2, .int s.1)] [] (s.2)) (fun k hkk s r e => tb_X12_laysCosts_2 C _ _ _ _ _ _ hkk hv0 e) N s r hm
set_option maxRecDepth 20000 in
set_option maxHeartbeats 4000000 in
theorem tm_X12_laysCosts {x : Ctx} {Λ : Lay} (C : Cx x cX12_laysCosts 5 none RX12 Λ rm_X12_laysCosts) (N : Nat) (μ : Mem) (v0 : Nat) (v1 : Int32) (hv0 : inL Λ v0 11) {r : Mem} (hm : m_X12_laysCosts N Λ μ v0 v1 = some r) : J x 5 Λ (QV x Λ r) 0 [(0, .ref v0), (1, .int v1)] [] μ := by
  refine j_iload_n C 1 dX12_laysCosts_0 rfl ?_
  refine j_istore_n C (lv' := [(2, .int v1), (0, .ref v0), (1, .int v1)]) dX12_laysCosts_1 (by decide) rfl ?_
  refine j_sub [1, 2, 0] rfl ?_
  exact tl_X12_laysCosts_2 C _ _ _ hv0 (v1, μ) hm
set_option maxRecDepth 20000 in
set_option maxHeartbeats 4000000 in
theorem mc_X12_laysCosts (l : Launch) (N : Nat) (Λ : Lay) (μ : Mem) (v0 : Nat) (v1 : Int32) (hv0 : inL Λ v0 11) {r : Mem} (hm : m_X12_laysCosts N Λ μ v0 v1 = some r) : MV l yX12_laysCosts cX12_laysCosts 5 rm_X12_laysCosts Λ [.ref v0, .int v1] μ r := mv_of rfl (Nat.le_of_ble_eq_true rfl) (fun x C _ => tm_X12_laysCosts C _ _ _ _ hv0 hm)
abbrev rm_X12_cost : Room := { frames := 9, cells := 0, slots := 0, locals := 210 }
set_option maxRecDepth 20000 in
set_option maxHeartbeats 4000000 in
theorem tj_X12_cost_33 {x : Ctx} {Λ : Lay} (C : Cx x cX12_cost 2 (some .int) RX12 Λ rm_X12_cost) (N : Nat) (μ : Mem) (s0 : Int32) {r : Int32 × Mem} (hm : jn_X12_cost_33 N Λ μ s0 = some r) : J x 2 Λ (QI x Λ r.1 r.2) 33 [] [.int s0] μ := by
  obtain rfl := Option.some.inj hm
  exact j_ireti C dX12_cost_33
set_option maxRecDepth 20000 in
set_option maxHeartbeats 4000000 in
theorem tj_X12_cost_24 {x : Ctx} {Λ : Lay} (C : Cx x cX12_cost 2 (some .int) RX12 Λ rm_X12_cost) (N : Nat) (μ : Mem) (v1 : Int32) {r : Int32 × Mem} (hm : jn_X12_cost_24 N Λ μ v1 = some r) : J x 2 Λ (QI x Λ r.1 r.2) 24 [(1, .int v1)] [] μ := by
  refine j_iload_n C 0 dX12_cost_24 rfl ?_
  refine j_if_ne C (tgt := 32) dX12_cost_25 (by decide) (fun h1 => ?_) (fun h1 => ?_)
  · replace hm := if_f hm h1
    refine j_iconst C (v := -1) dX12_cost_32 rfl ?_
    refine j_sub [] rfl ?_
    exact tj_X12_cost_33 C _ _ _  hm
  · replace hm := if_t hm h1
    refine j_iconst C (v := 0) dX12_cost_28 rfl ?_
    refine j_goto C (tgt := 33) dX12_cost_29 (by decide) ?_
    refine j_sub [] rfl ?_
    exact tj_X12_cost_33 C _ _ _  hm
set_option maxRecDepth 20000 in
set_option maxHeartbeats 4000000 in
theorem tm_X12_cost {x : Ctx} {Λ : Lay} (C : Cx x cX12_cost 2 (some .int) RX12 Λ rm_X12_cost) (N : Nat) (μ : Mem) (v0 : Nat) (hv0 : inL Λ v0 11) {r : Int32 × Mem} (hm : m_X12_cost N Λ μ v0 = some r) : J x 2 Λ (QI x Λ r.1 r.2) 0 [(0, .ref v0)] [] μ := by
  refine j_aload_n C 0 dX12_cost_0 rfl ?_
  refine j_iconst C (v := 0) dX12_cost_1 rfl ?_
  obtain ⟨μ1, e2, hm⟩ := lt_some hm
  refine j_putI C fp_X12_3_11 hv0 e2 dX12_cost_2 ?_
  refine j_aload_n C 0 dX12_cost_5 rfl ?_
  obtain ⟨r3, h4, hm⟩ := bd_some hm
  refine call_I (run_LV C lk_X12_426 ⟨rfl, rfl, Nat.le_of_ble_eq_true rfl, Nat.le_of_ble_eq_true rfl⟩ (As := []) hv0 rfl rfl (Nat.le_of_ble_eq_true rfl) dX12_cost_6 (mc_X12_busyOnes _ _ _ _ _ hv0 h4)) ?_
  refine j_istore_n C (lv' := [(1, .int r3), (0, .ref v0)]) dX12_cost_9 (by decide) rfl ?_
  refine j_iload_n C 0 dX12_cost_10 rfl ?_
  refine j_if_eq C (tgt := 24) dX12_cost_11 (by decide) (fun h5 => ?_) (fun h5 => ?_)
  · replace hm := if_t hm h5
    refine j_sub [0] rfl ?_
    exact tj_X12_cost_24 C _ _ _  hm
  · replace hm := if_f hm h5
    refine j_aload_n C 1 dX12_cost_14 rfl ?_
    obtain ⟨q6, h7, hm⟩ := bd_some hm
    refine j_getR C fg_X12_13_11 hv0 (dr_spec h7).1 dX12_cost_15 ?_
    refine j_bipush C (v := 6) dX12_cost_18 rfl ?_
    obtain ⟨h8, hm⟩ := gd_some hm
    refine j_iald C ((dr_spec h7).2) h8 dX12_cost_20 ?_
    refine j_if_ne C (tgt := 34) dX12_cost_21 (by decide) (fun h9 => ?_) (fun h9 => ?_)
    · replace hm := if_f hm h9
      refine j_aload_n C 1 dX12_cost_34 rfl ?_
      refine j_iload_n C 0 dX12_cost_35 rfl ?_
      obtain ⟨r10, h11, hm⟩ := bd_some hm
      refine call_V (run_LV C lk_X12_429 ⟨rfl, rfl, Nat.le_of_ble_eq_true rfl, Nat.le_of_ble_eq_true rfl⟩ (As := [.int r3]) hv0 rfl rfl (Nat.le_of_ble_eq_true rfl) dX12_cost_36 (mc_X12_laysCosts _ _ _ _ _ _ hv0 h11)) ?_
      refine j_aload_n C 1 dX12_cost_39 rfl ?_
      obtain ⟨q12, h13, hm⟩ := bd_some hm
      refine j_getR C fg_X12_51_11 hv0 (dr_spec h13).1 dX12_cost_40 ?_
      refine j_iconst C (v := 0) dX12_cost_43 rfl ?_
      obtain ⟨h14, hm⟩ := gd_some hm
      refine j_iald C ((dr_spec h13).2) h14 dX12_cost_44 ?_
      obtain rfl := Option.some.inj hm
      exact j_ireti C dX12_cost_45
    · replace hm := if_t hm h9
      refine j_sub [0] rfl ?_
      exact tj_X12_cost_24 C _ _ _  hm
set_option maxRecDepth 20000 in
set_option maxHeartbeats 4000000 in
theorem mc_X12_cost (l : Launch) (N : Nat) (Λ : Lay) (μ : Mem) (v0 : Nat) (hv0 : inL Λ v0 11) {r : Int32 × Mem} (hm : m_X12_cost N Λ μ v0 = some r) : MI l yX12_cost cX12_cost 2 (some .int) rm_X12_cost Λ [.ref v0] μ r.1 r.2 := mi_of rfl (Nat.le_of_ble_eq_true rfl) (fun x C _ => tm_X12_cost C _ _ _ hv0 hm)
abbrev rm_X12_first : Room := { frames := 9, cells := 0, slots := 0, locals := 210 }
set_option maxRecDepth 20000 in
set_option maxHeartbeats 4000000 in
theorem tj_X12_first_24 {x : Ctx} {Λ : Lay} (C : Cx x cX12_first 3 (some .int) RX12 Λ rm_X12_first) (N : Nat) (μ : Mem) {r : Int32 × Mem} (hm : jn_X12_first_24 N Λ μ = some r) : J x 3 Λ (QI x Λ r.1 r.2) 24 [] [] μ := by
  refine j_iconst C (v := -1) dX12_first_24 rfl ?_
  obtain rfl := Option.some.inj hm
  exact j_ireti C dX12_first_25
set_option maxRecDepth 20000 in
set_option maxHeartbeats 4000000 in
theorem tj_X12_first_56 {x : Ctx} {Λ : Lay} (C : Cx x cX12_first 3 (some .int) RX12 Λ rm_X12_first) (N : Nat) (μ : Mem) (k33 : Int32 × Mem → Option (Int32 × Mem)) (v0 : Nat) (v1 : Int32) (v2 : Int32) (hk33 : ∀ (s : Int32 × Mem) (r : Int32 × Mem), k33 s = some r → J x 3 Λ (QI x Λ r.1 r.2) 33 [(0, .ref v0), (1, .int v1), (2, .int s.1)] [] (s.2)) (hv0 : inL Λ v0 11) {r : Int32 × Mem} (hm : jn_X12_first_56 N Λ μ k33 v0 v1 v2 = some r) : J x 3 Λ (QI x Λ r.1 r.2) 56 [(0, .ref v0), (1, .int v1), (2, .int v2)] [] μ := by
  obtain ⟨y1, e2, hm⟩ := lt_some hm
  refine j_iinc C 2 (v := y1) (lv' := [(2, .int y1), (0, .ref v0), (1, .int v1)]) dX12_first_56 rfl (by rw [e2]; rfl) (by decide) rfl ?_
  refine j_goto C (tgt := 33) dX12_first_59 (by decide) ?_
  refine j_sub [1, 2, 0] rfl ?_
  exact hk33 (y1, μ) _ hm
set_option maxRecDepth 20000 in
set_option maxHeartbeats 4000000 in
theorem tb_X12_first_33 {x : Ctx} {Λ : Lay} (C : Cx x cX12_first 3 (some .int) RX12 Λ rm_X12_first) (N : Nat) (μ : Mem) (k33 : Int32 × Mem → Option (Int32 × Mem)) (v0 : Nat) (v1 : Int32) (v2 : Int32) (hk33 : ∀ (s : Int32 × Mem) (r : Int32 × Mem), k33 s = some r → J x 3 Λ (QI x Λ r.1 r.2) 33 [(0, .ref v0), (1, .int v1), (2, .int s.1)] [] (s.2)) (hv0 : inL Λ v0 11) {r : Int32 × Mem} (hm : bd_X12_first_33 N Λ μ k33 v0 v1 v2 = some r) : J x 3 Λ (QI x Λ r.1 r.2) 33 [(0, .ref v0), (1, .int v1), (2, .int v2)] [] μ := by
  refine j_iload_n C 1 dX12_first_33 rfl ?_
  refine j_iload_n C 2 dX12_first_34 rfl ?_
  obtain ⟨r1, h2, hm⟩ := bd_some hm
  refine call_I (run_LS C ls_X12_306 ⟨rfl, rfl, Nat.le_of_ble_eq_true rfl, Nat.le_of_ble_eq_true rfl⟩ (As := [.int v1, .int v2]) rfl rfl (Nat.le_of_ble_eq_true rfl) dX12_first_35 (mc_X12_has _ _ _ _ _ _  h2)) ?_
  refine j_if_eq C (tgt := 56) dX12_first_38 (by decide) (fun h3 => ?_) (fun h3 => ?_)
  · replace hm := if_t hm h3
    exact tj_X12_first_56 C _ _ _ _ _ _ hk33 hv0 hm
  · replace hm := if_f hm h3
    refine j_aload_n C 0 dX12_first_41 rfl ?_
    refine j_iconst C (v := 0) dX12_first_42 rfl ?_
    refine j_iload_n C 2 dX12_first_43 rfl ?_
    obtain ⟨r4, h5, hm⟩ := bd_some hm
    refine call_I (run_LV C lk_X12_423 ⟨rfl, rfl, Nat.le_of_ble_eq_true rfl, Nat.le_of_ble_eq_true rfl⟩ (As := [.int 0, .int v2]) hv0 rfl rfl (Nat.le_of_ble_eq_true rfl) dX12_first_44 (mc_X12_costNext _ _ _ _ _ _ _ hv0 h5)) ?_
    refine j_aload_n C 0 dX12_first_47 rfl ?_
    obtain ⟨q6, h7, hm⟩ := bd_some hm
    refine j_getR C fg_X12_51_11 hv0 (dr_spec h7).1 dX12_first_48 ?_
    refine j_iconst C (v := 0) dX12_first_51 rfl ?_
    obtain ⟨h8, hm⟩ := gd_some hm
    refine j_iald C ((dr_spec h7).2) h8 dX12_first_52 ?_
    refine j_icmp_eq C (tgt := 62) dX12_first_53 (by decide) (fun h9 => ?_) (fun h9 => ?_)
    · replace hm := if_t hm h9
      refine j_iload_n C 2 dX12_first_62 rfl ?_
      obtain rfl := Option.some.inj hm
      exact j_ireti C dX12_first_63
    · replace hm := if_f hm h9
      exact tj_X12_first_56 C _ _ _ _ _ _ hk33 hv0 hm
set_option maxRecDepth 20000 in
set_option maxHeartbeats 4000000 in
theorem tl_X12_first_33 {x : Ctx} {Λ : Lay} (C : Cx x cX12_first 3 (some .int) RX12 Λ rm_X12_first) (N : Nat) (v0 : Nat) (v1 : Int32) (hv0 : inL Λ v0 11) (s : Int32 × Mem) {r : Int32 × Mem} (hm : lp_X12_first_33 N Λ v0 v1 s = some r) : J x 3 Λ (QI x Λ r.1 r.2) 33 [(0, .ref v0), (1, .int v1), (2, .int s.1)] [] (s.2) :=
  cw_ind (P := fun s r => J x 3 Λ (QI x Λ r.1 r.2) 33 [(0, .ref v0), (1, .int v1), (2, .int s.1)] [] (s.2)) (fun k hkk s r e => tb_X12_first_33 C _ _ _ _ _ _ hkk hv0 e) N s r hm
set_option maxRecDepth 20000 in
set_option maxHeartbeats 4000000 in
theorem tm_X12_first {x : Ctx} {Λ : Lay} (C : Cx x cX12_first 3 (some .int) RX12 Λ rm_X12_first) (N : Nat) (μ : Mem) (v0 : Nat) (hv0 : inL Λ v0 11) {r : Int32 × Mem} (hm : m_X12_first N Λ μ v0 = some r) : J x 3 Λ (QI x Λ r.1 r.2) 0 [(0, .ref v0)] [] μ := by
  refine j_aload_n C 0 dX12_first_0 rfl ?_
  refine j_iconst C (v := 0) dX12_first_1 rfl ?_
  obtain ⟨μ1, e2, hm⟩ := lt_some hm
  refine j_putI C fp_X12_3_11 hv0 e2 dX12_first_2 ?_
  refine j_aload_n C 0 dX12_first_5 rfl ?_
  obtain ⟨r3, h4, hm⟩ := bd_some hm
  refine call_I (run_LV C lk_X12_426 ⟨rfl, rfl, Nat.le_of_ble_eq_true rfl, Nat.le_of_ble_eq_true rfl⟩ (As := []) hv0 rfl rfl (Nat.le_of_ble_eq_true rfl) dX12_first_6 (mc_X12_busyOnes _ _ _ _ _ hv0 h4)) ?_
  refine j_istore_n C (lv' := [(1, .int r3), (0, .ref v0)]) dX12_first_9 (by decide) rfl ?_
  refine j_iload_n C 0 dX12_first_10 rfl ?_
  refine j_if_eq C (tgt := 24) dX12_first_11 (by decide) (fun h5 => ?_) (fun h5 => ?_)
  · replace hm := if_t hm h5
    refine j_sub [] rfl ?_
    exact tj_X12_first_24 C _ _  hm
  · replace hm := if_f hm h5
    refine j_aload_n C 1 dX12_first_14 rfl ?_
    obtain ⟨q6, h7, hm⟩ := bd_some hm
    refine j_getR C fg_X12_13_11 hv0 (dr_spec h7).1 dX12_first_15 ?_
    refine j_bipush C (v := 6) dX12_first_18 rfl ?_
    obtain ⟨h8, hm⟩ := gd_some hm
    refine j_iald C ((dr_spec h7).2) h8 dX12_first_20 ?_
    refine j_if_ne C (tgt := 26) dX12_first_21 (by decide) (fun h9 => ?_) (fun h9 => ?_)
    · replace hm := if_f hm h9
      refine j_aload_n C 1 dX12_first_26 rfl ?_
      refine j_iload_n C 0 dX12_first_27 rfl ?_
      obtain ⟨r10, h11, hm⟩ := bd_some hm
      refine call_V (run_LV C lk_X12_429 ⟨rfl, rfl, Nat.le_of_ble_eq_true rfl, Nat.le_of_ble_eq_true rfl⟩ (As := [.int r3]) hv0 rfl rfl (Nat.le_of_ble_eq_true rfl) dX12_first_28 (mc_X12_laysCosts _ _ _ _ _ _ hv0 h11)) ?_
      refine j_iconst C (v := 0) dX12_first_31 rfl ?_
      refine j_istore_n C (lv' := [(2, .int 0), (1, .int r3), (0, .ref v0)]) dX12_first_32 (by decide) rfl ?_
      refine j_sub [2, 1, 0] rfl ?_
      exact tl_X12_first_33 C _ _ _ hv0 (0, r10) hm
    · replace hm := if_t hm h9
      refine j_sub [] rfl ?_
      exact tj_X12_first_24 C _ _  hm
set_option maxRecDepth 20000 in
set_option maxHeartbeats 4000000 in
theorem mc_X12_first (l : Launch) (N : Nat) (Λ : Lay) (μ : Mem) (v0 : Nat) (hv0 : inL Λ v0 11) {r : Int32 × Mem} (hm : m_X12_first N Λ μ v0 = some r) : MI l yX12_first cX12_first 3 (some .int) rm_X12_first Λ [.ref v0] μ r.1 r.2 := mi_of rfl (Nat.le_of_ble_eq_true rfl) (fun x C _ => tm_X12_first C _ _ _ hv0 hm)
abbrev rm_X12_isHeights : Room := { frames := 1, cells := 0, slots := 0, locals := 22 }
set_option maxRecDepth 20000 in
set_option maxHeartbeats 4000000 in
theorem tj_X12_isHeights_75 {x : Ctx} {Λ : Lay} (C : Cx x cX12_isHeights 3 (some .boolean) RX12 Λ rm_X12_isHeights) (N : Nat) (μ : Mem) (k26 : Int32 × Int32 → Option (Int32)) (v0 : Nat) (v2 : Int32) (s0 : Int32) (hk26 : ∀ (s : Int32 × Int32) (r : Int32), k26 s = some r → J x 3 Λ (QI x Λ r μ) 26 [(0, .ref v0), (1, .int s.1), (2, .int s.2)] [] (μ)) (hv0 : inL Λ v0 11) {r : Int32} (hm : jn_X12_isHeights_75 N Λ μ k26 v0 v2 s0 = some r) : J x 3 Λ (QI x Λ r μ) 75 [(0, .ref v0), (2, .int v2)] [.int s0] μ := by
  refine j_istore_n C (lv' := [(1, .int s0), (0, .ref v0), (2, .int v2)]) dX12_isHeights_75 (by decide) rfl ?_
  obtain ⟨y1, e2, hm⟩ := lt_some hm
  refine j_iinc C 2 (v := y1) (lv' := [(2, .int y1), (1, .int s0), (0, .ref v0)]) dX12_isHeights_76 rfl (by rw [e2]; rfl) (by decide) rfl ?_
  refine j_goto C (tgt := 26) dX12_isHeights_79 (by decide) ?_
  refine j_sub [2, 1, 0] rfl ?_
  exact hk26 (s0, y1) _ hm
set_option maxRecDepth 20000 in
set_option maxHeartbeats 4000000 in
theorem tj_X12_isHeights_74 {x : Ctx} {Λ : Lay} (C : Cx x cX12_isHeights 3 (some .boolean) RX12 Λ rm_X12_isHeights) (N : Nat) (μ : Mem) (k26 : Int32 × Int32 → Option (Int32)) (v0 : Nat) (v2 : Int32) (hk26 : ∀ (s : Int32 × Int32) (r : Int32), k26 s = some r → J x 3 Λ (QI x Λ r μ) 26 [(0, .ref v0), (1, .int s.1), (2, .int s.2)] [] (μ)) (hv0 : inL Λ v0 11) {r : Int32} (hm : jn_X12_isHeights_74 N Λ μ k26 v0 v2 = some r) : J x 3 Λ (QI x Λ r μ) 74 [(0, .ref v0), (2, .int v2)] [] μ := by
  refine j_iconst C (v := 0) dX12_isHeights_74 rfl ?_
  exact tj_X12_isHeights_75 C _ _ _ _ _ _ hk26 hv0 hm
set_option maxRecDepth 20000 in
set_option maxHeartbeats 4000000 in
theorem tj_X12_isHeights_82 {x : Ctx} {Λ : Lay} (C : Cx x cX12_isHeights 3 (some .boolean) RX12 Λ rm_X12_isHeights) (N : Nat) (μ : Mem) (v1 : Int32) {r : Int32} (hm : jn_X12_isHeights_82 N Λ μ v1 = some r) : J x 3 Λ (QI x Λ r μ) 82 [(1, .int v1)] [] μ := by
  refine j_iload_n C 0 dX12_isHeights_82 rfl ?_
  obtain ⟨h1, hm⟩ := gd_some hm
  obtain rfl := Option.some.inj hm
  exact j_iretz C h1 dX12_isHeights_83
set_option maxRecDepth 20000 in
set_option maxHeartbeats 4000000 in
theorem tb_X12_isHeights_26 {x : Ctx} {Λ : Lay} (C : Cx x cX12_isHeights 3 (some .boolean) RX12 Λ rm_X12_isHeights) (N : Nat) (μ : Mem) (k26 : Int32 × Int32 → Option (Int32)) (v0 : Nat) (v1 : Int32) (v2 : Int32) (hk26 : ∀ (s : Int32 × Int32) (r : Int32), k26 s = some r → J x 3 Λ (QI x Λ r μ) 26 [(0, .ref v0), (1, .int s.1), (2, .int s.2)] [] (μ)) (hv0 : inL Λ v0 11) {r : Int32} (hm : bd_X12_isHeights_26 N Λ μ k26 v0 v1 v2 = some r) : J x 3 Λ (QI x Λ r μ) 26 [(0, .ref v0), (1, .int v1), (2, .int v2)] [] μ := by
  refine j_iload_n C 2 dX12_isHeights_26 rfl ?_
  refine j_aload_n C 0 dX12_isHeights_27 rfl ?_
  refine j_getI C fg_X12_114_11 hv0 dX12_isHeights_28 ?_
  refine j_icmp_ge C (tgt := 82) dX12_isHeights_31 (by decide) (fun h1 => ?_) (fun h1 => ?_)
  · replace hm := if_t hm h1
    refine j_sub [1] rfl ?_
    exact tj_X12_isHeights_82 C _ _ _  hm
  · replace hm := if_f hm h1
    refine j_iload_n C 1 dX12_isHeights_34 rfl ?_
    refine j_if_eq C (tgt := 82) dX12_isHeights_35 (by decide) (fun h2 => ?_) (fun h2 => ?_)
    · replace hm := if_t hm h2
      refine j_sub [1] rfl ?_
      exact tj_X12_isHeights_82 C _ _ _  hm
    · replace hm := if_f hm h2
      refine j_aload_n C 0 dX12_isHeights_38 rfl ?_
      obtain ⟨q3, h4, hm⟩ := bd_some hm
      refine j_getR C fg_X12_29_11 hv0 (dr_spec h4).1 dX12_isHeights_39 ?_
      refine j_iload_n C 2 dX12_isHeights_42 rfl ?_
      obtain ⟨h5, hm⟩ := gd_some hm
      refine j_bald C ((dr_spec h4).2) h5 dX12_isHeights_43 ?_
      refine j_iconst C (v := 0) dX12_isHeights_44 rfl ?_
      refine j_bipush C (v := 99) dX12_isHeights_45 rfl ?_
      obtain ⟨r6, h7, hm⟩ := bd_some hm
      refine call_I (run_LS C ls_X12_103 ⟨rfl, rfl, Nat.le_of_ble_eq_true rfl, Nat.le_of_ble_eq_true rfl⟩ (As := [.int (μ.1 q3 v2.toNatClampNeg), .int 0, .int 99]) rfl rfl (Nat.le_of_ble_eq_true rfl) dX12_isHeights_47 (mc_X12_in _ _ _ _ _ _ _  h7)) ?_
      refine j_if_eq C (tgt := 74) dX12_isHeights_50 (by decide) (fun h8 => ?_) (fun h8 => ?_)
      · replace hm := if_t hm h8
        refine j_sub [0, 2] rfl ?_
        exact tj_X12_isHeights_74 C _ _ _ _ _ hk26 hv0 hm
      · replace hm := if_f hm h8
        refine j_aload_n C 0 dX12_isHeights_53 rfl ?_
        obtain ⟨q9, h10, hm⟩ := bd_some hm
        refine j_getR C fg_X12_29_11 hv0 (dr_spec h10).1 dX12_isHeights_54 ?_
        refine j_iload_n C 2 dX12_isHeights_57 rfl ?_
        refine j_iconst C (v := 1) dX12_isHeights_58 rfl ?_
        refine j_iadd C dX12_isHeights_59 ?_
        obtain ⟨h11, hm⟩ := gd_some hm
        refine j_bald C ((dr_spec h10).2) h11 dX12_isHeights_60 ?_
        refine j_iconst C (v := 0) dX12_isHeights_61 rfl ?_
        refine j_bipush C (v := 30) dX12_isHeights_62 rfl ?_
        obtain ⟨r12, h13, hm⟩ := bd_some hm
        refine call_I (run_LS C ls_X12_103 ⟨rfl, rfl, Nat.le_of_ble_eq_true rfl, Nat.le_of_ble_eq_true rfl⟩ (As := [.int (μ.1 q9 (v2 + 1).toNatClampNeg), .int 0, .int 30]) rfl rfl (Nat.le_of_ble_eq_true rfl) dX12_isHeights_64 (mc_X12_in _ _ _ _ _ _ _  h13)) ?_
        refine j_if_eq C (tgt := 74) dX12_isHeights_67 (by decide) (fun h14 => ?_) (fun h14 => ?_)
        · replace hm := if_t hm h14
          refine j_sub [0, 2] rfl ?_
          exact tj_X12_isHeights_74 C _ _ _ _ _ hk26 hv0 hm
        · replace hm := if_f hm h14
          refine j_iconst C (v := 1) dX12_isHeights_70 rfl ?_
          refine j_goto C (tgt := 75) dX12_isHeights_71 (by decide) ?_
          refine j_sub [0, 2] rfl ?_
          exact tj_X12_isHeights_75 C _ _ _ _ _ _ hk26 hv0 hm
set_option maxRecDepth 20000 in
set_option maxHeartbeats 4000000 in
theorem tl_X12_isHeights_26 {x : Ctx} {Λ : Lay} (C : Cx x cX12_isHeights 3 (some .boolean) RX12 Λ rm_X12_isHeights) (N : Nat) (μ : Mem) (v0 : Nat) (hv0 : inL Λ v0 11) (s : Int32 × Int32) {r : Int32} (hm : lp_X12_isHeights_26 N Λ μ v0 s = some r) : J x 3 Λ (QI x Λ r μ) 26 [(0, .ref v0), (1, .int s.1), (2, .int s.2)] [] (μ) :=
  cw_ind (P := fun s r => J x 3 Λ (QI x Λ r μ) 26 [(0, .ref v0), (1, .int s.1), (2, .int s.2)] [] (μ)) (fun k hkk s r e => tb_X12_isHeights_26 C _ _ _ _ _ _ hkk hv0 e) N s r hm
set_option maxRecDepth 20000 in
set_option maxHeartbeats 4000000 in
theorem tj_X12_isHeights_23 {x : Ctx} {Λ : Lay} (C : Cx x cX12_isHeights 3 (some .boolean) RX12 Λ rm_X12_isHeights) (N : Nat) (μ : Mem) (v0 : Nat) (s0 : Int32) (hv0 : inL Λ v0 11) {r : Int32} (hm : jn_X12_isHeights_23 N Λ μ v0 s0 = some r) : J x 3 Λ (QI x Λ r μ) 23 [(0, .ref v0)] [.int s0] μ := by
  refine j_istore_n C (lv' := [(1, .int s0), (0, .ref v0)]) dX12_isHeights_23 (by decide) rfl ?_
  refine j_iconst C (v := 0) dX12_isHeights_24 rfl ?_
  refine j_istore_n C (lv' := [(2, .int 0), (1, .int s0), (0, .ref v0)]) dX12_isHeights_25 (by decide) rfl ?_
  refine j_sub [2, 1, 0] rfl ?_
  exact tl_X12_isHeights_26 C _ _ _ hv0 (s0, 0) hm
set_option maxRecDepth 20000 in
set_option maxHeartbeats 4000000 in
theorem tj_X12_isHeights_22 {x : Ctx} {Λ : Lay} (C : Cx x cX12_isHeights 3 (some .boolean) RX12 Λ rm_X12_isHeights) (N : Nat) (μ : Mem) (v0 : Nat) (hv0 : inL Λ v0 11) {r : Int32} (hm : jn_X12_isHeights_22 N Λ μ v0 = some r) : J x 3 Λ (QI x Λ r μ) 22 [(0, .ref v0)] [] μ := by
  refine j_iconst C (v := 0) dX12_isHeights_22 rfl ?_
  exact tj_X12_isHeights_23 C _ _ _ _ hv0 hm
set_option maxRecDepth 20000 in
set_option maxHeartbeats 4000000 in
theorem tm_X12_isHeights {x : Ctx} {Λ : Lay} (C : Cx x cX12_isHeights 3 (some .boolean) RX12 Λ rm_X12_isHeights) (N : Nat) (μ : Mem) (v0 : Nat) (hv0 : inL Λ v0 11) {r : Int32} (hm : m_X12_isHeights N Λ μ v0 = some r) : J x 3 Λ (QI x Λ r μ) 0 [(0, .ref v0)] [] μ := by
  refine j_aload_n C 0 dX12_isHeights_0 rfl ?_
  refine j_getI C fg_X12_114_11 hv0 dX12_isHeights_1 ?_
  refine j_iconst C (v := 2) dX12_isHeights_4 rfl ?_
  refine j_irem C dX12_isHeights_5 (by decide) ?_
  refine j_if_ne C (tgt := 22) dX12_isHeights_6 (by decide) (fun h1 => ?_) (fun h1 => ?_)
  · replace hm := if_f hm h1
    exact tj_X12_isHeights_22 C _ _ _ hv0 hm
  · replace hm := if_t hm h1
    refine j_aload_n C 0 dX12_isHeights_9 rfl ?_
    refine j_getI C fg_X12_114_11 hv0 dX12_isHeights_10 ?_
    refine j_bipush C (v := 40) dX12_isHeights_13 rfl ?_
    refine j_icmp_gt C (tgt := 22) dX12_isHeights_15 (by decide) (fun h2 => ?_) (fun h2 => ?_)
    · replace hm := if_t hm h2
      exact tj_X12_isHeights_22 C _ _ _ hv0 hm
    · replace hm := if_f hm h2
      refine j_iconst C (v := 1) dX12_isHeights_18 rfl ?_
      refine j_goto C (tgt := 23) dX12_isHeights_19 (by decide) ?_
      exact tj_X12_isHeights_23 C _ _ _ _ hv0 hm
set_option maxRecDepth 20000 in
set_option maxHeartbeats 4000000 in
theorem mc_X12_isHeights (l : Launch) (N : Nat) (Λ : Lay) (μ : Mem) (v0 : Nat) (hv0 : inL Λ v0 11) {r : Int32} (hm : m_X12_isHeights N Λ μ v0 = some r) : MI l yX12_isHeights cX12_isHeights 3 (some .boolean) rm_X12_isHeights Λ [.ref v0] μ r μ := mi_of rfl (Nat.le_of_ble_eq_true rfl) (fun x C _ => tm_X12_isHeights C _ _ _ hv0 hm)
abbrev rm_X12_heightBy : Room := { frames := 1, cells := 0, slots := 0, locals := 60 }
set_option maxRecDepth 20000 in
set_option maxHeartbeats 4000000 in
theorem tm_X12_heightBy {x : Ctx} {Λ : Lay} (C : Cx x cX12_heightBy 4 (some .int) RX12 Λ rm_X12_heightBy) (N : Nat) (μ : Mem) (v0 : Int32) (v1 : Int32) {r : Int32} (hm : m_X12_heightBy N Λ μ v0 v1 = some r) : J x 4 Λ (QI x Λ r μ) 0 [(0, .int v0), (1, .int v1)] [] μ := by
  refine j_iload_n C 0 dX12_heightBy_0 rfl ?_
  refine j_sipush C (v := 372) dX12_heightBy_1 rfl ?_
  refine j_idiv C dX12_heightBy_4 (by decide) ?_
  obtain ⟨y1, e2, hm⟩ := lt_some hm
  refine j_topi e2 ?_
  refine j_istore_n C (lv' := [(2, .int y1), (0, .int v0), (1, .int v1)]) dX12_heightBy_5 (by decide) rfl ?_
  refine j_iload_n C 1 dX12_heightBy_6 rfl ?_
  refine j_bipush C (v := 12) dX12_heightBy_7 rfl ?_
  refine j_idiv C dX12_heightBy_9 (by decide) ?_
  refine j_bipush C (v := 31) dX12_heightBy_10 rfl ?_
  refine j_irem C dX12_heightBy_12 (by decide) ?_
  obtain ⟨y3, e4, hm⟩ := lt_some hm
  refine j_topi e4 ?_
  refine j_istore_n C (lv' := [(3, .int y3), (2, .int y1), (0, .int v0), (1, .int v1)]) dX12_heightBy_13 (by decide) rfl ?_
  refine j_iload_n C 1 dX12_heightBy_14 rfl ?_
  refine j_iload_n C 0 dX12_heightBy_15 rfl ?_
  refine j_iload_n C 1 dX12_heightBy_16 rfl ?_
  refine j_isub C dX12_heightBy_17 ?_
  refine j_iload_n C 3 dX12_heightBy_18 rfl ?_
  refine j_iload_n C 2 dX12_heightBy_19 rfl ?_
  refine j_bipush C (v := 12) dX12_heightBy_20 rfl ?_
  refine j_irem C dX12_heightBy_22 (by decide) ?_
  refine j_iadd C dX12_heightBy_23 ?_
  refine j_bipush C (v := 12) dX12_heightBy_24 rfl ?_
  refine j_irem C dX12_heightBy_26 (by decide) ?_
  refine j_bipush C (v := 6) dX12_heightBy_27 rfl ?_
  refine j_isub C dX12_heightBy_29 ?_
  refine j_mabs C wk_1963 ⟨Nat.le_of_ble_eq_true rfl, Nat.le_of_ble_eq_true rfl⟩ dX12_heightBy_30 ?_
  refine j_imul C dX12_heightBy_33 ?_
  refine j_bipush C (v := 6) dX12_heightBy_34 rfl ?_
  refine j_idiv C dX12_heightBy_36 (by decide) ?_
  refine j_iadd C dX12_heightBy_37 ?_
  obtain rfl := Option.some.inj hm
  exact j_ireti C dX12_heightBy_38
set_option maxRecDepth 20000 in
set_option maxHeartbeats 4000000 in
theorem mc_X12_heightBy (l : Launch) (N : Nat) (Λ : Lay) (μ : Mem) (v0 : Int32) (v1 : Int32) {r : Int32} (hm : m_X12_heightBy N Λ μ v0 v1 = some r) : MI l yX12_heightBy cX12_heightBy 4 (some .int) rm_X12_heightBy Λ [.int v0, .int v1] μ r μ := mi_of rfl (Nat.le_of_ble_eq_true rfl) (fun x C _ => tm_X12_heightBy C _ _ _ _  hm)
abbrev rm_X12_laysCurves : Room := { frames := 2, cells := 0, slots := 0, locals := 83 }
set_option maxRecDepth 20000 in
set_option maxHeartbeats 4000000 in
theorem tj_X12_laysCurves_76 {x : Ctx} {Λ : Lay} (C : Cx x cX12_laysCurves 5 (some .int) RX12 Λ rm_X12_laysCurves) (N : Nat) (μ : Mem) (k4 : Int32 × Int32 × Mem → Option (Int32 × Mem)) (k35 : Int32 × Int32 × Mem → Option (Int32 × Mem)) (v0 : Nat) (v1 : Int32) (v2 : Int32) (v4 : Int32) (s0 : Int32) (hk4 : ∀ (s : Int32 × Int32 × Mem) (r : Int32 × Mem), k4 s = some r → J x 5 Λ (QI x Λ r.1 r.2) 4 [(0, .ref v0), (1, .int s.1), (2, .int s.2.1)] [] (s.2.2)) (hk35 : ∀ (s : Int32 × Int32 × Mem) (r : Int32 × Mem), k35 s = some r → J x 5 Λ (QI x Λ r.1 r.2) 35 [(0, .ref v0), (1, .int v1), (2, .int v2), (3, .int s.1), (4, .int s.2.1)] [] (s.2.2)) (hv0 : inL Λ v0 11) {r : Int32 × Mem} (hm : jn_X12_laysCurves_76 N Λ μ k4 k35 v0 v1 v2 v4 s0 = some r) : J x 5 Λ (QI x Λ r.1 r.2) 76 [(0, .ref v0), (1, .int v1), (2, .int v2), (4, .int v4)] [.int s0] μ := by
  refine j_istore_n C (lv' := [(3, .int s0), (0, .ref v0), (1, .int v1), (2, .int v2), (4, .int v4)]) dX12_laysCurves_76 (by decide) rfl ?_
  obtain ⟨y1, e2, hm⟩ := lt_some hm
  refine j_iinc C 4 (v := y1) (lv' := [(4, .int y1), (3, .int s0), (0, .ref v0), (1, .int v1), (2, .int v2)]) dX12_laysCurves_77 rfl (by rw [e2]; rfl) (by decide) rfl ?_
  refine j_goto C (tgt := 35) dX12_laysCurves_80 (by decide) ?_
  refine j_sub [2, 3, 4, 1, 0] rfl ?_
  exact hk35 (s0, y1, μ) _ hm
set_option maxRecDepth 20000 in
set_option maxHeartbeats 4000000 in
theorem tj_X12_laysCurves_100 {x : Ctx} {Λ : Lay} (C : Cx x cX12_laysCurves 5 (some .int) RX12 Λ rm_X12_laysCurves) (N : Nat) (μ : Mem) (k4 : Int32 × Int32 × Mem → Option (Int32 × Mem)) (v0 : Nat) (v2 : Int32) (s0 : Int32) (s1 : Int32) (hk4 : ∀ (s : Int32 × Int32 × Mem) (r : Int32 × Mem), k4 s = some r → J x 5 Λ (QI x Λ r.1 r.2) 4 [(0, .ref v0), (1, .int s.1), (2, .int s.2.1)] [] (s.2.2)) (hv0 : inL Λ v0 11) {r : Int32 × Mem} (hm : jn_X12_laysCurves_100 N Λ μ k4 v0 v2 s0 s1 = some r) : J x 5 Λ (QI x Λ r.1 r.2) 100 [(0, .ref v0), (2, .int v2)] [.int s1, .int s0] μ := by
  refine j_iadd C dX12_laysCurves_100 ?_
  obtain ⟨y1, e2, hm⟩ := lt_some hm
  refine j_topi e2 ?_
  refine j_istore_n C (lv' := [(1, .int y1), (0, .ref v0), (2, .int v2)]) dX12_laysCurves_101 (by decide) rfl ?_
  obtain ⟨y3, e4, hm⟩ := lt_some hm
  refine j_iinc C 2 (v := y3) (lv' := [(2, .int y3), (1, .int y1), (0, .ref v0)]) dX12_laysCurves_102 rfl (by rw [e4]; rfl) (by decide) rfl ?_
  refine j_goto C (tgt := 4) dX12_laysCurves_105 (by decide) ?_
  refine j_sub [2, 1, 0] rfl ?_
  exact hk4 (y1, y3, μ) _ hm
set_option maxRecDepth 20000 in
set_option maxHeartbeats 4000000 in
theorem tj_X12_laysCurves_83 {x : Ctx} {Λ : Lay} (C : Cx x cX12_laysCurves 5 (some .int) RX12 Λ rm_X12_laysCurves) (N : Nat) (μ : Mem) (k4 : Int32 × Int32 × Mem → Option (Int32 × Mem)) (v0 : Nat) (v1 : Int32) (v2 : Int32) (v3 : Int32) (hk4 : ∀ (s : Int32 × Int32 × Mem) (r : Int32 × Mem), k4 s = some r → J x 5 Λ (QI x Λ r.1 r.2) 4 [(0, .ref v0), (1, .int s.1), (2, .int s.2.1)] [] (s.2.2)) (hv0 : inL Λ v0 11) {r : Int32 × Mem} (hm : jn_X12_laysCurves_83 N Λ μ k4 v0 v1 v2 v3 = some r) : J x 5 Λ (QI x Λ r.1 r.2) 83 [(0, .ref v0), (1, .int v1), (2, .int v2), (3, .int v3)] [] μ := by
  refine j_aload_n C 0 dX12_laysCurves_83 rfl ?_
  obtain ⟨q1, h2, hm⟩ := bd_some hm
  refine j_getR C fg_X12_54_11 hv0 (dr_spec h2).1 dX12_laysCurves_84 ?_
  refine j_iload_n C 2 dX12_laysCurves_87 rfl ?_
  refine j_iload_n C 3 dX12_laysCurves_88 rfl ?_
  obtain ⟨h3, hm⟩ := gd_some hm
  obtain ⟨μ4, e5, hm⟩ := lt_some hm
  refine j_zast C ((dr_spec h2).2) h3 e5 dX12_laysCurves_89 ?_
  refine j_iload_n C 1 dX12_laysCurves_90 rfl ?_
  refine j_iload_n C 3 dX12_laysCurves_91 rfl ?_
  refine j_if_eq C (tgt := 99) dX12_laysCurves_92 (by decide) (fun h6 => ?_) (fun h6 => ?_)
  · replace hm := if_t hm h6
    refine j_iconst C (v := 0) dX12_laysCurves_99 rfl ?_
    refine j_sub [0, 2] rfl ?_
    exact tj_X12_laysCurves_100 C _ _ _ _ _ _ _ hk4 hv0 hm
  · replace hm := if_f hm h6
    refine j_iconst C (v := 1) dX12_laysCurves_95 rfl ?_
    refine j_goto C (tgt := 100) dX12_laysCurves_96 (by decide) ?_
    refine j_sub [0, 2] rfl ?_
    exact tj_X12_laysCurves_100 C _ _ _ _ _ _ _ hk4 hv0 hm
set_option maxRecDepth 20000 in
set_option maxHeartbeats 4000000 in
theorem tb_X12_laysCurves_35 {x : Ctx} {Λ : Lay} (C : Cx x cX12_laysCurves 5 (some .int) RX12 Λ rm_X12_laysCurves) (N : Nat) (μ : Mem) (k4 : Int32 × Int32 × Mem → Option (Int32 × Mem)) (k35 : Int32 × Int32 × Mem → Option (Int32 × Mem)) (v0 : Nat) (v1 : Int32) (v2 : Int32) (v3 : Int32) (v4 : Int32) (hk4 : ∀ (s : Int32 × Int32 × Mem) (r : Int32 × Mem), k4 s = some r → J x 5 Λ (QI x Λ r.1 r.2) 4 [(0, .ref v0), (1, .int s.1), (2, .int s.2.1)] [] (s.2.2)) (hk35 : ∀ (s : Int32 × Int32 × Mem) (r : Int32 × Mem), k35 s = some r → J x 5 Λ (QI x Λ r.1 r.2) 35 [(0, .ref v0), (1, .int v1), (2, .int v2), (3, .int s.1), (4, .int s.2.1)] [] (s.2.2)) (hv0 : inL Λ v0 11) {r : Int32 × Mem} (hm : bd_X12_laysCurves_35 N Λ μ k4 k35 v0 v1 v2 v3 v4 = some r) : J x 5 Λ (QI x Λ r.1 r.2) 35 [(0, .ref v0), (1, .int v1), (2, .int v2), (3, .int v3), (4, .int v4)] [] μ := by
  refine j_iload C 4 dX12_laysCurves_35 rfl ?_
  refine j_aload_n C 0 dX12_laysCurves_37 rfl ?_
  refine j_getI C fg_X12_114_11 hv0 dX12_laysCurves_38 ?_
  refine j_icmp_ge C (tgt := 83) dX12_laysCurves_41 (by decide) (fun h1 => ?_) (fun h1 => ?_)
  · replace hm := if_t hm h1
    refine j_sub [0, 1, 2, 3] rfl ?_
    exact tj_X12_laysCurves_83 C _ _ _ _ _ _ _ hk4 hv0 hm
  · replace hm := if_f hm h1
    refine j_iload_n C 3 dX12_laysCurves_44 rfl ?_
    refine j_if_eq C (tgt := 83) dX12_laysCurves_45 (by decide) (fun h2 => ?_) (fun h2 => ?_)
    · replace hm := if_t hm h2
      refine j_sub [0, 1, 2, 3] rfl ?_
      exact tj_X12_laysCurves_83 C _ _ _ _ _ _ _ hk4 hv0 hm
    · replace hm := if_f hm h2
      refine j_iload_n C 2 dX12_laysCurves_48 rfl ?_
      refine j_aload_n C 0 dX12_laysCurves_49 rfl ?_
      obtain ⟨q3, h4, hm⟩ := bd_some hm
      refine j_getR C fg_X12_29_11 hv0 (dr_spec h4).1 dX12_laysCurves_50 ?_
      refine j_iload C 4 dX12_laysCurves_53 rfl ?_
      obtain ⟨h5, hm⟩ := gd_some hm
      refine j_bald C ((dr_spec h4).2) h5 dX12_laysCurves_55 ?_
      obtain ⟨r6, h7, hm⟩ := bd_some hm
      refine call_I (run_LS C ls_X12_433 ⟨rfl, rfl, Nat.le_of_ble_eq_true rfl, Nat.le_of_ble_eq_true rfl⟩ (As := [.int v2, .int (μ.1 q3 v4.toNatClampNeg)]) rfl rfl (Nat.le_of_ble_eq_true rfl) dX12_laysCurves_56 (mc_X12_heightBy _ _ _ _ _ _  h7)) ?_
      refine j_aload_n C 0 dX12_laysCurves_59 rfl ?_
      obtain ⟨q8, h9, hm⟩ := bd_some hm
      refine j_getR C fg_X12_29_11 hv0 (dr_spec h9).1 dX12_laysCurves_60 ?_
      refine j_iload C 4 dX12_laysCurves_63 rfl ?_
      refine j_iconst C (v := 1) dX12_laysCurves_65 rfl ?_
      refine j_iadd C dX12_laysCurves_66 ?_
      obtain ⟨h10, hm⟩ := gd_some hm
      refine j_bald C ((dr_spec h9).2) h10 dX12_laysCurves_67 ?_
      refine j_icmp_ne C (tgt := 75) dX12_laysCurves_68 (by decide) (fun h11 => ?_) (fun h11 => ?_)
      · replace hm := if_f hm h11
        refine j_iconst C (v := 0) dX12_laysCurves_75 rfl ?_
        refine j_sub [0, 1, 2, 4] rfl ?_
        exact tj_X12_laysCurves_76 C _ _ _ _ _ _ _ _ _ hk4 hk35 hv0 hm
      · replace hm := if_t hm h11
        refine j_iconst C (v := 1) dX12_laysCurves_71 rfl ?_
        refine j_goto C (tgt := 76) dX12_laysCurves_72 (by decide) ?_
        refine j_sub [0, 1, 2, 4] rfl ?_
        exact tj_X12_laysCurves_76 C _ _ _ _ _ _ _ _ _ hk4 hk35 hv0 hm
set_option maxRecDepth 20000 in
set_option maxHeartbeats 4000000 in
theorem tl_X12_laysCurves_35 {x : Ctx} {Λ : Lay} (C : Cx x cX12_laysCurves 5 (some .int) RX12 Λ rm_X12_laysCurves) (N : Nat) (k4 : Int32 × Int32 × Mem → Option (Int32 × Mem)) (v0 : Nat) (v1 : Int32) (v2 : Int32) (hk4 : ∀ (s : Int32 × Int32 × Mem) (r : Int32 × Mem), k4 s = some r → J x 5 Λ (QI x Λ r.1 r.2) 4 [(0, .ref v0), (1, .int s.1), (2, .int s.2.1)] [] (s.2.2)) (hv0 : inL Λ v0 11) (s : Int32 × Int32 × Mem) {r : Int32 × Mem} (hm : lp_X12_laysCurves_35 N Λ k4 v0 v1 v2 s = some r) : J x 5 Λ (QI x Λ r.1 r.2) 35 [(0, .ref v0), (1, .int v1), (2, .int v2), (3, .int s.1), (4, .int s.2.1)] [] (s.2.2) :=
  cw_ind (P := fun s r => J x 5 Λ (QI x Λ r.1 r.2) 35 [(0, .ref v0), (1, .int v1), (2, .int v2), (3, .int s.1), (4, .int s.2.1)] [] (s.2.2)) (fun k hkk s r e => tb_X12_laysCurves_35 C _ _ _ _ _ _ _ _ _ hk4 hkk hv0 e) N s r hm
set_option maxRecDepth 20000 in
set_option maxHeartbeats 4000000 in
theorem tj_X12_laysCurves_31 {x : Ctx} {Λ : Lay} (C : Cx x cX12_laysCurves 5 (some .int) RX12 Λ rm_X12_laysCurves) (N : Nat) (μ : Mem) (k4 : Int32 × Int32 × Mem → Option (Int32 × Mem)) (v0 : Nat) (v1 : Int32) (v2 : Int32) (s0 : Int32) (hk4 : ∀ (s : Int32 × Int32 × Mem) (r : Int32 × Mem), k4 s = some r → J x 5 Λ (QI x Λ r.1 r.2) 4 [(0, .ref v0), (1, .int s.1), (2, .int s.2.1)] [] (s.2.2)) (hv0 : inL Λ v0 11) {r : Int32 × Mem} (hm : jn_X12_laysCurves_31 N Λ μ k4 v0 v1 v2 s0 = some r) : J x 5 Λ (QI x Λ r.1 r.2) 31 [(0, .ref v0), (1, .int v1), (2, .int v2)] [.int s0] μ := by
  refine j_istore_n C (lv' := [(3, .int s0), (0, .ref v0), (1, .int v1), (2, .int v2)]) dX12_laysCurves_31 (by decide) rfl ?_
  refine j_iconst C (v := 0) dX12_laysCurves_32 rfl ?_
  refine j_istore C (lv' := [(4, .int 0), (3, .int s0), (0, .ref v0), (1, .int v1), (2, .int v2)]) dX12_laysCurves_33 (by decide) rfl ?_
  refine j_sub [2, 3, 4, 1, 0] rfl ?_
  exact tl_X12_laysCurves_35 C _ _ _ _ _ hk4 hv0 (s0, 0, μ) hm
set_option maxRecDepth 20000 in
set_option maxHeartbeats 4000000 in
theorem tb_X12_laysCurves_4 {x : Ctx} {Λ : Lay} (C : Cx x cX12_laysCurves 5 (some .int) RX12 Λ rm_X12_laysCurves) (N : Nat) (μ : Mem) (k4 : Int32 × Int32 × Mem → Option (Int32 × Mem)) (v0 : Nat) (v1 : Int32) (v2 : Int32) (hk4 : ∀ (s : Int32 × Int32 × Mem) (r : Int32 × Mem), k4 s = some r → J x 5 Λ (QI x Λ r.1 r.2) 4 [(0, .ref v0), (1, .int s.1), (2, .int s.2.1)] [] (s.2.2)) (hv0 : inL Λ v0 11) {r : Int32 × Mem} (hm : bd_X12_laysCurves_4 N Λ μ k4 v0 v1 v2 = some r) : J x 5 Λ (QI x Λ r.1 r.2) 4 [(0, .ref v0), (1, .int v1), (2, .int v2)] [] μ := by
  refine j_iload_n C 2 dX12_laysCurves_4 rfl ?_
  refine j_sipush C (v := 11532) dX12_laysCurves_5 rfl ?_
  refine j_icmp_ge C (tgt := 108) dX12_laysCurves_8 (by decide) (fun h1 => ?_) (fun h1 => ?_)
  · replace hm := if_t hm h1
    refine j_iload_n C 1 dX12_laysCurves_108 rfl ?_
    obtain rfl := Option.some.inj hm
    exact j_ireti C dX12_laysCurves_109
  · replace hm := if_f hm h1
    refine j_iload_n C 2 dX12_laysCurves_11 rfl ?_
    refine j_sipush C (v := 372) dX12_laysCurves_12 rfl ?_
    refine j_idiv C dX12_laysCurves_15 (by decide) ?_
    refine j_iload_n C 2 dX12_laysCurves_16 rfl ?_
    refine j_bipush C (v := 12) dX12_laysCurves_17 rfl ?_
    refine j_idiv C dX12_laysCurves_19 (by decide) ?_
    refine j_bipush C (v := 31) dX12_laysCurves_20 rfl ?_
    refine j_irem C dX12_laysCurves_22 (by decide) ?_
    refine j_icmp_gt C (tgt := 30) dX12_laysCurves_23 (by decide) (fun h2 => ?_) (fun h2 => ?_)
    · replace hm := if_t hm h2
      refine j_iconst C (v := 0) dX12_laysCurves_30 rfl ?_
      exact tj_X12_laysCurves_31 C _ _ _ _ _ _ _ hk4 hv0 hm
    · replace hm := if_f hm h2
      refine j_iconst C (v := 1) dX12_laysCurves_26 rfl ?_
      refine j_goto C (tgt := 31) dX12_laysCurves_27 (by decide) ?_
      exact tj_X12_laysCurves_31 C _ _ _ _ _ _ _ hk4 hv0 hm
set_option maxRecDepth 20000 in
set_option maxHeartbeats 4000000 in
theorem tl_X12_laysCurves_4 {x : Ctx} {Λ : Lay} (C : Cx x cX12_laysCurves 5 (some .int) RX12 Λ rm_X12_laysCurves) (N : Nat) (v0 : Nat) (hv0 : inL Λ v0 11) (s : Int32 × Int32 × Mem) {r : Int32 × Mem} (hm : lp_X12_laysCurves_4 N Λ v0 s = some r) : J x 5 Λ (QI x Λ r.1 r.2) 4 [(0, .ref v0), (1, .int s.1), (2, .int s.2.1)] [] (s.2.2) :=
  cw_ind (P := fun s r => J x 5 Λ (QI x Λ r.1 r.2) 4 [(0, .ref v0), (1, .int s.1), (2, .int s.2.1)] [] (s.2.2)) (fun k hkk s r e => tb_X12_laysCurves_4 C _ _ _ _ _ _ hkk hv0 e) N s r hm
set_option maxRecDepth 20000 in
set_option maxHeartbeats 4000000 in
theorem tm_X12_laysCurves {x : Ctx} {Λ : Lay} (C : Cx x cX12_laysCurves 5 (some .int) RX12 Λ rm_X12_laysCurves) (N : Nat) (μ : Mem) (v0 : Nat) (hv0 : inL Λ v0 11) {r : Int32 × Mem} (hm : m_X12_laysCurves N Λ μ v0 = some r) : J x 5 Λ (QI x Λ r.1 r.2) 0 [(0, .ref v0)] [] μ := by
  refine j_iconst C (v := 0) dX12_laysCurves_0 rfl ?_
  refine j_istore_n C (lv' := [(1, .int 0), (0, .ref v0)]) dX12_laysCurves_1 (by decide) rfl ?_
  refine j_iconst C (v := 0) dX12_laysCurves_2 rfl ?_
  refine j_istore_n C (lv' := [(2, .int 0), (1, .int 0), (0, .ref v0)]) dX12_laysCurves_3 (by decide) rfl ?_
  refine j_sub [2, 1, 0] rfl ?_
  exact tl_X12_laysCurves_4 C _ _ hv0 (0, 0, μ) hm
set_option maxRecDepth 20000 in
set_option maxHeartbeats 4000000 in
theorem mc_X12_laysCurves (l : Launch) (N : Nat) (Λ : Lay) (μ : Mem) (v0 : Nat) (hv0 : inL Λ v0 11) {r : Int32 × Mem} (hm : m_X12_laysCurves N Λ μ v0 = some r) : MI l yX12_laysCurves cX12_laysCurves 5 (some .int) rm_X12_laysCurves Λ [.ref v0] μ r.1 r.2 := mi_of rfl (Nat.le_of_ble_eq_true rfl) (fun x C _ => tm_X12_laysCurves C _ _ _ hv0 hm)
abbrev rm_X12_firstFitting : Room := { frames := 0, cells := 0, slots := 0, locals := 0 }
set_option maxRecDepth 20000 in
set_option maxHeartbeats 4000000 in
theorem tj_X12_firstFitting_24 {x : Ctx} {Λ : Lay} (C : Cx x cX12_firstFitting 4 (some .int) RX12 Λ rm_X12_firstFitting) (N : Nat) (μ : Mem) (k6 : Int32 × Int32 → Option (Int32)) (v0 : Nat) (v3 : Int32) (s0 : Int32) (hk6 : ∀ (s : Int32 × Int32) (r : Int32), k6 s = some r → J x 4 Λ (QI x Λ r μ) 6 [(0, .ref v0), (2, .int s.1), (3, .int s.2)] [] (μ)) (hv0 : inL Λ v0 11) {r : Int32} (hm : jn_X12_firstFitting_24 N Λ μ k6 v0 v3 s0 = some r) : J x 4 Λ (QI x Λ r μ) 24 [(0, .ref v0), (3, .int v3)] [.int s0] μ := by
  refine j_istore_n C (lv' := [(2, .int s0), (0, .ref v0), (3, .int v3)]) dX12_firstFitting_24 (by decide) rfl ?_
  obtain ⟨y1, e2, hm⟩ := lt_some hm
  refine j_iinc C 2 (v := y1) (lv' := [(3, .int y1), (2, .int s0), (0, .ref v0)]) dX12_firstFitting_25 rfl (by rw [e2]; rfl) (by decide) rfl ?_
  refine j_goto C (tgt := 6) dX12_firstFitting_28 (by decide) ?_
  refine j_sub [2, 1, 0] rfl ?_
  exact hk6 (s0, y1) _ hm
set_option maxRecDepth 20000 in
set_option maxHeartbeats 4000000 in
theorem tb_X12_firstFitting_6 {x : Ctx} {Λ : Lay} (C : Cx x cX12_firstFitting 4 (some .int) RX12 Λ rm_X12_firstFitting) (N : Nat) (μ : Mem) (k6 : Int32 × Int32 → Option (Int32)) (v0 : Nat) (v2 : Int32) (v3 : Int32) (hk6 : ∀ (s : Int32 × Int32) (r : Int32), k6 s = some r → J x 4 Λ (QI x Λ r μ) 6 [(0, .ref v0), (2, .int s.1), (3, .int s.2)] [] (μ)) (hv0 : inL Λ v0 11) {r : Int32} (hm : bd_X12_firstFitting_6 N Λ μ k6 v0 v2 v3 = some r) : J x 4 Λ (QI x Λ r μ) 6 [(0, .ref v0), (2, .int v2), (3, .int v3)] [] μ := by
  refine j_iload_n C 2 dX12_firstFitting_6 rfl ?_
  refine j_if_lt C (tgt := 31) dX12_firstFitting_7 (by decide) (fun h1 => ?_) (fun h1 => ?_)
  · replace hm := if_t hm h1
    refine j_iload_n C 1 dX12_firstFitting_31 rfl ?_
    obtain rfl := Option.some.inj hm
    exact j_ireti C dX12_firstFitting_32
  · replace hm := if_f hm h1
    refine j_aload_n C 0 dX12_firstFitting_10 rfl ?_
    obtain ⟨q2, h3, hm⟩ := bd_some hm
    refine j_getR C fg_X12_54_11 hv0 (dr_spec h3).1 dX12_firstFitting_11 ?_
    refine j_iload_n C 2 dX12_firstFitting_14 rfl ?_
    obtain ⟨h4, hm⟩ := gd_some hm
    refine j_zald C ((dr_spec h3).2) h4 dX12_firstFitting_15 ?_
    refine j_if_eq C (tgt := 23) dX12_firstFitting_16 (by decide) (fun h5 => ?_) (fun h5 => ?_)
    · replace hm := if_t hm h5
      refine j_iload_n C 1 dX12_firstFitting_23 rfl ?_
      refine j_sub [0, 2] rfl ?_
      exact tj_X12_firstFitting_24 C _ _ _ _ _ _ hk6 hv0 hm
    · replace hm := if_f hm h5
      refine j_iload_n C 2 dX12_firstFitting_19 rfl ?_
      refine j_goto C (tgt := 24) dX12_firstFitting_20 (by decide) ?_
      refine j_sub [0, 2] rfl ?_
      exact tj_X12_firstFitting_24 C _ _ _ _ _ _ hk6 hv0 hm
set_option maxRecDepth 20000 in
set_option maxHeartbeats 4000000 in
theorem tl_X12_firstFitting_6 {x : Ctx} {Λ : Lay} (C : Cx x cX12_firstFitting 4 (some .int) RX12 Λ rm_X12_firstFitting) (N : Nat) (μ : Mem) (v0 : Nat) (hv0 : inL Λ v0 11) (s : Int32 × Int32) {r : Int32} (hm : lp_X12_firstFitting_6 N Λ μ v0 s = some r) : J x 4 Λ (QI x Λ r μ) 6 [(0, .ref v0), (2, .int s.1), (3, .int s.2)] [] (μ) :=
  cw_ind (P := fun s r => J x 4 Λ (QI x Λ r μ) 6 [(0, .ref v0), (2, .int s.1), (3, .int s.2)] [] (μ)) (fun k hkk s r e => tb_X12_firstFitting_6 C _ _ _ _ _ _ hkk hv0 e) N s r hm
set_option maxRecDepth 20000 in
set_option maxHeartbeats 4000000 in
theorem tm_X12_firstFitting {x : Ctx} {Λ : Lay} (C : Cx x cX12_firstFitting 4 (some .int) RX12 Λ rm_X12_firstFitting) (N : Nat) (μ : Mem) (v0 : Nat) (v1 : Int32) (hv0 : inL Λ v0 11) {r : Int32} (hm : m_X12_firstFitting N Λ μ v0 v1 = some r) : J x 4 Λ (QI x Λ r μ) 0 [(0, .ref v0), (1, .int v1)] [] μ := by
  refine j_iconst C (v := -1) dX12_firstFitting_0 rfl ?_
  refine j_istore_n C (lv' := [(2, .int (-1)), (0, .ref v0), (1, .int v1)]) dX12_firstFitting_1 (by decide) rfl ?_
  refine j_iload_n C 2 dX12_firstFitting_2 rfl ?_
  refine j_iconst C (v := 1) dX12_firstFitting_3 rfl ?_
  refine j_isub C dX12_firstFitting_4 ?_
  obtain ⟨y1, e2, hm⟩ := lt_some hm
  refine j_topi e2 ?_
  refine j_istore_n C (lv' := [(3, .int y1), (2, .int (-1)), (0, .ref v0), (1, .int v1)]) dX12_firstFitting_5 (by decide) rfl ?_
  refine j_sub [2, 1, 0] rfl ?_
  exact tl_X12_firstFitting_6 C _ _ _ hv0 ((-1), y1) hm
set_option maxRecDepth 20000 in
set_option maxHeartbeats 4000000 in
theorem mc_X12_firstFitting (l : Launch) (N : Nat) (Λ : Lay) (μ : Mem) (v0 : Nat) (v1 : Int32) (hv0 : inL Λ v0 11) {r : Int32} (hm : m_X12_firstFitting N Λ μ v0 v1 = some r) : MI l yX12_firstFitting cX12_firstFitting 4 (some .int) rm_X12_firstFitting Λ [.ref v0, .int v1] μ r μ := mi_of rfl (Nat.le_of_ble_eq_true rfl) (fun x C _ => tm_X12_firstFitting C _ _ _ _ hv0 hm)
abbrev rm_X12_goes : Room := { frames := 3, cells := 0, slots := 0, locals := 107 }
set_option maxRecDepth 20000 in
set_option maxHeartbeats 4000000 in
theorem tj_X12_goes_46 {x : Ctx} {Λ : Lay} (C : Cx x cX12_goes 3 (some .int) RX12 Λ rm_X12_goes) (N : Nat) (μ : Mem) (s0 : Int32) {r : Int32 × Mem} (hm : jn_X12_goes_46 N Λ μ s0 = some r) : J x 3 Λ (QI x Λ r.1 r.2) 46 [] [.int s0] μ := by
  obtain rfl := Option.some.inj hm
  exact j_ireti C dX12_goes_46
set_option maxRecDepth 20000 in
set_option maxHeartbeats 4000000 in
theorem tj_X12_goes_17 {x : Ctx} {Λ : Lay} (C : Cx x cX12_goes 3 (some .int) RX12 Λ rm_X12_goes) (N : Nat) (μ : Mem) (v0 : Nat) (v1 : Int32) (s0 : Nat) (s1 : Int32) (hv0 : inL Λ v0 11) (hs0 : inL Λ s0 11) {r : Int32 × Mem} (hm : jn_X12_goes_17 N Λ μ v0 v1 s0 s1 = some r) : J x 3 Λ (QI x Λ r.1 r.2) 17 [(0, .ref v0), (1, .int v1)] [.int s1, .ref s0] μ := by
  refine j_iconst C (v := 1) dX12_goes_17 rfl ?_
  obtain ⟨r1, h2, hm⟩ := bd_some hm
  refine call_I (run_LV C lk_X12_282 ⟨rfl, rfl, Nat.le_of_ble_eq_true rfl, Nat.le_of_ble_eq_true rfl⟩ (As := [.int s1, .int 1]) hs0 rfl rfl (Nat.le_of_ble_eq_true rfl) dX12_goes_18 (mc_X12_throwsIf _ _ _ _ _ _ _ hs0 h2)) ?_
  refine j_if_eq C (tgt := 26) dX12_goes_21 (by decide) (fun h3 => ?_) (fun h3 => ?_)
  · replace hm := if_t hm h3
    refine j_aload_n C 0 dX12_goes_26 rfl ?_
    obtain ⟨r4, h5, hm⟩ := bd_some hm
    refine call_I (run_LV C lk_X12_439 ⟨rfl, rfl, Nat.le_of_ble_eq_true rfl, Nat.le_of_ble_eq_true rfl⟩ (As := []) hv0 rfl rfl (Nat.le_of_ble_eq_true rfl) dX12_goes_27 (mc_X12_laysCurves _ _ _ _ _ hv0 h5)) ?_
    refine j_istore_n C (lv' := [(2, .int r4.1), (0, .ref v0), (1, .int v1)]) dX12_goes_30 (by decide) rfl ?_
    refine j_iload_n C 2 dX12_goes_31 rfl ?_
    refine j_if_eq C (tgt := 45) dX12_goes_32 (by decide) (fun h6 => ?_) (fun h6 => ?_)
    · replace hm := if_t hm h6
      refine j_iload_n C 0 dX12_goes_45 rfl ?_
      refine j_sub [] rfl ?_
      exact tj_X12_goes_46 C _ _ _  hm
    · replace hm := if_f hm h6
      refine j_aload_n C 1 dX12_goes_35 rfl ?_
      refine j_sipush C (v := 11532) dX12_goes_36 rfl ?_
      obtain ⟨r7, h8, hm⟩ := bd_some hm
      refine call_I (run_LV C lk_X12_442 ⟨rfl, rfl, Nat.le_of_ble_eq_true rfl, Nat.le_of_ble_eq_true rfl⟩ (As := [.int 11532]) hv0 rfl rfl (Nat.le_of_ble_eq_true rfl) dX12_goes_39 (mc_X12_firstFitting _ _ _ _ _ _ hv0 h8)) ?_
      refine j_goto C (tgt := 46) dX12_goes_42 (by decide) ?_
      refine j_sub [] rfl ?_
      exact tj_X12_goes_46 C _ _ _  hm
  · replace hm := if_f hm h3
    refine j_iconst C (v := 0) dX12_goes_24 rfl ?_
    obtain rfl := Option.some.inj hm
    exact j_ireti C dX12_goes_25
set_option maxRecDepth 20000 in
set_option maxHeartbeats 4000000 in
theorem tm_X12_goes {x : Ctx} {Λ : Lay} (C : Cx x cX12_goes 3 (some .int) RX12 Λ rm_X12_goes) (N : Nat) (μ : Mem) (v0 : Nat) (v1 : Int32) (hv0 : inL Λ v0 11) {r : Int32 × Mem} (hm : m_X12_goes N Λ μ v0 v1 = some r) : J x 3 Λ (QI x Λ r.1 r.2) 0 [(0, .ref v0), (1, .int v1)] [] μ := by
  refine j_aload_n C 0 dX12_goes_0 rfl ?_
  obtain ⟨r1, h2, hm⟩ := bd_some hm
  refine call_V (run_LV C lk_X12_271 ⟨rfl, rfl, Nat.le_of_ble_eq_true rfl, Nat.le_of_ble_eq_true rfl⟩ (As := []) hv0 rfl rfl (Nat.le_of_ble_eq_true rfl) dX12_goes_1 (mc_X12_uses _ _ _ _ _ hv0 h2)) ?_
  refine j_aload_n C 0 dX12_goes_4 rfl ?_
  refine j_aload_n C 0 dX12_goes_5 rfl ?_
  obtain ⟨r3, h4, hm⟩ := bd_some hm
  refine call_I (run_LV C lk_X12_436 ⟨rfl, rfl, Nat.le_of_ble_eq_true rfl, Nat.le_of_ble_eq_true rfl⟩ (As := []) hv0 rfl rfl (Nat.le_of_ble_eq_true rfl) dX12_goes_6 (mc_X12_isHeights _ _ _ _ _ hv0 h4)) ?_
  refine j_if_ne C (tgt := 16) dX12_goes_9 (by decide) (fun h5 => ?_) (fun h5 => ?_)
  · replace hm := if_f hm h5
    refine j_iconst C (v := 0) dX12_goes_16 rfl ?_
    exact tj_X12_goes_17 C _ _ _ _ _ _ hv0 hv0 hm
  · replace hm := if_t hm h5
    refine j_iconst C (v := 1) dX12_goes_12 rfl ?_
    refine j_goto C (tgt := 17) dX12_goes_13 (by decide) ?_
    exact tj_X12_goes_17 C _ _ _ _ _ _ hv0 hv0 hm
set_option maxRecDepth 20000 in
set_option maxHeartbeats 4000000 in
theorem mc_X12_goes (l : Launch) (N : Nat) (Λ : Lay) (μ : Mem) (v0 : Nat) (v1 : Int32) (hv0 : inL Λ v0 11) {r : Int32 × Mem} (hm : m_X12_goes N Λ μ v0 v1 = some r) : MI l yX12_goes cX12_goes 3 (some .int) rm_X12_goes Λ [.ref v0, .int v1] μ r.1 r.2 := mi_of rfl (Nat.le_of_ble_eq_true rfl) (fun x C _ => tm_X12_goes C _ _ _ _ hv0 hm)
abbrev rm_X12_partIn : Room := { frames := 2, cells := 0, slots := 0, locals := 83 }
set_option maxRecDepth 20000 in
set_option maxHeartbeats 4000000 in
theorem tj_X12_partIn_74 {x : Ctx} {Λ : Lay} (C : Cx x cX12_partIn 5 (some .int) RX12 Λ rm_X12_partIn) (N : Nat) (μ : Mem) (k25 : Int32 × Int32 × Mem → Option (Int32 × Mem)) (v0 : Nat) (v1 : Int32) (v2 : Int32) (v3 : Int32) (hk25 : ∀ (s : Int32 × Int32 × Mem) (r : Int32 × Mem), k25 s = some r → J x 5 Λ (QI x Λ r.1 r.2) 25 [(0, .ref v0), (1, .int v1), (2, .int s.1), (3, .int s.2.1)] [] (s.2.2)) (hv0 : inL Λ v0 11) {r : Int32 × Mem} (hm : jn_X12_partIn_74 N Λ μ k25 v0 v1 v2 v3 = some r) : J x 5 Λ (QI x Λ r.1 r.2) 74 [(0, .ref v0), (1, .int v1), (2, .int v2), (3, .int v3)] [] μ := by
  obtain ⟨y1, e2, hm⟩ := lt_some hm
  refine j_iinc C 3 (v := y1) (lv' := [(3, .int y1), (0, .ref v0), (1, .int v1), (2, .int v2)]) dX12_partIn_74 rfl (by rw [e2]; rfl) (by decide) rfl ?_
  refine j_goto C (tgt := 25) dX12_partIn_77 (by decide) ?_
  refine j_sub [1, 2, 3, 0] rfl ?_
  exact hk25 (v2, y1, μ) _ hm
set_option maxRecDepth 20000 in
set_option maxHeartbeats 4000000 in
theorem tb_X12_partIn_25 {x : Ctx} {Λ : Lay} (C : Cx x cX12_partIn 5 (some .int) RX12 Λ rm_X12_partIn) (N : Nat) (μ : Mem) (k25 : Int32 × Int32 × Mem → Option (Int32 × Mem)) (v0 : Nat) (v1 : Int32) (v2 : Int32) (v3 : Int32) (hk25 : ∀ (s : Int32 × Int32 × Mem) (r : Int32 × Mem), k25 s = some r → J x 5 Λ (QI x Λ r.1 r.2) 25 [(0, .ref v0), (1, .int v1), (2, .int s.1), (3, .int s.2.1)] [] (s.2.2)) (hv0 : inL Λ v0 11) {r : Int32 × Mem} (hm : bd_X12_partIn_25 N Λ μ k25 v0 v1 v2 v3 = some r) : J x 5 Λ (QI x Λ r.1 r.2) 25 [(0, .ref v0), (1, .int v1), (2, .int v2), (3, .int v3)] [] μ := by
  refine j_iload_n C 3 dX12_partIn_25 rfl ?_
  refine j_sipush C (v := 11532) dX12_partIn_26 rfl ?_
  refine j_icmp_ge C (tgt := 80) dX12_partIn_29 (by decide) (fun h1 => ?_) (fun h1 => ?_)
  · replace hm := if_t hm h1
    refine j_iload_n C 2 dX12_partIn_80 rfl ?_
    obtain rfl := Option.some.inj hm
    exact j_ireti C dX12_partIn_81
  · replace hm := if_f hm h1
    refine j_aload_n C 0 dX12_partIn_32 rfl ?_
    obtain ⟨q2, h3, hm⟩ := bd_some hm
    refine j_getR C fg_X12_54_11 hv0 (dr_spec h3).1 dX12_partIn_33 ?_
    refine j_iload_n C 3 dX12_partIn_36 rfl ?_
    obtain ⟨h4, hm⟩ := gd_some hm
    refine j_zald C ((dr_spec h3).2) h4 dX12_partIn_37 ?_
    refine j_if_ne C (tgt := 44) dX12_partIn_38 (by decide) (fun h5 => ?_) (fun h5 => ?_)
    · replace hm := if_f hm h5
      refine j_iload_n C 3 dX12_partIn_44 rfl ?_
      refine j_iload_n C 1 dX12_partIn_45 rfl ?_
      obtain ⟨r6, h7, hm⟩ := bd_some hm
      refine call_I (run_LS C ls_X12_433 ⟨rfl, rfl, Nat.le_of_ble_eq_true rfl, Nat.le_of_ble_eq_true rfl⟩ (As := [.int v3, .int v1]) rfl rfl (Nat.le_of_ble_eq_true rfl) dX12_partIn_46 (mc_X12_heightBy _ _ _ _ _ _  h7)) ?_
      refine j_istore C (lv' := [(4, .int r6), (0, .ref v0), (1, .int v1), (2, .int v2), (3, .int v3)]) dX12_partIn_49 (by decide) rfl ?_
      refine j_aload_n C 1 dX12_partIn_51 rfl ?_
      obtain ⟨q8, h9, hm⟩ := bd_some hm
      refine j_getR C fg_X12_58_11 hv0 (dr_spec h9).1 dX12_partIn_52 ?_
      refine j_iload C 0 dX12_partIn_55 rfl ?_
      refine j_dup2 C dX12_partIn_57 rfl rfl ?_
      obtain ⟨h10, hm⟩ := gd_some hm
      refine j_iald C ((dr_spec h9).2) h10 dX12_partIn_58 ?_
      refine j_iconst C (v := 1) dX12_partIn_59 rfl ?_
      refine j_iadd C dX12_partIn_60 ?_
      obtain ⟨h11, hm⟩ := gd_some hm
      obtain ⟨μ12, e13, hm⟩ := lt_some hm
      refine j_iast C ((dr_spec h9).2) h11 e13 dX12_partIn_61 ?_
      refine j_iload_n C 3 dX12_partIn_62 rfl ?_
      refine j_aload_n C 1 dX12_partIn_63 rfl ?_
      obtain ⟨q14, h15, hm⟩ := bd_some hm
      refine j_getR C fg_X12_58_11 hv0 (dr_spec h15).1 dX12_partIn_64 ?_
      refine j_iload C 0 dX12_partIn_67 rfl ?_
      obtain ⟨h16, hm⟩ := gd_some hm
      refine j_iald C ((dr_spec h15).2) h16 dX12_partIn_69 ?_
      refine j_mmax C wk_1942 ⟨Nat.le_of_ble_eq_true rfl, Nat.le_of_ble_eq_true rfl⟩ dX12_partIn_70 ?_
      obtain ⟨y17, e18, hm⟩ := lt_some hm
      refine j_topi e18 ?_
      refine j_istore_n C (lv' := [(2, .int y17), (4, .int r6), (0, .ref v0), (1, .int v1), (3, .int v3)]) dX12_partIn_73 (by decide) rfl ?_
      refine j_sub [2, 3, 0, 4] rfl ?_
      exact tj_X12_partIn_74 C _ _ _ _ _ _ _ hk25 hv0 hm
    · replace hm := if_t hm h5
      refine j_goto C (tgt := 74) dX12_partIn_41 (by decide) ?_
      exact tj_X12_partIn_74 C _ _ _ _ _ _ _ hk25 hv0 hm
set_option maxRecDepth 20000 in
set_option maxHeartbeats 4000000 in
theorem tl_X12_partIn_25 {x : Ctx} {Λ : Lay} (C : Cx x cX12_partIn 5 (some .int) RX12 Λ rm_X12_partIn) (N : Nat) (v0 : Nat) (v1 : Int32) (hv0 : inL Λ v0 11) (s : Int32 × Int32 × Mem) {r : Int32 × Mem} (hm : lp_X12_partIn_25 N Λ v0 v1 s = some r) : J x 5 Λ (QI x Λ r.1 r.2) 25 [(0, .ref v0), (1, .int v1), (2, .int s.1), (3, .int s.2.1)] [] (s.2.2) :=
  cw_ind (P := fun s r => J x 5 Λ (QI x Λ r.1 r.2) 25 [(0, .ref v0), (1, .int v1), (2, .int s.1), (3, .int s.2.1)] [] (s.2.2)) (fun k hkk s r e => tb_X12_partIn_25 C _ _ _ _ _ _ _ hkk hv0 e) N s r hm
set_option maxRecDepth 20000 in
set_option maxHeartbeats 4000000 in
theorem tb_X12_partIn_2 {x : Ctx} {Λ : Lay} (C : Cx x cX12_partIn 5 (some .int) RX12 Λ rm_X12_partIn) (N : Nat) (μ : Mem) (k2 : Int32 × Mem → Option (Int32 × Mem)) (v0 : Nat) (v1 : Int32) (v2 : Int32) (hk2 : ∀ (s : Int32 × Mem) (r : Int32 × Mem), k2 s = some r → J x 5 Λ (QI x Λ r.1 r.2) 2 [(0, .ref v0), (1, .int v1), (2, .int s.1)] [] (s.2)) (hv0 : inL Λ v0 11) {r : Int32 × Mem} (hm : bd_X12_partIn_2 N Λ μ k2 v0 v1 v2 = some r) : J x 5 Λ (QI x Λ r.1 r.2) 2 [(0, .ref v0), (1, .int v1), (2, .int v2)] [] μ := by
  refine j_iload_n C 2 dX12_partIn_2 rfl ?_
  refine j_bipush C (v := 30) dX12_partIn_3 rfl ?_
  refine j_icmp_gt C (tgt := 21) dX12_partIn_5 (by decide) (fun h1 => ?_) (fun h1 => ?_)
  · replace hm := if_t hm h1
    refine j_iconst C (v := 0) dX12_partIn_21 rfl ?_
    refine j_istore_n C (lv' := [(2, .int 0), (0, .ref v0), (1, .int v1)]) dX12_partIn_22 (by decide) rfl ?_
    refine j_iconst C (v := 0) dX12_partIn_23 rfl ?_
    refine j_istore_n C (lv' := [(3, .int 0), (2, .int 0), (0, .ref v0), (1, .int v1)]) dX12_partIn_24 (by decide) rfl ?_
    refine j_sub [2, 3, 1, 0] rfl ?_
    exact tl_X12_partIn_25 C _ _ _ hv0 (0, 0, μ) hm
  · replace hm := if_f hm h1
    refine j_aload_n C 0 dX12_partIn_8 rfl ?_
    obtain ⟨q2, h3, hm⟩ := bd_some hm
    refine j_getR C fg_X12_58_11 hv0 (dr_spec h3).1 dX12_partIn_9 ?_
    refine j_iload_n C 2 dX12_partIn_12 rfl ?_
    refine j_iconst C (v := 0) dX12_partIn_13 rfl ?_
    obtain ⟨h4, hm⟩ := gd_some hm
    obtain ⟨μ5, e6, hm⟩ := lt_some hm
    refine j_iast C ((dr_spec h3).2) h4 e6 dX12_partIn_14 ?_
    obtain ⟨y7, e8, hm⟩ := lt_some hm
    refine j_iinc C 2 (v := y7) (lv' := [(2, .int y7), (0, .ref v0), (1, .int v1)]) dX12_partIn_15 rfl (by rw [e8]; rfl) (by decide) rfl ?_
    refine j_goto C (tgt := 2) dX12_partIn_18 (by decide) ?_
    refine j_sub [1, 2, 0] rfl ?_
    exact hk2 (y7, μ5) _ hm
set_option maxRecDepth 20000 in
set_option maxHeartbeats 4000000 in
theorem tl_X12_partIn_2 {x : Ctx} {Λ : Lay} (C : Cx x cX12_partIn 5 (some .int) RX12 Λ rm_X12_partIn) (N : Nat) (v0 : Nat) (v1 : Int32) (hv0 : inL Λ v0 11) (s : Int32 × Mem) {r : Int32 × Mem} (hm : lp_X12_partIn_2 N Λ v0 v1 s = some r) : J x 5 Λ (QI x Λ r.1 r.2) 2 [(0, .ref v0), (1, .int v1), (2, .int s.1)] [] (s.2) :=
  cw_ind (P := fun s r => J x 5 Λ (QI x Λ r.1 r.2) 2 [(0, .ref v0), (1, .int v1), (2, .int s.1)] [] (s.2)) (fun k hkk s r e => tb_X12_partIn_2 C _ _ _ _ _ _ hkk hv0 e) N s r hm
set_option maxRecDepth 20000 in
set_option maxHeartbeats 4000000 in
theorem tm_X12_partIn {x : Ctx} {Λ : Lay} (C : Cx x cX12_partIn 5 (some .int) RX12 Λ rm_X12_partIn) (N : Nat) (μ : Mem) (v0 : Nat) (v1 : Int32) (hv0 : inL Λ v0 11) {r : Int32 × Mem} (hm : m_X12_partIn N Λ μ v0 v1 = some r) : J x 5 Λ (QI x Λ r.1 r.2) 0 [(0, .ref v0), (1, .int v1)] [] μ := by
  refine j_iconst C (v := 0) dX12_partIn_0 rfl ?_
  refine j_istore_n C (lv' := [(2, .int 0), (0, .ref v0), (1, .int v1)]) dX12_partIn_1 (by decide) rfl ?_
  refine j_sub [1, 2, 0] rfl ?_
  exact tl_X12_partIn_2 C _ _ _ hv0 (0, μ) hm
set_option maxRecDepth 20000 in
set_option maxHeartbeats 4000000 in
theorem mc_X12_partIn (l : Launch) (N : Nat) (Λ : Lay) (μ : Mem) (v0 : Nat) (v1 : Int32) (hv0 : inL Λ v0 11) {r : Int32 × Mem} (hm : m_X12_partIn N Λ μ v0 v1 = some r) : MI l yX12_partIn cX12_partIn 5 (some .int) rm_X12_partIn Λ [.ref v0, .int v1] μ r.1 r.2 := mi_of rfl (Nat.le_of_ble_eq_true rfl) (fun x C _ => tm_X12_partIn C _ _ _ _ hv0 hm)
abbrev rm_X12_ask : Room := { frames := 3, cells := 0, slots := 0, locals := 107 }
set_option maxRecDepth 20000 in
set_option maxHeartbeats 4000000 in
theorem tj_X12_ask_71 {x : Ctx} {Λ : Lay} (C : Cx x cX12_ask 6 (some .int) RX12 Λ rm_X12_ask) (N : Nat) (μ : Mem) (k39 : Int32 × Int32 × Int32 × Mem → Option (Int32 × Mem)) (v0 : Nat) (v1 : Int32) (v3 : Int32) (v4 : Int32) (v5 : Int32) (s0 : Int32) (hk39 : ∀ (s : Int32 × Int32 × Int32 × Mem) (r : Int32 × Mem), k39 s = some r → J x 6 Λ (QI x Λ r.1 r.2) 39 [(0, .ref v0), (1, .int v1), (2, .int s.1), (3, .int s.2.1), (4, .int s.2.2.1)] [] (s.2.2.2)) (hv0 : inL Λ v0 11) {r : Int32 × Mem} (hm : jn_X12_ask_71 N Λ μ k39 v0 v1 v3 v4 v5 s0 = some r) : J x 6 Λ (QI x Λ r.1 r.2) 71 [(0, .ref v0), (1, .int v1), (3, .int v3), (4, .int v4), (5, .int v5)] [.int s0] μ := by
  refine j_istore_n C (lv' := [(2, .int s0), (0, .ref v0), (1, .int v1), (3, .int v3), (4, .int v4), (5, .int v5)]) dX12_ask_71 (by decide) rfl ?_
  refine j_iload_n C 3 dX12_ask_72 rfl ?_
  refine j_iload C 5 dX12_ask_73 rfl ?_
  refine j_mmin C wk_1928 ⟨Nat.le_of_ble_eq_true rfl, Nat.le_of_ble_eq_true rfl⟩ dX12_ask_75 ?_
  obtain ⟨y1, e2, hm⟩ := lt_some hm
  refine j_topi e2 ?_
  refine j_istore_n C (lv' := [(3, .int y1), (2, .int s0), (0, .ref v0), (1, .int v1), (4, .int v4), (5, .int v5)]) dX12_ask_78 (by decide) rfl ?_
  obtain ⟨y3, e4, hm⟩ := lt_some hm
  refine j_iinc C 4 (v := y3) (lv' := [(4, .int y3), (3, .int y1), (2, .int s0), (0, .ref v0), (1, .int v1), (5, .int v5)]) dX12_ask_79 rfl (by rw [e4]; rfl) (by decide) rfl ?_
  refine j_goto C (tgt := 39) dX12_ask_82 (by decide) ?_
  refine j_sub [3, 4, 2, 1, 0] rfl ?_
  exact hk39 (s0, y1, y3, μ) _ hm
set_option maxRecDepth 20000 in
set_option maxHeartbeats 4000000 in
theorem tj_X12_ask_85 {x : Ctx} {Λ : Lay} (C : Cx x cX12_ask 6 (some .int) RX12 Λ rm_X12_ask) (N : Nat) (μ : Mem) (v2 : Int32) {r : Int32 × Mem} (hm : jn_X12_ask_85 N Λ μ v2 = some r) : J x 6 Λ (QI x Λ r.1 r.2) 85 [(2, .int v2)] [] μ := by
  refine j_iload_n C 0 dX12_ask_85 rfl ?_
  obtain rfl := Option.some.inj hm
  exact j_ireti C dX12_ask_86
set_option maxRecDepth 20000 in
set_option maxHeartbeats 4000000 in
theorem tb_X12_ask_39 {x : Ctx} {Λ : Lay} (C : Cx x cX12_ask 6 (some .int) RX12 Λ rm_X12_ask) (N : Nat) (μ : Mem) (k39 : Int32 × Int32 × Int32 × Mem → Option (Int32 × Mem)) (v0 : Nat) (v1 : Int32) (v2 : Int32) (v3 : Int32) (v4 : Int32) (hk39 : ∀ (s : Int32 × Int32 × Int32 × Mem) (r : Int32 × Mem), k39 s = some r → J x 6 Λ (QI x Λ r.1 r.2) 39 [(0, .ref v0), (1, .int v1), (2, .int s.1), (3, .int s.2.1), (4, .int s.2.2.1)] [] (s.2.2.2)) (hv0 : inL Λ v0 11) {r : Int32 × Mem} (hm : bd_X12_ask_39 N Λ μ k39 v0 v1 v2 v3 v4 = some r) : J x 6 Λ (QI x Λ r.1 r.2) 39 [(0, .ref v0), (1, .int v1), (2, .int v2), (3, .int v3), (4, .int v4)] [] μ := by
  refine j_iload C 4 dX12_ask_39 rfl ?_
  refine j_bipush C (v := 99) dX12_ask_41 rfl ?_
  refine j_icmp_gt C (tgt := 85) dX12_ask_43 (by decide) (fun h1 => ?_) (fun h1 => ?_)
  · replace hm := if_t hm h1
    refine j_sub [2] rfl ?_
    exact tj_X12_ask_85 C _ _ _  hm
  · replace hm := if_f hm h1
    refine j_iload_n C 1 dX12_ask_46 rfl ?_
    refine j_iconst C (v := 1) dX12_ask_47 rfl ?_
    refine j_icmp_le C (tgt := 85) dX12_ask_48 (by decide) (fun h2 => ?_) (fun h2 => ?_)
    · replace hm := if_t hm h2
      refine j_sub [2] rfl ?_
      exact tj_X12_ask_85 C _ _ _  hm
    · replace hm := if_f hm h2
      refine j_aload_n C 0 dX12_ask_51 rfl ?_
      refine j_iload C 4 dX12_ask_52 rfl ?_
      obtain ⟨r3, h4, hm⟩ := bd_some hm
      refine call_I (run_LV C lk_X12_445 ⟨rfl, rfl, Nat.le_of_ble_eq_true rfl, Nat.le_of_ble_eq_true rfl⟩ (As := [.int v4]) hv0 rfl rfl (Nat.le_of_ble_eq_true rfl) dX12_ask_54 (mc_X12_partIn _ _ _ _ _ _ hv0 h4)) ?_
      refine j_istore C (lv' := [(5, .int r3.1), (0, .ref v0), (1, .int v1), (2, .int v2), (3, .int v3), (4, .int v4)]) dX12_ask_57 (by decide) rfl ?_
      refine j_iload C 0 dX12_ask_59 rfl ?_
      refine j_iload_n C 4 dX12_ask_61 rfl ?_
      refine j_icmp_ge C (tgt := 70) dX12_ask_62 (by decide) (fun h5 => ?_) (fun h5 => ?_)
      · replace hm := if_t hm h5
        refine j_iload_n C 3 dX12_ask_70 rfl ?_
        refine j_sub [1, 2, 4, 5, 0] rfl ?_
        exact tj_X12_ask_71 C _ _ _ _ _ _ _ _ _ hk39 hv0 hm
      · replace hm := if_f hm h5
        refine j_iload C 5 dX12_ask_65 rfl ?_
        refine j_goto C (tgt := 71) dX12_ask_67 (by decide) ?_
        refine j_sub [1, 2, 4, 5, 0] rfl ?_
        exact tj_X12_ask_71 C _ _ _ _ _ _ _ _ _ hk39 hv0 hm
set_option maxRecDepth 20000 in
set_option maxHeartbeats 4000000 in
theorem tl_X12_ask_39 {x : Ctx} {Λ : Lay} (C : Cx x cX12_ask 6 (some .int) RX12 Λ rm_X12_ask) (N : Nat) (v0 : Nat) (v1 : Int32) (hv0 : inL Λ v0 11) (s : Int32 × Int32 × Int32 × Mem) {r : Int32 × Mem} (hm : lp_X12_ask_39 N Λ v0 v1 s = some r) : J x 6 Λ (QI x Λ r.1 r.2) 39 [(0, .ref v0), (1, .int v1), (2, .int s.1), (3, .int s.2.1), (4, .int s.2.2.1)] [] (s.2.2.2) :=
  cw_ind (P := fun s r => J x 6 Λ (QI x Λ r.1 r.2) 39 [(0, .ref v0), (1, .int v1), (2, .int s.1), (3, .int s.2.1), (4, .int s.2.2.1)] [] (s.2.2.2)) (fun k hkk s r e => tb_X12_ask_39 C _ _ _ _ _ _ _ _ hkk hv0 e) N s r hm
set_option maxRecDepth 20000 in
set_option maxHeartbeats 4000000 in
theorem tj_X12_ask_17 {x : Ctx} {Λ : Lay} (C : Cx x cX12_ask 6 (some .int) RX12 Λ rm_X12_ask) (N : Nat) (μ : Mem) (v0 : Nat) (s0 : Nat) (s1 : Int32) (hv0 : inL Λ v0 11) (hs0 : inL Λ s0 11) {r : Int32 × Mem} (hm : jn_X12_ask_17 N Λ μ v0 s0 s1 = some r) : J x 6 Λ (QI x Λ r.1 r.2) 17 [(0, .ref v0)] [.int s1, .ref s0] μ := by
  refine j_iconst C (v := 1) dX12_ask_17 rfl ?_
  obtain ⟨r1, h2, hm⟩ := bd_some hm
  refine call_I (run_LV C lk_X12_282 ⟨rfl, rfl, Nat.le_of_ble_eq_true rfl, Nat.le_of_ble_eq_true rfl⟩ (As := [.int s1, .int 1]) hs0 rfl rfl (Nat.le_of_ble_eq_true rfl) dX12_ask_18 (mc_X12_throwsIf _ _ _ _ _ _ _ hs0 h2)) ?_
  refine j_if_eq C (tgt := 26) dX12_ask_21 (by decide) (fun h3 => ?_) (fun h3 => ?_)
  · replace hm := if_t hm h3
    refine j_aload_n C 0 dX12_ask_26 rfl ?_
    obtain ⟨r4, h5, hm⟩ := bd_some hm
    refine call_I (run_LV C lk_X12_439 ⟨rfl, rfl, Nat.le_of_ble_eq_true rfl, Nat.le_of_ble_eq_true rfl⟩ (As := []) hv0 rfl rfl (Nat.le_of_ble_eq_true rfl) dX12_ask_27 (mc_X12_laysCurves _ _ _ _ _ hv0 h5)) ?_
    refine j_istore_n C (lv' := [(1, .int r4.1), (0, .ref v0)]) dX12_ask_30 (by decide) rfl ?_
    refine j_iconst C (v := -1) dX12_ask_31 rfl ?_
    refine j_istore_n C (lv' := [(2, .int (-1)), (1, .int r4.1), (0, .ref v0)]) dX12_ask_32 (by decide) rfl ?_
    refine j_ldc C (v := 100000000) wk_1722 dX12_ask_33 ?_
    refine j_istore_n C (lv' := [(3, .int 100000000), (2, .int (-1)), (1, .int r4.1), (0, .ref v0)]) dX12_ask_35 (by decide) rfl ?_
    refine j_iconst C (v := 0) dX12_ask_36 rfl ?_
    refine j_istore C (lv' := [(4, .int 0), (3, .int 100000000), (2, .int (-1)), (1, .int r4.1), (0, .ref v0)]) dX12_ask_37 (by decide) rfl ?_
    refine j_sub [4, 3, 2, 1, 0] rfl ?_
    exact tl_X12_ask_39 C _ _ _ hv0 ((-1), 100000000, 0, r4.2) hm
  · replace hm := if_f hm h3
    refine j_iconst C (v := 0) dX12_ask_24 rfl ?_
    obtain rfl := Option.some.inj hm
    exact j_ireti C dX12_ask_25
set_option maxRecDepth 20000 in
set_option maxHeartbeats 4000000 in
theorem tm_X12_ask {x : Ctx} {Λ : Lay} (C : Cx x cX12_ask 6 (some .int) RX12 Λ rm_X12_ask) (N : Nat) (μ : Mem) (v0 : Nat) (hv0 : inL Λ v0 11) {r : Int32 × Mem} (hm : m_X12_ask N Λ μ v0 = some r) : J x 6 Λ (QI x Λ r.1 r.2) 0 [(0, .ref v0)] [] μ := by
  refine j_aload_n C 0 dX12_ask_0 rfl ?_
  obtain ⟨r1, h2, hm⟩ := bd_some hm
  refine call_V (run_LV C lk_X12_271 ⟨rfl, rfl, Nat.le_of_ble_eq_true rfl, Nat.le_of_ble_eq_true rfl⟩ (As := []) hv0 rfl rfl (Nat.le_of_ble_eq_true rfl) dX12_ask_1 (mc_X12_uses _ _ _ _ _ hv0 h2)) ?_
  refine j_aload_n C 0 dX12_ask_4 rfl ?_
  refine j_aload_n C 0 dX12_ask_5 rfl ?_
  obtain ⟨r3, h4, hm⟩ := bd_some hm
  refine call_I (run_LV C lk_X12_436 ⟨rfl, rfl, Nat.le_of_ble_eq_true rfl, Nat.le_of_ble_eq_true rfl⟩ (As := []) hv0 rfl rfl (Nat.le_of_ble_eq_true rfl) dX12_ask_6 (mc_X12_isHeights _ _ _ _ _ hv0 h4)) ?_
  refine j_if_ne C (tgt := 16) dX12_ask_9 (by decide) (fun h5 => ?_) (fun h5 => ?_)
  · replace hm := if_f hm h5
    refine j_iconst C (v := 0) dX12_ask_16 rfl ?_
    exact tj_X12_ask_17 C _ _ _ _ _ hv0 hv0 hm
  · replace hm := if_t hm h5
    refine j_iconst C (v := 1) dX12_ask_12 rfl ?_
    refine j_goto C (tgt := 17) dX12_ask_13 (by decide) ?_
    exact tj_X12_ask_17 C _ _ _ _ _ hv0 hv0 hm
set_option maxRecDepth 20000 in
set_option maxHeartbeats 4000000 in
theorem mc_X12_ask (l : Launch) (N : Nat) (Λ : Lay) (μ : Mem) (v0 : Nat) (hv0 : inL Λ v0 11) {r : Int32 × Mem} (hm : m_X12_ask N Λ μ v0 = some r) : MI l yX12_ask cX12_ask 6 (some .int) rm_X12_ask Λ [.ref v0] μ r.1 r.2 := mi_of rfl (Nat.le_of_ble_eq_true rfl) (fun x C _ => tm_X12_ask C _ _ _ hv0 hm)
abbrev rm_X12_isTouched : Room := { frames := 2, cells := 0, slots := 0, locals := 42 }
set_option maxRecDepth 20000 in
set_option maxHeartbeats 4000000 in
theorem tj_X12_isTouched_71 {x : Ctx} {Λ : Lay} (C : Cx x cX12_isTouched 3 (some .boolean) RX12 Λ rm_X12_isTouched) (N : Nat) (μ : Mem) (k26 : Int32 × Int32 → Option (Int32)) (v0 : Nat) (v2 : Int32) (s0 : Int32) (hk26 : ∀ (s : Int32 × Int32) (r : Int32), k26 s = some r → J x 3 Λ (QI x Λ r μ) 26 [(0, .ref v0), (1, .int s.1), (2, .int s.2)] [] (μ)) (hv0 : inL Λ v0 11) {r : Int32} (hm : jn_X12_isTouched_71 N Λ μ k26 v0 v2 s0 = some r) : J x 3 Λ (QI x Λ r μ) 71 [(0, .ref v0), (2, .int v2)] [.int s0] μ := by
  refine j_istore_n C (lv' := [(1, .int s0), (0, .ref v0), (2, .int v2)]) dX12_isTouched_71 (by decide) rfl ?_
  obtain ⟨y1, e2, hm⟩ := lt_some hm
  refine j_iinc C 2 (v := y1) (lv' := [(2, .int y1), (1, .int s0), (0, .ref v0)]) dX12_isTouched_72 rfl (by rw [e2]; rfl) (by decide) rfl ?_
  refine j_goto C (tgt := 26) dX12_isTouched_75 (by decide) ?_
  refine j_sub [2, 1, 0] rfl ?_
  exact hk26 (s0, y1) _ hm
set_option maxRecDepth 20000 in
set_option maxHeartbeats 4000000 in
theorem tj_X12_isTouched_70 {x : Ctx} {Λ : Lay} (C : Cx x cX12_isTouched 3 (some .boolean) RX12 Λ rm_X12_isTouched) (N : Nat) (μ : Mem) (k26 : Int32 × Int32 → Option (Int32)) (v0 : Nat) (v2 : Int32) (hk26 : ∀ (s : Int32 × Int32) (r : Int32), k26 s = some r → J x 3 Λ (QI x Λ r μ) 26 [(0, .ref v0), (1, .int s.1), (2, .int s.2)] [] (μ)) (hv0 : inL Λ v0 11) {r : Int32} (hm : jn_X12_isTouched_70 N Λ μ k26 v0 v2 = some r) : J x 3 Λ (QI x Λ r μ) 70 [(0, .ref v0), (2, .int v2)] [] μ := by
  refine j_iconst C (v := 0) dX12_isTouched_70 rfl ?_
  exact tj_X12_isTouched_71 C _ _ _ _ _ _ hk26 hv0 hm
set_option maxRecDepth 20000 in
set_option maxHeartbeats 4000000 in
theorem tj_X12_isTouched_78 {x : Ctx} {Λ : Lay} (C : Cx x cX12_isTouched 3 (some .boolean) RX12 Λ rm_X12_isTouched) (N : Nat) (μ : Mem) (v1 : Int32) {r : Int32} (hm : jn_X12_isTouched_78 N Λ μ v1 = some r) : J x 3 Λ (QI x Λ r μ) 78 [(1, .int v1)] [] μ := by
  refine j_iload_n C 0 dX12_isTouched_78 rfl ?_
  obtain ⟨h1, hm⟩ := gd_some hm
  obtain rfl := Option.some.inj hm
  exact j_iretz C h1 dX12_isTouched_79
set_option maxRecDepth 20000 in
set_option maxHeartbeats 4000000 in
theorem tb_X12_isTouched_26 {x : Ctx} {Λ : Lay} (C : Cx x cX12_isTouched 3 (some .boolean) RX12 Λ rm_X12_isTouched) (N : Nat) (μ : Mem) (k26 : Int32 × Int32 → Option (Int32)) (v0 : Nat) (v1 : Int32) (v2 : Int32) (hk26 : ∀ (s : Int32 × Int32) (r : Int32), k26 s = some r → J x 3 Λ (QI x Λ r μ) 26 [(0, .ref v0), (1, .int s.1), (2, .int s.2)] [] (μ)) (hv0 : inL Λ v0 11) {r : Int32} (hm : bd_X12_isTouched_26 N Λ μ k26 v0 v1 v2 = some r) : J x 3 Λ (QI x Λ r μ) 26 [(0, .ref v0), (1, .int v1), (2, .int v2)] [] μ := by
  refine j_iload_n C 2 dX12_isTouched_26 rfl ?_
  refine j_aload_n C 0 dX12_isTouched_27 rfl ?_
  refine j_getI C fg_X12_114_11 hv0 dX12_isTouched_28 ?_
  refine j_icmp_ge C (tgt := 78) dX12_isTouched_31 (by decide) (fun h1 => ?_) (fun h1 => ?_)
  · replace hm := if_t hm h1
    refine j_sub [1] rfl ?_
    exact tj_X12_isTouched_78 C _ _ _  hm
  · replace hm := if_f hm h1
    refine j_iload_n C 1 dX12_isTouched_34 rfl ?_
    refine j_if_eq C (tgt := 78) dX12_isTouched_35 (by decide) (fun h2 => ?_) (fun h2 => ?_)
    · replace hm := if_t hm h2
      refine j_sub [1] rfl ?_
      exact tj_X12_isTouched_78 C _ _ _  hm
    · replace hm := if_f hm h2
      refine j_aload_n C 0 dX12_isTouched_38 rfl ?_
      obtain ⟨q3, h4, hm⟩ := bd_some hm
      refine j_getR C fg_X12_29_11 hv0 (dr_spec h4).1 dX12_isTouched_39 ?_
      refine j_iload_n C 2 dX12_isTouched_42 rfl ?_
      obtain ⟨h5, hm⟩ := gd_some hm
      refine j_bald C ((dr_spec h4).2) h5 dX12_isTouched_43 ?_
      obtain ⟨r6, h7, hm⟩ := bd_some hm
      refine call_I (run_LS C ls_X12_360 ⟨rfl, rfl, Nat.le_of_ble_eq_true rfl, Nat.le_of_ble_eq_true rfl⟩ (As := [.int (μ.1 q3 v2.toNatClampNeg)]) rfl rfl (Nat.le_of_ble_eq_true rfl) dX12_isTouched_44 (mc_X12_noPlace _ _ _ _ _  h7)) ?_
      refine j_if_ne C (tgt := 70) dX12_isTouched_47 (by decide) (fun h8 => ?_) (fun h8 => ?_)
      · replace hm := if_f hm h8
        refine j_sub [0, 2] rfl ?_
        exact tj_X12_isTouched_70 C _ _ _ _ _ hk26 hv0 hm
      · replace hm := if_t hm h8
        refine j_aload_n C 0 dX12_isTouched_50 rfl ?_
        obtain ⟨q9, h10, hm⟩ := bd_some hm
        refine j_getR C fg_X12_29_11 hv0 (dr_spec h10).1 dX12_isTouched_51 ?_
        refine j_iload_n C 2 dX12_isTouched_54 rfl ?_
        refine j_iconst C (v := 1) dX12_isTouched_55 rfl ?_
        refine j_iadd C dX12_isTouched_56 ?_
        obtain ⟨h11, hm⟩ := gd_some hm
        refine j_bald C ((dr_spec h10).2) h11 dX12_isTouched_57 ?_
        refine j_iconst C (v := 0) dX12_isTouched_58 rfl ?_
        refine j_iconst C (v := 1) dX12_isTouched_59 rfl ?_
        obtain ⟨r12, h13, hm⟩ := bd_some hm
        refine call_I (run_LS C ls_X12_103 ⟨rfl, rfl, Nat.le_of_ble_eq_true rfl, Nat.le_of_ble_eq_true rfl⟩ (As := [.int (μ.1 q9 (v2 + 1).toNatClampNeg), .int 0, .int 1]) rfl rfl (Nat.le_of_ble_eq_true rfl) dX12_isTouched_60 (mc_X12_in _ _ _ _ _ _ _  h13)) ?_
        refine j_if_eq C (tgt := 70) dX12_isTouched_63 (by decide) (fun h14 => ?_) (fun h14 => ?_)
        · replace hm := if_t hm h14
          refine j_sub [0, 2] rfl ?_
          exact tj_X12_isTouched_70 C _ _ _ _ _ hk26 hv0 hm
        · replace hm := if_f hm h14
          refine j_iconst C (v := 1) dX12_isTouched_66 rfl ?_
          refine j_goto C (tgt := 71) dX12_isTouched_67 (by decide) ?_
          refine j_sub [0, 2] rfl ?_
          exact tj_X12_isTouched_71 C _ _ _ _ _ _ hk26 hv0 hm
set_option maxRecDepth 20000 in
set_option maxHeartbeats 4000000 in
theorem tl_X12_isTouched_26 {x : Ctx} {Λ : Lay} (C : Cx x cX12_isTouched 3 (some .boolean) RX12 Λ rm_X12_isTouched) (N : Nat) (μ : Mem) (v0 : Nat) (hv0 : inL Λ v0 11) (s : Int32 × Int32) {r : Int32} (hm : lp_X12_isTouched_26 N Λ μ v0 s = some r) : J x 3 Λ (QI x Λ r μ) 26 [(0, .ref v0), (1, .int s.1), (2, .int s.2)] [] (μ) :=
  cw_ind (P := fun s r => J x 3 Λ (QI x Λ r μ) 26 [(0, .ref v0), (1, .int s.1), (2, .int s.2)] [] (μ)) (fun k hkk s r e => tb_X12_isTouched_26 C _ _ _ _ _ _ hkk hv0 e) N s r hm
set_option maxRecDepth 20000 in
set_option maxHeartbeats 4000000 in
theorem tj_X12_isTouched_23 {x : Ctx} {Λ : Lay} (C : Cx x cX12_isTouched 3 (some .boolean) RX12 Λ rm_X12_isTouched) (N : Nat) (μ : Mem) (v0 : Nat) (s0 : Int32) (hv0 : inL Λ v0 11) {r : Int32} (hm : jn_X12_isTouched_23 N Λ μ v0 s0 = some r) : J x 3 Λ (QI x Λ r μ) 23 [(0, .ref v0)] [.int s0] μ := by
  refine j_istore_n C (lv' := [(1, .int s0), (0, .ref v0)]) dX12_isTouched_23 (by decide) rfl ?_
  refine j_iconst C (v := 0) dX12_isTouched_24 rfl ?_
  refine j_istore_n C (lv' := [(2, .int 0), (1, .int s0), (0, .ref v0)]) dX12_isTouched_25 (by decide) rfl ?_
  refine j_sub [2, 1, 0] rfl ?_
  exact tl_X12_isTouched_26 C _ _ _ hv0 (s0, 0) hm
set_option maxRecDepth 20000 in
set_option maxHeartbeats 4000000 in
theorem tj_X12_isTouched_22 {x : Ctx} {Λ : Lay} (C : Cx x cX12_isTouched 3 (some .boolean) RX12 Λ rm_X12_isTouched) (N : Nat) (μ : Mem) (v0 : Nat) (hv0 : inL Λ v0 11) {r : Int32} (hm : jn_X12_isTouched_22 N Λ μ v0 = some r) : J x 3 Λ (QI x Λ r μ) 22 [(0, .ref v0)] [] μ := by
  refine j_iconst C (v := 0) dX12_isTouched_22 rfl ?_
  exact tj_X12_isTouched_23 C _ _ _ _ hv0 hm
set_option maxRecDepth 20000 in
set_option maxHeartbeats 4000000 in
theorem tm_X12_isTouched {x : Ctx} {Λ : Lay} (C : Cx x cX12_isTouched 3 (some .boolean) RX12 Λ rm_X12_isTouched) (N : Nat) (μ : Mem) (v0 : Nat) (hv0 : inL Λ v0 11) {r : Int32} (hm : m_X12_isTouched N Λ μ v0 = some r) : J x 3 Λ (QI x Λ r μ) 0 [(0, .ref v0)] [] μ := by
  refine j_aload_n C 0 dX12_isTouched_0 rfl ?_
  refine j_getI C fg_X12_114_11 hv0 dX12_isTouched_1 ?_
  refine j_iconst C (v := 2) dX12_isTouched_4 rfl ?_
  refine j_irem C dX12_isTouched_5 (by decide) ?_
  refine j_if_ne C (tgt := 22) dX12_isTouched_6 (by decide) (fun h1 => ?_) (fun h1 => ?_)
  · replace hm := if_f hm h1
    exact tj_X12_isTouched_22 C _ _ _ hv0 hm
  · replace hm := if_t hm h1
    refine j_aload_n C 0 dX12_isTouched_9 rfl ?_
    refine j_getI C fg_X12_114_11 hv0 dX12_isTouched_10 ?_
    refine j_bipush C (v := 40) dX12_isTouched_13 rfl ?_
    refine j_icmp_gt C (tgt := 22) dX12_isTouched_15 (by decide) (fun h2 => ?_) (fun h2 => ?_)
    · replace hm := if_t hm h2
      exact tj_X12_isTouched_22 C _ _ _ hv0 hm
    · replace hm := if_f hm h2
      refine j_iconst C (v := 1) dX12_isTouched_18 rfl ?_
      refine j_goto C (tgt := 23) dX12_isTouched_19 (by decide) ?_
      exact tj_X12_isTouched_23 C _ _ _ _ hv0 hm
set_option maxRecDepth 20000 in
set_option maxHeartbeats 4000000 in
theorem mc_X12_isTouched (l : Launch) (N : Nat) (Λ : Lay) (μ : Mem) (v0 : Nat) (hv0 : inL Λ v0 11) {r : Int32} (hm : m_X12_isTouched N Λ μ v0 = some r) : MI l yX12_isTouched cX12_isTouched 3 (some .boolean) rm_X12_isTouched Λ [.ref v0] μ r μ := mi_of rfl (Nat.le_of_ble_eq_true rfl) (fun x C _ => tm_X12_isTouched C _ _ _ hv0 hm)
abbrev rm_X12_liesAt : Room := { frames := 1, cells := 0, slots := 0, locals := 21 }
set_option maxRecDepth 20000 in
set_option maxHeartbeats 4000000 in
theorem tm_X12_liesAt {x : Ctx} {Λ : Lay} (C : Cx x cX12_liesAt 1 (some .int) RX12 Λ rm_X12_liesAt) (N : Nat) (μ : Mem) (v0 : Int32) {r : Int32} (hm : m_X12_liesAt N Λ μ v0 = some r) : J x 1 Λ (QI x Λ r μ) 0 [(0, .int v0)] [] μ := by
  refine j_iload_n C 0 dX12_liesAt_0 rfl ?_
  refine j_bipush C (v := 12) dX12_liesAt_1 rfl ?_
  refine j_idiv C dX12_liesAt_3 (by decide) ?_
  refine j_iload_n C 0 dX12_liesAt_4 rfl ?_
  refine j_bipush C (v := 12) dX12_liesAt_5 rfl ?_
  refine j_irem C dX12_liesAt_7 (by decide) ?_
  refine j_iconst C (v := 1) dX12_liesAt_8 rfl ?_
  refine j_iadd C dX12_liesAt_9 ?_
  obtain ⟨r1, h2, hm⟩ := bd_some hm
  refine call_I (run_LS C ls_X12_92 ⟨rfl, rfl, Nat.le_of_ble_eq_true rfl, Nat.le_of_ble_eq_true rfl⟩ (As := [.int (v0 / 12), .int ((irem v0 12) + 1)]) rfl rfl (Nat.le_of_ble_eq_true rfl) dX12_liesAt_10 (mc_X12_run _ _ _ _ _ _  h2)) ?_
  obtain rfl := Option.some.inj hm
  exact j_ireti C dX12_liesAt_13
set_option maxRecDepth 20000 in
set_option maxHeartbeats 4000000 in
theorem mc_X12_liesAt (l : Launch) (N : Nat) (Λ : Lay) (μ : Mem) (v0 : Int32) {r : Int32} (hm : m_X12_liesAt N Λ μ v0 = some r) : MI l yX12_liesAt cX12_liesAt 1 (some .int) rm_X12_liesAt Λ [.int v0] μ r μ := mi_of rfl (Nat.le_of_ble_eq_true rfl) (fun x C _ => tm_X12_liesAt C _ _ _  hm)
abbrev rm_X12_wrongRows : Room := { frames := 2, cells := 0, slots := 0, locals := 41 }
set_option maxRecDepth 20000 in
set_option maxHeartbeats 4000000 in
theorem tj_X12_wrongRows_61 {x : Ctx} {Λ : Lay} (C : Cx x cX12_wrongRows 4 (some .int) RX12 Λ rm_X12_wrongRows) (N : Nat) (μ : Mem) (k23 : Int32 × Int32 → Option (Int32)) (v0 : Nat) (v1 : Int32) (v3 : Int32) (s0 : Int32) (s1 : Int32) (hk23 : ∀ (s : Int32 × Int32) (r : Int32), k23 s = some r → J x 4 Λ (QI x Λ r μ) 23 [(0, .ref v0), (1, .int v1), (2, .int s.1), (3, .int s.2)] [] (μ)) (hv0 : inL Λ v0 11) {r : Int32} (hm : jn_X12_wrongRows_61 N Λ μ k23 v0 v1 v3 s0 s1 = some r) : J x 4 Λ (QI x Λ r μ) 61 [(0, .ref v0), (1, .int v1), (3, .int v3)] [.int s1, .int s0] μ := by
  refine j_iadd C dX12_wrongRows_61 ?_
  obtain ⟨y1, e2, hm⟩ := lt_some hm
  refine j_topi e2 ?_
  refine j_istore_n C (lv' := [(2, .int y1), (0, .ref v0), (1, .int v1), (3, .int v3)]) dX12_wrongRows_62 (by decide) rfl ?_
  obtain ⟨y3, e4, hm⟩ := lt_some hm
  refine j_iinc C 3 (v := y3) (lv' := [(3, .int y3), (2, .int y1), (0, .ref v0), (1, .int v1)]) dX12_wrongRows_63 rfl (by rw [e4]; rfl) (by decide) rfl ?_
  refine j_goto C (tgt := 23) dX12_wrongRows_66 (by decide) ?_
  refine j_sub [2, 3, 1, 0] rfl ?_
  exact hk23 (y1, y3) _ hm
set_option maxRecDepth 20000 in
set_option maxHeartbeats 4000000 in
theorem tb_X12_wrongRows_23 {x : Ctx} {Λ : Lay} (C : Cx x cX12_wrongRows 4 (some .int) RX12 Λ rm_X12_wrongRows) (N : Nat) (μ : Mem) (k23 : Int32 × Int32 → Option (Int32)) (v0 : Nat) (v1 : Int32) (v2 : Int32) (v3 : Int32) (hk23 : ∀ (s : Int32 × Int32) (r : Int32), k23 s = some r → J x 4 Λ (QI x Λ r μ) 23 [(0, .ref v0), (1, .int v1), (2, .int s.1), (3, .int s.2)] [] (μ)) (hv0 : inL Λ v0 11) {r : Int32} (hm : bd_X12_wrongRows_23 N Λ μ k23 v0 v1 v2 v3 = some r) : J x 4 Λ (QI x Λ r μ) 23 [(0, .ref v0), (1, .int v1), (2, .int v2), (3, .int v3)] [] μ := by
  refine j_iload_n C 3 dX12_wrongRows_23 rfl ?_
  refine j_aload_n C 0 dX12_wrongRows_24 rfl ?_
  refine j_getI C fg_X12_114_11 hv0 dX12_wrongRows_25 ?_
  refine j_icmp_ge C (tgt := 69) dX12_wrongRows_28 (by decide) (fun h1 => ?_) (fun h1 => ?_)
  · replace hm := if_t hm h1
    refine j_iload_n C 2 dX12_wrongRows_69 rfl ?_
    obtain rfl := Option.some.inj hm
    exact j_ireti C dX12_wrongRows_70
  · replace hm := if_f hm h1
    refine j_iload_n C 2 dX12_wrongRows_31 rfl ?_
    refine j_iload_n C 1 dX12_wrongRows_32 rfl ?_
    obtain ⟨r2, h3, hm⟩ := bd_some hm
    refine call_I (run_LS C ls_X12_448 ⟨rfl, rfl, Nat.le_of_ble_eq_true rfl, Nat.le_of_ble_eq_true rfl⟩ (As := [.int v1]) rfl rfl (Nat.le_of_ble_eq_true rfl) dX12_wrongRows_33 (mc_X12_liesAt _ _ _ _ _  h3)) ?_
    refine j_aload_n C 0 dX12_wrongRows_36 rfl ?_
    obtain ⟨q4, h5, hm⟩ := bd_some hm
    refine j_getR C fg_X12_29_11 hv0 (dr_spec h5).1 dX12_wrongRows_37 ?_
    refine j_iload_n C 3 dX12_wrongRows_40 rfl ?_
    obtain ⟨h6, hm⟩ := gd_some hm
    refine j_bald C ((dr_spec h5).2) h6 dX12_wrongRows_41 ?_
    refine j_ishr C dX12_wrongRows_42 ?_
    refine j_iconst C (v := 1) dX12_wrongRows_43 rfl ?_
    refine j_iand C dX12_wrongRows_44 ?_
    refine j_aload_n C 0 dX12_wrongRows_45 rfl ?_
    obtain ⟨q7, h8, hm⟩ := bd_some hm
    refine j_getR C fg_X12_29_11 hv0 (dr_spec h8).1 dX12_wrongRows_46 ?_
    refine j_iload_n C 3 dX12_wrongRows_49 rfl ?_
    refine j_iconst C (v := 1) dX12_wrongRows_50 rfl ?_
    refine j_iadd C dX12_wrongRows_51 ?_
    obtain ⟨h9, hm⟩ := gd_some hm
    refine j_bald C ((dr_spec h8).2) h9 dX12_wrongRows_52 ?_
    refine j_icmp_ne C (tgt := 60) dX12_wrongRows_53 (by decide) (fun h10 => ?_) (fun h10 => ?_)
    · replace hm := if_f hm h10
      refine j_iconst C (v := 1) dX12_wrongRows_60 rfl ?_
      refine j_sub [0, 1, 3] rfl ?_
      exact tj_X12_wrongRows_61 C _ _ _ _ _ _ _ _ hk23 hv0 hm
    · replace hm := if_t hm h10
      refine j_iconst C (v := 0) dX12_wrongRows_56 rfl ?_
      refine j_goto C (tgt := 61) dX12_wrongRows_57 (by decide) ?_
      refine j_sub [0, 1, 3] rfl ?_
      exact tj_X12_wrongRows_61 C _ _ _ _ _ _ _ _ hk23 hv0 hm
set_option maxRecDepth 20000 in
set_option maxHeartbeats 4000000 in
theorem tl_X12_wrongRows_23 {x : Ctx} {Λ : Lay} (C : Cx x cX12_wrongRows 4 (some .int) RX12 Λ rm_X12_wrongRows) (N : Nat) (μ : Mem) (v0 : Nat) (v1 : Int32) (hv0 : inL Λ v0 11) (s : Int32 × Int32) {r : Int32} (hm : lp_X12_wrongRows_23 N Λ μ v0 v1 s = some r) : J x 4 Λ (QI x Λ r μ) 23 [(0, .ref v0), (1, .int v1), (2, .int s.1), (3, .int s.2)] [] (μ) :=
  cw_ind (P := fun s r => J x 4 Λ (QI x Λ r μ) 23 [(0, .ref v0), (1, .int v1), (2, .int s.1), (3, .int s.2)] [] (μ)) (fun k hkk s r e => tb_X12_wrongRows_23 C _ _ _ _ _ _ _ hkk hv0 e) N s r hm
set_option maxRecDepth 20000 in
set_option maxHeartbeats 4000000 in
theorem tm_X12_wrongRows {x : Ctx} {Λ : Lay} (C : Cx x cX12_wrongRows 4 (some .int) RX12 Λ rm_X12_wrongRows) (N : Nat) (μ : Mem) (v0 : Nat) (v1 : Int32) (hv0 : inL Λ v0 11) {r : Int32} (hm : m_X12_wrongRows N Λ μ v0 v1 = some r) : J x 4 Λ (QI x Λ r μ) 0 [(0, .ref v0), (1, .int v1)] [] μ := by
  refine j_iload_n C 1 dX12_wrongRows_0 rfl ?_
  refine j_bipush C (v := 12) dX12_wrongRows_1 rfl ?_
  refine j_idiv C dX12_wrongRows_3 (by decide) ?_
  refine j_iload_n C 1 dX12_wrongRows_4 rfl ?_
  refine j_bipush C (v := 12) dX12_wrongRows_5 rfl ?_
  refine j_irem C dX12_wrongRows_7 (by decide) ?_
  refine j_iadd C dX12_wrongRows_8 ?_
  refine j_iconst C (v := 1) dX12_wrongRows_9 rfl ?_
  refine j_iadd C dX12_wrongRows_10 ?_
  refine j_bipush C (v := 24) dX12_wrongRows_11 rfl ?_
  refine j_icmp_le C (tgt := 19) dX12_wrongRows_13 (by decide) (fun h1 => ?_) (fun h1 => ?_)
  · replace hm := if_t hm h1
    refine j_iconst C (v := 0) dX12_wrongRows_19 rfl ?_
    refine j_istore_n C (lv' := [(2, .int 0), (0, .ref v0), (1, .int v1)]) dX12_wrongRows_20 (by decide) rfl ?_
    refine j_iconst C (v := 0) dX12_wrongRows_21 rfl ?_
    refine j_istore_n C (lv' := [(3, .int 0), (2, .int 0), (0, .ref v0), (1, .int v1)]) dX12_wrongRows_22 (by decide) rfl ?_
    refine j_sub [2, 3, 1, 0] rfl ?_
    exact tl_X12_wrongRows_23 C _ _ _ _ hv0 (0, 0) hm
  · replace hm := if_f hm h1
    refine j_ldc C (v := 100000000) wk_1722 dX12_wrongRows_16 ?_
    obtain rfl := Option.some.inj hm
    exact j_ireti C dX12_wrongRows_18
set_option maxRecDepth 20000 in
set_option maxHeartbeats 4000000 in
theorem mc_X12_wrongRows (l : Launch) (N : Nat) (Λ : Lay) (μ : Mem) (v0 : Nat) (v1 : Int32) (hv0 : inL Λ v0 11) {r : Int32} (hm : m_X12_wrongRows N Λ μ v0 v1 = some r) : MI l yX12_wrongRows cX12_wrongRows 4 (some .int) rm_X12_wrongRows Λ [.ref v0, .int v1] μ r μ := mi_of rfl (Nat.le_of_ble_eq_true rfl) (fun x C _ => tm_X12_wrongRows C _ _ _ _ hv0 hm)
abbrev rm_X12_manyLies : Room := { frames := 3, cells := 0, slots := 0, locals := 64 }
set_option maxRecDepth 20000 in
set_option maxHeartbeats 4000000 in
theorem tj_X12_manyLies_42 {x : Ctx} {Λ : Lay} (C : Cx x cX12_manyLies 4 (some .int) RX12 Λ rm_X12_manyLies) (N : Nat) (μ : Mem) (k4 : Int32 × Int32 → Option (Int32)) (v0 : Nat) (v1 : Int32) (v3 : Int32) (s0 : Int32) (s1 : Int32) (hk4 : ∀ (s : Int32 × Int32) (r : Int32), k4 s = some r → J x 4 Λ (QI x Λ r μ) 4 [(0, .ref v0), (1, .int v1), (2, .int s.1), (3, .int s.2)] [] (μ)) (hv0 : inL Λ v0 11) {r : Int32} (hm : jn_X12_manyLies_42 N Λ μ k4 v0 v1 v3 s0 s1 = some r) : J x 4 Λ (QI x Λ r μ) 42 [(0, .ref v0), (1, .int v1), (3, .int v3)] [.int s1, .int s0] μ := by
  refine j_iadd C dX12_manyLies_42 ?_
  obtain ⟨y1, e2, hm⟩ := lt_some hm
  refine j_topi e2 ?_
  refine j_istore_n C (lv' := [(2, .int y1), (0, .ref v0), (1, .int v1), (3, .int v3)]) dX12_manyLies_43 (by decide) rfl ?_
  obtain ⟨y3, e4, hm⟩ := lt_some hm
  refine j_iinc C 3 (v := y3) (lv' := [(3, .int y3), (2, .int y1), (0, .ref v0), (1, .int v1)]) dX12_manyLies_44 rfl (by rw [e4]; rfl) (by decide) rfl ?_
  refine j_goto C (tgt := 4) dX12_manyLies_47 (by decide) ?_
  refine j_sub [2, 3, 1, 0] rfl ?_
  exact hk4 (y1, y3) _ hm
set_option maxRecDepth 20000 in
set_option maxHeartbeats 4000000 in
theorem tj_X12_manyLies_37 {x : Ctx} {Λ : Lay} (C : Cx x cX12_manyLies 4 (some .int) RX12 Λ rm_X12_manyLies) (N : Nat) (μ : Mem) (k4 : Int32 × Int32 → Option (Int32)) (v0 : Nat) (v1 : Int32) (v3 : Int32) (s0 : Int32) (hk4 : ∀ (s : Int32 × Int32) (r : Int32), k4 s = some r → J x 4 Λ (QI x Λ r μ) 4 [(0, .ref v0), (1, .int v1), (2, .int s.1), (3, .int s.2)] [] (μ)) (hv0 : inL Λ v0 11) {r : Int32} (hm : jn_X12_manyLies_37 N Λ μ k4 v0 v1 v3 s0 = some r) : J x 4 Λ (QI x Λ r μ) 37 [(0, .ref v0), (1, .int v1), (3, .int v3)] [.int s0] μ := by
  refine j_iconst C (v := 1) dX12_manyLies_37 rfl ?_
  refine j_goto C (tgt := 42) dX12_manyLies_38 (by decide) ?_
  exact tj_X12_manyLies_42 C _ _ _ _ _ _ _ _ hk4 hv0 hm
set_option maxRecDepth 20000 in
set_option maxHeartbeats 4000000 in
theorem tj_X12_manyLies_41 {x : Ctx} {Λ : Lay} (C : Cx x cX12_manyLies 4 (some .int) RX12 Λ rm_X12_manyLies) (N : Nat) (μ : Mem) (k4 : Int32 × Int32 → Option (Int32)) (v0 : Nat) (v1 : Int32) (v3 : Int32) (s0 : Int32) (hk4 : ∀ (s : Int32 × Int32) (r : Int32), k4 s = some r → J x 4 Λ (QI x Λ r μ) 4 [(0, .ref v0), (1, .int v1), (2, .int s.1), (3, .int s.2)] [] (μ)) (hv0 : inL Λ v0 11) {r : Int32} (hm : jn_X12_manyLies_41 N Λ μ k4 v0 v1 v3 s0 = some r) : J x 4 Λ (QI x Λ r μ) 41 [(0, .ref v0), (1, .int v1), (3, .int v3)] [.int s0] μ := by
  refine j_iconst C (v := 0) dX12_manyLies_41 rfl ?_
  exact tj_X12_manyLies_42 C _ _ _ _ _ _ _ _ hk4 hv0 hm
set_option maxRecDepth 20000 in
set_option maxHeartbeats 4000000 in
theorem tb_X12_manyLies_4 {x : Ctx} {Λ : Lay} (C : Cx x cX12_manyLies 4 (some .int) RX12 Λ rm_X12_manyLies) (N : Nat) (μ : Mem) (k4 : Int32 × Int32 → Option (Int32)) (v0 : Nat) (v1 : Int32) (v2 : Int32) (v3 : Int32) (hk4 : ∀ (s : Int32 × Int32) (r : Int32), k4 s = some r → J x 4 Λ (QI x Λ r μ) 4 [(0, .ref v0), (1, .int v1), (2, .int s.1), (3, .int s.2)] [] (μ)) (hv0 : inL Λ v0 11) {r : Int32} (hm : bd_X12_manyLies_4 N Λ μ k4 v0 v1 v2 v3 = some r) : J x 4 Λ (QI x Λ r μ) 4 [(0, .ref v0), (1, .int v1), (2, .int v2), (3, .int v3)] [] μ := by
  refine j_iload_n C 3 dX12_manyLies_4 rfl ?_
  refine j_sipush C (v := 288) dX12_manyLies_5 rfl ?_
  refine j_icmp_ge C (tgt := 50) dX12_manyLies_8 (by decide) (fun h1 => ?_) (fun h1 => ?_)
  · replace hm := if_t hm h1
    refine j_iload_n C 2 dX12_manyLies_50 rfl ?_
    obtain rfl := Option.some.inj hm
    exact j_ireti C dX12_manyLies_51
  · replace hm := if_f hm h1
    refine j_iload_n C 2 dX12_manyLies_11 rfl ?_
    refine j_aload_n C 0 dX12_manyLies_12 rfl ?_
    refine j_iload_n C 3 dX12_manyLies_13 rfl ?_
    obtain ⟨r2, h3, hm⟩ := bd_some hm
    refine call_I (run_LV C lk_X12_451 ⟨rfl, rfl, Nat.le_of_ble_eq_true rfl, Nat.le_of_ble_eq_true rfl⟩ (As := [.int v3]) hv0 rfl rfl (Nat.le_of_ble_eq_true rfl) dX12_manyLies_14 (mc_X12_wrongRows _ _ _ _ _ _ hv0 h3)) ?_
    refine j_iconst C (v := 2) dX12_manyLies_17 rfl ?_
    refine j_icmp_ge C (tgt := 41) dX12_manyLies_18 (by decide) (fun h4 => ?_) (fun h4 => ?_)
    · replace hm := if_t hm h4
      refine j_sub [0, 1, 3] rfl ?_
      exact tj_X12_manyLies_41 C _ _ _ _ _ _ _ hk4 hv0 hm
    · replace hm := if_f hm h4
      refine j_iload_n C 1 dX12_manyLies_21 rfl ?_
      refine j_iconst C (v := -1) dX12_manyLies_22 rfl ?_
      refine j_icmp_eq C (tgt := 37) dX12_manyLies_23 (by decide) (fun h5 => ?_) (fun h5 => ?_)
      · replace hm := if_t hm h5
        refine j_sub [0, 1, 3] rfl ?_
        exact tj_X12_manyLies_37 C _ _ _ _ _ _ _ hk4 hv0 hm
      · replace hm := if_f hm h5
        refine j_iload_n C 3 dX12_manyLies_26 rfl ?_
        obtain ⟨r6, h7, hm⟩ := bd_some hm
        refine call_I (run_LS C ls_X12_448 ⟨rfl, rfl, Nat.le_of_ble_eq_true rfl, Nat.le_of_ble_eq_true rfl⟩ (As := [.int v3]) rfl rfl (Nat.le_of_ble_eq_true rfl) dX12_manyLies_27 (mc_X12_liesAt _ _ _ _ _  h7)) ?_
        refine j_iload_n C 1 dX12_manyLies_30 rfl ?_
        obtain ⟨r8, h9, hm⟩ := bd_some hm
        refine call_I (run_LS C ls_X12_306 ⟨rfl, rfl, Nat.le_of_ble_eq_true rfl, Nat.le_of_ble_eq_true rfl⟩ (As := [.int r6, .int v1]) rfl rfl (Nat.le_of_ble_eq_true rfl) dX12_manyLies_31 (mc_X12_has _ _ _ _ _ _  h9)) ?_
        refine j_if_eq C (tgt := 41) dX12_manyLies_34 (by decide) (fun h10 => ?_) (fun h10 => ?_)
        · replace hm := if_t hm h10
          refine j_sub [0, 1, 3] rfl ?_
          exact tj_X12_manyLies_41 C _ _ _ _ _ _ _ hk4 hv0 hm
        · replace hm := if_f hm h10
          refine j_sub [0, 1, 3] rfl ?_
          exact tj_X12_manyLies_37 C _ _ _ _ _ _ _ hk4 hv0 hm
set_option maxRecDepth 20000 in
set_option maxHeartbeats 4000000 in
theorem tl_X12_manyLies_4 {x : Ctx} {Λ : Lay} (C : Cx x cX12_manyLies 4 (some .int) RX12 Λ rm_X12_manyLies) (N : Nat) (μ : Mem) (v0 : Nat) (v1 : Int32) (hv0 : inL Λ v0 11) (s : Int32 × Int32) {r : Int32} (hm : lp_X12_manyLies_4 N Λ μ v0 v1 s = some r) : J x 4 Λ (QI x Λ r μ) 4 [(0, .ref v0), (1, .int v1), (2, .int s.1), (3, .int s.2)] [] (μ) :=
  cw_ind (P := fun s r => J x 4 Λ (QI x Λ r μ) 4 [(0, .ref v0), (1, .int v1), (2, .int s.1), (3, .int s.2)] [] (μ)) (fun k hkk s r e => tb_X12_manyLies_4 C _ _ _ _ _ _ _ hkk hv0 e) N s r hm
set_option maxRecDepth 20000 in
set_option maxHeartbeats 4000000 in
theorem tm_X12_manyLies {x : Ctx} {Λ : Lay} (C : Cx x cX12_manyLies 4 (some .int) RX12 Λ rm_X12_manyLies) (N : Nat) (μ : Mem) (v0 : Nat) (v1 : Int32) (hv0 : inL Λ v0 11) {r : Int32} (hm : m_X12_manyLies N Λ μ v0 v1 = some r) : J x 4 Λ (QI x Λ r μ) 0 [(0, .ref v0), (1, .int v1)] [] μ := by
  refine j_iconst C (v := 0) dX12_manyLies_0 rfl ?_
  refine j_istore_n C (lv' := [(2, .int 0), (0, .ref v0), (1, .int v1)]) dX12_manyLies_1 (by decide) rfl ?_
  refine j_iconst C (v := 0) dX12_manyLies_2 rfl ?_
  refine j_istore_n C (lv' := [(3, .int 0), (2, .int 0), (0, .ref v0), (1, .int v1)]) dX12_manyLies_3 (by decide) rfl ?_
  refine j_sub [2, 3, 1, 0] rfl ?_
  exact tl_X12_manyLies_4 C _ _ _ _ hv0 (0, 0) hm
set_option maxRecDepth 20000 in
set_option maxHeartbeats 4000000 in
theorem mc_X12_manyLies (l : Launch) (N : Nat) (Λ : Lay) (μ : Mem) (v0 : Nat) (v1 : Int32) (hv0 : inL Λ v0 11) {r : Int32} (hm : m_X12_manyLies N Λ μ v0 v1 = some r) : MI l yX12_manyLies cX12_manyLies 4 (some .int) rm_X12_manyLies Λ [.ref v0, .int v1] μ r μ := mi_of rfl (Nat.le_of_ble_eq_true rfl) (fun x C _ => tm_X12_manyLies C _ _ _ _ hv0 hm)
abbrev rm_X12_lies : Room := { frames := 4, cells := 0, slots := 0, locals := 87 }
set_option maxRecDepth 20000 in
set_option maxHeartbeats 4000000 in
theorem tj_X12_lies_33 {x : Ctx} {Λ : Lay} (C : Cx x cX12_lies 1 (some .int) RX12 Λ rm_X12_lies) (N : Nat) (μ : Mem) (s0 : Int32) {r : Int32 × Mem} (hm : jn_X12_lies_33 N Λ μ s0 = some r) : J x 1 Λ (QI x Λ r.1 r.2) 33 [] [.int s0] μ := by
  obtain rfl := Option.some.inj hm
  exact j_ireti C dX12_lies_33
set_option maxRecDepth 20000 in
set_option maxHeartbeats 4000000 in
theorem tj_X12_lies_17 {x : Ctx} {Λ : Lay} (C : Cx x cX12_lies 1 (some .int) RX12 Λ rm_X12_lies) (N : Nat) (μ : Mem) (v0 : Nat) (s0 : Nat) (s1 : Int32) (hv0 : inL Λ v0 11) (hs0 : inL Λ s0 11) {r : Int32 × Mem} (hm : jn_X12_lies_17 N Λ μ v0 s0 s1 = some r) : J x 1 Λ (QI x Λ r.1 r.2) 17 [(0, .ref v0)] [.int s1, .ref s0] μ := by
  refine j_iconst C (v := 1) dX12_lies_17 rfl ?_
  obtain ⟨r1, h2, hm⟩ := bd_some hm
  refine call_I (run_LV C lk_X12_282 ⟨rfl, rfl, Nat.le_of_ble_eq_true rfl, Nat.le_of_ble_eq_true rfl⟩ (As := [.int s1, .int 1]) hs0 rfl rfl (Nat.le_of_ble_eq_true rfl) dX12_lies_18 (mc_X12_throwsIf _ _ _ _ _ _ _ hs0 h2)) ?_
  refine j_if_eq C (tgt := 28) dX12_lies_21 (by decide) (fun h3 => ?_) (fun h3 => ?_)
  · replace hm := if_t hm h3
    refine j_aload_n C 0 dX12_lies_28 rfl ?_
    refine j_iconst C (v := -1) dX12_lies_29 rfl ?_
    obtain ⟨r4, h5, hm⟩ := bd_some hm
    refine call_I (run_LV C lk_X12_457 ⟨rfl, rfl, Nat.le_of_ble_eq_true rfl, Nat.le_of_ble_eq_true rfl⟩ (As := [.int (-1)]) hv0 rfl rfl (Nat.le_of_ble_eq_true rfl) dX12_lies_30 (mc_X12_manyLies _ _ _ _ _ _ hv0 h5)) ?_
    refine j_sub [] rfl ?_
    exact tj_X12_lies_33 C _ _ _  hm
  · replace hm := if_f hm h3
    refine j_iconst C (v := 0) dX12_lies_24 rfl ?_
    refine j_goto C (tgt := 33) dX12_lies_25 (by decide) ?_
    refine j_sub [] rfl ?_
    exact tj_X12_lies_33 C _ _ _  hm
set_option maxRecDepth 20000 in
set_option maxHeartbeats 4000000 in
theorem tm_X12_lies {x : Ctx} {Λ : Lay} (C : Cx x cX12_lies 1 (some .int) RX12 Λ rm_X12_lies) (N : Nat) (μ : Mem) (v0 : Nat) (hv0 : inL Λ v0 11) {r : Int32 × Mem} (hm : m_X12_lies N Λ μ v0 = some r) : J x 1 Λ (QI x Λ r.1 r.2) 0 [(0, .ref v0)] [] μ := by
  refine j_aload_n C 0 dX12_lies_0 rfl ?_
  obtain ⟨r1, h2, hm⟩ := bd_some hm
  refine call_V (run_LV C lk_X12_271 ⟨rfl, rfl, Nat.le_of_ble_eq_true rfl, Nat.le_of_ble_eq_true rfl⟩ (As := []) hv0 rfl rfl (Nat.le_of_ble_eq_true rfl) dX12_lies_1 (mc_X12_uses _ _ _ _ _ hv0 h2)) ?_
  refine j_aload_n C 0 dX12_lies_4 rfl ?_
  refine j_aload_n C 0 dX12_lies_5 rfl ?_
  obtain ⟨r3, h4, hm⟩ := bd_some hm
  refine call_I (run_LV C lk_X12_454 ⟨rfl, rfl, Nat.le_of_ble_eq_true rfl, Nat.le_of_ble_eq_true rfl⟩ (As := []) hv0 rfl rfl (Nat.le_of_ble_eq_true rfl) dX12_lies_6 (mc_X12_isTouched _ _ _ _ _ hv0 h4)) ?_
  refine j_if_ne C (tgt := 16) dX12_lies_9 (by decide) (fun h5 => ?_) (fun h5 => ?_)
  · replace hm := if_f hm h5
    refine j_iconst C (v := 0) dX12_lies_16 rfl ?_
    exact tj_X12_lies_17 C _ _ _ _ _ hv0 hv0 hm
  · replace hm := if_t hm h5
    refine j_iconst C (v := 1) dX12_lies_12 rfl ?_
    refine j_goto C (tgt := 17) dX12_lies_13 (by decide) ?_
    exact tj_X12_lies_17 C _ _ _ _ _ hv0 hv0 hm
set_option maxRecDepth 20000 in
set_option maxHeartbeats 4000000 in
theorem mc_X12_lies (l : Launch) (N : Nat) (Λ : Lay) (μ : Mem) (v0 : Nat) (hv0 : inL Λ v0 11) {r : Int32 × Mem} (hm : m_X12_lies N Λ μ v0 = some r) : MI l yX12_lies cX12_lies 1 (some .int) rm_X12_lies Λ [.ref v0] μ r.1 r.2 := mi_of rfl (Nat.le_of_ble_eq_true rfl) (fun x C _ => tm_X12_lies C _ _ _ hv0 hm)
abbrev rm_X12_likely : Room := { frames := 3, cells := 0, slots := 0, locals := 64 }
set_option maxRecDepth 20000 in
set_option maxHeartbeats 4000000 in
theorem tj_X12_likely_57 {x : Ctx} {Λ : Lay} (C : Cx x cX12_likely 5 (some .int) RX12 Λ rm_X12_likely) (N : Nat) (μ : Mem) (k32 : Int32 × Int32 × Int32 × Mem → Option (Int32 × Mem)) (v0 : Nat) (v2 : Int32) (v3 : Int32) (v4 : Int32) (s0 : Int32) (hk32 : ∀ (s : Int32 × Int32 × Int32 × Mem) (r : Int32 × Mem), k32 s = some r → J x 5 Λ (QI x Λ r.1 r.2) 32 [(0, .ref v0), (1, .int s.1), (2, .int s.2.1), (3, .int s.2.2.1)] [] (s.2.2.2)) (hv0 : inL Λ v0 11) {r : Int32 × Mem} (hm : jn_X12_likely_57 N Λ μ k32 v0 v2 v3 v4 s0 = some r) : J x 5 Λ (QI x Λ r.1 r.2) 57 [(0, .ref v0), (2, .int v2), (3, .int v3), (4, .int v4)] [.int s0] μ := by
  refine j_istore_n C (lv' := [(1, .int s0), (0, .ref v0), (2, .int v2), (3, .int v3), (4, .int v4)]) dX12_likely_57 (by decide) rfl ?_
  refine j_iload_n C 2 dX12_likely_58 rfl ?_
  refine j_iload C 4 dX12_likely_59 rfl ?_
  refine j_mmin C wk_1928 ⟨Nat.le_of_ble_eq_true rfl, Nat.le_of_ble_eq_true rfl⟩ dX12_likely_61 ?_
  obtain ⟨y1, e2, hm⟩ := lt_some hm
  refine j_topi e2 ?_
  refine j_istore_n C (lv' := [(2, .int y1), (1, .int s0), (0, .ref v0), (3, .int v3), (4, .int v4)]) dX12_likely_64 (by decide) rfl ?_
  obtain ⟨y3, e4, hm⟩ := lt_some hm
  refine j_iinc C 3 (v := y3) (lv' := [(3, .int y3), (2, .int y1), (1, .int s0), (0, .ref v0), (4, .int v4)]) dX12_likely_65 rfl (by rw [e4]; rfl) (by decide) rfl ?_
  refine j_goto C (tgt := 32) dX12_likely_68 (by decide) ?_
  refine j_sub [3, 2, 1, 0] rfl ?_
  exact hk32 (s0, y1, y3, μ) _ hm
set_option maxRecDepth 20000 in
set_option maxHeartbeats 4000000 in
theorem tb_X12_likely_32 {x : Ctx} {Λ : Lay} (C : Cx x cX12_likely 5 (some .int) RX12 Λ rm_X12_likely) (N : Nat) (μ : Mem) (k32 : Int32 × Int32 × Int32 × Mem → Option (Int32 × Mem)) (v0 : Nat) (v1 : Int32) (v2 : Int32) (v3 : Int32) (hk32 : ∀ (s : Int32 × Int32 × Int32 × Mem) (r : Int32 × Mem), k32 s = some r → J x 5 Λ (QI x Λ r.1 r.2) 32 [(0, .ref v0), (1, .int s.1), (2, .int s.2.1), (3, .int s.2.2.1)] [] (s.2.2.2)) (hv0 : inL Λ v0 11) {r : Int32 × Mem} (hm : bd_X12_likely_32 N Λ μ k32 v0 v1 v2 v3 = some r) : J x 5 Λ (QI x Λ r.1 r.2) 32 [(0, .ref v0), (1, .int v1), (2, .int v2), (3, .int v3)] [] μ := by
  refine j_iload_n C 3 dX12_likely_32 rfl ?_
  refine j_sipush C (v := 288) dX12_likely_33 rfl ?_
  refine j_icmp_ge C (tgt := 71) dX12_likely_36 (by decide) (fun h1 => ?_) (fun h1 => ?_)
  · replace hm := if_t hm h1
    refine j_iload_n C 1 dX12_likely_71 rfl ?_
    obtain rfl := Option.some.inj hm
    exact j_ireti C dX12_likely_72
  · replace hm := if_f hm h1
    refine j_aload_n C 0 dX12_likely_39 rfl ?_
    refine j_iload_n C 3 dX12_likely_40 rfl ?_
    obtain ⟨r2, h3, hm⟩ := bd_some hm
    refine call_I (run_LV C lk_X12_451 ⟨rfl, rfl, Nat.le_of_ble_eq_true rfl, Nat.le_of_ble_eq_true rfl⟩ (As := [.int v3]) hv0 rfl rfl (Nat.le_of_ble_eq_true rfl) dX12_likely_41 (mc_X12_wrongRows _ _ _ _ _ _ hv0 h3)) ?_
    refine j_istore C (lv' := [(4, .int r2), (0, .ref v0), (1, .int v1), (2, .int v2), (3, .int v3)]) dX12_likely_44 (by decide) rfl ?_
    refine j_iload C 0 dX12_likely_46 rfl ?_
    refine j_iload_n C 3 dX12_likely_48 rfl ?_
    refine j_icmp_ge C (tgt := 56) dX12_likely_49 (by decide) (fun h4 => ?_) (fun h4 => ?_)
    · replace hm := if_t hm h4
      refine j_iload_n C 2 dX12_likely_56 rfl ?_
      refine j_sub [1, 3, 4, 0] rfl ?_
      exact tj_X12_likely_57 C _ _ _ _ _ _ _ _ hk32 hv0 hm
    · replace hm := if_f hm h4
      refine j_iload_n C 4 dX12_likely_52 rfl ?_
      refine j_goto C (tgt := 57) dX12_likely_53 (by decide) ?_
      refine j_sub [1, 3, 4, 0] rfl ?_
      exact tj_X12_likely_57 C _ _ _ _ _ _ _ _ hk32 hv0 hm
set_option maxRecDepth 20000 in
set_option maxHeartbeats 4000000 in
theorem tl_X12_likely_32 {x : Ctx} {Λ : Lay} (C : Cx x cX12_likely 5 (some .int) RX12 Λ rm_X12_likely) (N : Nat) (v0 : Nat) (hv0 : inL Λ v0 11) (s : Int32 × Int32 × Int32 × Mem) {r : Int32 × Mem} (hm : lp_X12_likely_32 N Λ v0 s = some r) : J x 5 Λ (QI x Λ r.1 r.2) 32 [(0, .ref v0), (1, .int s.1), (2, .int s.2.1), (3, .int s.2.2.1)] [] (s.2.2.2) :=
  cw_ind (P := fun s r => J x 5 Λ (QI x Λ r.1 r.2) 32 [(0, .ref v0), (1, .int s.1), (2, .int s.2.1), (3, .int s.2.2.1)] [] (s.2.2.2)) (fun k hkk s r e => tb_X12_likely_32 C _ _ _ _ _ _ _ hkk hv0 e) N s r hm
set_option maxRecDepth 20000 in
set_option maxHeartbeats 4000000 in
theorem tj_X12_likely_17 {x : Ctx} {Λ : Lay} (C : Cx x cX12_likely 5 (some .int) RX12 Λ rm_X12_likely) (N : Nat) (μ : Mem) (v0 : Nat) (s0 : Nat) (s1 : Int32) (hv0 : inL Λ v0 11) (hs0 : inL Λ s0 11) {r : Int32 × Mem} (hm : jn_X12_likely_17 N Λ μ v0 s0 s1 = some r) : J x 5 Λ (QI x Λ r.1 r.2) 17 [(0, .ref v0)] [.int s1, .ref s0] μ := by
  refine j_iconst C (v := 1) dX12_likely_17 rfl ?_
  obtain ⟨r1, h2, hm⟩ := bd_some hm
  refine call_I (run_LV C lk_X12_282 ⟨rfl, rfl, Nat.le_of_ble_eq_true rfl, Nat.le_of_ble_eq_true rfl⟩ (As := [.int s1, .int 1]) hs0 rfl rfl (Nat.le_of_ble_eq_true rfl) dX12_likely_18 (mc_X12_throwsIf _ _ _ _ _ _ _ hs0 h2)) ?_
  refine j_if_eq C (tgt := 26) dX12_likely_21 (by decide) (fun h3 => ?_) (fun h3 => ?_)
  · replace hm := if_t hm h3
    refine j_iconst C (v := -1) dX12_likely_26 rfl ?_
    refine j_istore_n C (lv' := [(1, .int (-1)), (0, .ref v0)]) dX12_likely_27 (by decide) rfl ?_
    refine j_iconst C (v := 2) dX12_likely_28 rfl ?_
    refine j_istore_n C (lv' := [(2, .int 2), (1, .int (-1)), (0, .ref v0)]) dX12_likely_29 (by decide) rfl ?_
    refine j_iconst C (v := 0) dX12_likely_30 rfl ?_
    refine j_istore_n C (lv' := [(3, .int 0), (2, .int 2), (1, .int (-1)), (0, .ref v0)]) dX12_likely_31 (by decide) rfl ?_
    refine j_sub [3, 2, 1, 0] rfl ?_
    exact tl_X12_likely_32 C _ _ hv0 ((-1), 2, 0, r1.2) hm
  · replace hm := if_f hm h3
    refine j_iconst C (v := 0) dX12_likely_24 rfl ?_
    obtain rfl := Option.some.inj hm
    exact j_ireti C dX12_likely_25
set_option maxRecDepth 20000 in
set_option maxHeartbeats 4000000 in
theorem tm_X12_likely {x : Ctx} {Λ : Lay} (C : Cx x cX12_likely 5 (some .int) RX12 Λ rm_X12_likely) (N : Nat) (μ : Mem) (v0 : Nat) (hv0 : inL Λ v0 11) {r : Int32 × Mem} (hm : m_X12_likely N Λ μ v0 = some r) : J x 5 Λ (QI x Λ r.1 r.2) 0 [(0, .ref v0)] [] μ := by
  refine j_aload_n C 0 dX12_likely_0 rfl ?_
  obtain ⟨r1, h2, hm⟩ := bd_some hm
  refine call_V (run_LV C lk_X12_271 ⟨rfl, rfl, Nat.le_of_ble_eq_true rfl, Nat.le_of_ble_eq_true rfl⟩ (As := []) hv0 rfl rfl (Nat.le_of_ble_eq_true rfl) dX12_likely_1 (mc_X12_uses _ _ _ _ _ hv0 h2)) ?_
  refine j_aload_n C 0 dX12_likely_4 rfl ?_
  refine j_aload_n C 0 dX12_likely_5 rfl ?_
  obtain ⟨r3, h4, hm⟩ := bd_some hm
  refine call_I (run_LV C lk_X12_454 ⟨rfl, rfl, Nat.le_of_ble_eq_true rfl, Nat.le_of_ble_eq_true rfl⟩ (As := []) hv0 rfl rfl (Nat.le_of_ble_eq_true rfl) dX12_likely_6 (mc_X12_isTouched _ _ _ _ _ hv0 h4)) ?_
  refine j_if_ne C (tgt := 16) dX12_likely_9 (by decide) (fun h5 => ?_) (fun h5 => ?_)
  · replace hm := if_f hm h5
    refine j_iconst C (v := 0) dX12_likely_16 rfl ?_
    exact tj_X12_likely_17 C _ _ _ _ _ hv0 hv0 hm
  · replace hm := if_t hm h5
    refine j_iconst C (v := 1) dX12_likely_12 rfl ?_
    refine j_goto C (tgt := 17) dX12_likely_13 (by decide) ?_
    exact tj_X12_likely_17 C _ _ _ _ _ hv0 hv0 hm
set_option maxRecDepth 20000 in
set_option maxHeartbeats 4000000 in
theorem mc_X12_likely (l : Launch) (N : Nat) (Λ : Lay) (μ : Mem) (v0 : Nat) (hv0 : inL Λ v0 11) {r : Int32 × Mem} (hm : m_X12_likely N Λ μ v0 = some r) : MI l yX12_likely cX12_likely 5 (some .int) rm_X12_likely Λ [.ref v0] μ r.1 r.2 := mi_of rfl (Nat.le_of_ble_eq_true rfl) (fun x C _ => tm_X12_likely C _ _ _ hv0 hm)
abbrev rm_X12_sound : Room := { frames := 4, cells := 0, slots := 0, locals := 87 }
set_option maxRecDepth 20000 in
set_option maxHeartbeats 4000000 in
theorem tj_X12_sound_83 {x : Ctx} {Λ : Lay} (C : Cx x cX12_sound 7 (some .int) RX12 Λ rm_X12_sound) (N : Nat) (μ : Mem) (k40 : Int32 × Int32 × Int32 × Mem → Option (Int32 × Mem)) (v0 : Nat) (v1 : Int32) (v3 : Int32) (v4 : Int32) (v6 : Int32) (s0 : Int32) (hk40 : ∀ (s : Int32 × Int32 × Int32 × Mem) (r : Int32 × Mem), k40 s = some r → J x 7 Λ (QI x Λ r.1 r.2) 40 [(0, .ref v0), (1, .int v1), (2, .int s.1), (3, .int s.2.1), (4, .int s.2.2.1)] [] (s.2.2.2)) (hv0 : inL Λ v0 11) {r : Int32 × Mem} (hm : jn_X12_sound_83 N Λ μ k40 v0 v1 v3 v4 v6 s0 = some r) : J x 7 Λ (QI x Λ r.1 r.2) 83 [(0, .ref v0), (1, .int v1), (3, .int v3), (4, .int v4), (6, .int v6)] [.int s0] μ := by
  refine j_istore_n C (lv' := [(2, .int s0), (0, .ref v0), (1, .int v1), (3, .int v3), (4, .int v4), (6, .int v6)]) dX12_sound_83 (by decide) rfl ?_
  refine j_iload_n C 3 dX12_sound_84 rfl ?_
  refine j_iload C 5 dX12_sound_85 rfl ?_
  refine j_mmin C wk_1928 ⟨Nat.le_of_ble_eq_true rfl, Nat.le_of_ble_eq_true rfl⟩ dX12_sound_87 ?_
  obtain ⟨y1, e2, hm⟩ := lt_some hm
  refine j_topi e2 ?_
  refine j_istore_n C (lv' := [(3, .int y1), (2, .int s0), (0, .ref v0), (1, .int v1), (4, .int v4), (6, .int v6)]) dX12_sound_90 (by decide) rfl ?_
  obtain ⟨y3, e4, hm⟩ := lt_some hm
  refine j_iinc C 4 (v := y3) (lv' := [(4, .int y3), (3, .int y1), (2, .int s0), (0, .ref v0), (1, .int v1), (6, .int v6)]) dX12_sound_91 rfl (by rw [e4]; rfl) (by decide) rfl ?_
  refine j_goto C (tgt := 40) dX12_sound_94 (by decide) ?_
  refine j_sub [3, 4, 2, 1, 0] rfl ?_
  exact hk40 (s0, y1, y3, μ) _ hm
set_option maxRecDepth 20000 in
set_option maxHeartbeats 4000000 in
theorem tj_X12_sound_97 {x : Ctx} {Λ : Lay} (C : Cx x cX12_sound 7 (some .int) RX12 Λ rm_X12_sound) (N : Nat) (μ : Mem) (v2 : Int32) {r : Int32 × Mem} (hm : jn_X12_sound_97 N Λ μ v2 = some r) : J x 7 Λ (QI x Λ r.1 r.2) 97 [(2, .int v2)] [] μ := by
  refine j_iload_n C 0 dX12_sound_97 rfl ?_
  obtain rfl := Option.some.inj hm
  exact j_ireti C dX12_sound_98
set_option maxRecDepth 20000 in
set_option maxHeartbeats 4000000 in
theorem tb_X12_sound_40 {x : Ctx} {Λ : Lay} (C : Cx x cX12_sound 7 (some .int) RX12 Λ rm_X12_sound) (N : Nat) (μ : Mem) (k40 : Int32 × Int32 × Int32 × Mem → Option (Int32 × Mem)) (v0 : Nat) (v1 : Int32) (v2 : Int32) (v3 : Int32) (v4 : Int32) (hk40 : ∀ (s : Int32 × Int32 × Int32 × Mem) (r : Int32 × Mem), k40 s = some r → J x 7 Λ (QI x Λ r.1 r.2) 40 [(0, .ref v0), (1, .int v1), (2, .int s.1), (3, .int s.2.1), (4, .int s.2.2.1)] [] (s.2.2.2)) (hv0 : inL Λ v0 11) {r : Int32 × Mem} (hm : bd_X12_sound_40 N Λ μ k40 v0 v1 v2 v3 v4 = some r) : J x 7 Λ (QI x Λ r.1 r.2) 40 [(0, .ref v0), (1, .int v1), (2, .int v2), (3, .int v3), (4, .int v4)] [] μ := by
  refine j_iload C 4 dX12_sound_40 rfl ?_
  refine j_bipush C (v := 24) dX12_sound_42 rfl ?_
  refine j_icmp_ge C (tgt := 97) dX12_sound_44 (by decide) (fun h1 => ?_) (fun h1 => ?_)
  · replace hm := if_t hm h1
    refine j_sub [2] rfl ?_
    exact tj_X12_sound_97 C _ _ _  hm
  · replace hm := if_f hm h1
    refine j_iload_n C 1 dX12_sound_47 rfl ?_
    refine j_iconst C (v := 1) dX12_sound_48 rfl ?_
    refine j_icmp_le C (tgt := 97) dX12_sound_49 (by decide) (fun h2 => ?_) (fun h2 => ?_)
    · replace hm := if_t hm h2
      refine j_sub [2] rfl ?_
      exact tj_X12_sound_97 C _ _ _  hm
    · replace hm := if_f hm h2
      refine j_aload_n C 0 dX12_sound_52 rfl ?_
      refine j_iload C 4 dX12_sound_53 rfl ?_
      obtain ⟨r3, h4, hm⟩ := bd_some hm
      refine call_I (run_LV C lk_X12_457 ⟨rfl, rfl, Nat.le_of_ble_eq_true rfl, Nat.le_of_ble_eq_true rfl⟩ (As := [.int v4]) hv0 rfl rfl (Nat.le_of_ble_eq_true rfl) dX12_sound_55 (mc_X12_manyLies _ _ _ _ _ _ hv0 h4)) ?_
      refine j_istore C (lv' := [(5, .int r3), (0, .ref v0), (1, .int v1), (2, .int v2), (3, .int v3), (4, .int v4)]) dX12_sound_58 (by decide) rfl ?_
      refine j_iload C 0 dX12_sound_60 rfl ?_
      refine j_iload_n C 2 dX12_sound_62 rfl ?_
      refine j_iload C 0 dX12_sound_63 rfl ?_
      refine j_isub C dX12_sound_65 ?_
      refine j_mmax C wk_1942 ⟨Nat.le_of_ble_eq_true rfl, Nat.le_of_ble_eq_true rfl⟩ dX12_sound_66 ?_
      obtain ⟨y5, e6, hm⟩ := lt_some hm
      refine j_topi e6 ?_
      refine j_istore C (lv' := [(6, .int y5), (5, .int r3), (0, .ref v0), (1, .int v1), (2, .int v2), (3, .int v3), (4, .int v4)]) dX12_sound_69 (by decide) rfl ?_
      refine j_iload C 0 dX12_sound_71 rfl ?_
      refine j_iload_n C 5 dX12_sound_73 rfl ?_
      refine j_icmp_ge C (tgt := 82) dX12_sound_74 (by decide) (fun h7 => ?_) (fun h7 => ?_)
      · replace hm := if_t hm h7
        refine j_iload_n C 4 dX12_sound_82 rfl ?_
        refine j_sub [2, 3, 5, 6, 0] rfl ?_
        exact tj_X12_sound_83 C _ _ _ _ _ _ _ _ _ hk40 hv0 hm
      · replace hm := if_f hm h7
        refine j_iload C 6 dX12_sound_77 rfl ?_
        refine j_goto C (tgt := 83) dX12_sound_79 (by decide) ?_
        refine j_sub [2, 3, 5, 6, 0] rfl ?_
        exact tj_X12_sound_83 C _ _ _ _ _ _ _ _ _ hk40 hv0 hm
set_option maxRecDepth 20000 in
set_option maxHeartbeats 4000000 in
theorem tl_X12_sound_40 {x : Ctx} {Λ : Lay} (C : Cx x cX12_sound 7 (some .int) RX12 Λ rm_X12_sound) (N : Nat) (v0 : Nat) (v1 : Int32) (hv0 : inL Λ v0 11) (s : Int32 × Int32 × Int32 × Mem) {r : Int32 × Mem} (hm : lp_X12_sound_40 N Λ v0 v1 s = some r) : J x 7 Λ (QI x Λ r.1 r.2) 40 [(0, .ref v0), (1, .int v1), (2, .int s.1), (3, .int s.2.1), (4, .int s.2.2.1)] [] (s.2.2.2) :=
  cw_ind (P := fun s r => J x 7 Λ (QI x Λ r.1 r.2) 40 [(0, .ref v0), (1, .int v1), (2, .int s.1), (3, .int s.2.1), (4, .int s.2.2.1)] [] (s.2.2.2)) (fun k hkk s r e => tb_X12_sound_40 C _ _ _ _ _ _ _ _ hkk hv0 e) N s r hm
set_option maxRecDepth 20000 in
set_option maxHeartbeats 4000000 in
theorem tj_X12_sound_17 {x : Ctx} {Λ : Lay} (C : Cx x cX12_sound 7 (some .int) RX12 Λ rm_X12_sound) (N : Nat) (μ : Mem) (v0 : Nat) (s0 : Nat) (s1 : Int32) (hv0 : inL Λ v0 11) (hs0 : inL Λ s0 11) {r : Int32 × Mem} (hm : jn_X12_sound_17 N Λ μ v0 s0 s1 = some r) : J x 7 Λ (QI x Λ r.1 r.2) 17 [(0, .ref v0)] [.int s1, .ref s0] μ := by
  refine j_iconst C (v := 1) dX12_sound_17 rfl ?_
  obtain ⟨r1, h2, hm⟩ := bd_some hm
  refine call_I (run_LV C lk_X12_282 ⟨rfl, rfl, Nat.le_of_ble_eq_true rfl, Nat.le_of_ble_eq_true rfl⟩ (As := [.int s1, .int 1]) hs0 rfl rfl (Nat.le_of_ble_eq_true rfl) dX12_sound_18 (mc_X12_throwsIf _ _ _ _ _ _ _ hs0 h2)) ?_
  refine j_if_eq C (tgt := 26) dX12_sound_21 (by decide) (fun h3 => ?_) (fun h3 => ?_)
  · replace hm := if_t hm h3
    refine j_aload_n C 0 dX12_sound_26 rfl ?_
    refine j_iconst C (v := -1) dX12_sound_27 rfl ?_
    obtain ⟨r4, h5, hm⟩ := bd_some hm
    refine call_I (run_LV C lk_X12_457 ⟨rfl, rfl, Nat.le_of_ble_eq_true rfl, Nat.le_of_ble_eq_true rfl⟩ (As := [.int (-1)]) hv0 rfl rfl (Nat.le_of_ble_eq_true rfl) dX12_sound_28 (mc_X12_manyLies _ _ _ _ _ _ hv0 h5)) ?_
    refine j_istore_n C (lv' := [(1, .int r4), (0, .ref v0)]) dX12_sound_31 (by decide) rfl ?_
    refine j_iconst C (v := -1) dX12_sound_32 rfl ?_
    refine j_istore_n C (lv' := [(2, .int (-1)), (1, .int r4), (0, .ref v0)]) dX12_sound_33 (by decide) rfl ?_
    refine j_ldc C (v := 100000000) wk_1722 dX12_sound_34 ?_
    refine j_istore_n C (lv' := [(3, .int 100000000), (2, .int (-1)), (1, .int r4), (0, .ref v0)]) dX12_sound_36 (by decide) rfl ?_
    refine j_iconst C (v := 0) dX12_sound_37 rfl ?_
    refine j_istore C (lv' := [(4, .int 0), (3, .int 100000000), (2, .int (-1)), (1, .int r4), (0, .ref v0)]) dX12_sound_38 (by decide) rfl ?_
    refine j_sub [4, 3, 2, 1, 0] rfl ?_
    exact tl_X12_sound_40 C _ _ _ hv0 ((-1), 100000000, 0, r1.2) hm
  · replace hm := if_f hm h3
    refine j_iconst C (v := 0) dX12_sound_24 rfl ?_
    obtain rfl := Option.some.inj hm
    exact j_ireti C dX12_sound_25
set_option maxRecDepth 20000 in
set_option maxHeartbeats 4000000 in
theorem tm_X12_sound {x : Ctx} {Λ : Lay} (C : Cx x cX12_sound 7 (some .int) RX12 Λ rm_X12_sound) (N : Nat) (μ : Mem) (v0 : Nat) (hv0 : inL Λ v0 11) {r : Int32 × Mem} (hm : m_X12_sound N Λ μ v0 = some r) : J x 7 Λ (QI x Λ r.1 r.2) 0 [(0, .ref v0)] [] μ := by
  refine j_aload_n C 0 dX12_sound_0 rfl ?_
  obtain ⟨r1, h2, hm⟩ := bd_some hm
  refine call_V (run_LV C lk_X12_271 ⟨rfl, rfl, Nat.le_of_ble_eq_true rfl, Nat.le_of_ble_eq_true rfl⟩ (As := []) hv0 rfl rfl (Nat.le_of_ble_eq_true rfl) dX12_sound_1 (mc_X12_uses _ _ _ _ _ hv0 h2)) ?_
  refine j_aload_n C 0 dX12_sound_4 rfl ?_
  refine j_aload_n C 0 dX12_sound_5 rfl ?_
  obtain ⟨r3, h4, hm⟩ := bd_some hm
  refine call_I (run_LV C lk_X12_454 ⟨rfl, rfl, Nat.le_of_ble_eq_true rfl, Nat.le_of_ble_eq_true rfl⟩ (As := []) hv0 rfl rfl (Nat.le_of_ble_eq_true rfl) dX12_sound_6 (mc_X12_isTouched _ _ _ _ _ hv0 h4)) ?_
  refine j_if_ne C (tgt := 16) dX12_sound_9 (by decide) (fun h5 => ?_) (fun h5 => ?_)
  · replace hm := if_f hm h5
    refine j_iconst C (v := 0) dX12_sound_16 rfl ?_
    exact tj_X12_sound_17 C _ _ _ _ _ hv0 hv0 hm
  · replace hm := if_t hm h5
    refine j_iconst C (v := 1) dX12_sound_12 rfl ?_
    refine j_goto C (tgt := 17) dX12_sound_13 (by decide) ?_
    exact tj_X12_sound_17 C _ _ _ _ _ hv0 hv0 hm
set_option maxRecDepth 20000 in
set_option maxHeartbeats 4000000 in
theorem mc_X12_sound (l : Launch) (N : Nat) (Λ : Lay) (μ : Mem) (v0 : Nat) (hv0 : inL Λ v0 11) {r : Int32 × Mem} (hm : m_X12_sound N Λ μ v0 = some r) : MI l yX12_sound cX12_sound 7 (some .int) rm_X12_sound Λ [.ref v0] μ r.1 r.2 := mi_of rfl (Nat.le_of_ble_eq_true rfl) (fun x C _ => tm_X12_sound C _ _ _ hv0 hm)
abbrev rm_X12_laysWorth : Room := { frames := 2, cells := 0, slots := 0, locals := 43 }
set_option maxRecDepth 20000 in
set_option maxHeartbeats 4000000 in
theorem tb_X12_laysWorth_22 {x : Ctx} {Λ : Lay} (C : Cx x cX12_laysWorth 6 none RX12 Λ rm_X12_laysWorth) (N : Nat) (μ : Mem) (k2 : Int32 × Mem → Option (Mem)) (k13 : Int64 × Int32 × Mem → Option (Mem)) (k22 : Int64 × Int32 × Mem → Option (Mem)) (v0 : Nat) (v1 : Int32) (v2 : Int64) (v4 : Int32) (v5 : Int32) (hk2 : ∀ (s : Int32 × Mem) (r : Mem), k2 s = some r → J x 6 Λ (QV x Λ r) 2 [(0, .ref v0), (1, .int s.1)] [] (s.2)) (hk13 : ∀ (s : Int64 × Int32 × Mem) (r : Mem), k13 s = some r → J x 6 Λ (QV x Λ r) 13 [(0, .ref v0), (1, .int v1), (2, .long s.1), (4, .int s.2.1)] [] (s.2.2)) (hk22 : ∀ (s : Int64 × Int32 × Mem) (r : Mem), k22 s = some r → J x 6 Λ (QV x Λ r) 22 [(0, .ref v0), (1, .int v1), (2, .long s.1), (4, .int v4), (5, .int s.2.1)] [] (s.2.2)) (hv0 : inL Λ v0 11) {r : Mem} (hm : bd_X12_laysWorth_22 N Λ μ k2 k13 k22 v0 v1 v2 v4 v5 = some r) : J x 6 Λ (QV x Λ r) 22 [(0, .ref v0), (1, .int v1), (2, .long v2), (4, .int v4), (5, .int v5)] [] μ := by
  refine j_iload C 4 dX12_laysWorth_22 rfl ?_
  refine j_iload C 3 dX12_laysWorth_24 rfl ?_
  refine j_iadd C dX12_laysWorth_26 ?_
  refine j_iload_n C 1 dX12_laysWorth_27 rfl ?_
  refine j_icmp_gt C (tgt := 62) dX12_laysWorth_28 (by decide) (fun h1 => ?_) (fun h1 => ?_)
  · replace hm := if_t hm h1
    obtain ⟨y2, e3, hm⟩ := lt_some hm
    refine j_iinc C 3 (v := y2) (lv' := [(4, .int y2), (0, .ref v0), (1, .int v1), (2, .long v2), (5, .int v5)]) dX12_laysWorth_62 rfl (by rw [e3]; rfl) (by decide) rfl ?_
    refine j_goto C (tgt := 13) dX12_laysWorth_65 (by decide) ?_
    refine j_sub [1, 2, 3, 0] rfl ?_
    exact hk13 (v2, y2, μ) _ hm
  · replace hm := if_f hm h1
    refine j_lload_n C 2 dX12_laysWorth_31 rfl ?_
    refine j_lconst C (v := 1) dX12_laysWorth_32 rfl ?_
    refine j_aload_n C 0 dX12_laysWorth_33 rfl ?_
    obtain ⟨q4, h5, hm⟩ := bd_some hm
    refine j_getR C fg_X12_61_11 hv0 (dr_spec h5).1 dX12_laysWorth_34 ?_
    refine j_iload C 4 dX12_laysWorth_37 rfl ?_
    obtain ⟨h6, hm⟩ := gd_some hm
    refine j_iald C ((dr_spec h5).2) h6 dX12_laysWorth_39 ?_
    refine j_aload_n C 0 dX12_laysWorth_40 rfl ?_
    obtain ⟨q7, h8, hm⟩ := bd_some hm
    refine j_getR C fg_X12_61_11 hv0 (dr_spec h8).1 dX12_laysWorth_41 ?_
    refine j_iload_n C 1 dX12_laysWorth_44 rfl ?_
    refine j_iload C 4 dX12_laysWorth_45 rfl ?_
    refine j_isub C dX12_laysWorth_47 ?_
    refine j_iload C 3 dX12_laysWorth_48 rfl ?_
    refine j_isub C dX12_laysWorth_50 ?_
    obtain ⟨h9, hm⟩ := gd_some hm
    refine j_iald C ((dr_spec h8).2) h9 dX12_laysWorth_51 ?_
    refine j_ixor C dX12_laysWorth_52 ?_
    refine j_lshl C dX12_laysWorth_53 ?_
    refine j_lor C dX12_laysWorth_54 ?_
    obtain ⟨y10, e11, hm⟩ := lt_some hm
    refine j_topl e11 ?_
    refine j_lstore_n C (lv' := [(2, .long y10), (0, .ref v0), (1, .int v1), (4, .int v4), (5, .int v5)]) dX12_laysWorth_55 (by decide) rfl ?_
    obtain ⟨y12, e13, hm⟩ := lt_some hm
    refine j_iinc C 4 (v := y12) (lv' := [(5, .int y12), (2, .long y10), (0, .ref v0), (1, .int v1), (4, .int v4)]) dX12_laysWorth_56 rfl (by rw [e13]; rfl) (by decide) rfl ?_
    refine j_goto C (tgt := 22) dX12_laysWorth_59 (by decide) ?_
    refine j_sub [2, 3, 1, 4, 0] rfl ?_
    exact hk22 (y10, y12, μ) _ hm
set_option maxRecDepth 20000 in
set_option maxHeartbeats 4000000 in
theorem tl_X12_laysWorth_22 {x : Ctx} {Λ : Lay} (C : Cx x cX12_laysWorth 6 none RX12 Λ rm_X12_laysWorth) (N : Nat) (k2 : Int32 × Mem → Option (Mem)) (k13 : Int64 × Int32 × Mem → Option (Mem)) (v0 : Nat) (v1 : Int32) (v4 : Int32) (hk2 : ∀ (s : Int32 × Mem) (r : Mem), k2 s = some r → J x 6 Λ (QV x Λ r) 2 [(0, .ref v0), (1, .int s.1)] [] (s.2)) (hk13 : ∀ (s : Int64 × Int32 × Mem) (r : Mem), k13 s = some r → J x 6 Λ (QV x Λ r) 13 [(0, .ref v0), (1, .int v1), (2, .long s.1), (4, .int s.2.1)] [] (s.2.2)) (hv0 : inL Λ v0 11) (s : Int64 × Int32 × Mem) {r : Mem} (hm : lp_X12_laysWorth_22 N Λ k2 k13 v0 v1 v4 s = some r) : J x 6 Λ (QV x Λ r) 22 [(0, .ref v0), (1, .int v1), (2, .long s.1), (4, .int v4), (5, .int s.2.1)] [] (s.2.2) :=
  cw_ind (P := fun s r => J x 6 Λ (QV x Λ r) 22 [(0, .ref v0), (1, .int v1), (2, .long s.1), (4, .int v4), (5, .int s.2.1)] [] (s.2.2)) (fun k hkk s r e => tb_X12_laysWorth_22 C _ _ _ _ _ _ _ _ _ _ hk2 hk13 hkk hv0 e) N s r hm
set_option maxRecDepth 20000 in
set_option maxHeartbeats 4000000 in
theorem tb_X12_laysWorth_13 {x : Ctx} {Λ : Lay} (C : Cx x cX12_laysWorth 6 none RX12 Λ rm_X12_laysWorth) (N : Nat) (μ : Mem) (k2 : Int32 × Mem → Option (Mem)) (k13 : Int64 × Int32 × Mem → Option (Mem)) (v0 : Nat) (v1 : Int32) (v2 : Int64) (v4 : Int32) (hk2 : ∀ (s : Int32 × Mem) (r : Mem), k2 s = some r → J x 6 Λ (QV x Λ r) 2 [(0, .ref v0), (1, .int s.1)] [] (s.2)) (hk13 : ∀ (s : Int64 × Int32 × Mem) (r : Mem), k13 s = some r → J x 6 Λ (QV x Λ r) 13 [(0, .ref v0), (1, .int v1), (2, .long s.1), (4, .int s.2.1)] [] (s.2.2)) (hv0 : inL Λ v0 11) {r : Mem} (hm : bd_X12_laysWorth_13 N Λ μ k2 k13 v0 v1 v2 v4 = some r) : J x 6 Λ (QV x Λ r) 13 [(0, .ref v0), (1, .int v1), (2, .long v2), (4, .int v4)] [] μ := by
  refine j_iload C 3 dX12_laysWorth_13 rfl ?_
  refine j_iconst C (v := 2) dX12_laysWorth_15 rfl ?_
  refine j_icmp_gt C (tgt := 68) dX12_laysWorth_16 (by decide) (fun h1 => ?_) (fun h1 => ?_)
  · replace hm := if_t hm h1
    refine j_aload_n C 0 dX12_laysWorth_68 rfl ?_
    obtain ⟨q2, h3, hm⟩ := bd_some hm
    refine j_getR C fg_X12_61_11 hv0 (dr_spec h3).1 dX12_laysWorth_69 ?_
    refine j_iload_n C 1 dX12_laysWorth_72 rfl ?_
    refine j_lload_n C 2 dX12_laysWorth_73 rfl ?_
    refine j_ldc2 C (v := -1) wk_2171 dX12_laysWorth_74 ?_
    refine j_lxor C dX12_laysWorth_77 ?_
    obtain ⟨r4, h5, hm⟩ := bd_some hm
    refine call_I (run_LS C ls_X12_462 ⟨rfl, rfl, Nat.le_of_ble_eq_true rfl, Nat.le_of_ble_eq_true rfl⟩ (As := [.long (v2 ^^^ (-1))]) rfl rfl (Nat.le_of_ble_eq_true rfl) dX12_laysWorth_78 (mc_XG_ntz _ _ _ _ _  h5)) ?_
    obtain ⟨h6, hm⟩ := gd_some hm
    obtain ⟨μ7, e8, hm⟩ := lt_some hm
    refine j_iast C ((dr_spec h3).2) h6 e8 dX12_laysWorth_81 ?_
    obtain ⟨y9, e10, hm⟩ := lt_some hm
    refine j_iinc C 1 (v := y9) (lv' := [(1, .int y9), (0, .ref v0), (2, .long v2), (4, .int v4)]) dX12_laysWorth_82 rfl (by rw [e10]; rfl) (by decide) rfl ?_
    refine j_goto C (tgt := 2) dX12_laysWorth_85 (by decide) ?_
    refine j_sub [1, 0] rfl ?_
    exact hk2 (y9, μ7) _ hm
  · replace hm := if_f hm h1
    refine j_iconst C (v := 0) dX12_laysWorth_19 rfl ?_
    refine j_istore C (lv' := [(5, .int 0), (0, .ref v0), (1, .int v1), (2, .long v2), (4, .int v4)]) dX12_laysWorth_20 (by decide) rfl ?_
    refine j_sub [1, 2, 3, 4, 0] rfl ?_
    exact tl_X12_laysWorth_22 C _ _ _ _ _ _ hk2 hk13 hv0 (v2, 0, μ) hm
set_option maxRecDepth 20000 in
set_option maxHeartbeats 4000000 in
theorem tl_X12_laysWorth_13 {x : Ctx} {Λ : Lay} (C : Cx x cX12_laysWorth 6 none RX12 Λ rm_X12_laysWorth) (N : Nat) (k2 : Int32 × Mem → Option (Mem)) (v0 : Nat) (v1 : Int32) (hk2 : ∀ (s : Int32 × Mem) (r : Mem), k2 s = some r → J x 6 Λ (QV x Λ r) 2 [(0, .ref v0), (1, .int s.1)] [] (s.2)) (hv0 : inL Λ v0 11) (s : Int64 × Int32 × Mem) {r : Mem} (hm : lp_X12_laysWorth_13 N Λ k2 v0 v1 s = some r) : J x 6 Λ (QV x Λ r) 13 [(0, .ref v0), (1, .int v1), (2, .long s.1), (4, .int s.2.1)] [] (s.2.2) :=
  cw_ind (P := fun s r => J x 6 Λ (QV x Λ r) 13 [(0, .ref v0), (1, .int v1), (2, .long s.1), (4, .int s.2.1)] [] (s.2.2)) (fun k hkk s r e => tb_X12_laysWorth_13 C _ _ _ _ _ _ _ _ hk2 hkk hv0 e) N s r hm
set_option maxRecDepth 20000 in
set_option maxHeartbeats 4000000 in
theorem tb_X12_laysWorth_2 {x : Ctx} {Λ : Lay} (C : Cx x cX12_laysWorth 6 none RX12 Λ rm_X12_laysWorth) (N : Nat) (μ : Mem) (k2 : Int32 × Mem → Option (Mem)) (v0 : Nat) (v1 : Int32) (hk2 : ∀ (s : Int32 × Mem) (r : Mem), k2 s = some r → J x 6 Λ (QV x Λ r) 2 [(0, .ref v0), (1, .int s.1)] [] (s.2)) (hv0 : inL Λ v0 11) {r : Mem} (hm : bd_X12_laysWorth_2 N Λ μ k2 v0 v1 = some r) : J x 6 Λ (QV x Λ r) 2 [(0, .ref v0), (1, .int v1)] [] μ := by
  refine j_iload_n C 1 dX12_laysWorth_2 rfl ?_
  refine j_bipush C (v := 24) dX12_laysWorth_3 rfl ?_
  refine j_icmp_gt C (tgt := 88) dX12_laysWorth_5 (by decide) (fun h1 => ?_) (fun h1 => ?_)
  · replace hm := if_t hm h1
    obtain rfl := Option.some.inj hm
    exact j_vret C dX12_laysWorth_88
  · replace hm := if_f hm h1
    refine j_lconst C (v := 0) dX12_laysWorth_8 rfl ?_
    refine j_lstore_n C (lv' := [(2, .long 0), (0, .ref v0), (1, .int v1)]) dX12_laysWorth_9 (by decide) rfl ?_
    refine j_iconst C (v := 1) dX12_laysWorth_10 rfl ?_
    refine j_istore C (lv' := [(4, .int 1), (2, .long 0), (0, .ref v0), (1, .int v1)]) dX12_laysWorth_11 (by decide) rfl ?_
    refine j_sub [2, 3, 1, 0] rfl ?_
    exact tl_X12_laysWorth_13 C _ _ _ _ hk2 hv0 (0, 1, μ) hm
set_option maxRecDepth 20000 in
set_option maxHeartbeats 4000000 in
theorem tl_X12_laysWorth_2 {x : Ctx} {Λ : Lay} (C : Cx x cX12_laysWorth 6 none RX12 Λ rm_X12_laysWorth) (N : Nat) (v0 : Nat) (hv0 : inL Λ v0 11) (s : Int32 × Mem) {r : Mem} (hm : lp_X12_laysWorth_2 N Λ v0 s = some r) : J x 6 Λ (QV x Λ r) 2 [(0, .ref v0), (1, .int s.1)] [] (s.2) :=
  cw_ind (P := fun s r => J x 6 Λ (QV x Λ r) 2 [(0, .ref v0), (1, .int s.1)] [] (s.2)) (fun k hkk s r e => tb_X12_laysWorth_2 C _ _ _ _ _ hkk hv0 e) N s r hm
set_option maxRecDepth 20000 in
set_option maxHeartbeats 4000000 in
theorem tm_X12_laysWorth {x : Ctx} {Λ : Lay} (C : Cx x cX12_laysWorth 6 none RX12 Λ rm_X12_laysWorth) (N : Nat) (μ : Mem) (v0 : Nat) (hv0 : inL Λ v0 11) {r : Mem} (hm : m_X12_laysWorth N Λ μ v0 = some r) : J x 6 Λ (QV x Λ r) 0 [(0, .ref v0)] [] μ := by
  refine j_iconst C (v := 0) dX12_laysWorth_0 rfl ?_
  refine j_istore_n C (lv' := [(1, .int 0), (0, .ref v0)]) dX12_laysWorth_1 (by decide) rfl ?_
  refine j_sub [1, 0] rfl ?_
  exact tl_X12_laysWorth_2 C _ _ hv0 (0, μ) hm
set_option maxRecDepth 20000 in
set_option maxHeartbeats 4000000 in
theorem mc_X12_laysWorth (l : Launch) (N : Nat) (Λ : Lay) (μ : Mem) (v0 : Nat) (hv0 : inL Λ v0 11) {r : Mem} (hm : m_X12_laysWorth N Λ μ v0 = some r) : MV l yX12_laysWorth cX12_laysWorth 6 rm_X12_laysWorth Λ [.ref v0] μ r := mv_of rfl (Nat.le_of_ble_eq_true rfl) (fun x C _ => tm_X12_laysWorth C _ _ _ hv0 hm)
abbrev rm_X12_worthOf : Room := { frames := 1, cells := 0, slots := 0, locals := 21 }
set_option maxRecDepth 20000 in
set_option maxHeartbeats 4000000 in
theorem tj_X12_worthOf_63 {x : Ctx} {Λ : Lay} (C : Cx x cX12_worthOf 6 (some .int) RX12 Λ rm_X12_worthOf) (N : Nat) (μ : Mem) (k7 : Int32 × Int32 × Int32 → Option (Int32)) (v0 : Nat) (v1 : Int32) (v2 : Int32) (v4 : Int32) (s0 : Int32) (hk7 : ∀ (s : Int32 × Int32 × Int32) (r : Int32), k7 s = some r → J x 6 Λ (QI x Λ r μ) 7 [(0, .ref v0), (1, .int v1), (2, .int s.1), (3, .int s.2.1), (4, .int s.2.2)] [] (μ)) (hv0 : inL Λ v0 11) {r : Int32} (hm : jn_X12_worthOf_63 N Λ μ k7 v0 v1 v2 v4 s0 = some r) : J x 6 Λ (QI x Λ r μ) 63 [(0, .ref v0), (1, .int v1), (2, .int v2), (4, .int v4)] [.int s0] μ := by
  refine j_istore_n C (lv' := [(3, .int s0), (0, .ref v0), (1, .int v1), (2, .int v2), (4, .int v4)]) dX12_worthOf_63 (by decide) rfl ?_
  obtain ⟨y1, e2, hm⟩ := lt_some hm
  refine j_iinc C 4 (v := y1) (lv' := [(4, .int y1), (3, .int s0), (0, .ref v0), (1, .int v1), (2, .int v2)]) dX12_worthOf_64 rfl (by rw [e2]; rfl) (by decide) rfl ?_
  refine j_goto C (tgt := 7) dX12_worthOf_67 (by decide) ?_
  refine j_sub [2, 3, 4, 1, 0] rfl ?_
  exact hk7 (v2, s0, y1) _ hm
set_option maxRecDepth 20000 in
set_option maxHeartbeats 4000000 in
theorem tj_X12_worthOf_51 {x : Ctx} {Λ : Lay} (C : Cx x cX12_worthOf 6 (some .int) RX12 Λ rm_X12_worthOf) (N : Nat) (μ : Mem) (k7 : Int32 × Int32 × Int32 → Option (Int32)) (v0 : Nat) (v1 : Int32) (v2 : Int32) (v3 : Int32) (v4 : Int32) (v5 : Int32) (hk7 : ∀ (s : Int32 × Int32 × Int32) (r : Int32), k7 s = some r → J x 6 Λ (QI x Λ r μ) 7 [(0, .ref v0), (1, .int v1), (2, .int s.1), (3, .int s.2.1), (4, .int s.2.2)] [] (μ)) (hv0 : inL Λ v0 11) {r : Int32} (hm : jn_X12_worthOf_51 N Λ μ k7 v0 v1 v2 v3 v4 v5 = some r) : J x 6 Λ (QI x Λ r μ) 51 [(0, .ref v0), (1, .int v1), (2, .int v2), (3, .int v3), (4, .int v4), (5, .int v5)] [] μ := by
  refine j_iload C 5 dX12_worthOf_51 rfl ?_
  refine j_if_eq C (tgt := 62) dX12_worthOf_53 (by decide) (fun h1 => ?_) (fun h1 => ?_)
  · replace hm := if_t hm h1
    refine j_iconst C (v := 0) dX12_worthOf_62 rfl ?_
    refine j_sub [0, 1, 2, 4] rfl ?_
    exact tj_X12_worthOf_63 C _ _ _ _ _ _ _ _ hk7 hv0 hm
  · replace hm := if_f hm h1
    refine j_iload_n C 3 dX12_worthOf_56 rfl ?_
    refine j_iconst C (v := 1) dX12_worthOf_57 rfl ?_
    refine j_iadd C dX12_worthOf_58 ?_
    refine j_goto C (tgt := 63) dX12_worthOf_59 (by decide) ?_
    refine j_sub [0, 1, 2, 4] rfl ?_
    exact tj_X12_worthOf_63 C _ _ _ _ _ _ _ _ hk7 hv0 hm
set_option maxRecDepth 20000 in
set_option maxHeartbeats 4000000 in
theorem tj_X12_worthOf_35 {x : Ctx} {Λ : Lay} (C : Cx x cX12_worthOf 6 (some .int) RX12 Λ rm_X12_worthOf) (N : Nat) (μ : Mem) (k7 : Int32 × Int32 × Int32 → Option (Int32)) (v0 : Nat) (v1 : Int32) (v2 : Int32) (v3 : Int32) (v4 : Int32) (s0 : Int32) (hk7 : ∀ (s : Int32 × Int32 × Int32) (r : Int32), k7 s = some r → J x 6 Λ (QI x Λ r μ) 7 [(0, .ref v0), (1, .int v1), (2, .int s.1), (3, .int s.2.1), (4, .int s.2.2)] [] (μ)) (hv0 : inL Λ v0 11) {r : Int32} (hm : jn_X12_worthOf_35 N Λ μ k7 v0 v1 v2 v3 v4 s0 = some r) : J x 6 Λ (QI x Λ r μ) 35 [(0, .ref v0), (1, .int v1), (2, .int v2), (3, .int v3), (4, .int v4)] [.int s0] μ := by
  refine j_istore C (lv' := [(5, .int s0), (0, .ref v0), (1, .int v1), (2, .int v2), (3, .int v3), (4, .int v4)]) dX12_worthOf_35 (by decide) rfl ?_
  refine j_iload C 0 dX12_worthOf_37 rfl ?_
  refine j_if_ne C (tgt := 51) dX12_worthOf_39 (by decide) (fun h1 => ?_) (fun h1 => ?_)
  · replace hm := if_f hm h1
    refine j_sub [1, 2, 3, 4, 5, 0] rfl ?_
    exact tj_X12_worthOf_51 C _ _ _ _ _ _ _ _ _ hk7 hv0 hm
  · replace hm := if_t hm h1
    refine j_iload_n C 3 dX12_worthOf_42 rfl ?_
    refine j_aload_n C 1 dX12_worthOf_43 rfl ?_
    obtain ⟨q2, h3, hm⟩ := bd_some hm
    refine j_getR C fg_X12_61_11 hv0 (dr_spec h3).1 dX12_worthOf_44 ?_
    refine j_iload_n C 4 dX12_worthOf_47 rfl ?_
    obtain ⟨h4, hm⟩ := gd_some hm
    refine j_iald C ((dr_spec h3).2) h4 dX12_worthOf_48 ?_
    refine j_ixor C dX12_worthOf_49 ?_
    obtain ⟨y5, e6, hm⟩ := lt_some hm
    refine j_topi e6 ?_
    refine j_istore_n C (lv' := [(2, .int y5), (5, .int s0), (0, .ref v0), (1, .int v1), (3, .int v3), (4, .int v4)]) dX12_worthOf_50 (by decide) rfl ?_
    refine j_sub [2, 3, 0, 4, 5, 1] rfl ?_
    exact tj_X12_worthOf_51 C _ _ _ _ _ _ _ _ _ hk7 hv0 hm
set_option maxRecDepth 20000 in
set_option maxHeartbeats 4000000 in
theorem tj_X12_worthOf_34 {x : Ctx} {Λ : Lay} (C : Cx x cX12_worthOf 6 (some .int) RX12 Λ rm_X12_worthOf) (N : Nat) (μ : Mem) (k7 : Int32 × Int32 × Int32 → Option (Int32)) (v0 : Nat) (v1 : Int32) (v2 : Int32) (v3 : Int32) (v4 : Int32) (hk7 : ∀ (s : Int32 × Int32 × Int32) (r : Int32), k7 s = some r → J x 6 Λ (QI x Λ r μ) 7 [(0, .ref v0), (1, .int v1), (2, .int s.1), (3, .int s.2.1), (4, .int s.2.2)] [] (μ)) (hv0 : inL Λ v0 11) {r : Int32} (hm : jn_X12_worthOf_34 N Λ μ k7 v0 v1 v2 v3 v4 = some r) : J x 6 Λ (QI x Λ r μ) 34 [(0, .ref v0), (1, .int v1), (2, .int v2), (3, .int v3), (4, .int v4)] [] μ := by
  refine j_iconst C (v := 0) dX12_worthOf_34 rfl ?_
  exact tj_X12_worthOf_35 C _ _ _ _ _ _ _ _ _ hk7 hv0 hm
set_option maxRecDepth 20000 in
set_option maxHeartbeats 4000000 in
theorem tb_X12_worthOf_7 {x : Ctx} {Λ : Lay} (C : Cx x cX12_worthOf 6 (some .int) RX12 Λ rm_X12_worthOf) (N : Nat) (μ : Mem) (k7 : Int32 × Int32 × Int32 → Option (Int32)) (v0 : Nat) (v1 : Int32) (v2 : Int32) (v3 : Int32) (v4 : Int32) (hk7 : ∀ (s : Int32 × Int32 × Int32) (r : Int32), k7 s = some r → J x 6 Λ (QI x Λ r μ) 7 [(0, .ref v0), (1, .int v1), (2, .int s.1), (3, .int s.2.1), (4, .int s.2.2)] [] (μ)) (hv0 : inL Λ v0 11) {r : Int32} (hm : bd_X12_worthOf_7 N Λ μ k7 v0 v1 v2 v3 v4 = some r) : J x 6 Λ (QI x Λ r μ) 7 [(0, .ref v0), (1, .int v1), (2, .int v2), (3, .int v3), (4, .int v4)] [] μ := by
  refine j_iload C 4 dX12_worthOf_7 rfl ?_
  refine j_bipush C (v := 24) dX12_worthOf_9 rfl ?_
  refine j_icmp_gt C (tgt := 70) dX12_worthOf_11 (by decide) (fun h1 => ?_) (fun h1 => ?_)
  · replace hm := if_t hm h1
    refine j_iload_n C 2 dX12_worthOf_70 rfl ?_
    obtain rfl := Option.some.inj hm
    exact j_ireti C dX12_worthOf_71
  · replace hm := if_f hm h1
    refine j_iload C 4 dX12_worthOf_14 rfl ?_
    refine j_bipush C (v := 24) dX12_worthOf_16 rfl ?_
    refine j_icmp_ge C (tgt := 34) dX12_worthOf_18 (by decide) (fun h2 => ?_) (fun h2 => ?_)
    · replace hm := if_t hm h2
      exact tj_X12_worthOf_34 C _ _ _ _ _ _ _ _ hk7 hv0 hm
    · replace hm := if_f hm h2
      refine j_iload_n C 1 dX12_worthOf_21 rfl ?_
      refine j_iload C 4 dX12_worthOf_22 rfl ?_
      obtain ⟨r3, h4, hm⟩ := bd_some hm
      refine call_I (run_LS C ls_X12_306 ⟨rfl, rfl, Nat.le_of_ble_eq_true rfl, Nat.le_of_ble_eq_true rfl⟩ (As := [.int v1, .int v4]) rfl rfl (Nat.le_of_ble_eq_true rfl) dX12_worthOf_24 (mc_X12_has _ _ _ _ _ _  h4)) ?_
      refine j_if_eq C (tgt := 34) dX12_worthOf_27 (by decide) (fun h5 => ?_) (fun h5 => ?_)
      · replace hm := if_t hm h5
        exact tj_X12_worthOf_34 C _ _ _ _ _ _ _ _ hk7 hv0 hm
      · replace hm := if_f hm h5
        refine j_iconst C (v := 1) dX12_worthOf_30 rfl ?_
        refine j_goto C (tgt := 35) dX12_worthOf_31 (by decide) ?_
        exact tj_X12_worthOf_35 C _ _ _ _ _ _ _ _ _ hk7 hv0 hm
set_option maxRecDepth 20000 in
set_option maxHeartbeats 4000000 in
theorem tl_X12_worthOf_7 {x : Ctx} {Λ : Lay} (C : Cx x cX12_worthOf 6 (some .int) RX12 Λ rm_X12_worthOf) (N : Nat) (μ : Mem) (v0 : Nat) (v1 : Int32) (hv0 : inL Λ v0 11) (s : Int32 × Int32 × Int32) {r : Int32} (hm : lp_X12_worthOf_7 N Λ μ v0 v1 s = some r) : J x 6 Λ (QI x Λ r μ) 7 [(0, .ref v0), (1, .int v1), (2, .int s.1), (3, .int s.2.1), (4, .int s.2.2)] [] (μ) :=
  cw_ind (P := fun s r => J x 6 Λ (QI x Λ r μ) 7 [(0, .ref v0), (1, .int v1), (2, .int s.1), (3, .int s.2.1), (4, .int s.2.2)] [] (μ)) (fun k hkk s r e => tb_X12_worthOf_7 C _ _ _ _ _ _ _ _ hkk hv0 e) N s r hm
set_option maxRecDepth 20000 in
set_option maxHeartbeats 4000000 in
theorem tm_X12_worthOf {x : Ctx} {Λ : Lay} (C : Cx x cX12_worthOf 6 (some .int) RX12 Λ rm_X12_worthOf) (N : Nat) (μ : Mem) (v0 : Nat) (v1 : Int32) (hv0 : inL Λ v0 11) {r : Int32} (hm : m_X12_worthOf N Λ μ v0 v1 = some r) : J x 6 Λ (QI x Λ r μ) 0 [(0, .ref v0), (1, .int v1)] [] μ := by
  refine j_iconst C (v := 0) dX12_worthOf_0 rfl ?_
  refine j_istore_n C (lv' := [(2, .int 0), (0, .ref v0), (1, .int v1)]) dX12_worthOf_1 (by decide) rfl ?_
  refine j_iconst C (v := 0) dX12_worthOf_2 rfl ?_
  refine j_istore_n C (lv' := [(3, .int 0), (2, .int 0), (0, .ref v0), (1, .int v1)]) dX12_worthOf_3 (by decide) rfl ?_
  refine j_iconst C (v := 0) dX12_worthOf_4 rfl ?_
  refine j_istore C (lv' := [(4, .int 0), (3, .int 0), (2, .int 0), (0, .ref v0), (1, .int v1)]) dX12_worthOf_5 (by decide) rfl ?_
  refine j_sub [3, 4, 2, 1, 0] rfl ?_
  exact tl_X12_worthOf_7 C _ _ _ _ hv0 (0, 0, 0) hm
set_option maxRecDepth 20000 in
set_option maxHeartbeats 4000000 in
theorem mc_X12_worthOf (l : Launch) (N : Nat) (Λ : Lay) (μ : Mem) (v0 : Nat) (v1 : Int32) (hv0 : inL Λ v0 11) {r : Int32} (hm : m_X12_worthOf N Λ μ v0 v1 = some r) : MI l yX12_worthOf cX12_worthOf 6 (some .int) rm_X12_worthOf Λ [.ref v0, .int v1] μ r μ := mi_of rfl (Nat.le_of_ble_eq_true rfl) (fun x C _ => tm_X12_worthOf C _ _ _ _ hv0 hm)
abbrev rm_X12_knocks : Room := { frames := 3, cells := 0, slots := 0, locals := 68 }
set_option maxRecDepth 20000 in
set_option maxHeartbeats 4000000 in
theorem tj_X12_knocks_28 {x : Ctx} {Λ : Lay} (C : Cx x cX12_knocks 1 (some .boolean) RX12 Λ rm_X12_knocks) (N : Nat) (μ : Mem) (s0 : Int32) {r : Int32 × Mem} (hm : jn_X12_knocks_28 N Λ μ s0 = some r) : J x 1 Λ (QI x Λ r.1 r.2) 28 [] [.int s0] μ := by
  obtain ⟨h1, hm⟩ := gd_some hm
  obtain rfl := Option.some.inj hm
  exact j_iretz C h1 dX12_knocks_28
set_option maxRecDepth 20000 in
set_option maxHeartbeats 4000000 in
theorem tm_X12_knocks {x : Ctx} {Λ : Lay} (C : Cx x cX12_knocks 1 (some .boolean) RX12 Λ rm_X12_knocks) (N : Nat) (μ : Mem) (v0 : Nat) (hv0 : inL Λ v0 11) {r : Int32 × Mem} (hm : m_X12_knocks N Λ μ v0 = some r) : J x 1 Λ (QI x Λ r.1 r.2) 0 [(0, .ref v0)] [] μ := by
  refine j_aload_n C 0 dX12_knocks_0 rfl ?_
  refine j_iconst C (v := 0) dX12_knocks_1 rfl ?_
  obtain ⟨μ1, e2, hm⟩ := lt_some hm
  refine j_putI C fp_X12_3_11 hv0 e2 dX12_knocks_2 ?_
  refine j_aload_n C 0 dX12_knocks_5 rfl ?_
  obtain ⟨r3, h4, hm⟩ := bd_some hm
  refine call_V (run_LV C lk_X12_468 ⟨rfl, rfl, Nat.le_of_ble_eq_true rfl, Nat.le_of_ble_eq_true rfl⟩ (As := []) hv0 rfl rfl (Nat.le_of_ble_eq_true rfl) dX12_knocks_6 (mc_X12_laysWorth _ _ _ _ _ hv0 h4)) ?_
  refine j_aload_n C 0 dX12_knocks_9 rfl ?_
  refine j_aload_n C 0 dX12_knocks_10 rfl ?_
  obtain ⟨q5, h6, hm⟩ := bd_some hm
  refine j_getR C fg_X12_13_11 hv0 (dr_spec h6).1 dX12_knocks_11 ?_
  refine j_bipush C (v := 10) dX12_knocks_14 rfl ?_
  obtain ⟨h7, hm⟩ := gd_some hm
  refine j_iald C ((dr_spec h6).2) h7 dX12_knocks_16 ?_
  obtain ⟨r8, h9, hm⟩ := bd_some hm
  refine call_I (run_LV C lk_X12_471 ⟨rfl, rfl, Nat.le_of_ble_eq_true rfl, Nat.le_of_ble_eq_true rfl⟩ (As := [.int (r3.1 q5 (10 : Int32).toNatClampNeg)]) hv0 rfl rfl (Nat.le_of_ble_eq_true rfl) dX12_knocks_17 (mc_X12_worthOf _ _ _ _ _ _ hv0 h9)) ?_
  refine j_if_eq C (tgt := 27) dX12_knocks_20 (by decide) (fun h10 => ?_) (fun h10 => ?_)
  · replace hm := if_t hm h10
    refine j_iconst C (v := 0) dX12_knocks_27 rfl ?_
    refine j_sub [] rfl ?_
    exact tj_X12_knocks_28 C _ _ _  hm
  · replace hm := if_f hm h10
    refine j_iconst C (v := 1) dX12_knocks_23 rfl ?_
    refine j_goto C (tgt := 28) dX12_knocks_24 (by decide) ?_
    refine j_sub [] rfl ?_
    exact tj_X12_knocks_28 C _ _ _  hm
set_option maxRecDepth 20000 in
set_option maxHeartbeats 4000000 in
theorem mc_X12_knocks (l : Launch) (N : Nat) (Λ : Lay) (μ : Mem) (v0 : Nat) (hv0 : inL Λ v0 11) {r : Int32 × Mem} (hm : m_X12_knocks N Λ μ v0 = some r) : MI l yX12_knocks cX12_knocks 1 (some .boolean) rm_X12_knocks Λ [.ref v0] μ r.1 r.2 := mi_of rfl (Nat.le_of_ble_eq_true rfl) (fun x C _ => tm_X12_knocks C _ _ _ hv0 hm)
abbrev rm_X12_knock : Room := { frames := 3, cells := 0, slots := 0, locals := 68 }
set_option maxRecDepth 20000 in
set_option maxHeartbeats 4000000 in
theorem tj_X12_knock_66 {x : Ctx} {Λ : Lay} (C : Cx x cX12_knock 5 (some .int) RX12 Λ rm_X12_knock) (N : Nat) (μ : Mem) (k22 : Int32 × Int32 × Mem → Option (Int32 × Mem)) (v0 : Nat) (v1 : Int32) (v3 : Int32) (s0 : Int32) (hk22 : ∀ (s : Int32 × Int32 × Mem) (r : Int32 × Mem), k22 s = some r → J x 5 Λ (QI x Λ r.1 r.2) 22 [(0, .ref v0), (1, .int v1), (2, .int s.1), (3, .int s.2.1)] [] (s.2.2)) (hv0 : inL Λ v0 11) {r : Int32 × Mem} (hm : jn_X12_knock_66 N Λ μ k22 v0 v1 v3 s0 = some r) : J x 5 Λ (QI x Λ r.1 r.2) 66 [(0, .ref v0), (1, .int v1), (3, .int v3)] [.int s0] μ := by
  refine j_istore_n C (lv' := [(2, .int s0), (0, .ref v0), (1, .int v1), (3, .int v3)]) dX12_knock_66 (by decide) rfl ?_
  obtain ⟨y1, e2, hm⟩ := lt_some hm
  refine j_iinc C 3 (v := y1) (lv' := [(3, .int y1), (2, .int s0), (0, .ref v0), (1, .int v1)]) dX12_knock_67 rfl (by rw [e2]; rfl) (by decide) rfl ?_
  refine j_goto C (tgt := 22) dX12_knock_70 (by decide) ?_
  refine j_sub [2, 3, 1, 0] rfl ?_
  exact hk22 (s0, y1, μ) _ hm
set_option maxRecDepth 20000 in
set_option maxHeartbeats 4000000 in
theorem tj_X12_knock_65 {x : Ctx} {Λ : Lay} (C : Cx x cX12_knock 5 (some .int) RX12 Λ rm_X12_knock) (N : Nat) (μ : Mem) (k22 : Int32 × Int32 × Mem → Option (Int32 × Mem)) (v0 : Nat) (v1 : Int32) (v2 : Int32) (v3 : Int32) (hk22 : ∀ (s : Int32 × Int32 × Mem) (r : Int32 × Mem), k22 s = some r → J x 5 Λ (QI x Λ r.1 r.2) 22 [(0, .ref v0), (1, .int v1), (2, .int s.1), (3, .int s.2.1)] [] (s.2.2)) (hv0 : inL Λ v0 11) {r : Int32 × Mem} (hm : jn_X12_knock_65 N Λ μ k22 v0 v1 v2 v3 = some r) : J x 5 Λ (QI x Λ r.1 r.2) 65 [(0, .ref v0), (1, .int v1), (2, .int v2), (3, .int v3)] [] μ := by
  refine j_iload_n C 2 dX12_knock_65 rfl ?_
  refine j_sub [0, 1, 3] rfl ?_
  exact tj_X12_knock_66 C _ _ _ _ _ _ _ hk22 hv0 hm
set_option maxRecDepth 20000 in
set_option maxHeartbeats 4000000 in
theorem tb_X12_knock_22 {x : Ctx} {Λ : Lay} (C : Cx x cX12_knock 5 (some .int) RX12 Λ rm_X12_knock) (N : Nat) (μ : Mem) (k22 : Int32 × Int32 × Mem → Option (Int32 × Mem)) (v0 : Nat) (v1 : Int32) (v2 : Int32) (v3 : Int32) (hk22 : ∀ (s : Int32 × Int32 × Mem) (r : Int32 × Mem), k22 s = some r → J x 5 Λ (QI x Λ r.1 r.2) 22 [(0, .ref v0), (1, .int v1), (2, .int s.1), (3, .int s.2.1)] [] (s.2.2)) (hv0 : inL Λ v0 11) {r : Int32 × Mem} (hm : bd_X12_knock_22 N Λ μ k22 v0 v1 v2 v3 = some r) : J x 5 Λ (QI x Λ r.1 r.2) 22 [(0, .ref v0), (1, .int v1), (2, .int v2), (3, .int v3)] [] μ := by
  refine j_iload_n C 3 dX12_knock_22 rfl ?_
  refine j_if_lt C (tgt := 73) dX12_knock_23 (by decide) (fun h1 => ?_) (fun h1 => ?_)
  · replace hm := if_t hm h1
    refine j_iload_n C 2 dX12_knock_73 rfl ?_
    obtain rfl := Option.some.inj hm
    exact j_ireti C dX12_knock_74
  · replace hm := if_f hm h1
    refine j_iload_n C 3 dX12_knock_26 rfl ?_
    refine j_iconst C (v := 2) dX12_knock_27 rfl ?_
    refine j_idiv C dX12_knock_28 (by decide) ?_
    refine j_iload_n C 3 dX12_knock_29 rfl ?_
    refine j_iconst C (v := 2) dX12_knock_30 rfl ?_
    refine j_irem C dX12_knock_31 (by decide) ?_
    refine j_iconst C (v := 1) dX12_knock_32 rfl ?_
    refine j_iadd C dX12_knock_33 ?_
    obtain ⟨r2, h3, hm⟩ := bd_some hm
    refine call_I (run_LS C ls_X12_92 ⟨rfl, rfl, Nat.le_of_ble_eq_true rfl, Nat.le_of_ble_eq_true rfl⟩ (As := [.int (v3 / 2), .int ((irem v3 2) + 1)]) rfl rfl (Nat.le_of_ble_eq_true rfl) dX12_knock_34 (mc_X12_run _ _ _ _ _ _  h3)) ?_
    refine j_istore C (lv' := [(4, .int r2), (0, .ref v0), (1, .int v1), (2, .int v2), (3, .int v3)]) dX12_knock_37 (by decide) rfl ?_
    refine j_iload C 0 dX12_knock_39 rfl ?_
    refine j_iload_n C 2 dX12_knock_41 rfl ?_
    refine j_iconst C (v := -1) dX12_knock_42 rfl ?_
    refine j_ixor C dX12_knock_43 ?_
    refine j_iand C dX12_knock_44 ?_
    refine j_if_ne C (tgt := 65) dX12_knock_45 (by decide) (fun h4 => ?_) (fun h4 => ?_)
    · replace hm := if_f hm h4
      refine j_sub [1, 2, 3, 4] rfl ?_
      exact tj_X12_knock_65 C _ _ _ _ _ _ _ hk22 hv0 hm
    · replace hm := if_t hm h4
      refine j_aload_n C 1 dX12_knock_48 rfl ?_
      refine j_iload_n C 2 dX12_knock_49 rfl ?_
      refine j_iload C 0 dX12_knock_50 rfl ?_
      refine j_iconst C (v := -1) dX12_knock_52 rfl ?_
      refine j_ixor C dX12_knock_53 ?_
      refine j_iand C dX12_knock_54 ?_
      obtain ⟨r5, h6, hm⟩ := bd_some hm
      refine call_I (run_LV C lk_X12_471 ⟨rfl, rfl, Nat.le_of_ble_eq_true rfl, Nat.le_of_ble_eq_true rfl⟩ (As := [.int (v1 &&& (r2 ^^^ (-1)))]) hv0 rfl rfl (Nat.le_of_ble_eq_true rfl) dX12_knock_55 (mc_X12_worthOf _ _ _ _ _ _ hv0 h6)) ?_
      refine j_if_ne C (tgt := 65) dX12_knock_58 (by decide) (fun h7 => ?_) (fun h7 => ?_)
      · replace hm := if_f hm h7
        refine j_sub [1, 2, 3, 4] rfl ?_
        exact tj_X12_knock_65 C _ _ _ _ _ _ _ hk22 hv0 hm
      · replace hm := if_t hm h7
        refine j_iload_n C 4 dX12_knock_61 rfl ?_
        refine j_goto C (tgt := 66) dX12_knock_62 (by decide) ?_
        refine j_sub [1, 2, 4] rfl ?_
        exact tj_X12_knock_66 C _ _ _ _ _ _ _ hk22 hv0 hm
set_option maxRecDepth 20000 in
set_option maxHeartbeats 4000000 in
theorem tl_X12_knock_22 {x : Ctx} {Λ : Lay} (C : Cx x cX12_knock 5 (some .int) RX12 Λ rm_X12_knock) (N : Nat) (v0 : Nat) (v1 : Int32) (hv0 : inL Λ v0 11) (s : Int32 × Int32 × Mem) {r : Int32 × Mem} (hm : lp_X12_knock_22 N Λ v0 v1 s = some r) : J x 5 Λ (QI x Λ r.1 r.2) 22 [(0, .ref v0), (1, .int v1), (2, .int s.1), (3, .int s.2.1)] [] (s.2.2) :=
  cw_ind (P := fun s r => J x 5 Λ (QI x Λ r.1 r.2) 22 [(0, .ref v0), (1, .int v1), (2, .int s.1), (3, .int s.2.1)] [] (s.2.2)) (fun k hkk s r e => tb_X12_knock_22 C _ _ _ _ _ _ _ hkk hv0 e) N s r hm
set_option maxRecDepth 20000 in
set_option maxHeartbeats 4000000 in
theorem tm_X12_knock {x : Ctx} {Λ : Lay} (C : Cx x cX12_knock 5 (some .int) RX12 Λ rm_X12_knock) (N : Nat) (μ : Mem) (v0 : Nat) (hv0 : inL Λ v0 11) {r : Int32 × Mem} (hm : m_X12_knock N Λ μ v0 = some r) : J x 5 Λ (QI x Λ r.1 r.2) 0 [(0, .ref v0)] [] μ := by
  refine j_aload_n C 0 dX12_knock_0 rfl ?_
  refine j_iconst C (v := 0) dX12_knock_1 rfl ?_
  obtain ⟨μ1, e2, hm⟩ := lt_some hm
  refine j_putI C fp_X12_3_11 hv0 e2 dX12_knock_2 ?_
  refine j_aload_n C 0 dX12_knock_5 rfl ?_
  obtain ⟨r3, h4, hm⟩ := bd_some hm
  refine call_V (run_LV C lk_X12_468 ⟨rfl, rfl, Nat.le_of_ble_eq_true rfl, Nat.le_of_ble_eq_true rfl⟩ (As := []) hv0 rfl rfl (Nat.le_of_ble_eq_true rfl) dX12_knock_6 (mc_X12_laysWorth _ _ _ _ _ hv0 h4)) ?_
  refine j_aload_n C 0 dX12_knock_9 rfl ?_
  obtain ⟨q5, h6, hm⟩ := bd_some hm
  refine j_getR C fg_X12_13_11 hv0 (dr_spec h6).1 dX12_knock_10 ?_
  refine j_bipush C (v := 10) dX12_knock_13 rfl ?_
  obtain ⟨h7, hm⟩ := gd_some hm
  refine j_iald C ((dr_spec h6).2) h7 dX12_knock_15 ?_
  obtain ⟨y8, e9, hm⟩ := lt_some hm
  refine j_topi e9 ?_
  refine j_istore_n C (lv' := [(1, .int y8), (0, .ref v0)]) dX12_knock_16 (by decide) rfl ?_
  refine j_iconst C (v := -1) dX12_knock_17 rfl ?_
  refine j_istore_n C (lv' := [(2, .int (-1)), (1, .int y8), (0, .ref v0)]) dX12_knock_18 (by decide) rfl ?_
  refine j_bipush C (v := 47) dX12_knock_19 rfl ?_
  refine j_istore_n C (lv' := [(3, .int 47), (2, .int (-1)), (1, .int y8), (0, .ref v0)]) dX12_knock_21 (by decide) rfl ?_
  refine j_sub [3, 2, 1, 0] rfl ?_
  exact tl_X12_knock_22 C _ _ _ hv0 ((-1), 47, r3) hm
set_option maxRecDepth 20000 in
set_option maxHeartbeats 4000000 in
theorem mc_X12_knock (l : Launch) (N : Nat) (Λ : Lay) (μ : Mem) (v0 : Nat) (hv0 : inL Λ v0 11) {r : Int32 × Mem} (hm : m_X12_knock N Λ μ v0 = some r) : MI l yX12_knock cX12_knock 5 (some .int) rm_X12_knock Λ [.ref v0] μ r.1 r.2 := mi_of rfl (Nat.le_of_ble_eq_true rfl) (fun x C _ => tm_X12_knock C _ _ _ hv0 hm)

/-- as cw_iv, with what comes next fixed first -/
theorem cw_ik {σ ρ : Type} {stp : (σ → Option ρ) → σ → Option ρ} {N : Nat} {s : σ} {P : Nat → σ → Prop} {Q : Option ρ → Prop} (n : Nat) (h0 : P 0 s) (hs : ∀ i, i < n → ∀ s, P i s → ∀ k, (∃ s', P (i + 1) s' ∧ stp k s = k s') ∨ Q (stp k s)) (he : ∀ s, P n s → ∀ k, Q (stp k s)) (hN : n < N) : Q (cw stp N s) := by
  suffices ∀ (d N j : Nat) (s : σ), j + d = n → d < N → P j s → Q (cw stp N s) from this n N 0 s (by omega) hN h0
  intro d
  induction d with
  | zero =>
    intro N j s hj hN hp
    obtain ⟨N, rfl⟩ : ∃ M, N = M + 1 := ⟨N - 1, by omega⟩
    rw [show j = n by omega] at hp
    exact he s hp _
  | succ d ih =>
    intro N j s hj hN hp
    obtain ⟨N, rfl⟩ : ∃ M, N = M + 1 := ⟨N - 1, by omega⟩
    show Q (stp (cw stp N) s)
    rcases hs j (by omega) s hp (cw stp N) with ⟨s', hp', hk⟩ | hq
    · rw [hk]; exact ih N (j + 1) s' (by omega) (by omega) hp'
    · exact hq
/-! rests -/
def rsT (i : Nat) : Nat := [0, 1, 1, 1, 9].getD i 0
theorem ng_mlt {a b : Nat} (ha : a < 2147483648) (hb : b < 2147483648) : (n3 a < -n3 b) = False := ng_pn_lt ha hb
theorem c_rests {N : Nat} (hN : 1099511627776 ≤ N) {Λ : Lay} {μ : Mem} {l d q : Nat} (hl : 1 ≤ l ∧ l ≤ 12) (hd : 1 ≤ d ∧ d ≤ 20) (hq : q ≤ 9) : m_X6_restingChoices N Λ μ (n3 l) (n3 d) (n3 q) = some (n3 9) := by
  unfold m_X6_restingChoices lp_X6_restingChoices_5
  refine cw_it (fun i => (n3 (rsT i), n3 i)) 4 rfl (fun i hi k => ?_) (fun k => ?_) (by omega)
  · match i, hi with
    | 0, _ =>
      have x1 : n3 0 ^^^ n3 2 = n3 2 := by decide
      have x2 : n3 0 ^^^ n3 1 = n3 1 := by decide
      simp (disch := omega) only [jn_X6_restingChoices_80, jn_X6_restingChoices_79, jn_X6_restingChoices_59, jn_X6_restingChoices_37, bd_X6_restingChoices_5, m_X6_mastersShare, m_X6_pilotsShare, x1, x2, ↓lt_e, ↓gd_e, ↓Option.bind_some, ↓reduceIte, if_true, if_false, if_pT, if_nF, decide_true, Bool.not_true, Bool.not_false, not_true_eq_false, not_false_eq_true, Bool.false_eq_true, Bool.true_eq_false, eq_self, n3_lit, n3_le_f, n3_eq_t, n3_eq_f, ng_pn_lt, n3_lt_f, n3_shl, n3_or, n3_add]; rfl
    | 1, _ =>
      have x1 : n3 1 ^^^ n3 2 = n3 3 := by decide
      have x2 : n3 1 ^^^ n3 1 = n3 0 := by decide
      simp (disch := omega) only [jn_X6_restingChoices_80, jn_X6_restingChoices_79, jn_X6_restingChoices_59, jn_X6_restingChoices_37, bd_X6_restingChoices_5, m_X6_mastersShare, m_X6_pilotsShare, x1, x2, ↓lt_e, ↓gd_e, ↓Option.bind_some, ↓reduceIte, if_true, if_false, if_pT, if_nF, decide_true, Bool.not_true, Bool.not_false, not_true_eq_false, not_false_eq_true, Bool.false_eq_true, Bool.true_eq_false, eq_self, n3_lit, n3_le_f, n3_eq_t, n3_eq_f, ng_np_lt, n3_lt_t, n3_or, n3_add]; rfl
    | 2, _ =>
      have x1 : n3 2 ^^^ n3 2 = n3 0 := by decide
      have x2 : n3 2 ^^^ n3 1 = n3 3 := by decide
      simp (disch := omega) only [jn_X6_restingChoices_80, jn_X6_restingChoices_79, jn_X6_restingChoices_59, jn_X6_restingChoices_37, bd_X6_restingChoices_5, m_X6_mastersShare, m_X6_pilotsShare, x1, x2, ↓lt_e, ↓gd_e, ↓Option.bind_some, ↓reduceIte, if_true, if_false, if_pT, if_nF, decide_true, Bool.not_true, Bool.not_false, not_true_eq_false, not_false_eq_true, Bool.false_eq_true, Bool.true_eq_false, eq_self, n3_lit, n3_le_f, n3_eq_t, n3_eq_f, ng_np_lt, n3_lt_t, n3_or, n3_add]; rfl
    | 3, _ =>
      have x1 : n3 3 ^^^ n3 2 = n3 1 := by decide
      have x2 : n3 3 ^^^ n3 1 = n3 2 := by decide
      simp (disch := omega) only [jn_X6_restingChoices_80, jn_X6_restingChoices_79, jn_X6_restingChoices_59, jn_X6_restingChoices_37, bd_X6_restingChoices_5, m_X6_mastersShare, m_X6_pilotsShare, x1, x2, ↓lt_e, ↓gd_e, ↓Option.bind_some, ↓reduceIte, if_true, if_false, if_pT, if_nF, decide_true, Bool.not_true, Bool.not_false, not_true_eq_false, not_false_eq_true, Bool.false_eq_true, Bool.true_eq_false, eq_self, n3_lit, n3_le_f, n3_eq_t, n3_eq_f, ng_pn_lt, n3_lt_f, n3_shl, n3_or, n3_add]; rfl
  · simp (disch := omega) only [jn_X6_restingChoices_80, jn_X6_restingChoices_79, jn_X6_restingChoices_59, jn_X6_restingChoices_37, bd_X6_restingChoices_5, ↓lt_e, ↓gd_e, ↓Option.bind_some, ↓reduceIte, if_true, if_false, if_pT, if_nF, decide_true, Bool.not_true, Bool.not_false, not_true_eq_false, not_false_eq_true, Bool.false_eq_true, Bool.true_eq_false, eq_self, n3_lit, n3_add, n3_mul, n3_sub, n3_tn, n3_le_t, n3_le_f, n3_lt_t, n3_lt_f, n3_eq_f, n3_eq_t, n3_inb, n3_rem, n3_div, n3_zb, bb_0, bb_1, zb_bb, bb_T, bb_F, n3_dec, n3_m1, n3_eqm, n3_eqmt, n3_ltm, n3_mlt, n3_lem, n3_mle, n3_neg_lt, n3_nlt_neg, n3_nle_neg, n3_neg_le]; rfl
theorem C_rests_f {N : Nat} (hN : 1099511627776 ≤ N) {Λ : Lay} {ad : Nat → Nat} {μ : Mem} {F : Nat → Nat} {m : Nat} {A : Nat → Nat → Nat} {b : Nat} {J : Nat → Nat} {T : Nat → Int32} {n : Nat} {f : Int32} (hY : Ly Λ ad) (h : RC ad μ F m A b J T n f) (ho : Ok F m A b J T n)  (x : Int32) (hx : inr x (F 0) = false) : CT ad μ (m_X11_rests N Λ μ (ad 0) x) 3 0 F m A b J T n f := by
  have hj := hY.1
  have hP := hY.2.2.1
  have hS := hY.2.2.2.1 3 (Or.inl rfl)
  have hL := hY.2.2.2.2.1 30 (Or.inl rfl)
  have hC := h.1
  have hw := ho.1
  have hl := ho.2.1
  have hb := hw.1; unfold WB at hb
  refine CT.same h ?_
  unfold m_X11_rests
  rw [c_need1 hP hC, hx]; rfl
theorem C_rests_t {N : Nat} (hN : 1099511627776 ≤ N) {Λ : Lay} {ad : Nat → Nat} {μ : Mem} {F : Nat → Nat} {m : Nat} {A : Nat → Nat → Nat} {b : Nat} {J : Nat → Nat} {T : Nat → Int32} {n : Nat} {f : Int32} (hY : Ly Λ ad) (h : RC ad μ F m A b J T n f) (ho : Ok F m A b J T n)  (s : Nat) (hs : s < F 0) : CT ad μ (m_X11_rests N Λ μ (ad 0) (n3 s)) 0 (n3 9) F m A b J T n f := by
  have hj := hY.1
  have hP := hY.2.2.1
  have hS := hY.2.2.2.1 3 (Or.inl rfl)
  have hL := hY.2.2.2.2.1 30 (Or.inl rfl)
  have hC := h.1
  have hw := ho.1
  have hl := ho.2.1
  have hb := hw.1; unfold WB at hb
  have hso := hw.2.2.1 s hs
  unfold ShOk at hso
  have cr := c_rests (Λ := Λ) (μ := μ) hN ⟨hso.1, hso.2.1⟩ ⟨hso.2.2.1, hso.2.2.2.1⟩ hb.2.2.2.2.2.2.1
  refine CT.same h ?_
  simp (disch := omega) only [m_X11_rests, c_need1 hP hC, inr_n3, thn_T, thn_0, thn_1, thn_2, thn_3, thn_4, thn_5, ↓ob (hP.1), ↓ob (hP.2.1), ↓ob (hP.2.2.1), ↓ob (hP.2.2.2.1), ↓ob (hP.2.2.2.2.1), ↓ob (hP.2.2.2.2.2.1), ↓ob (hP.2.2.2.2.2.2.1), ↓ob (hP.2.2.2.2.2.2.2.1), ↓ob (hP.2.2.2.2.2.2.2.2.1), ↓ob (hP.2.2.2.2.2.2.2.2.2.1), ↓ob (hP.2.2.2.2.2.2.2.2.2.2.1), ↓ob (hP.2.2.2.2.2.2.2.2.2.2.2.1), ↓ob (hP.2.2.2.2.2.2.2.2.2.2.2.2.1), ↓ob (hP.2.2.2.2.2.2.2.2.2.2.2.2.2.1), hP.2.2.2.2.2.2.2.2.2.2.2.2.2.2, ↓ob (hS.1), ↓ob (hS.2.1), ↓ob (hS.2.2.1), ↓ob (hS.2.2.2.1), ↓ob (hS.2.2.2.2.1), ↓ob (hS.2.2.2.2.2.1), ↓ob (hS.2.2.2.2.2.2.1), ↓ob (hS.2.2.2.2.2.2.2.1), hS.2.2.2.2.2.2.2.2.1, hS.2.2.2.2.2.2.2.2.2.1, hS.2.2.2.2.2.2.2.2.2.2.1, hS.2.2.2.2.2.2.2.2.2.2.2.1, hS.2.2.2.2.2.2.2.2.2.2.2.2.1, hS.2.2.2.2.2.2.2.2.2.2.2.2.2.1, hS.2.2.2.2.2.2.2.2.2.2.2.2.2.2, hC.1, hC.2.1, hC.2.2.1, hC.2.2.2.1, hC.2.2.2.2.1, hC.2.2.2.2.2.1, hC.2.2.2.2.2.2.1, hC.2.2.2.2.2.2.2.1, hC.2.2.2.2.2.2.2.2.1, hC.2.2.2.2.2.2.2.2.2.1, hC.2.2.2.2.2.2.2.2.2.2.1, hC.2.2.2.2.2.2.2.2.2.2.2.1, hC.2.2.2.2.2.2.2.2.2.2.2.2.1, hC.2.2.2.2.2.2.2.2.2.2.2.2.2.1, hC.2.2.2.2.2.2.2.2.2.2.2.2.2.2.1, hC.2.2.2.2.2.2.2.2.2.2.2.2.2.2.2.1, hC.2.2.2.2.2.2.2.2.2.2.2.2.2.2.2.2.1, cr, ↓lt_e, ↓gd_e, ↓Option.bind_some, ↓reduceIte, if_true, if_false, if_pT, if_nF, decide_true, Bool.not_true, Bool.not_false, not_true_eq_false, not_false_eq_true, Bool.false_eq_true, Bool.true_eq_false, eq_self, n3_lit, n3_add, n3_mul, n3_sub, n3_tn, n3_le_t, n3_le_f, n3_lt_t, n3_lt_f, n3_eq_f, n3_eq_t, n3_inb, n3_rem, n3_div, n3_zb, bb_0, bb_1, zb_bb, bb_T, bb_F, n3_dec, n3_m1, n3_eqm, n3_eqmt, n3_ltm, n3_mlt, n3_lem, n3_mle, n3_neg_lt, n3_nlt_neg, n3_nle_neg, n3_neg_le]
theorem R_rests_f {N : Nat} (hN : 1099511627776 ≤ N) {Λ : Lay} {ad : Nat → Nat} {μ : Mem} {F : Nat → Nat} {m : Nat} {A : Nat → Nat → Nat} {b : Nat} {J : Nat → Nat} {T : Nat → Int32} {n : Nat} {f : Int32} (hY : Ly Λ ad) (h : RR ad μ F m A b J T n f) (ho : Ok F m A b J T n)  (x : Int32) (hx : inr x (F 0) = false) : RV ad μ (m_X12_rests N Λ μ (ad 181) x) 1 0 F m A b J T n f := by
  have hj := hY.1
  have hR := hY.2.1
  have hW := h.1
  have hw := ho.1
  have hl := ho.2.1
  have hb := hw.1; unfold WB at hb
  unfold m_X12_rests
  refine RV.start hY.1 h (fun μ0 h0 t0 => RV.thrown hY.1 h0 ?_)
  have ns := r_noSh (N := N) hR h0.1 hb.1 x
  simp (disch := omega) only [ns, hx, r_thr1, ↓lt_e, ↓gd_e, ↓Option.bind_some, ↓reduceIte, if_true, if_false, if_pT, if_nF, decide_true, Bool.not_true, Bool.not_false, not_true_eq_false, not_false_eq_true, Bool.false_eq_true, Bool.true_eq_false, eq_self, n3_lit, n3_add, n3_mul, n3_sub, n3_tn, n3_le_t, n3_le_f, n3_lt_t, n3_lt_f, n3_eq_f, n3_eq_t, n3_inb, n3_rem, n3_div, n3_zb, bb_0, bb_1, zb_bb, bb_T, bb_F, n3_dec, n3_m1, n3_eqm, n3_eqmt, n3_ltm, n3_mlt, n3_lem, n3_mle, n3_neg_lt, n3_nlt_neg, n3_nle_neg, n3_neg_le]
def rsA (i : Nat) : Nat := [0, 1, 9].getD i 0
theorem R_rests_t {N : Nat} (hN : 1099511627776 ≤ N) {Λ : Lay} {ad : Nat → Nat} {μ : Mem} {F : Nat → Nat} {m : Nat} {A : Nat → Nat → Nat} {b : Nat} {J : Nat → Nat} {T : Nat → Int32} {n : Nat} {f : Int32} (hY : Ly Λ ad) (h : RR ad μ F m A b J T n f) (ho : Ok F m A b J T n)  (s : Nat) (hs : s < F 0) : RV ad μ (m_X12_rests N Λ μ (ad 181) (n3 s)) 0 (n3 9) F m A b J T n f := by
  have hj := hY.1
  have hR := hY.2.1
  have hW := h.1
  have hw := ho.1
  have hl := ho.2.1
  have hb := hw.1; unfold WB at hb
  have hso := hw.2.2.1 s hs
  unfold ShOk at hso
  unfold m_X12_rests
  refine RV.start hY.1 h (fun μ0 h0 t0 => RV.same h0 t0 ?_)
  have hW0 := h0.1
  have ns := r_noSh (N := N) hR h0.1 hb.1 (n3 s)
  have e0 := r_of (N := N) hR hW0 s 0 (by omega)
  have e1 := r_of (N := N) hR hW0 s 1 (by omega)
  rw [Nat.add_zero] at e0
  simp (disch := omega) only [ns, inr_n3, r_thr0, ↓lt_e, ↓gd_e, ↓Option.bind_some, ↓reduceIte, if_true, if_false, if_pT, if_nF, decide_true, Bool.not_true, Bool.not_false, not_true_eq_false, not_false_eq_true, Bool.false_eq_true, Bool.true_eq_false, eq_self, n3_lit, n3_eq_t, bb_F, bb_0, lp_X12_rests_24]
  refine cw_it (fun i => (n3 (rsA i), n3 i, μ0)) 2 rfl (fun i hi k => ?_) (fun k => ?_) (by omega)
  · simp (disch := omega) only [bd_X12_rests_24, ↓lt_e, ↓gd_e, ↓Option.bind_some, ↓reduceIte, if_true, if_false, if_pT, if_nF, decide_true, Bool.not_true, Bool.not_false, not_true_eq_false, not_false_eq_true, Bool.false_eq_true, Bool.true_eq_false, eq_self, n3_lit, n3_le_f, lp_X12_rests_32]
    match i, hi with
    | 0, _ =>
      refine cw_it (fun j => (n3 (bb (1 ≤ j)), n3 j, μ0)) 2 rfl (fun j hj' k' => ?_) (fun k' => ?_) (by omega)
      · match j, hj' with
        | 0, _ =>
          simp (disch := omega) only [bd_X12_rests_32, jn_X12_rests_88, jn_X12_rests_89, jn_X12_masterHas_19, jn_X12_masterHas_41, m_X12_masterHas, jn_X12_pilotHas_13, jn_X12_pilotHas_23, m_X12_pilotHas, e0, e1, ↓lt_e, ↓gd_e, ↓Option.bind_some, ↓reduceIte, if_true, if_false, if_pT, if_nF, decide_true, Bool.not_true, Bool.not_false, not_true_eq_false, not_false_eq_true, Bool.false_eq_true, Bool.true_eq_false, eq_self, n3_lit, n3_le_f, n3_eq_t, n3_eq_f, n3_sub, ng_pn_lt, n3_lt_f, n3_mul, n3_add, n3_shl, n3_or]; rfl
        | 1, _ =>
          simp (disch := omega) only [bd_X12_rests_32, jn_X12_rests_88, jn_X12_rests_89, jn_X12_masterHas_19, jn_X12_masterHas_41, m_X12_masterHas, jn_X12_pilotHas_13, jn_X12_pilotHas_23, m_X12_pilotHas, ↓ob (hR.1), ↓ob (hR.2.1), ↓ob (hR.2.2.1), ↓ob (hR.2.2.2.1), ↓ob (hR.2.2.2.2.1), ↓ob (hR.2.2.2.2.2.1), ↓ob (hR.2.2.2.2.2.2.1), ↓ob (hR.2.2.2.2.2.2.2.1), ↓ob (hR.2.2.2.2.2.2.2.2.1), ↓ob (hR.2.2.2.2.2.2.2.2.2.1), ↓ob (hR.2.2.2.2.2.2.2.2.2.2.1), ↓ob (hR.2.2.2.2.2.2.2.2.2.2.2.1), ↓ob (hR.2.2.2.2.2.2.2.2.2.2.2.2.1), ↓ob (hR.2.2.2.2.2.2.2.2.2.2.2.2.2.1), ↓ob (hR.2.2.2.2.2.2.2.2.2.2.2.2.2.2.1), ↓ob (hR.2.2.2.2.2.2.2.2.2.2.2.2.2.2.2.1), ↓ob (hR.2.2.2.2.2.2.2.2.2.2.2.2.2.2.2.2.1), ↓ob (hR.2.2.2.2.2.2.2.2.2.2.2.2.2.2.2.2.2.1), hR.2.2.2.2.2.2.2.2.2.2.2.2.2.2.2.2.2.2.1, hR.2.2.2.2.2.2.2.2.2.2.2.2.2.2.2.2.2.2.2.1, hR.2.2.2.2.2.2.2.2.2.2.2.2.2.2.2.2.2.2.2.2.1, hR.2.2.2.2.2.2.2.2.2.2.2.2.2.2.2.2.2.2.2.2.2.1, hR.2.2.2.2.2.2.2.2.2.2.2.2.2.2.2.2.2.2.2.2.2.2.1, hR.2.2.2.2.2.2.2.2.2.2.2.2.2.2.2.2.2.2.2.2.2.2.2.1, hR.2.2.2.2.2.2.2.2.2.2.2.2.2.2.2.2.2.2.2.2.2.2.2.2.1, hR.2.2.2.2.2.2.2.2.2.2.2.2.2.2.2.2.2.2.2.2.2.2.2.2.2.1, hR.2.2.2.2.2.2.2.2.2.2.2.2.2.2.2.2.2.2.2.2.2.2.2.2.2.2.1, hR.2.2.2.2.2.2.2.2.2.2.2.2.2.2.2.2.2.2.2.2.2.2.2.2.2.2.2.1, hR.2.2.2.2.2.2.2.2.2.2.2.2.2.2.2.2.2.2.2.2.2.2.2.2.2.2.2.2.1, hR.2.2.2.2.2.2.2.2.2.2.2.2.2.2.2.2.2.2.2.2.2.2.2.2.2.2.2.2.2.1, hR.2.2.2.2.2.2.2.2.2.2.2.2.2.2.2.2.2.2.2.2.2.2.2.2.2.2.2.2.2.2.1, hR.2.2.2.2.2.2.2.2.2.2.2.2.2.2.2.2.2.2.2.2.2.2.2.2.2.2.2.2.2.2.2.1, hR.2.2.2.2.2.2.2.2.2.2.2.2.2.2.2.2.2.2.2.2.2.2.2.2.2.2.2.2.2.2.2.2.1, hR.2.2.2.2.2.2.2.2.2.2.2.2.2.2.2.2.2.2.2.2.2.2.2.2.2.2.2.2.2.2.2.2.2.1, hR.2.2.2.2.2.2.2.2.2.2.2.2.2.2.2.2.2.2.2.2.2.2.2.2.2.2.2.2.2.2.2.2.2.2.1, hR.2.2.2.2.2.2.2.2.2.2.2.2.2.2.2.2.2.2.2.2.2.2.2.2.2.2.2.2.2.2.2.2.2.2.2, hW0, e0, e1, ↓lt_e, ↓gd_e, ↓Option.bind_some, ↓reduceIte, if_true, if_false, if_pT, if_nF, decide_true, Bool.not_true, Bool.not_false, not_true_eq_false, not_false_eq_true, Bool.false_eq_true, Bool.true_eq_false, eq_self, n3_lit, n3_tn, n3_inb, n3_le_f, n3_eq_t, n3_eq_f, n3_sub, ng_np_lt, n3_lt_t, n3_add, n3_or]; rfl
      · simp (disch := omega) only [bd_X12_rests_32, ↓lt_e, ↓gd_e, ↓Option.bind_some, ↓reduceIte, if_true, if_false, if_pT, if_nF, decide_true, Bool.not_true, Bool.not_false, not_true_eq_false, not_false_eq_true, Bool.false_eq_true, Bool.true_eq_false, eq_self, n3_lit, n3_add, n3_mul, n3_sub, n3_tn, n3_le_t, n3_le_f, n3_lt_t, n3_lt_f, n3_eq_f, n3_eq_t, n3_inb, n3_rem, n3_div, n3_zb, bb_0, bb_1, zb_bb, bb_T, bb_F, n3_dec, n3_m1, n3_eqm, n3_eqmt, n3_ltm, n3_mlt, n3_lem, n3_mle, n3_neg_lt, n3_nlt_neg, n3_nle_neg, n3_neg_le]; rfl
    | 1, _ =>
      refine cw_it (fun j => (n3 (if j ≤ 1 then 1 else 9), n3 j, μ0)) 2 rfl (fun j hj' k' => ?_) (fun k' => ?_) (by omega)
      · match j, hj' with
        | 0, _ =>
          simp (disch := omega) only [bd_X12_rests_32, jn_X12_rests_88, jn_X12_rests_89, jn_X12_masterHas_19, jn_X12_masterHas_41, m_X12_masterHas, jn_X12_pilotHas_13, jn_X12_pilotHas_23, m_X12_pilotHas, e0, e1, ↓lt_e, ↓gd_e, ↓Option.bind_some, ↓reduceIte, if_true, if_false, if_pT, if_nF, decide_true, Bool.not_true, Bool.not_false, not_true_eq_false, not_false_eq_true, Bool.false_eq_true, Bool.true_eq_false, eq_self, n3_lit, n3_le_f, n3_eq_t, n3_eq_f, n3_sub, ng_np_lt, n3_lt_t, n3_add, n3_or]; rfl
        | 1, _ =>
          simp (disch := omega) only [bd_X12_rests_32, jn_X12_rests_88, jn_X12_rests_89, jn_X12_masterHas_19, jn_X12_masterHas_41, m_X12_masterHas, jn_X12_pilotHas_13, jn_X12_pilotHas_23, m_X12_pilotHas, ↓ob (hR.1), ↓ob (hR.2.1), ↓ob (hR.2.2.1), ↓ob (hR.2.2.2.1), ↓ob (hR.2.2.2.2.1), ↓ob (hR.2.2.2.2.2.1), ↓ob (hR.2.2.2.2.2.2.1), ↓ob (hR.2.2.2.2.2.2.2.1), ↓ob (hR.2.2.2.2.2.2.2.2.1), ↓ob (hR.2.2.2.2.2.2.2.2.2.1), ↓ob (hR.2.2.2.2.2.2.2.2.2.2.1), ↓ob (hR.2.2.2.2.2.2.2.2.2.2.2.1), ↓ob (hR.2.2.2.2.2.2.2.2.2.2.2.2.1), ↓ob (hR.2.2.2.2.2.2.2.2.2.2.2.2.2.1), ↓ob (hR.2.2.2.2.2.2.2.2.2.2.2.2.2.2.1), ↓ob (hR.2.2.2.2.2.2.2.2.2.2.2.2.2.2.2.1), ↓ob (hR.2.2.2.2.2.2.2.2.2.2.2.2.2.2.2.2.1), ↓ob (hR.2.2.2.2.2.2.2.2.2.2.2.2.2.2.2.2.2.1), hR.2.2.2.2.2.2.2.2.2.2.2.2.2.2.2.2.2.2.1, hR.2.2.2.2.2.2.2.2.2.2.2.2.2.2.2.2.2.2.2.1, hR.2.2.2.2.2.2.2.2.2.2.2.2.2.2.2.2.2.2.2.2.1, hR.2.2.2.2.2.2.2.2.2.2.2.2.2.2.2.2.2.2.2.2.2.1, hR.2.2.2.2.2.2.2.2.2.2.2.2.2.2.2.2.2.2.2.2.2.2.1, hR.2.2.2.2.2.2.2.2.2.2.2.2.2.2.2.2.2.2.2.2.2.2.2.1, hR.2.2.2.2.2.2.2.2.2.2.2.2.2.2.2.2.2.2.2.2.2.2.2.2.1, hR.2.2.2.2.2.2.2.2.2.2.2.2.2.2.2.2.2.2.2.2.2.2.2.2.2.1, hR.2.2.2.2.2.2.2.2.2.2.2.2.2.2.2.2.2.2.2.2.2.2.2.2.2.2.1, hR.2.2.2.2.2.2.2.2.2.2.2.2.2.2.2.2.2.2.2.2.2.2.2.2.2.2.2.1, hR.2.2.2.2.2.2.2.2.2.2.2.2.2.2.2.2.2.2.2.2.2.2.2.2.2.2.2.2.1, hR.2.2.2.2.2.2.2.2.2.2.2.2.2.2.2.2.2.2.2.2.2.2.2.2.2.2.2.2.2.1, hR.2.2.2.2.2.2.2.2.2.2.2.2.2.2.2.2.2.2.2.2.2.2.2.2.2.2.2.2.2.2.1, hR.2.2.2.2.2.2.2.2.2.2.2.2.2.2.2.2.2.2.2.2.2.2.2.2.2.2.2.2.2.2.2.1, hR.2.2.2.2.2.2.2.2.2.2.2.2.2.2.2.2.2.2.2.2.2.2.2.2.2.2.2.2.2.2.2.2.1, hR.2.2.2.2.2.2.2.2.2.2.2.2.2.2.2.2.2.2.2.2.2.2.2.2.2.2.2.2.2.2.2.2.2.1, hR.2.2.2.2.2.2.2.2.2.2.2.2.2.2.2.2.2.2.2.2.2.2.2.2.2.2.2.2.2.2.2.2.2.2.1, hR.2.2.2.2.2.2.2.2.2.2.2.2.2.2.2.2.2.2.2.2.2.2.2.2.2.2.2.2.2.2.2.2.2.2.2, hW0, e0, e1, ↓lt_e, ↓gd_e, ↓Option.bind_some, ↓reduceIte, if_true, if_false, if_pT, if_nF, decide_true, Bool.not_true, Bool.not_false, not_true_eq_false, not_false_eq_true, Bool.false_eq_true, Bool.true_eq_false, eq_self, n3_lit, n3_tn, n3_inb, n3_le_f, n3_eq_t, n3_eq_f, n3_sub, ng_pn_lt, n3_lt_f, n3_mul, n3_add, n3_shl, n3_or]; rfl
      · simp (disch := omega) only [bd_X12_rests_32, ↓lt_e, ↓gd_e, ↓Option.bind_some, ↓reduceIte, if_true, if_false, if_pT, if_nF, decide_true, Bool.not_true, Bool.not_false, not_true_eq_false, not_false_eq_true, Bool.false_eq_true, Bool.true_eq_false, eq_self, n3_lit, n3_add, n3_mul, n3_sub, n3_tn, n3_le_t, n3_le_f, n3_lt_t, n3_lt_f, n3_eq_f, n3_eq_t, n3_inb, n3_rem, n3_div, n3_zb, bb_0, bb_1, zb_bb, bb_T, bb_F, n3_dec, n3_m1, n3_eqm, n3_eqmt, n3_ltm, n3_mlt, n3_lem, n3_mle, n3_neg_lt, n3_nlt_neg, n3_nle_neg, n3_neg_le]; rfl
  · simp (disch := omega) only [bd_X12_rests_24, ↓lt_e, ↓gd_e, ↓Option.bind_some, ↓reduceIte, if_true, if_false, if_pT, if_nF, decide_true, Bool.not_true, Bool.not_false, not_true_eq_false, not_false_eq_true, Bool.false_eq_true, Bool.true_eq_false, eq_self, n3_lit, n3_add, n3_mul, n3_sub, n3_tn, n3_le_t, n3_le_f, n3_lt_t, n3_lt_f, n3_eq_f, n3_eq_t, n3_inb, n3_rem, n3_div, n3_zb, bb_0, bb_1, zb_bb, bb_T, bb_F, n3_dec, n3_m1, n3_eqm, n3_eqmt, n3_ltm, n3_mlt, n3_lem, n3_mle, n3_neg_lt, n3_nlt_neg, n3_nle_neg, n3_neg_le]; rfl
/-! odds: longs -/
def n6 (a : Nat) : Int64 := Int64.ofNat a
theorem n6_lit (k : Nat) : (no_index (OfNat.ofNat k) : Int64) = n6 k := rfl
theorem n6_add (a b : Nat) : n6 a + n6 b = n6 (a + b) := (Int64.ofNat_add a b).symm
theorem n6_mul (a b : Nat) : n6 a * n6 b = n6 (a * b) := (Int64.ofNat_mul a b).symm
theorem n6_toInt {a : Nat} (h : a < 9223372036854775808) : (n6 a).toInt = a := Int64.toInt_ofNat_of_lt h
theorem n6_inj {a b : Nat} (ha : a < 9223372036854775808) (hb : b < 9223372036854775808) (e : n6 a = n6 b) : a = b := by
  have := congrArg Int64.toInt e
  rw [n6_toInt ha, n6_toInt hb] at this; omega
theorem n6_div {a b : Nat} (ha : a < 9223372036854775808) (hb : b < 9223372036854775808) : n6 a / n6 b = n6 (a / b) := (Int64.ofNat_div ha hb).symm
theorem n36 {a : Nat} (h : a < 2147483648) : Int32.toInt64 (n3 a) = n6 a := by
  apply Int64.toInt_inj.1
  rw [Int32.toInt_toInt64, n3_toInt h, n6_toInt (by omega)]
theorem n63 {a : Nat} (h : a < 2147483648) : Int64.toInt32 (n6 a) = n3 a := by
  apply Int32.toInt_inj.1
  rw [Int64.toInt_toInt32, n6_toInt (by omega), n3_toInt h]
  exact Int.bmod_eq_of_le (by omega) (by omega)
theorem mLe (μ : Mem) (a k : Nat) (v : Int64) : (msetL μ a k v).2 a k = v := by
  show va_up μ.2 a (vp_updL (μ.2 a) k v) a k = v
  rw [va_up_self]; exact if_pos rfl
theorem mLn {μ : Mem} {a k l : Nat} {v : Int64} (h : l ≠ k) : (msetL μ a k v).2 a l = μ.2 a l := by
  show va_up μ.2 a (vp_updL (μ.2 a) k v) a l = μ.2 a l
  rw [va_up_self]; exact if_neg h
theorem Fr.setL {ad : Nat → Nat} (hj : Inj ad) {I : Nat → Prop} {μ μ' : Mem} (h : Fr ad I μ μ') {i k : Nat} {v : Int64} (hi : I i) : Fr ad I μ (msetL μ' (ad i) k v) := fun q hq => ⟨(h q hq).1, (va_up_ne _ _ (fun e => hq (by rw [hj _ _ e]; exact hi))).trans (h q hq).2⟩
/-! odds: the class -/
def pwr (s : Nat) : Nat → Nat
  | 0 => 1
  | i + 1 => pwr s i * s
def chs (n k : Nat) : Nat → Nat
  | 0 => 1
  | j + 1 => chs n k j * (n - k + (j + 1)) / (j + 1)
def wth (n k s : Nat) : Nat → Nat
  | 0 => 0
  | t + 1 => wth n k s t + chs n (k + t) (k + t) * pwr s (k + t)
def wy (s : Nat) : Nat → Nat → Nat
  | 0, i => if i = 0 then 1 else 0
  | h + 1, i => wy s h i + (if i = 0 then 0 else wy s h (i - 1) * s)
def wsm (s n k : Nat) : Nat → Nat
  | 0 => 0
  | t + 1 => wsm s n k t + wy s n (k + t)
theorem chs_le : ∀ n, n < 6 → ∀ k, k < n + 1 → ∀ j, j < k + 1 → chs n k j ≤ 10 := by decide +kernel
theorem pwr_le : ∀ s, s < 7 → ∀ i, i < 6 → 1 ≤ pwr s i + (1 - s) ∧ pwr s i ≤ 7776 := by decide +kernel
theorem wth_le : ∀ n, n < 6 → ∀ k, k < 6 → ∀ s, s < 6 → ∀ t, t < n + 2 - k → wth n k s t ≤ 7776 := by decide +kernel
theorem wy_le : ∀ s, s < 6 → ∀ h, h < 6 → ∀ i, i < 6 → wy s h i ≤ 7776 := by decide +kernel
theorem wsm_le : ∀ s, s < 6 → ∀ n, n < 6 → ∀ k, k < 6 → ∀ t, t < 7 - k → wsm s n k t ≤ 7776 := by decide +kernel
theorem wth_wsm : ∀ n, n < 6 → ∀ k, k < 6 → ∀ s, s < 6 → wth n k s (n + 1 - k) = wsm s n k (6 - k) := by decide +kernel
def odF (n k s : Nat) : Nat := 10000 * wsm s n k (6 - k) / pwr (s + 1) n
theorem c_choices {N : Nat} (hN : 1099511627776 ≤ N) {Λ : Lay} {μ : Mem} {n k : Nat} (hn : n ≤ 5) (hk : k ≤ n) : m_X6_choices N Λ μ (n3 n) (n3 k) = some (n3 (chs n k k)) := by
  unfold m_X6_choices lp_X6_choices_4
  refine cw_it (fun j => (n3 (chs n k j), n3 (j + 1))) k rfl (fun j hj q => ?_) (fun q => ?_) (by omega)
  · have := chs_le n (by omega) k (by omega) j (by omega)
    have hm : chs n k j * (n - k + (j + 1)) ≤ 10 * 100 := Nat.mul_le_mul this (by omega)
    simp (disch := omega) only [bd_X6_choices_4, ↓lt_e, ↓gd_e, ↓Option.bind_some, ↓reduceIte, if_true, if_false, if_pT, if_nF, decide_true, Bool.not_true, Bool.not_false, not_true_eq_false, not_false_eq_true, Bool.false_eq_true, Bool.true_eq_false, eq_self, n3_lit, n3_add, n3_mul, n3_sub, n3_tn, n3_le_t, n3_le_f, n3_lt_t, n3_lt_f, n3_eq_f, n3_eq_t, n3_inb, n3_rem, n3_div, n3_zb, bb_0, bb_1, zb_bb, bb_T, bb_F, n3_dec, n3_m1, n3_eqm, n3_eqmt, n3_ltm, n3_mlt, n3_lem, n3_mle, n3_neg_lt, n3_nlt_neg, n3_nle_neg, n3_neg_le, chs]
  · simp (disch := omega) only [bd_X6_choices_4, ↓lt_e, ↓gd_e, ↓Option.bind_some, ↓reduceIte, if_true, if_false, if_pT, if_nF, decide_true, Bool.not_true, Bool.not_false, not_true_eq_false, not_false_eq_true, Bool.false_eq_true, Bool.true_eq_false, eq_self, n3_lit, n3_add, n3_mul, n3_sub, n3_tn, n3_le_t, n3_le_f, n3_lt_t, n3_lt_f, n3_eq_f, n3_eq_t, n3_inb, n3_rem, n3_div, n3_zb, bb_0, bb_1, zb_bb, bb_T, bb_F, n3_dec, n3_m1, n3_eqm, n3_eqmt, n3_ltm, n3_mlt, n3_lem, n3_mle, n3_neg_lt, n3_nlt_neg, n3_nle_neg, n3_neg_le]
theorem c_power {N : Nat} (hN : 1099511627776 ≤ N) {Λ : Lay} {μ : Mem} {s k : Nat} (hk : k ≤ 5) : m_X6_power N Λ μ (n3 s) (n3 k) = some (n3 (pwr s k)) := by
  unfold m_X6_power lp_X6_power_4
  refine cw_it (fun j => (n3 (pwr s j), n3 j)) k rfl (fun j hj q => ?_) (fun q => ?_) (by omega)
  · simp (disch := omega) only [bd_X6_power_4, ↓lt_e, ↓gd_e, ↓Option.bind_some, ↓reduceIte, if_true, if_false, if_pT, if_nF, decide_true, Bool.not_true, Bool.not_false, not_true_eq_false, not_false_eq_true, Bool.false_eq_true, Bool.true_eq_false, eq_self, n3_lit, n3_add, n3_mul, n3_sub, n3_tn, n3_le_t, n3_le_f, n3_lt_t, n3_lt_f, n3_eq_f, n3_eq_t, n3_inb, n3_rem, n3_div, n3_zb, bb_0, bb_1, zb_bb, bb_T, bb_F, n3_dec, n3_m1, n3_eqm, n3_eqmt, n3_ltm, n3_mlt, n3_lem, n3_mle, n3_neg_lt, n3_nlt_neg, n3_nle_neg, n3_neg_le, pwr]
  · simp (disch := omega) only [bd_X6_power_4, ↓lt_e, ↓gd_e, ↓Option.bind_some, ↓reduceIte, if_true, if_false, if_pT, if_nF, decide_true, Bool.not_true, Bool.not_false, not_true_eq_false, not_false_eq_true, Bool.false_eq_true, Bool.true_eq_false, eq_self, n3_lit, n3_add, n3_mul, n3_sub, n3_tn, n3_le_t, n3_le_f, n3_lt_t, n3_lt_f, n3_eq_f, n3_eq_t, n3_inb, n3_rem, n3_div, n3_zb, bb_0, bb_1, zb_bb, bb_T, bb_F, n3_dec, n3_m1, n3_eqm, n3_eqmt, n3_ltm, n3_mlt, n3_lem, n3_mle, n3_neg_lt, n3_nlt_neg, n3_nle_neg, n3_neg_le]
theorem c_oddsOf {N : Nat} (hN : 1099511627776 ≤ N) {Λ : Lay} {μ : Mem} {n k s : Nat} (hn : n ≤ 5) (hk : k ≤ 5) (hs : s ≤ 5) : m_X6_oddsOf N Λ μ (n3 n) (n3 k) (n3 s) = some (n3 (odF n k s)) := by
  unfold m_X6_oddsOf lp_X6_oddsOf_5
  refine cw_it (fun j => (n3 (pwr (s + 1) j), n3 j)) n rfl (fun j hj q => ?_) (fun q => ?_) (by omega)
  · simp (disch := omega) only [bd_X6_oddsOf_5, ↓lt_e, ↓gd_e, ↓Option.bind_some, ↓reduceIte, if_true, if_false, if_pT, if_nF, decide_true, Bool.not_true, Bool.not_false, not_true_eq_false, not_false_eq_true, Bool.false_eq_true, Bool.true_eq_false, eq_self, n3_lit, n3_add, n3_mul, n3_sub, n3_tn, n3_le_t, n3_le_f, n3_lt_t, n3_lt_f, n3_eq_f, n3_eq_t, n3_inb, n3_rem, n3_div, n3_zb, bb_0, bb_1, zb_bb, bb_T, bb_F, n3_dec, n3_m1, n3_eqm, n3_eqmt, n3_ltm, n3_mlt, n3_lem, n3_mle, n3_neg_lt, n3_nlt_neg, n3_nle_neg, n3_neg_le, pwr]
  · simp (disch := omega) only [bd_X6_oddsOf_5, ↓lt_e, ↓gd_e, ↓Option.bind_some, ↓reduceIte, if_true, if_false, if_pT, if_nF, decide_true, Bool.not_true, Bool.not_false, not_true_eq_false, not_false_eq_true, Bool.false_eq_true, Bool.true_eq_false, eq_self, n3_lit, n3_add, n3_mul, n3_sub, n3_tn, n3_le_t, n3_le_f, n3_lt_t, n3_lt_f, n3_eq_f, n3_eq_t, n3_inb, n3_rem, n3_div, n3_zb, bb_0, bb_1, zb_bb, bb_T, bb_F, n3_dec, n3_m1, n3_eqm, n3_eqmt, n3_ltm, n3_mlt, n3_lem, n3_mle, n3_neg_lt, n3_nlt_neg, n3_nle_neg, n3_neg_le, lp_X6_oddsOf_29]
    refine cw_it (fun t => (n3 (wth n k s t), n3 (k + t))) (n + 1 - k) rfl (fun t ht q' => ?_) (fun q' => ?_) (by omega)
    · have c1 := c_choices (Λ := Λ) (μ := μ) hN hn (show k + t ≤ n by omega)
      have c2 := c_power (Λ := Λ) (μ := μ) (s := s) hN (show k + t ≤ 5 by omega)
      simp (disch := omega) only [bd_X6_oddsOf_29, c1, c2, ↓lt_e, ↓gd_e, ↓Option.bind_some, ↓reduceIte, if_true, if_false, if_pT, if_nF, decide_true, Bool.not_true, Bool.not_false, not_true_eq_false, not_false_eq_true, Bool.false_eq_true, Bool.true_eq_false, eq_self, n3_lit, n3_add, n3_mul, n3_sub, n3_tn, n3_le_t, n3_le_f, n3_lt_t, n3_lt_f, n3_eq_f, n3_eq_t, n3_inb, n3_rem, n3_div, n3_zb, bb_0, bb_1, zb_bb, bb_T, bb_F, n3_dec, n3_m1, n3_eqm, n3_eqmt, n3_ltm, n3_mlt, n3_lem, n3_mle, n3_neg_lt, n3_nlt_neg, n3_nle_neg, n3_neg_le, wth]; rfl
    · have p1 := pwr_le (s + 1) (by omega) n (by omega)
      have ew := wth_wsm n (by omega) k (by omega) s (by omega)
      have w1 := wsm_le s (by omega) n (by omega) k (by omega) (6 - k) (by omega)
      rw [← ew] at w1
      unfold odF
      rw [← ew]
      by_cases hkn : k ≤ n
      · rw [show k + (n + 1 - k) = n + 1 by omega]
        simp (disch := omega) only [jn_X6_oddsOf_75, bd_X6_oddsOf_29, bd_X6_oddsOf_5, ↓lt_e, ↓gd_e, ↓Option.bind_some, ↓reduceIte, if_true, if_false, if_pT, if_nF, decide_true, Bool.not_true, Bool.not_false, not_true_eq_false, not_false_eq_true, Bool.false_eq_true, Bool.true_eq_false, eq_self, n3_lit, n3_add, n3_mul, n3_sub, n3_tn, n3_le_t, n3_le_f, n3_lt_t, n3_lt_f, n3_eq_f, n3_eq_t, n3_inb, n3_rem, n3_div, n3_zb, bb_0, bb_1, zb_bb, bb_T, bb_F, n3_dec, n3_m1, n3_eqm, n3_eqmt, n3_ltm, n3_mlt, n3_lem, n3_mle, n3_neg_lt, n3_nlt_neg, n3_nle_neg, n3_neg_le]
      · rw [show k + (n + 1 - k) = k by omega]
        simp (disch := omega) only [jn_X6_oddsOf_75, bd_X6_oddsOf_29, bd_X6_oddsOf_5, ↓lt_e, ↓gd_e, ↓Option.bind_some, ↓reduceIte, if_true, if_false, if_pT, if_nF, decide_true, Bool.not_true, Bool.not_false, not_true_eq_false, not_false_eq_true, Bool.false_eq_true, Bool.true_eq_false, eq_self, n3_lit, n3_add, n3_mul, n3_sub, n3_tn, n3_le_t, n3_le_f, n3_lt_t, n3_lt_f, n3_eq_f, n3_eq_t, n3_inb, n3_rem, n3_div, n3_zb, bb_0, bb_1, zb_bb, bb_T, bb_F, n3_dec, n3_m1, n3_eqm, n3_eqmt, n3_ltm, n3_mlt, n3_lem, n3_mle, n3_neg_lt, n3_nlt_neg, n3_nle_neg, n3_neg_le]
theorem C_odds_f {N : Nat} (hN : 1099511627776 ≤ N) {Λ : Lay} {ad : Nat → Nat} {μ : Mem} {F : Nat → Nat} {m : Nat} {A : Nat → Nat → Nat} {b : Nat} {J : Nat → Nat} {T : Nat → Int32} {n : Nat} {f : Int32} (hY : Ly Λ ad) (h : RC ad μ F m A b J T n f) (ho : Ok F m A b J T n)  (x y : Int32) (hx : inr x 6 = false ∨ inr y 6 = false) : CT ad μ (m_X11_odds N Λ μ (ad 0) x y) 1 0 F m A b J T n f := by
  refine CT.same h ?_
  by_cases h1 : inr x 6 = true
  · have h2 := hx.resolve_left (by rw [h1]; decide)
    simp (disch := omega) only [m_X11_odds, c_need4, h1, h2, thn_T, thn_0, thn_1, thn_2, thn_3, thn_4, thn_5, ↓lt_e, ↓gd_e, ↓Option.bind_some, ↓reduceIte, if_true, if_false, if_pT, if_nF, decide_true, Bool.not_true, Bool.not_false, not_true_eq_false, not_false_eq_true, Bool.false_eq_true, Bool.true_eq_false, eq_self, n3_lit]
  · simp (disch := omega) only [m_X11_odds, c_need4, h1, thn_T, thn_0, thn_1, thn_2, thn_3, thn_4, thn_5, ↓lt_e, ↓gd_e, ↓Option.bind_some, ↓reduceIte, if_true, if_false, if_pT, if_nF, decide_true, Bool.not_true, Bool.not_false, not_true_eq_false, not_false_eq_true, Bool.false_eq_true, Bool.true_eq_false, eq_self, n3_lit]
theorem C_odds_t {N : Nat} (hN : 1099511627776 ≤ N) {Λ : Lay} {ad : Nat → Nat} {μ : Mem} {F : Nat → Nat} {m : Nat} {A : Nat → Nat → Nat} {b : Nat} {J : Nat → Nat} {T : Nat → Int32} {n : Nat} {f : Int32} (hY : Ly Λ ad) (h : RC ad μ F m A b J T n f) (ho : Ok F m A b J T n)  (a k : Nat) (ha : a ≤ 5) (hk : k ≤ 5) : CT ad μ (m_X11_odds N Λ μ (ad 0) (n3 a) (n3 k)) 0 (n3 (odF a k (F 7))) F m A b J T n f := by
  have hj := hY.1
  have hP := hY.2.2.1
  have hS := hY.2.2.2.1 3 (Or.inl rfl)
  have hL := hY.2.2.2.2.1 30 (Or.inl rfl)
  have hC := h.1
  have hw := ho.1
  have hl := ho.2.1
  have hb := hw.1; unfold WB at hb
  have co := c_oddsOf (Λ := Λ) (μ := μ) hN ha hk hb.2.2.2.2.2.2.2.1
  have q4 : μ.1 (ad 3) 4 = n3 (F 7) := hC.2.2.2.2.1
  refine CT.same h ?_
  simp (disch := omega) only [m_X11_odds, c_need4, inr_n3, thn_T, thn_0, thn_1, thn_2, thn_3, thn_4, thn_5, ↓ob (hP.1), ↓ob (hP.2.1), ↓ob (hP.2.2.1), ↓ob (hP.2.2.2.1), ↓ob (hP.2.2.2.2.1), ↓ob (hP.2.2.2.2.2.1), ↓ob (hP.2.2.2.2.2.2.1), ↓ob (hP.2.2.2.2.2.2.2.1), ↓ob (hP.2.2.2.2.2.2.2.2.1), ↓ob (hP.2.2.2.2.2.2.2.2.2.1), ↓ob (hP.2.2.2.2.2.2.2.2.2.2.1), ↓ob (hP.2.2.2.2.2.2.2.2.2.2.2.1), ↓ob (hP.2.2.2.2.2.2.2.2.2.2.2.2.1), ↓ob (hP.2.2.2.2.2.2.2.2.2.2.2.2.2.1), hP.2.2.2.2.2.2.2.2.2.2.2.2.2.2, q4, co, ↓lt_e, ↓gd_e, ↓Option.bind_some, ↓reduceIte, if_true, if_false, if_pT, if_nF, decide_true, Bool.not_true, Bool.not_false, not_true_eq_false, not_false_eq_true, Bool.false_eq_true, Bool.true_eq_false, eq_self, n3_lit]
theorem R_odds_f {N : Nat} (hN : 1099511627776 ≤ N) {Λ : Lay} {ad : Nat → Nat} {μ : Mem} {F : Nat → Nat} {m : Nat} {A : Nat → Nat → Nat} {b : Nat} {J : Nat → Nat} {T : Nat → Int32} {n : Nat} {f : Int32} (hY : Ly Λ ad) (h : RR ad μ F m A b J T n f) (ho : Ok F m A b J T n)  (x y : Int32) (hx : inr x 6 = false ∨ inr y 6 = false) : RV ad μ (m_X12_odds N Λ μ (ad 181) x y) 1 0 F m A b J T n f := by
  have hj := hY.1
  have hR := hY.2.1
  have hW := h.1
  have hw := ho.1
  have hl := ho.2.1
  have hb := hw.1; unfold WB at hb
  unfold m_X12_odds
  refine RV.start hY.1 h (fun μ0 h0 t0 => RV.thrown hY.1 h0 ?_)
  by_cases h1 : inr x 6 = true
  · have h2 := hx.resolve_left (by rw [h1]; decide)
    simp (disch := omega) only [jn_X12_odds_24, jn_X12_odds_29, r_in0, h1, h2, r_thr1, ↓lt_e, ↓gd_e, ↓Option.bind_some, ↓reduceIte, if_true, if_false, if_pT, if_nF, decide_true, Bool.not_true, Bool.not_false, not_true_eq_false, not_false_eq_true, Bool.false_eq_true, Bool.true_eq_false, eq_self, n3_lit, n3_add, n3_mul, n3_sub, n3_tn, n3_le_t, n3_le_f, n3_lt_t, n3_lt_f, n3_eq_f, n3_eq_t, n3_inb, n3_rem, n3_div, n3_zb, bb_0, bb_1, zb_bb, bb_T, bb_F, n3_dec, n3_m1, n3_eqm, n3_eqmt, n3_ltm, n3_mlt, n3_lem, n3_mle, n3_neg_lt, n3_nlt_neg, n3_nle_neg, n3_neg_le]
  · simp (disch := omega) only [jn_X12_odds_24, jn_X12_odds_29, r_in0, h1, r_thr1, ↓lt_e, ↓gd_e, ↓Option.bind_some, ↓reduceIte, if_true, if_false, if_pT, if_nF, decide_true, Bool.not_true, Bool.not_false, not_true_eq_false, not_false_eq_true, Bool.false_eq_true, Bool.true_eq_false, eq_self, n3_lit, n3_add, n3_mul, n3_sub, n3_tn, n3_le_t, n3_le_f, n3_lt_t, n3_lt_f, n3_eq_f, n3_eq_t, n3_inb, n3_rem, n3_div, n3_zb, bb_0, bb_1, zb_bb, bb_T, bb_F, n3_dec, n3_m1, n3_eqm, n3_eqmt, n3_ltm, n3_mlt, n3_lem, n3_mle, n3_neg_lt, n3_nlt_neg, n3_nle_neg, n3_neg_le]
theorem R_odds_t {N : Nat} (hN : 1099511627776 ≤ N) {Λ : Lay} {ad : Nat → Nat} {μ : Mem} {F : Nat → Nat} {m : Nat} {A : Nat → Nat → Nat} {b : Nat} {J : Nat → Nat} {T : Nat → Int32} {n : Nat} {f : Int32} (hY : Ly Λ ad) (h : RR ad μ F m A b J T n f) (ho : Ok F m A b J T n)  (a c : Nat) (ha : a ≤ 5) (hc : c ≤ 5) : RV ad μ (m_X12_odds N Λ μ (ad 181) (n3 a) (n3 c)) 0 (n3 (odF a c (F 7))) F m A b J T n f := by
  have hj := hY.1
  have hR := hY.2.1
  have hW := h.1
  have hw := ho.1
  have hl := ho.2.1
  have hb := hw.1; unfold WB at hb
  unfold m_X12_odds
  refine RV.start hY.1 h (fun μ0 h0 t0 => ?_)
  have h7 : F 7 ≤ 5 := hb.2.2.2.2.2.2.2.1
  simp (disch := omega) only [jn_X12_odds_29, r_in0, inr_n3, r_thr0, ↓lt_e, ↓gd_e, ↓Option.bind_some, ↓reduceIte, if_true, if_false, if_pT, if_nF, decide_true, Bool.not_true, Bool.not_false, not_true_eq_false, not_false_eq_true, Bool.false_eq_true, Bool.true_eq_false, eq_self, n3_lit, n3_add, n3_mul, n3_sub, n3_tn, n3_le_t, n3_le_f, n3_lt_t, n3_lt_f, n3_eq_f, n3_eq_t, n3_inb, n3_rem, n3_div, n3_zb, bb_0, bb_1, zb_bb, bb_T, bb_F, n3_dec, n3_m1, n3_eqm, n3_eqmt, n3_ltm, n3_mlt, n3_lem, n3_mle, n3_neg_lt, n3_nlt_neg, n3_nle_neg, n3_neg_le, lp_X12_odds_43]
  refine cw_iv (P := fun i x => ∃ μ1 : Mem, x = (n3 i, μ1) ∧ (∀ j, j < i → μ1.2 (ad 199) j = n6 (wy (F 7) 0 j)) ∧ Fr ad (fun i => i = 199) μ0 μ1) (Q := fun X => RV ad μ0 X 0 (n3 (odF a c (F 7))) F m A b J T n f) 6 ⟨μ0, rfl, fun j hj => absurd hj (Nat.not_lt_zero j), Fr.refl μ0⟩ (fun i hi x hx => ?_) (fun x hx => ?_) (show 6 < N by omega)
  · obtain ⟨μ1, rfl, hr, hf⟩ := hx
    left
    refine ⟨_, ⟨msetL μ1 (ad 199) i (n6 (wy (F 7) 0 i)), rfl, fun j hji => ?_, hf.setL hj (by rfl)⟩, fun k => ?_⟩
    · by_cases e : j = i
      · subst e; rw [mLe]
      · rw [mLn e]; exact hr j (by omega)
    · by_cases e : i = 0
      · have ew : wy (F 7) 0 i = 1 := by rw [e]; rfl
        simp (disch := omega) only [bd_X12_odds_43, jn_X12_odds_65, ↓ob (hR.1), ↓ob (hR.2.1), ↓ob (hR.2.2.1), ↓ob (hR.2.2.2.1), ↓ob (hR.2.2.2.2.1), ↓ob (hR.2.2.2.2.2.1), ↓ob (hR.2.2.2.2.2.2.1), ↓ob (hR.2.2.2.2.2.2.2.1), ↓ob (hR.2.2.2.2.2.2.2.2.1), ↓ob (hR.2.2.2.2.2.2.2.2.2.1), ↓ob (hR.2.2.2.2.2.2.2.2.2.2.1), ↓ob (hR.2.2.2.2.2.2.2.2.2.2.2.1), ↓ob (hR.2.2.2.2.2.2.2.2.2.2.2.2.1), ↓ob (hR.2.2.2.2.2.2.2.2.2.2.2.2.2.1), ↓ob (hR.2.2.2.2.2.2.2.2.2.2.2.2.2.2.1), ↓ob (hR.2.2.2.2.2.2.2.2.2.2.2.2.2.2.2.1), ↓ob (hR.2.2.2.2.2.2.2.2.2.2.2.2.2.2.2.2.1), ↓ob (hR.2.2.2.2.2.2.2.2.2.2.2.2.2.2.2.2.2.1), hR.2.2.2.2.2.2.2.2.2.2.2.2.2.2.2.2.2.2.1, hR.2.2.2.2.2.2.2.2.2.2.2.2.2.2.2.2.2.2.2.1, hR.2.2.2.2.2.2.2.2.2.2.2.2.2.2.2.2.2.2.2.2.1, hR.2.2.2.2.2.2.2.2.2.2.2.2.2.2.2.2.2.2.2.2.2.1, hR.2.2.2.2.2.2.2.2.2.2.2.2.2.2.2.2.2.2.2.2.2.2.1, hR.2.2.2.2.2.2.2.2.2.2.2.2.2.2.2.2.2.2.2.2.2.2.2.1, hR.2.2.2.2.2.2.2.2.2.2.2.2.2.2.2.2.2.2.2.2.2.2.2.2.1, hR.2.2.2.2.2.2.2.2.2.2.2.2.2.2.2.2.2.2.2.2.2.2.2.2.2.1, hR.2.2.2.2.2.2.2.2.2.2.2.2.2.2.2.2.2.2.2.2.2.2.2.2.2.2.1, hR.2.2.2.2.2.2.2.2.2.2.2.2.2.2.2.2.2.2.2.2.2.2.2.2.2.2.2.1, hR.2.2.2.2.2.2.2.2.2.2.2.2.2.2.2.2.2.2.2.2.2.2.2.2.2.2.2.2.1, hR.2.2.2.2.2.2.2.2.2.2.2.2.2.2.2.2.2.2.2.2.2.2.2.2.2.2.2.2.2.1, hR.2.2.2.2.2.2.2.2.2.2.2.2.2.2.2.2.2.2.2.2.2.2.2.2.2.2.2.2.2.2.1, hR.2.2.2.2.2.2.2.2.2.2.2.2.2.2.2.2.2.2.2.2.2.2.2.2.2.2.2.2.2.2.2.1, hR.2.2.2.2.2.2.2.2.2.2.2.2.2.2.2.2.2.2.2.2.2.2.2.2.2.2.2.2.2.2.2.2.1, hR.2.2.2.2.2.2.2.2.2.2.2.2.2.2.2.2.2.2.2.2.2.2.2.2.2.2.2.2.2.2.2.2.2.1, hR.2.2.2.2.2.2.2.2.2.2.2.2.2.2.2.2.2.2.2.2.2.2.2.2.2.2.2.2.2.2.2.2.2.2.1, hR.2.2.2.2.2.2.2.2.2.2.2.2.2.2.2.2.2.2.2.2.2.2.2.2.2.2.2.2.2.2.2.2.2.2.2, e, ew, ↓lt_e, ↓gd_e, ↓Option.bind_some, ↓reduceIte, if_true, if_false, if_pT, if_nF, decide_true, Bool.not_true, Bool.not_false, not_true_eq_false, not_false_eq_true, Bool.false_eq_true, Bool.true_eq_false, eq_self, n3_lit, n3_add, n3_mul, n3_sub, n3_tn, n3_le_t, n3_le_f, n3_lt_t, n3_lt_f, n3_eq_f, n3_eq_t, n3_inb, n3_rem, n3_div, n3_zb, bb_0, bb_1, zb_bb, bb_T, bb_F, n3_dec, n3_m1, n3_eqm, n3_eqmt, n3_ltm, n3_mlt, n3_lem, n3_mle, n3_neg_lt, n3_nlt_neg, n3_nle_neg, n3_neg_le, n6_lit]; rfl
      · have ew : wy (F 7) 0 i = 0 := if_neg e
        simp (disch := omega) only [bd_X12_odds_43, jn_X12_odds_65, ↓ob (hR.1), ↓ob (hR.2.1), ↓ob (hR.2.2.1), ↓ob (hR.2.2.2.1), ↓ob (hR.2.2.2.2.1), ↓ob (hR.2.2.2.2.2.1), ↓ob (hR.2.2.2.2.2.2.1), ↓ob (hR.2.2.2.2.2.2.2.1), ↓ob (hR.2.2.2.2.2.2.2.2.1), ↓ob (hR.2.2.2.2.2.2.2.2.2.1), ↓ob (hR.2.2.2.2.2.2.2.2.2.2.1), ↓ob (hR.2.2.2.2.2.2.2.2.2.2.2.1), ↓ob (hR.2.2.2.2.2.2.2.2.2.2.2.2.1), ↓ob (hR.2.2.2.2.2.2.2.2.2.2.2.2.2.1), ↓ob (hR.2.2.2.2.2.2.2.2.2.2.2.2.2.2.1), ↓ob (hR.2.2.2.2.2.2.2.2.2.2.2.2.2.2.2.1), ↓ob (hR.2.2.2.2.2.2.2.2.2.2.2.2.2.2.2.2.1), ↓ob (hR.2.2.2.2.2.2.2.2.2.2.2.2.2.2.2.2.2.1), hR.2.2.2.2.2.2.2.2.2.2.2.2.2.2.2.2.2.2.1, hR.2.2.2.2.2.2.2.2.2.2.2.2.2.2.2.2.2.2.2.1, hR.2.2.2.2.2.2.2.2.2.2.2.2.2.2.2.2.2.2.2.2.1, hR.2.2.2.2.2.2.2.2.2.2.2.2.2.2.2.2.2.2.2.2.2.1, hR.2.2.2.2.2.2.2.2.2.2.2.2.2.2.2.2.2.2.2.2.2.2.1, hR.2.2.2.2.2.2.2.2.2.2.2.2.2.2.2.2.2.2.2.2.2.2.2.1, hR.2.2.2.2.2.2.2.2.2.2.2.2.2.2.2.2.2.2.2.2.2.2.2.2.1, hR.2.2.2.2.2.2.2.2.2.2.2.2.2.2.2.2.2.2.2.2.2.2.2.2.2.1, hR.2.2.2.2.2.2.2.2.2.2.2.2.2.2.2.2.2.2.2.2.2.2.2.2.2.2.1, hR.2.2.2.2.2.2.2.2.2.2.2.2.2.2.2.2.2.2.2.2.2.2.2.2.2.2.2.1, hR.2.2.2.2.2.2.2.2.2.2.2.2.2.2.2.2.2.2.2.2.2.2.2.2.2.2.2.2.1, hR.2.2.2.2.2.2.2.2.2.2.2.2.2.2.2.2.2.2.2.2.2.2.2.2.2.2.2.2.2.1, hR.2.2.2.2.2.2.2.2.2.2.2.2.2.2.2.2.2.2.2.2.2.2.2.2.2.2.2.2.2.2.1, hR.2.2.2.2.2.2.2.2.2.2.2.2.2.2.2.2.2.2.2.2.2.2.2.2.2.2.2.2.2.2.2.1, hR.2.2.2.2.2.2.2.2.2.2.2.2.2.2.2.2.2.2.2.2.2.2.2.2.2.2.2.2.2.2.2.2.1, hR.2.2.2.2.2.2.2.2.2.2.2.2.2.2.2.2.2.2.2.2.2.2.2.2.2.2.2.2.2.2.2.2.2.1, hR.2.2.2.2.2.2.2.2.2.2.2.2.2.2.2.2.2.2.2.2.2.2.2.2.2.2.2.2.2.2.2.2.2.2.1, hR.2.2.2.2.2.2.2.2.2.2.2.2.2.2.2.2.2.2.2.2.2.2.2.2.2.2.2.2.2.2.2.2.2.2.2, ew, ↓lt_e, ↓gd_e, ↓Option.bind_some, ↓reduceIte, if_true, if_false, if_pT, if_nF, decide_true, Bool.not_true, Bool.not_false, not_true_eq_false, not_false_eq_true, Bool.false_eq_true, Bool.true_eq_false, eq_self, n3_lit, n3_add, n3_mul, n3_sub, n3_tn, n3_le_t, n3_le_f, n3_lt_t, n3_lt_f, n3_eq_f, n3_eq_t, n3_inb, n3_rem, n3_div, n3_zb, bb_0, bb_1, zb_bb, bb_T, bb_F, n3_dec, n3_m1, n3_eqm, n3_eqmt, n3_ltm, n3_mlt, n3_lem, n3_mle, n3_neg_lt, n3_nlt_neg, n3_nle_neg, n3_neg_le, n6_lit]
  · obtain ⟨μ1, rfl, hr, hf⟩ := hx
    have e43 : ∀ k, bd_X12_odds_43 N Λ μ1 k (ad 181) (n3 a) (n3 c) 1 (n3 6) = lp_X12_odds_75 N Λ (ad 181) (n3 a) (n3 c) (n6 1, n3 0, μ1) := fun k => by
      simp (disch := omega) only [bd_X12_odds_43, ↓ob (hR.1), ↓ob (hR.2.1), ↓ob (hR.2.2.1), ↓ob (hR.2.2.2.1), ↓ob (hR.2.2.2.2.1), ↓ob (hR.2.2.2.2.2.1), ↓ob (hR.2.2.2.2.2.2.1), ↓ob (hR.2.2.2.2.2.2.2.1), ↓ob (hR.2.2.2.2.2.2.2.2.1), ↓ob (hR.2.2.2.2.2.2.2.2.2.1), ↓ob (hR.2.2.2.2.2.2.2.2.2.2.1), ↓ob (hR.2.2.2.2.2.2.2.2.2.2.2.1), ↓ob (hR.2.2.2.2.2.2.2.2.2.2.2.2.1), ↓ob (hR.2.2.2.2.2.2.2.2.2.2.2.2.2.1), ↓ob (hR.2.2.2.2.2.2.2.2.2.2.2.2.2.2.1), ↓ob (hR.2.2.2.2.2.2.2.2.2.2.2.2.2.2.2.1), ↓ob (hR.2.2.2.2.2.2.2.2.2.2.2.2.2.2.2.2.1), ↓ob (hR.2.2.2.2.2.2.2.2.2.2.2.2.2.2.2.2.2.1), hR.2.2.2.2.2.2.2.2.2.2.2.2.2.2.2.2.2.2.1, hR.2.2.2.2.2.2.2.2.2.2.2.2.2.2.2.2.2.2.2.1, hR.2.2.2.2.2.2.2.2.2.2.2.2.2.2.2.2.2.2.2.2.1, hR.2.2.2.2.2.2.2.2.2.2.2.2.2.2.2.2.2.2.2.2.2.1, hR.2.2.2.2.2.2.2.2.2.2.2.2.2.2.2.2.2.2.2.2.2.2.1, hR.2.2.2.2.2.2.2.2.2.2.2.2.2.2.2.2.2.2.2.2.2.2.2.1, hR.2.2.2.2.2.2.2.2.2.2.2.2.2.2.2.2.2.2.2.2.2.2.2.2.1, hR.2.2.2.2.2.2.2.2.2.2.2.2.2.2.2.2.2.2.2.2.2.2.2.2.2.1, hR.2.2.2.2.2.2.2.2.2.2.2.2.2.2.2.2.2.2.2.2.2.2.2.2.2.2.1, hR.2.2.2.2.2.2.2.2.2.2.2.2.2.2.2.2.2.2.2.2.2.2.2.2.2.2.2.1, hR.2.2.2.2.2.2.2.2.2.2.2.2.2.2.2.2.2.2.2.2.2.2.2.2.2.2.2.2.1, hR.2.2.2.2.2.2.2.2.2.2.2.2.2.2.2.2.2.2.2.2.2.2.2.2.2.2.2.2.2.1, hR.2.2.2.2.2.2.2.2.2.2.2.2.2.2.2.2.2.2.2.2.2.2.2.2.2.2.2.2.2.2.1, hR.2.2.2.2.2.2.2.2.2.2.2.2.2.2.2.2.2.2.2.2.2.2.2.2.2.2.2.2.2.2.2.1, hR.2.2.2.2.2.2.2.2.2.2.2.2.2.2.2.2.2.2.2.2.2.2.2.2.2.2.2.2.2.2.2.2.1, hR.2.2.2.2.2.2.2.2.2.2.2.2.2.2.2.2.2.2.2.2.2.2.2.2.2.2.2.2.2.2.2.2.2.1, hR.2.2.2.2.2.2.2.2.2.2.2.2.2.2.2.2.2.2.2.2.2.2.2.2.2.2.2.2.2.2.2.2.2.2.1, hR.2.2.2.2.2.2.2.2.2.2.2.2.2.2.2.2.2.2.2.2.2.2.2.2.2.2.2.2.2.2.2.2.2.2.2, ↓lt_e, ↓gd_e, ↓Option.bind_some, ↓reduceIte, if_true, if_false, if_pT, if_nF, decide_true, Bool.not_true, Bool.not_false, not_true_eq_false, not_false_eq_true, Bool.false_eq_true, Bool.true_eq_false, eq_self, n3_lit, n3_add, n3_mul, n3_sub, n3_tn, n3_le_t, n3_le_f, n3_lt_t, n3_lt_f, n3_eq_f, n3_eq_t, n3_inb, n3_rem, n3_div, n3_zb, bb_0, bb_1, zb_bb, bb_T, bb_F, n3_dec, n3_m1, n3_eqm, n3_eqmt, n3_ltm, n3_mlt, n3_lem, n3_mle, n3_neg_lt, n3_nlt_neg, n3_nle_neg, n3_neg_le, n6_lit]
    refine ⟨_, ?_, e43⟩
    unfold lp_X12_odds_75
    refine cw_ik (P := fun i x => ∃ μ2 : Mem, x = (n6 (pwr (F 7 + 1) i), n3 i, μ2) ∧ (∀ j, j < 6 → μ2.2 (ad 199) j = n6 (wy (F 7) i j)) ∧ Fr ad (fun i => i = 199) μ0 μ2) (Q := fun X => RV ad μ0 X 0 (n3 (odF a c (F 7))) F m A b J T n f) a ⟨μ1, rfl, hr, hf⟩ (fun i hi x hx k => ?_) (fun x hx k => ?_) (show a < N by omega)
    · obtain ⟨μ2, rfl, hr2, hf2⟩ := hx
      left
      have e75 : bd_X12_odds_75 N Λ μ2 k (ad 181) (n3 a) (n3 c) (n6 (pwr (F 7 + 1) i)) (n3 i) = lp_X12_odds_84 N Λ k (ad 181) (n3 a) (n3 c) (n6 (pwr (F 7 + 1) i)) (n3 i) (n3 5, μ2) := by
        simp (disch := omega) only [bd_X12_odds_75, ↓lt_e, ↓gd_e, ↓Option.bind_some, ↓reduceIte, if_true, if_false, if_pT, if_nF, decide_true, Bool.not_true, Bool.not_false, not_true_eq_false, not_false_eq_true, Bool.false_eq_true, Bool.true_eq_false, eq_self, n3_lit, n3_add, n3_mul, n3_sub, n3_tn, n3_le_t, n3_le_f, n3_lt_t, n3_lt_f, n3_eq_f, n3_eq_t, n3_inb, n3_rem, n3_div, n3_zb, bb_0, bb_1, zb_bb, bb_T, bb_F, n3_dec, n3_m1, n3_eqm, n3_eqmt, n3_ltm, n3_mlt, n3_lem, n3_mle, n3_neg_lt, n3_nlt_neg, n3_nle_neg, n3_neg_le]
      show ∃ s', _ ∧ bd_X12_odds_75 N Λ μ2 k (ad 181) (n3 a) (n3 c) (n6 (pwr (F 7 + 1) i)) (n3 i) = k s'
      rw [e75]
      unfold lp_X12_odds_84
      refine cw_ik (P := fun t x => ∃ μ3 : Mem, x = (n3 (6 - t) - n3 1, μ3) ∧ (∀ j, j < 6 → μ3.2 (ad 199) j = n6 (if 6 - t ≤ j then wy (F 7) (i + 1) j else wy (F 7) i j)) ∧ Fr ad (fun i => i = 199) μ0 μ3) (Q := fun X => ∃ s' : Int64 × Int32 × Mem, (∃ μ3 : Mem, s' = (n6 (pwr (F 7 + 1) (i + 1)), n3 (i + 1), μ3) ∧ (∀ j, j < 6 → μ3.2 (ad 199) j = n6 (wy (F 7) (i + 1) j)) ∧ Fr ad (fun i => i = 199) μ0 μ3) ∧ X = k s') 6 ⟨μ2, rfl, fun j hj => by rw [if_neg (by omega)]; exact hr2 j hj, hf2⟩ (fun t ht x hx k' => ?_) (fun x hx k' => ?_) (show 6 < N by omega)
      · obtain ⟨μ3, rfl, hr3, hf3⟩ := hx
        left
        have hW3 : Row μ3 (ad 182) 1222 F := h0.1.fr hf3 (by omega)
        have e1 : 6 - t - 1 = 5 - t := by omega
        have e2 : 6 - (t + 1) = 5 - t := by omega
        refine ⟨_, ⟨msetL μ3 (ad 199) (5 - t) (n6 (wy (F 7) (i + 1) (5 - t))), rfl, fun j hj6 => ?_, hf3.setL hj (by rfl)⟩, ?_⟩
        · by_cases e : j = 5 - t
          · subst e; rw [mLe, if_pos (by omega)]
          · rw [mLn e, hr3 j hj6]
            by_cases e3 : 6 - t ≤ j
            · rw [if_pos e3, if_pos (by omega)]
            · rw [if_neg e3, if_neg (by omega)]
        · have r1 := hr3 (5 - t) (by omega)
          rw [if_neg (by omega)] at r1
          rw [e2]
          have ew : wy (F 7) (i + 1) (5 - t) = wy (F 7) i (5 - t) + (if 5 - t = 0 then 0 else wy (F 7) i (5 - t - 1) * F 7) := rfl
          rw [ew]
          by_cases e0 : 5 - t = 0
          · rw [if_pos e0]
            have t5 : t = 5 := by omega
            subst t5
            simp (disch := omega) only [bd_X12_odds_84, jn_X12_odds_124, ↓ob (hR.1), ↓ob (hR.2.1), ↓ob (hR.2.2.1), ↓ob (hR.2.2.2.1), ↓ob (hR.2.2.2.2.1), ↓ob (hR.2.2.2.2.2.1), ↓ob (hR.2.2.2.2.2.2.1), ↓ob (hR.2.2.2.2.2.2.2.1), ↓ob (hR.2.2.2.2.2.2.2.2.1), ↓ob (hR.2.2.2.2.2.2.2.2.2.1), ↓ob (hR.2.2.2.2.2.2.2.2.2.2.1), ↓ob (hR.2.2.2.2.2.2.2.2.2.2.2.1), ↓ob (hR.2.2.2.2.2.2.2.2.2.2.2.2.1), ↓ob (hR.2.2.2.2.2.2.2.2.2.2.2.2.2.1), ↓ob (hR.2.2.2.2.2.2.2.2.2.2.2.2.2.2.1), ↓ob (hR.2.2.2.2.2.2.2.2.2.2.2.2.2.2.2.1), ↓ob (hR.2.2.2.2.2.2.2.2.2.2.2.2.2.2.2.2.1), ↓ob (hR.2.2.2.2.2.2.2.2.2.2.2.2.2.2.2.2.2.1), hR.2.2.2.2.2.2.2.2.2.2.2.2.2.2.2.2.2.2.1, hR.2.2.2.2.2.2.2.2.2.2.2.2.2.2.2.2.2.2.2.1, hR.2.2.2.2.2.2.2.2.2.2.2.2.2.2.2.2.2.2.2.2.1, hR.2.2.2.2.2.2.2.2.2.2.2.2.2.2.2.2.2.2.2.2.2.1, hR.2.2.2.2.2.2.2.2.2.2.2.2.2.2.2.2.2.2.2.2.2.2.1, hR.2.2.2.2.2.2.2.2.2.2.2.2.2.2.2.2.2.2.2.2.2.2.2.1, hR.2.2.2.2.2.2.2.2.2.2.2.2.2.2.2.2.2.2.2.2.2.2.2.2.1, hR.2.2.2.2.2.2.2.2.2.2.2.2.2.2.2.2.2.2.2.2.2.2.2.2.2.1, hR.2.2.2.2.2.2.2.2.2.2.2.2.2.2.2.2.2.2.2.2.2.2.2.2.2.2.1, hR.2.2.2.2.2.2.2.2.2.2.2.2.2.2.2.2.2.2.2.2.2.2.2.2.2.2.2.1, hR.2.2.2.2.2.2.2.2.2.2.2.2.2.2.2.2.2.2.2.2.2.2.2.2.2.2.2.2.1, hR.2.2.2.2.2.2.2.2.2.2.2.2.2.2.2.2.2.2.2.2.2.2.2.2.2.2.2.2.2.1, hR.2.2.2.2.2.2.2.2.2.2.2.2.2.2.2.2.2.2.2.2.2.2.2.2.2.2.2.2.2.2.1, hR.2.2.2.2.2.2.2.2.2.2.2.2.2.2.2.2.2.2.2.2.2.2.2.2.2.2.2.2.2.2.2.1, hR.2.2.2.2.2.2.2.2.2.2.2.2.2.2.2.2.2.2.2.2.2.2.2.2.2.2.2.2.2.2.2.2.1, hR.2.2.2.2.2.2.2.2.2.2.2.2.2.2.2.2.2.2.2.2.2.2.2.2.2.2.2.2.2.2.2.2.2.1, hR.2.2.2.2.2.2.2.2.2.2.2.2.2.2.2.2.2.2.2.2.2.2.2.2.2.2.2.2.2.2.2.2.2.2.1, hR.2.2.2.2.2.2.2.2.2.2.2.2.2.2.2.2.2.2.2.2.2.2.2.2.2.2.2.2.2.2.2.2.2.2.2, e1, r1, ↓lt_e, ↓gd_e, ↓Option.bind_some, ↓reduceIte, if_true, if_false, if_pT, if_nF, decide_true, Bool.not_true, Bool.not_false, not_true_eq_false, not_false_eq_true, Bool.false_eq_true, Bool.true_eq_false, eq_self, n3_lit, n3_add, n3_mul, n3_sub, n3_tn, n3_le_t, n3_le_f, n3_lt_t, n3_lt_f, n3_eq_f, n3_eq_t, n3_inb, n3_rem, n3_div, n3_zb, bb_0, bb_1, zb_bb, bb_T, bb_F, n3_dec, n3_m1, n3_eqm, n3_eqmt, n3_ltm, n3_mlt, n3_lem, n3_mle, n3_neg_lt, n3_nlt_neg, n3_nle_neg, n3_neg_le, n6_lit, n6_add]
          · rw [if_neg e0]
            have r2 := hr3 (5 - t - 1) (by omega)
            rw [if_neg (by omega)] at r2
            simp (disch := omega) only [bd_X12_odds_84, jn_X12_odds_124, ↓ob (hR.1), ↓ob (hR.2.1), ↓ob (hR.2.2.1), ↓ob (hR.2.2.2.1), ↓ob (hR.2.2.2.2.1), ↓ob (hR.2.2.2.2.2.1), ↓ob (hR.2.2.2.2.2.2.1), ↓ob (hR.2.2.2.2.2.2.2.1), ↓ob (hR.2.2.2.2.2.2.2.2.1), ↓ob (hR.2.2.2.2.2.2.2.2.2.1), ↓ob (hR.2.2.2.2.2.2.2.2.2.2.1), ↓ob (hR.2.2.2.2.2.2.2.2.2.2.2.1), ↓ob (hR.2.2.2.2.2.2.2.2.2.2.2.2.1), ↓ob (hR.2.2.2.2.2.2.2.2.2.2.2.2.2.1), ↓ob (hR.2.2.2.2.2.2.2.2.2.2.2.2.2.2.1), ↓ob (hR.2.2.2.2.2.2.2.2.2.2.2.2.2.2.2.1), ↓ob (hR.2.2.2.2.2.2.2.2.2.2.2.2.2.2.2.2.1), ↓ob (hR.2.2.2.2.2.2.2.2.2.2.2.2.2.2.2.2.2.1), hR.2.2.2.2.2.2.2.2.2.2.2.2.2.2.2.2.2.2.1, hR.2.2.2.2.2.2.2.2.2.2.2.2.2.2.2.2.2.2.2.1, hR.2.2.2.2.2.2.2.2.2.2.2.2.2.2.2.2.2.2.2.2.1, hR.2.2.2.2.2.2.2.2.2.2.2.2.2.2.2.2.2.2.2.2.2.1, hR.2.2.2.2.2.2.2.2.2.2.2.2.2.2.2.2.2.2.2.2.2.2.1, hR.2.2.2.2.2.2.2.2.2.2.2.2.2.2.2.2.2.2.2.2.2.2.2.1, hR.2.2.2.2.2.2.2.2.2.2.2.2.2.2.2.2.2.2.2.2.2.2.2.2.1, hR.2.2.2.2.2.2.2.2.2.2.2.2.2.2.2.2.2.2.2.2.2.2.2.2.2.1, hR.2.2.2.2.2.2.2.2.2.2.2.2.2.2.2.2.2.2.2.2.2.2.2.2.2.2.1, hR.2.2.2.2.2.2.2.2.2.2.2.2.2.2.2.2.2.2.2.2.2.2.2.2.2.2.2.1, hR.2.2.2.2.2.2.2.2.2.2.2.2.2.2.2.2.2.2.2.2.2.2.2.2.2.2.2.2.1, hR.2.2.2.2.2.2.2.2.2.2.2.2.2.2.2.2.2.2.2.2.2.2.2.2.2.2.2.2.2.1, hR.2.2.2.2.2.2.2.2.2.2.2.2.2.2.2.2.2.2.2.2.2.2.2.2.2.2.2.2.2.2.1, hR.2.2.2.2.2.2.2.2.2.2.2.2.2.2.2.2.2.2.2.2.2.2.2.2.2.2.2.2.2.2.2.1, hR.2.2.2.2.2.2.2.2.2.2.2.2.2.2.2.2.2.2.2.2.2.2.2.2.2.2.2.2.2.2.2.2.1, hR.2.2.2.2.2.2.2.2.2.2.2.2.2.2.2.2.2.2.2.2.2.2.2.2.2.2.2.2.2.2.2.2.2.1, hR.2.2.2.2.2.2.2.2.2.2.2.2.2.2.2.2.2.2.2.2.2.2.2.2.2.2.2.2.2.2.2.2.2.2.1, hR.2.2.2.2.2.2.2.2.2.2.2.2.2.2.2.2.2.2.2.2.2.2.2.2.2.2.2.2.2.2.2.2.2.2.2, hW3, e1, r1, r2, ↓lt_e, ↓gd_e, ↓Option.bind_some, ↓reduceIte, if_true, if_false, if_pT, if_nF, decide_true, Bool.not_true, Bool.not_false, not_true_eq_false, not_false_eq_true, Bool.false_eq_true, Bool.true_eq_false, eq_self, n3_lit, n3_add, n3_mul, n3_sub, n3_tn, n3_le_t, n3_le_f, n3_lt_t, n3_lt_f, n3_eq_f, n3_eq_t, n3_inb, n3_rem, n3_div, n3_zb, bb_0, bb_1, zb_bb, bb_T, bb_F, n3_dec, n3_m1, n3_eqm, n3_eqmt, n3_ltm, n3_mlt, n3_lem, n3_mle, n3_neg_lt, n3_nlt_neg, n3_nle_neg, n3_neg_le, n36, n6_mul, n6_add]
      · obtain ⟨μ3, rfl, hr3, hf3⟩ := hx
        have hW3 : Row μ3 (ad 182) 1222 F := h0.1.fr hf3 (by omega)
        refine ⟨_, ⟨μ3, rfl, fun j hj6 => by rw [hr3 j hj6, if_pos (by omega)], hf3⟩, ?_⟩
        have ep : pwr (F 7 + 1) (i + 1) = pwr (F 7 + 1) i * (F 7 + 1) := rfl
        rw [ep]
        simp (disch := omega) only [bd_X12_odds_84, ↓ob (hR.1), ↓ob (hR.2.1), ↓ob (hR.2.2.1), ↓ob (hR.2.2.2.1), ↓ob (hR.2.2.2.2.1), ↓ob (hR.2.2.2.2.2.1), ↓ob (hR.2.2.2.2.2.2.1), ↓ob (hR.2.2.2.2.2.2.2.1), ↓ob (hR.2.2.2.2.2.2.2.2.1), ↓ob (hR.2.2.2.2.2.2.2.2.2.1), ↓ob (hR.2.2.2.2.2.2.2.2.2.2.1), ↓ob (hR.2.2.2.2.2.2.2.2.2.2.2.1), ↓ob (hR.2.2.2.2.2.2.2.2.2.2.2.2.1), ↓ob (hR.2.2.2.2.2.2.2.2.2.2.2.2.2.1), ↓ob (hR.2.2.2.2.2.2.2.2.2.2.2.2.2.2.1), ↓ob (hR.2.2.2.2.2.2.2.2.2.2.2.2.2.2.2.1), ↓ob (hR.2.2.2.2.2.2.2.2.2.2.2.2.2.2.2.2.1), ↓ob (hR.2.2.2.2.2.2.2.2.2.2.2.2.2.2.2.2.2.1), hR.2.2.2.2.2.2.2.2.2.2.2.2.2.2.2.2.2.2.1, hR.2.2.2.2.2.2.2.2.2.2.2.2.2.2.2.2.2.2.2.1, hR.2.2.2.2.2.2.2.2.2.2.2.2.2.2.2.2.2.2.2.2.1, hR.2.2.2.2.2.2.2.2.2.2.2.2.2.2.2.2.2.2.2.2.2.1, hR.2.2.2.2.2.2.2.2.2.2.2.2.2.2.2.2.2.2.2.2.2.2.1, hR.2.2.2.2.2.2.2.2.2.2.2.2.2.2.2.2.2.2.2.2.2.2.2.1, hR.2.2.2.2.2.2.2.2.2.2.2.2.2.2.2.2.2.2.2.2.2.2.2.2.1, hR.2.2.2.2.2.2.2.2.2.2.2.2.2.2.2.2.2.2.2.2.2.2.2.2.2.1, hR.2.2.2.2.2.2.2.2.2.2.2.2.2.2.2.2.2.2.2.2.2.2.2.2.2.2.1, hR.2.2.2.2.2.2.2.2.2.2.2.2.2.2.2.2.2.2.2.2.2.2.2.2.2.2.2.1, hR.2.2.2.2.2.2.2.2.2.2.2.2.2.2.2.2.2.2.2.2.2.2.2.2.2.2.2.2.1, hR.2.2.2.2.2.2.2.2.2.2.2.2.2.2.2.2.2.2.2.2.2.2.2.2.2.2.2.2.2.1, hR.2.2.2.2.2.2.2.2.2.2.2.2.2.2.2.2.2.2.2.2.2.2.2.2.2.2.2.2.2.2.1, hR.2.2.2.2.2.2.2.2.2.2.2.2.2.2.2.2.2.2.2.2.2.2.2.2.2.2.2.2.2.2.2.1, hR.2.2.2.2.2.2.2.2.2.2.2.2.2.2.2.2.2.2.2.2.2.2.2.2.2.2.2.2.2.2.2.2.1, hR.2.2.2.2.2.2.2.2.2.2.2.2.2.2.2.2.2.2.2.2.2.2.2.2.2.2.2.2.2.2.2.2.2.1, hR.2.2.2.2.2.2.2.2.2.2.2.2.2.2.2.2.2.2.2.2.2.2.2.2.2.2.2.2.2.2.2.2.2.2.1, hR.2.2.2.2.2.2.2.2.2.2.2.2.2.2.2.2.2.2.2.2.2.2.2.2.2.2.2.2.2.2.2.2.2.2.2, hW3, ↓lt_e, ↓gd_e, ↓Option.bind_some, ↓reduceIte, if_true, if_false, if_pT, if_nF, decide_true, Bool.not_true, Bool.not_false, not_true_eq_false, not_false_eq_true, Bool.false_eq_true, Bool.true_eq_false, eq_self, n3_lit, n3_add, n3_mul, n3_sub, n3_tn, n3_le_t, n3_le_f, n3_lt_t, n3_lt_f, n3_eq_f, n3_eq_t, n3_inb, n3_rem, n3_div, n3_zb, bb_0, bb_1, zb_bb, bb_T, bb_F, n3_dec, n3_m1, n3_eqm, n3_eqmt, n3_ltm, n3_mlt, n3_lem, n3_mle, n3_neg_lt, n3_nlt_neg, n3_nle_neg, n3_neg_le, n36, n6_mul, Nat.sub_self]
    · obtain ⟨μ2, rfl, hr2, hf2⟩ := hx
      have e75 : ∀ k, bd_X12_odds_75 N Λ μ2 k (ad 181) (n3 a) (n3 c) (n6 (pwr (F 7 + 1) a)) (n3 a) = lp_X12_odds_157 N Λ (ad 181) (n6 (pwr (F 7 + 1) a)) (n6 0, n3 c, μ2) := fun k => by
        simp (disch := omega) only [bd_X12_odds_75, ↓lt_e, ↓gd_e, ↓Option.bind_some, ↓reduceIte, if_true, if_false, if_pT, if_nF, decide_true, Bool.not_true, Bool.not_false, not_true_eq_false, not_false_eq_true, Bool.false_eq_true, Bool.true_eq_false, eq_self, n3_lit, n3_add, n3_mul, n3_sub, n3_tn, n3_le_t, n3_le_f, n3_lt_t, n3_lt_f, n3_eq_f, n3_eq_t, n3_inb, n3_rem, n3_div, n3_zb, bb_0, bb_1, zb_bb, bb_T, bb_F, n3_dec, n3_m1, n3_eqm, n3_eqmt, n3_ltm, n3_mlt, n3_lem, n3_mle, n3_neg_lt, n3_nlt_neg, n3_nle_neg, n3_neg_le, n6_lit]
      refine (e75 k) ▸ ?_
      have p1 := pwr_le (F 7 + 1) (by omega) a (by omega)
      refine RV.scr h0 t0 (hf2.mono (fun i hi => by unfold ScX; omega)) ?_
      unfold lp_X12_odds_157
      refine cw_it (fun t => (n6 (wsm (F 7) a c t), n3 (c + t), μ2)) (6 - c) rfl (fun t ht k => ?_) (fun k => ?_) (by omega)
      · have hw := hr2 (c + t) (by omega)
        simp (disch := omega) only [bd_X12_odds_157, ↓ob (hR.1), ↓ob (hR.2.1), ↓ob (hR.2.2.1), ↓ob (hR.2.2.2.1), ↓ob (hR.2.2.2.2.1), ↓ob (hR.2.2.2.2.2.1), ↓ob (hR.2.2.2.2.2.2.1), ↓ob (hR.2.2.2.2.2.2.2.1), ↓ob (hR.2.2.2.2.2.2.2.2.1), ↓ob (hR.2.2.2.2.2.2.2.2.2.1), ↓ob (hR.2.2.2.2.2.2.2.2.2.2.1), ↓ob (hR.2.2.2.2.2.2.2.2.2.2.2.1), ↓ob (hR.2.2.2.2.2.2.2.2.2.2.2.2.1), ↓ob (hR.2.2.2.2.2.2.2.2.2.2.2.2.2.1), ↓ob (hR.2.2.2.2.2.2.2.2.2.2.2.2.2.2.1), ↓ob (hR.2.2.2.2.2.2.2.2.2.2.2.2.2.2.2.1), ↓ob (hR.2.2.2.2.2.2.2.2.2.2.2.2.2.2.2.2.1), ↓ob (hR.2.2.2.2.2.2.2.2.2.2.2.2.2.2.2.2.2.1), hR.2.2.2.2.2.2.2.2.2.2.2.2.2.2.2.2.2.2.1, hR.2.2.2.2.2.2.2.2.2.2.2.2.2.2.2.2.2.2.2.1, hR.2.2.2.2.2.2.2.2.2.2.2.2.2.2.2.2.2.2.2.2.1, hR.2.2.2.2.2.2.2.2.2.2.2.2.2.2.2.2.2.2.2.2.2.1, hR.2.2.2.2.2.2.2.2.2.2.2.2.2.2.2.2.2.2.2.2.2.2.1, hR.2.2.2.2.2.2.2.2.2.2.2.2.2.2.2.2.2.2.2.2.2.2.2.1, hR.2.2.2.2.2.2.2.2.2.2.2.2.2.2.2.2.2.2.2.2.2.2.2.2.1, hR.2.2.2.2.2.2.2.2.2.2.2.2.2.2.2.2.2.2.2.2.2.2.2.2.2.1, hR.2.2.2.2.2.2.2.2.2.2.2.2.2.2.2.2.2.2.2.2.2.2.2.2.2.2.1, hR.2.2.2.2.2.2.2.2.2.2.2.2.2.2.2.2.2.2.2.2.2.2.2.2.2.2.2.1, hR.2.2.2.2.2.2.2.2.2.2.2.2.2.2.2.2.2.2.2.2.2.2.2.2.2.2.2.2.1, hR.2.2.2.2.2.2.2.2.2.2.2.2.2.2.2.2.2.2.2.2.2.2.2.2.2.2.2.2.2.1, hR.2.2.2.2.2.2.2.2.2.2.2.2.2.2.2.2.2.2.2.2.2.2.2.2.2.2.2.2.2.2.1, hR.2.2.2.2.2.2.2.2.2.2.2.2.2.2.2.2.2.2.2.2.2.2.2.2.2.2.2.2.2.2.2.1, hR.2.2.2.2.2.2.2.2.2.2.2.2.2.2.2.2.2.2.2.2.2.2.2.2.2.2.2.2.2.2.2.2.1, hR.2.2.2.2.2.2.2.2.2.2.2.2.2.2.2.2.2.2.2.2.2.2.2.2.2.2.2.2.2.2.2.2.2.1, hR.2.2.2.2.2.2.2.2.2.2.2.2.2.2.2.2.2.2.2.2.2.2.2.2.2.2.2.2.2.2.2.2.2.2.1, hR.2.2.2.2.2.2.2.2.2.2.2.2.2.2.2.2.2.2.2.2.2.2.2.2.2.2.2.2.2.2.2.2.2.2.2, hw, ↓lt_e, ↓gd_e, ↓Option.bind_some, ↓reduceIte, if_true, if_false, if_pT, if_nF, decide_true, Bool.not_true, Bool.not_false, not_true_eq_false, not_false_eq_true, Bool.false_eq_true, Bool.true_eq_false, eq_self, n3_lit, n3_add, n3_mul, n3_sub, n3_tn, n3_le_t, n3_le_f, n3_lt_t, n3_lt_f, n3_eq_f, n3_eq_t, n3_inb, n3_rem, n3_div, n3_zb, bb_0, bb_1, zb_bb, bb_T, bb_F, n3_dec, n3_m1, n3_eqm, n3_eqmt, n3_ltm, n3_mlt, n3_lem, n3_mle, n3_neg_lt, n3_nlt_neg, n3_nle_neg, n3_neg_le, n6_add]; rfl
      · have w1 := wsm_le (F 7) (by omega) a (by omega) c (by omega) (6 - c) (by omega)
        have hne : (n6 (pwr (F 7 + 1) a) = n6 0) = False := eq_false (fun e => by have := n6_inj (by omega) (by omega) e; omega)
        have hdl : 10000 * wsm (F 7) a c (6 - c) / pwr (F 7 + 1) a ≤ 10000 * wsm (F 7) a c (6 - c) := Nat.div_le_self _ _
        rw [show c + (6 - c) = 6 by omega]
        simp (disch := omega) only [bd_X12_odds_157, ↓ob (hR.1), ↓ob (hR.2.1), ↓ob (hR.2.2.1), ↓ob (hR.2.2.2.1), ↓ob (hR.2.2.2.2.1), ↓ob (hR.2.2.2.2.2.1), ↓ob (hR.2.2.2.2.2.2.1), ↓ob (hR.2.2.2.2.2.2.2.1), ↓ob (hR.2.2.2.2.2.2.2.2.1), ↓ob (hR.2.2.2.2.2.2.2.2.2.1), ↓ob (hR.2.2.2.2.2.2.2.2.2.2.1), ↓ob (hR.2.2.2.2.2.2.2.2.2.2.2.1), ↓ob (hR.2.2.2.2.2.2.2.2.2.2.2.2.1), ↓ob (hR.2.2.2.2.2.2.2.2.2.2.2.2.2.1), ↓ob (hR.2.2.2.2.2.2.2.2.2.2.2.2.2.2.1), ↓ob (hR.2.2.2.2.2.2.2.2.2.2.2.2.2.2.2.1), ↓ob (hR.2.2.2.2.2.2.2.2.2.2.2.2.2.2.2.2.1), ↓ob (hR.2.2.2.2.2.2.2.2.2.2.2.2.2.2.2.2.2.1), hR.2.2.2.2.2.2.2.2.2.2.2.2.2.2.2.2.2.2.1, hR.2.2.2.2.2.2.2.2.2.2.2.2.2.2.2.2.2.2.2.1, hR.2.2.2.2.2.2.2.2.2.2.2.2.2.2.2.2.2.2.2.2.1, hR.2.2.2.2.2.2.2.2.2.2.2.2.2.2.2.2.2.2.2.2.2.1, hR.2.2.2.2.2.2.2.2.2.2.2.2.2.2.2.2.2.2.2.2.2.2.1, hR.2.2.2.2.2.2.2.2.2.2.2.2.2.2.2.2.2.2.2.2.2.2.2.1, hR.2.2.2.2.2.2.2.2.2.2.2.2.2.2.2.2.2.2.2.2.2.2.2.2.1, hR.2.2.2.2.2.2.2.2.2.2.2.2.2.2.2.2.2.2.2.2.2.2.2.2.2.1, hR.2.2.2.2.2.2.2.2.2.2.2.2.2.2.2.2.2.2.2.2.2.2.2.2.2.2.1, hR.2.2.2.2.2.2.2.2.2.2.2.2.2.2.2.2.2.2.2.2.2.2.2.2.2.2.2.1, hR.2.2.2.2.2.2.2.2.2.2.2.2.2.2.2.2.2.2.2.2.2.2.2.2.2.2.2.2.1, hR.2.2.2.2.2.2.2.2.2.2.2.2.2.2.2.2.2.2.2.2.2.2.2.2.2.2.2.2.2.1, hR.2.2.2.2.2.2.2.2.2.2.2.2.2.2.2.2.2.2.2.2.2.2.2.2.2.2.2.2.2.2.1, hR.2.2.2.2.2.2.2.2.2.2.2.2.2.2.2.2.2.2.2.2.2.2.2.2.2.2.2.2.2.2.2.1, hR.2.2.2.2.2.2.2.2.2.2.2.2.2.2.2.2.2.2.2.2.2.2.2.2.2.2.2.2.2.2.2.2.1, hR.2.2.2.2.2.2.2.2.2.2.2.2.2.2.2.2.2.2.2.2.2.2.2.2.2.2.2.2.2.2.2.2.2.1, hR.2.2.2.2.2.2.2.2.2.2.2.2.2.2.2.2.2.2.2.2.2.2.2.2.2.2.2.2.2.2.2.2.2.2.1, hR.2.2.2.2.2.2.2.2.2.2.2.2.2.2.2.2.2.2.2.2.2.2.2.2.2.2.2.2.2.2.2.2.2.2.2, ↓lt_e, ↓gd_e, ↓Option.bind_some, ↓reduceIte, if_true, if_false, if_pT, if_nF, decide_true, Bool.not_true, Bool.not_false, not_true_eq_false, not_false_eq_true, Bool.false_eq_true, Bool.true_eq_false, eq_self, n3_lit, n3_add, n3_mul, n3_sub, n3_tn, n3_le_t, n3_le_f, n3_lt_t, n3_lt_f, n3_eq_f, n3_eq_t, n3_inb, n3_rem, n3_div, n3_zb, bb_0, bb_1, zb_bb, bb_T, bb_F, n3_dec, n3_m1, n3_eqm, n3_eqmt, n3_ltm, n3_mlt, n3_lem, n3_mle, n3_neg_lt, n3_nlt_neg, n3_nle_neg, n3_neg_le, n6_lit, n6_mul, n6_div, hne, n63]; rfl
/-! knocks -/
def ntz0 (v : Int64) : Option Int32 := m_XG_ntz 0 ([], fun _ => 0, fun _ _ => none, fun _ => 0, fun _ => 0, (fun _ => 0, fun _ _ => 0), fun _ => 0) (fun _ _ => 0, fun _ _ => 0) v
theorem r_ntz0 {N : Nat} {Λ : Lay} {μ : Mem} (v : Int64) : m_XG_ntz N Λ μ v = ntz0 v := rfl
def mtI (n many : Nat) (m0 : Int64) : Nat → Int64
  | 0 => m0
  | t + 1 => mtI n many m0 t ||| (1 <<< (Int32.toInt64 (rvT t ^^^ rvT (n - t - many)) &&& 63))
def mtA (n : Nat) : Nat → Int64
  | 0 => 0
  | 1 => mtI n 1 0 (n + 1 - 1)
  | _ => mtI n 2 (mtI n 1 0 (n + 1 - 1)) (n + 1 - 2)
theorem ntz_rv : ∀ n, n < 25 → ntz0 (mtA n 2 ^^^ (-1)) = some (rvT n) := by decide +kernel
theorem r_laysWorth {N : Nat} (hN : 1099511627776 ≤ N) {Λ : Lay} {ad : Nat → Nat} {μ : Mem} (hR : LyR Λ ad) (hj : Inj ad) : ∃ μ', m_X12_laysWorth N Λ μ (ad 181) = some μ' ∧ (∀ j, j < 25 → μ'.1 (ad 196) j = rvT j) ∧ Fr ad (fun i => i = 196) μ μ' := by
  unfold m_X12_laysWorth lp_X12_laysWorth_2
  refine cw_ik (P := fun n x => ∃ μ1 : Mem, x = (n3 n, μ1) ∧ (∀ j, j < n → μ1.1 (ad 196) j = rvT j) ∧ Fr ad (fun i => i = 196) μ μ1) (Q := fun X => ∃ μ', X = some μ' ∧ (∀ j, j < 25 → μ'.1 (ad 196) j = rvT j) ∧ Fr ad (fun i => i = 196) μ μ') 25 ⟨μ, rfl, fun j hj => absurd hj (Nat.not_lt_zero j), Fr.refl μ⟩ (fun n hn x hx k => ?_) (fun x hx k => ?_) (show 25 < N by omega)
  · obtain ⟨μ1, rfl, hr, hf⟩ := hx
    left
    show ∃ s', _ ∧ bd_X12_laysWorth_2 N Λ μ1 k (ad 181) (n3 n) = k s'
    have e1 : bd_X12_laysWorth_2 N Λ μ1 k (ad 181) (n3 n) = lp_X12_laysWorth_13 N Λ k (ad 181) (n3 n) (mtA n 0, n3 1, μ1) := by
      simp (disch := omega) only [bd_X12_laysWorth_2, ↓lt_e, ↓gd_e, ↓Option.bind_some, ↓reduceIte, if_true, if_false, if_pT, if_nF, decide_true, Bool.not_true, Bool.not_false, not_true_eq_false, not_false_eq_true, Bool.false_eq_true, Bool.true_eq_false, eq_self, n3_lit, n3_add, n3_mul, n3_sub, n3_tn, n3_le_t, n3_le_f, n3_lt_t, n3_lt_f, n3_eq_f, n3_eq_t, n3_inb, n3_rem, n3_div, n3_zb, bb_0, bb_1, zb_bb, bb_T, bb_F, n3_dec, n3_m1, n3_eqm, n3_eqmt, n3_ltm, n3_mlt, n3_lem, n3_mle, n3_neg_lt, n3_nlt_neg, n3_nle_neg, n3_neg_le]; rfl
    rw [e1]
    unfold lp_X12_laysWorth_13
    refine ⟨(n3 (n + 1), mset μ1 (ad 196) n (rvT n)), ⟨_, rfl, fun j hjn => ?_, hf.set hj (by rfl)⟩, ?_⟩
    · by_cases e : j = n
      · subst e; rw [mse]
      · rw [msn e]; exact hr j (by omega)
    · refine cw_it (fun i => (mtA n i, n3 (i + 1), μ1)) 2 rfl (fun i hi k' => ?_) (fun k' => ?_) (by omega)
      · have e2 : bd_X12_laysWorth_13 N Λ μ1 k k' (ad 181) (n3 n) (mtA n i) (n3 (i + 1)) = lp_X12_laysWorth_22 N Λ k k' (ad 181) (n3 n) (n3 (i + 1)) (mtA n i, n3 0, μ1) := by
          simp (disch := omega) only [bd_X12_laysWorth_13, ↓lt_e, ↓gd_e, ↓Option.bind_some, ↓reduceIte, if_true, if_false, if_pT, if_nF, decide_true, Bool.not_true, Bool.not_false, not_true_eq_false, not_false_eq_true, Bool.false_eq_true, Bool.true_eq_false, eq_self, n3_lit, n3_add, n3_mul, n3_sub, n3_tn, n3_le_t, n3_le_f, n3_lt_t, n3_lt_f, n3_eq_f, n3_eq_t, n3_inb, n3_rem, n3_div, n3_zb, bb_0, bb_1, zb_bb, bb_T, bb_F, n3_dec, n3_m1, n3_eqm, n3_eqmt, n3_ltm, n3_mlt, n3_lem, n3_mle, n3_neg_lt, n3_nlt_neg, n3_nle_neg, n3_neg_le]
        show bd_X12_laysWorth_13 N Λ μ1 k k' (ad 181) (n3 n) (mtA n i) (n3 (i + 1)) = _
        rw [e2]
        unfold lp_X12_laysWorth_22
        refine cw_it (fun t => (mtI n (i + 1) (mtA n i) t, n3 t, μ1)) (n + 1 - (i + 1)) rfl (fun t ht k2 => ?_) (fun k2 => ?_) (by omega)
        · have r1 := hr t (by omega)
          have r2 := hr (n - t - (i + 1)) (by omega)
          simp (disch := omega) only [bd_X12_laysWorth_22, ↓ob (hR.1), ↓ob (hR.2.1), ↓ob (hR.2.2.1), ↓ob (hR.2.2.2.1), ↓ob (hR.2.2.2.2.1), ↓ob (hR.2.2.2.2.2.1), ↓ob (hR.2.2.2.2.2.2.1), ↓ob (hR.2.2.2.2.2.2.2.1), ↓ob (hR.2.2.2.2.2.2.2.2.1), ↓ob (hR.2.2.2.2.2.2.2.2.2.1), ↓ob (hR.2.2.2.2.2.2.2.2.2.2.1), ↓ob (hR.2.2.2.2.2.2.2.2.2.2.2.1), ↓ob (hR.2.2.2.2.2.2.2.2.2.2.2.2.1), ↓ob (hR.2.2.2.2.2.2.2.2.2.2.2.2.2.1), ↓ob (hR.2.2.2.2.2.2.2.2.2.2.2.2.2.2.1), ↓ob (hR.2.2.2.2.2.2.2.2.2.2.2.2.2.2.2.1), ↓ob (hR.2.2.2.2.2.2.2.2.2.2.2.2.2.2.2.2.1), ↓ob (hR.2.2.2.2.2.2.2.2.2.2.2.2.2.2.2.2.2.1), hR.2.2.2.2.2.2.2.2.2.2.2.2.2.2.2.2.2.2.1, hR.2.2.2.2.2.2.2.2.2.2.2.2.2.2.2.2.2.2.2.1, hR.2.2.2.2.2.2.2.2.2.2.2.2.2.2.2.2.2.2.2.2.1, hR.2.2.2.2.2.2.2.2.2.2.2.2.2.2.2.2.2.2.2.2.2.1, hR.2.2.2.2.2.2.2.2.2.2.2.2.2.2.2.2.2.2.2.2.2.2.1, hR.2.2.2.2.2.2.2.2.2.2.2.2.2.2.2.2.2.2.2.2.2.2.2.1, hR.2.2.2.2.2.2.2.2.2.2.2.2.2.2.2.2.2.2.2.2.2.2.2.2.1, hR.2.2.2.2.2.2.2.2.2.2.2.2.2.2.2.2.2.2.2.2.2.2.2.2.2.1, hR.2.2.2.2.2.2.2.2.2.2.2.2.2.2.2.2.2.2.2.2.2.2.2.2.2.2.1, hR.2.2.2.2.2.2.2.2.2.2.2.2.2.2.2.2.2.2.2.2.2.2.2.2.2.2.2.1, hR.2.2.2.2.2.2.2.2.2.2.2.2.2.2.2.2.2.2.2.2.2.2.2.2.2.2.2.2.1, hR.2.2.2.2.2.2.2.2.2.2.2.2.2.2.2.2.2.2.2.2.2.2.2.2.2.2.2.2.2.1, hR.2.2.2.2.2.2.2.2.2.2.2.2.2.2.2.2.2.2.2.2.2.2.2.2.2.2.2.2.2.2.1, hR.2.2.2.2.2.2.2.2.2.2.2.2.2.2.2.2.2.2.2.2.2.2.2.2.2.2.2.2.2.2.2.1, hR.2.2.2.2.2.2.2.2.2.2.2.2.2.2.2.2.2.2.2.2.2.2.2.2.2.2.2.2.2.2.2.2.1, hR.2.2.2.2.2.2.2.2.2.2.2.2.2.2.2.2.2.2.2.2.2.2.2.2.2.2.2.2.2.2.2.2.2.1, hR.2.2.2.2.2.2.2.2.2.2.2.2.2.2.2.2.2.2.2.2.2.2.2.2.2.2.2.2.2.2.2.2.2.2.1, hR.2.2.2.2.2.2.2.2.2.2.2.2.2.2.2.2.2.2.2.2.2.2.2.2.2.2.2.2.2.2.2.2.2.2.2, r1, r2, ↓lt_e, ↓gd_e, ↓Option.bind_some, ↓reduceIte, if_true, if_false, if_pT, if_nF, decide_true, Bool.not_true, Bool.not_false, not_true_eq_false, not_false_eq_true, Bool.false_eq_true, Bool.true_eq_false, eq_self, n3_lit, n3_add, n3_mul, n3_sub, n3_tn, n3_le_t, n3_le_f, n3_lt_t, n3_lt_f, n3_eq_f, n3_eq_t, n3_inb, n3_rem, n3_div, n3_zb, bb_0, bb_1, zb_bb, bb_T, bb_F, n3_dec, n3_m1, n3_eqm, n3_eqmt, n3_ltm, n3_mlt, n3_lem, n3_mle, n3_neg_lt, n3_nlt_neg, n3_nle_neg, n3_neg_le]; rfl
        · have hc : n < n + 1 - (i + 1) + (i + 1) := by omega
          have e3 : mtI n (i + 1) (mtA n i) (n + 1 - (i + 1)) = mtA n (i + 1) := by
            match i, hi with
            | 0, _ => rfl
            | 1, _ => rfl
          simp (disch := omega) only [bd_X12_laysWorth_22, e3, ↓lt_e, ↓gd_e, ↓Option.bind_some, ↓reduceIte, if_true, if_false, if_pT, if_nF, decide_true, Bool.not_true, Bool.not_false, not_true_eq_false, not_false_eq_true, Bool.false_eq_true, Bool.true_eq_false, eq_self, n3_lit, n3_add, n3_mul, n3_sub, n3_tn, n3_le_t, n3_le_f, n3_lt_t, n3_lt_f, n3_eq_f, n3_eq_t, n3_inb, n3_rem, n3_div, n3_zb, bb_0, bb_1, zb_bb, bb_T, bb_F, n3_dec, n3_m1, n3_eqm, n3_eqmt, n3_ltm, n3_mlt, n3_lem, n3_mle, n3_neg_lt, n3_nlt_neg, n3_nle_neg, n3_neg_le]
      · have hz := ntz_rv n hn
        have hzz : m_XG_ntz N Λ μ1 (mtA n 2 ^^^ (-1)) = some (rvT n) := by rw [r_ntz0]; exact hz
        show bd_X12_laysWorth_13 N Λ μ1 k k' (ad 181) (n3 n) (mtA n 2) (n3 3) = _
        unfold bd_X12_laysWorth_13
        rw [hzz]
        simp (disch := omega) only [↓ob (hR.1), ↓ob (hR.2.1), ↓ob (hR.2.2.1), ↓ob (hR.2.2.2.1), ↓ob (hR.2.2.2.2.1), ↓ob (hR.2.2.2.2.2.1), ↓ob (hR.2.2.2.2.2.2.1), ↓ob (hR.2.2.2.2.2.2.2.1), ↓ob (hR.2.2.2.2.2.2.2.2.1), ↓ob (hR.2.2.2.2.2.2.2.2.2.1), ↓ob (hR.2.2.2.2.2.2.2.2.2.2.1), ↓ob (hR.2.2.2.2.2.2.2.2.2.2.2.1), ↓ob (hR.2.2.2.2.2.2.2.2.2.2.2.2.1), ↓ob (hR.2.2.2.2.2.2.2.2.2.2.2.2.2.1), ↓ob (hR.2.2.2.2.2.2.2.2.2.2.2.2.2.2.1), ↓ob (hR.2.2.2.2.2.2.2.2.2.2.2.2.2.2.2.1), ↓ob (hR.2.2.2.2.2.2.2.2.2.2.2.2.2.2.2.2.1), ↓ob (hR.2.2.2.2.2.2.2.2.2.2.2.2.2.2.2.2.2.1), hR.2.2.2.2.2.2.2.2.2.2.2.2.2.2.2.2.2.2.1, hR.2.2.2.2.2.2.2.2.2.2.2.2.2.2.2.2.2.2.2.1, hR.2.2.2.2.2.2.2.2.2.2.2.2.2.2.2.2.2.2.2.2.1, hR.2.2.2.2.2.2.2.2.2.2.2.2.2.2.2.2.2.2.2.2.2.1, hR.2.2.2.2.2.2.2.2.2.2.2.2.2.2.2.2.2.2.2.2.2.2.1, hR.2.2.2.2.2.2.2.2.2.2.2.2.2.2.2.2.2.2.2.2.2.2.2.1, hR.2.2.2.2.2.2.2.2.2.2.2.2.2.2.2.2.2.2.2.2.2.2.2.2.1, hR.2.2.2.2.2.2.2.2.2.2.2.2.2.2.2.2.2.2.2.2.2.2.2.2.2.1, hR.2.2.2.2.2.2.2.2.2.2.2.2.2.2.2.2.2.2.2.2.2.2.2.2.2.2.1, hR.2.2.2.2.2.2.2.2.2.2.2.2.2.2.2.2.2.2.2.2.2.2.2.2.2.2.2.1, hR.2.2.2.2.2.2.2.2.2.2.2.2.2.2.2.2.2.2.2.2.2.2.2.2.2.2.2.2.1, hR.2.2.2.2.2.2.2.2.2.2.2.2.2.2.2.2.2.2.2.2.2.2.2.2.2.2.2.2.2.1, hR.2.2.2.2.2.2.2.2.2.2.2.2.2.2.2.2.2.2.2.2.2.2.2.2.2.2.2.2.2.2.1, hR.2.2.2.2.2.2.2.2.2.2.2.2.2.2.2.2.2.2.2.2.2.2.2.2.2.2.2.2.2.2.2.1, hR.2.2.2.2.2.2.2.2.2.2.2.2.2.2.2.2.2.2.2.2.2.2.2.2.2.2.2.2.2.2.2.2.1, hR.2.2.2.2.2.2.2.2.2.2.2.2.2.2.2.2.2.2.2.2.2.2.2.2.2.2.2.2.2.2.2.2.2.1, hR.2.2.2.2.2.2.2.2.2.2.2.2.2.2.2.2.2.2.2.2.2.2.2.2.2.2.2.2.2.2.2.2.2.2.1, hR.2.2.2.2.2.2.2.2.2.2.2.2.2.2.2.2.2.2.2.2.2.2.2.2.2.2.2.2.2.2.2.2.2.2.2, ↓lt_e, ↓gd_e, ↓Option.bind_some, ↓reduceIte, if_true, if_false, if_pT, if_nF, decide_true, Bool.not_true, Bool.not_false, not_true_eq_false, not_false_eq_true, Bool.false_eq_true, Bool.true_eq_false, eq_self, n3_lit, n3_add, n3_mul, n3_sub, n3_tn, n3_le_t, n3_le_f, n3_lt_t, n3_lt_f, n3_eq_f, n3_eq_t, n3_inb, n3_rem, n3_div, n3_zb, bb_0, bb_1, zb_bb, bb_T, bb_F, n3_dec, n3_m1, n3_eqm, n3_eqmt, n3_ltm, n3_mlt, n3_lem, n3_mle, n3_neg_lt, n3_nlt_neg, n3_nle_neg, n3_neg_le]
  · obtain ⟨μ1, rfl, hr, hf⟩ := hx
    refine ⟨μ1, ?_, hr, hf⟩
    simp (disch := omega) only [bd_X12_laysWorth_2, ↓lt_e, ↓gd_e, ↓Option.bind_some, ↓reduceIte, if_true, if_false, if_pT, if_nF, decide_true, Bool.not_true, Bool.not_false, not_true_eq_false, not_false_eq_true, Bool.false_eq_true, Bool.true_eq_false, eq_self, n3_lit, n3_add, n3_mul, n3_sub, n3_tn, n3_le_t, n3_le_f, n3_lt_t, n3_lt_f, n3_eq_f, n3_eq_t, n3_inb, n3_rem, n3_div, n3_zb, bb_0, bb_1, zb_bb, bb_T, bb_F, n3_dec, n3_m1, n3_eqm, n3_eqmt, n3_ltm, n3_mlt, n3_lem, n3_mle, n3_neg_lt, n3_nlt_neg, n3_nle_neg, n3_neg_le]
/-- the worth of rows of blocks, and how many lie there -/
def kvS (B : Nat) : Nat → Int32 × Nat
  | 0 => (n3 0, 0)
  | i + 1 => if i < 24 ∧ B.testBit i = true then ((kvS B i).1, (kvS B i).2 + 1) else ((kvS B i).1 ^^^ rvT (kvS B i).2, 0)
theorem kvS_le (B : Nat) : ∀ i, (kvS B i).2 ≤ i
  | 0 => Nat.le_refl _
  | i + 1 => by have := kvS_le B i; unfold kvS; split <;> simp <;> omega
theorem c_knockValue {N : Nat} (hN : 1099511627776 ≤ N) {Λ : Lay} {μ : Mem} {B : Nat} (hB : B < 16777216) : m_X6_knockValue N Λ μ (n3 B) = some (kvS B 25).1 := by
  unfold m_X6_knockValue lp_X6_knockValue_6
  refine cw_it (fun i => ((kvS B i).1, n3 (kvS B i).2, n3 i)) 25 rfl (fun i hi k => ?_) (fun k => ?_) (by omega)
  · have hle := kvS_le B i
    by_cases h1 : i < 24
    · by_cases h2 : B.testBit i = true
      · have es : kvS B (i + 1) = ((kvS B i).1, (kvS B i).2 + 1) := if_pos ⟨h1, h2⟩
        rw [es]
        simp (disch := omega) only [jn_X6_knockValue_43, jn_X6_knockValue_33, bd_X6_knockValue_6, n3_bit, h2, ↓lt_e, ↓gd_e, ↓Option.bind_some, ↓reduceIte, if_true, if_false, if_pT, if_nF, decide_true, Bool.not_true, Bool.not_false, not_true_eq_false, not_false_eq_true, Bool.false_eq_true, Bool.true_eq_false, eq_self, n3_lit, n3_add, n3_mul, n3_sub, n3_tn, n3_le_t, n3_le_f, n3_lt_t, n3_lt_f, n3_eq_f, n3_eq_t, n3_inb, n3_rem, n3_div, n3_zb, bb_0, bb_1, zb_bb, bb_T, bb_F, n3_dec, n3_m1, n3_eqm, n3_eqmt, n3_ltm, n3_mlt, n3_lem, n3_mle, n3_neg_lt, n3_nlt_neg, n3_nle_neg, n3_neg_le]
      · have es : kvS B (i + 1) = ((kvS B i).1 ^^^ rvT (kvS B i).2, 0) := if_neg (fun hc => h2 hc.2)
        rw [es]
        simp (disch := omega) only [jn_X6_knockValue_43, jn_X6_knockValue_33, bd_X6_knockValue_6, n3_bit, h2, ↓lt_e, ↓gd_e, ↓Option.bind_some, ↓reduceIte, if_true, if_false, if_pT, if_nF, decide_true, Bool.not_true, Bool.not_false, not_true_eq_false, not_false_eq_true, Bool.false_eq_true, Bool.true_eq_false, eq_self, n3_lit, n3_add, n3_mul, n3_sub, n3_tn, n3_le_t, n3_le_f, n3_lt_t, n3_lt_f, n3_eq_f, n3_eq_t, n3_inb, n3_rem, n3_div, n3_zb, bb_0, bb_1, zb_bb, bb_T, bb_F, n3_dec, n3_m1, n3_eqm, n3_eqmt, n3_ltm, n3_mlt, n3_lem, n3_mle, n3_neg_lt, n3_nlt_neg, n3_nle_neg, n3_neg_le]
    · have es : kvS B (i + 1) = ((kvS B i).1 ^^^ rvT (kvS B i).2, 0) := if_neg (fun hc => h1 hc.1)
      rw [es]
      simp (disch := omega) only [jn_X6_knockValue_43, jn_X6_knockValue_33, bd_X6_knockValue_6, ↓lt_e, ↓gd_e, ↓Option.bind_some, ↓reduceIte, if_true, if_false, if_pT, if_nF, decide_true, Bool.not_true, Bool.not_false, not_true_eq_false, not_false_eq_true, Bool.false_eq_true, Bool.true_eq_false, eq_self, n3_lit, n3_add, n3_mul, n3_sub, n3_tn, n3_le_t, n3_le_f, n3_lt_t, n3_lt_f, n3_eq_f, n3_eq_t, n3_inb, n3_rem, n3_div, n3_zb, bb_0, bb_1, zb_bb, bb_T, bb_F, n3_dec, n3_m1, n3_eqm, n3_eqmt, n3_ltm, n3_mlt, n3_lem, n3_mle, n3_neg_lt, n3_nlt_neg, n3_nle_neg, n3_neg_le]
  · simp (disch := omega) only [jn_X6_knockValue_43, jn_X6_knockValue_33, bd_X6_knockValue_6, ↓lt_e, ↓gd_e, ↓Option.bind_some, ↓reduceIte, if_true, if_false, if_pT, if_nF, decide_true, Bool.not_true, Bool.not_false, not_true_eq_false, not_false_eq_true, Bool.false_eq_true, Bool.true_eq_false, eq_self, n3_lit, n3_add, n3_mul, n3_sub, n3_tn, n3_le_t, n3_le_f, n3_lt_t, n3_lt_f, n3_eq_f, n3_eq_t, n3_inb, n3_rem, n3_div, n3_zb, bb_0, bb_1, zb_bb, bb_T, bb_F, n3_dec, n3_m1, n3_eqm, n3_eqmt, n3_ltm, n3_mlt, n3_lem, n3_mle, n3_neg_lt, n3_nlt_neg, n3_nle_neg, n3_neg_le]
theorem r_worthOf {N : Nat} (hN : 1099511627776 ≤ N) {Λ : Lay} {ad : Nat → Nat} {μ : Mem} (hR : LyR Λ ad) (hr : ∀ j, j < 25 → μ.1 (ad 196) j = rvT j) {B : Nat} (hB : B < 16777216) : m_X12_worthOf N Λ μ (ad 181) (n3 B) = some (kvS B 25).1 := by
  unfold m_X12_worthOf lp_X12_worthOf_7
  refine cw_it (fun i => ((kvS B i).1, n3 (kvS B i).2, n3 i)) 25 rfl (fun i hi k => ?_) (fun k => ?_) (by omega)
  · have hle := kvS_le B i
    by_cases h1 : i < 24
    · by_cases h2 : B.testBit i = true
      · have es : kvS B (i + 1) = ((kvS B i).1, (kvS B i).2 + 1) := if_pos ⟨h1, h2⟩
        rw [es]
        simp (disch := omega) only [jn_X12_worthOf_63, jn_X12_worthOf_51, jn_X12_worthOf_35, jn_X12_worthOf_34, bd_X12_worthOf_7, r_has, h2, ↓ob (hR.1), ↓ob (hR.2.1), ↓ob (hR.2.2.1), ↓ob (hR.2.2.2.1), ↓ob (hR.2.2.2.2.1), ↓ob (hR.2.2.2.2.2.1), ↓ob (hR.2.2.2.2.2.2.1), ↓ob (hR.2.2.2.2.2.2.2.1), ↓ob (hR.2.2.2.2.2.2.2.2.1), ↓ob (hR.2.2.2.2.2.2.2.2.2.1), ↓ob (hR.2.2.2.2.2.2.2.2.2.2.1), ↓ob (hR.2.2.2.2.2.2.2.2.2.2.2.1), ↓ob (hR.2.2.2.2.2.2.2.2.2.2.2.2.1), ↓ob (hR.2.2.2.2.2.2.2.2.2.2.2.2.2.1), ↓ob (hR.2.2.2.2.2.2.2.2.2.2.2.2.2.2.1), ↓ob (hR.2.2.2.2.2.2.2.2.2.2.2.2.2.2.2.1), ↓ob (hR.2.2.2.2.2.2.2.2.2.2.2.2.2.2.2.2.1), ↓ob (hR.2.2.2.2.2.2.2.2.2.2.2.2.2.2.2.2.2.1), hR.2.2.2.2.2.2.2.2.2.2.2.2.2.2.2.2.2.2.1, hR.2.2.2.2.2.2.2.2.2.2.2.2.2.2.2.2.2.2.2.1, hR.2.2.2.2.2.2.2.2.2.2.2.2.2.2.2.2.2.2.2.2.1, hR.2.2.2.2.2.2.2.2.2.2.2.2.2.2.2.2.2.2.2.2.2.1, hR.2.2.2.2.2.2.2.2.2.2.2.2.2.2.2.2.2.2.2.2.2.2.1, hR.2.2.2.2.2.2.2.2.2.2.2.2.2.2.2.2.2.2.2.2.2.2.2.1, hR.2.2.2.2.2.2.2.2.2.2.2.2.2.2.2.2.2.2.2.2.2.2.2.2.1, hR.2.2.2.2.2.2.2.2.2.2.2.2.2.2.2.2.2.2.2.2.2.2.2.2.2.1, hR.2.2.2.2.2.2.2.2.2.2.2.2.2.2.2.2.2.2.2.2.2.2.2.2.2.2.1, hR.2.2.2.2.2.2.2.2.2.2.2.2.2.2.2.2.2.2.2.2.2.2.2.2.2.2.2.1, hR.2.2.2.2.2.2.2.2.2.2.2.2.2.2.2.2.2.2.2.2.2.2.2.2.2.2.2.2.1, hR.2.2.2.2.2.2.2.2.2.2.2.2.2.2.2.2.2.2.2.2.2.2.2.2.2.2.2.2.2.1, hR.2.2.2.2.2.2.2.2.2.2.2.2.2.2.2.2.2.2.2.2.2.2.2.2.2.2.2.2.2.2.1, hR.2.2.2.2.2.2.2.2.2.2.2.2.2.2.2.2.2.2.2.2.2.2.2.2.2.2.2.2.2.2.2.1, hR.2.2.2.2.2.2.2.2.2.2.2.2.2.2.2.2.2.2.2.2.2.2.2.2.2.2.2.2.2.2.2.2.1, hR.2.2.2.2.2.2.2.2.2.2.2.2.2.2.2.2.2.2.2.2.2.2.2.2.2.2.2.2.2.2.2.2.2.1, hR.2.2.2.2.2.2.2.2.2.2.2.2.2.2.2.2.2.2.2.2.2.2.2.2.2.2.2.2.2.2.2.2.2.2.1, hR.2.2.2.2.2.2.2.2.2.2.2.2.2.2.2.2.2.2.2.2.2.2.2.2.2.2.2.2.2.2.2.2.2.2.2, ↓lt_e, ↓gd_e, ↓Option.bind_some, ↓reduceIte, if_true, if_false, if_pT, if_nF, decide_true, Bool.not_true, Bool.not_false, not_true_eq_false, not_false_eq_true, Bool.false_eq_true, Bool.true_eq_false, eq_self, n3_lit, n3_add, n3_mul, n3_sub, n3_tn, n3_le_t, n3_le_f, n3_lt_t, n3_lt_f, n3_eq_f, n3_eq_t, n3_inb, n3_rem, n3_div, n3_zb, bb_0, bb_1, zb_bb, bb_T, bb_F, n3_dec, n3_m1, n3_eqm, n3_eqmt, n3_ltm, n3_mlt, n3_lem, n3_mle, n3_neg_lt, n3_nlt_neg, n3_nle_neg, n3_neg_le]
      · have es : kvS B (i + 1) = ((kvS B i).1 ^^^ rvT (kvS B i).2, 0) := if_neg (fun hc => h2 hc.2)
        rw [es]
        simp (disch := omega) only [jn_X12_worthOf_63, jn_X12_worthOf_51, jn_X12_worthOf_35, jn_X12_worthOf_34, bd_X12_worthOf_7, r_has, h2, ↓ob (hR.1), ↓ob (hR.2.1), ↓ob (hR.2.2.1), ↓ob (hR.2.2.2.1), ↓ob (hR.2.2.2.2.1), ↓ob (hR.2.2.2.2.2.1), ↓ob (hR.2.2.2.2.2.2.1), ↓ob (hR.2.2.2.2.2.2.2.1), ↓ob (hR.2.2.2.2.2.2.2.2.1), ↓ob (hR.2.2.2.2.2.2.2.2.2.1), ↓ob (hR.2.2.2.2.2.2.2.2.2.2.1), ↓ob (hR.2.2.2.2.2.2.2.2.2.2.2.1), ↓ob (hR.2.2.2.2.2.2.2.2.2.2.2.2.1), ↓ob (hR.2.2.2.2.2.2.2.2.2.2.2.2.2.1), ↓ob (hR.2.2.2.2.2.2.2.2.2.2.2.2.2.2.1), ↓ob (hR.2.2.2.2.2.2.2.2.2.2.2.2.2.2.2.1), ↓ob (hR.2.2.2.2.2.2.2.2.2.2.2.2.2.2.2.2.1), ↓ob (hR.2.2.2.2.2.2.2.2.2.2.2.2.2.2.2.2.2.1), hR.2.2.2.2.2.2.2.2.2.2.2.2.2.2.2.2.2.2.1, hR.2.2.2.2.2.2.2.2.2.2.2.2.2.2.2.2.2.2.2.1, hR.2.2.2.2.2.2.2.2.2.2.2.2.2.2.2.2.2.2.2.2.1, hR.2.2.2.2.2.2.2.2.2.2.2.2.2.2.2.2.2.2.2.2.2.1, hR.2.2.2.2.2.2.2.2.2.2.2.2.2.2.2.2.2.2.2.2.2.2.1, hR.2.2.2.2.2.2.2.2.2.2.2.2.2.2.2.2.2.2.2.2.2.2.2.1, hR.2.2.2.2.2.2.2.2.2.2.2.2.2.2.2.2.2.2.2.2.2.2.2.2.1, hR.2.2.2.2.2.2.2.2.2.2.2.2.2.2.2.2.2.2.2.2.2.2.2.2.2.1, hR.2.2.2.2.2.2.2.2.2.2.2.2.2.2.2.2.2.2.2.2.2.2.2.2.2.2.1, hR.2.2.2.2.2.2.2.2.2.2.2.2.2.2.2.2.2.2.2.2.2.2.2.2.2.2.2.1, hR.2.2.2.2.2.2.2.2.2.2.2.2.2.2.2.2.2.2.2.2.2.2.2.2.2.2.2.2.1, hR.2.2.2.2.2.2.2.2.2.2.2.2.2.2.2.2.2.2.2.2.2.2.2.2.2.2.2.2.2.1, hR.2.2.2.2.2.2.2.2.2.2.2.2.2.2.2.2.2.2.2.2.2.2.2.2.2.2.2.2.2.2.1, hR.2.2.2.2.2.2.2.2.2.2.2.2.2.2.2.2.2.2.2.2.2.2.2.2.2.2.2.2.2.2.2.1, hR.2.2.2.2.2.2.2.2.2.2.2.2.2.2.2.2.2.2.2.2.2.2.2.2.2.2.2.2.2.2.2.2.1, hR.2.2.2.2.2.2.2.2.2.2.2.2.2.2.2.2.2.2.2.2.2.2.2.2.2.2.2.2.2.2.2.2.2.1, hR.2.2.2.2.2.2.2.2.2.2.2.2.2.2.2.2.2.2.2.2.2.2.2.2.2.2.2.2.2.2.2.2.2.2.1, hR.2.2.2.2.2.2.2.2.2.2.2.2.2.2.2.2.2.2.2.2.2.2.2.2.2.2.2.2.2.2.2.2.2.2.2, hr, ↓lt_e, ↓gd_e, ↓Option.bind_some, ↓reduceIte, if_true, if_false, if_pT, if_nF, decide_true, Bool.not_true, Bool.not_false, not_true_eq_false, not_false_eq_true, Bool.false_eq_true, Bool.true_eq_false, eq_self, n3_lit, n3_add, n3_mul, n3_sub, n3_tn, n3_le_t, n3_le_f, n3_lt_t, n3_lt_f, n3_eq_f, n3_eq_t, n3_inb, n3_rem, n3_div, n3_zb, bb_0, bb_1, zb_bb, bb_T, bb_F, n3_dec, n3_m1, n3_eqm, n3_eqmt, n3_ltm, n3_mlt, n3_lem, n3_mle, n3_neg_lt, n3_nlt_neg, n3_nle_neg, n3_neg_le]
    · have es : kvS B (i + 1) = ((kvS B i).1 ^^^ rvT (kvS B i).2, 0) := if_neg (fun hc => h1 hc.1)
      rw [es]
      simp (disch := omega) only [jn_X12_worthOf_63, jn_X12_worthOf_51, jn_X12_worthOf_35, jn_X12_worthOf_34, bd_X12_worthOf_7, ↓ob (hR.1), ↓ob (hR.2.1), ↓ob (hR.2.2.1), ↓ob (hR.2.2.2.1), ↓ob (hR.2.2.2.2.1), ↓ob (hR.2.2.2.2.2.1), ↓ob (hR.2.2.2.2.2.2.1), ↓ob (hR.2.2.2.2.2.2.2.1), ↓ob (hR.2.2.2.2.2.2.2.2.1), ↓ob (hR.2.2.2.2.2.2.2.2.2.1), ↓ob (hR.2.2.2.2.2.2.2.2.2.2.1), ↓ob (hR.2.2.2.2.2.2.2.2.2.2.2.1), ↓ob (hR.2.2.2.2.2.2.2.2.2.2.2.2.1), ↓ob (hR.2.2.2.2.2.2.2.2.2.2.2.2.2.1), ↓ob (hR.2.2.2.2.2.2.2.2.2.2.2.2.2.2.1), ↓ob (hR.2.2.2.2.2.2.2.2.2.2.2.2.2.2.2.1), ↓ob (hR.2.2.2.2.2.2.2.2.2.2.2.2.2.2.2.2.1), ↓ob (hR.2.2.2.2.2.2.2.2.2.2.2.2.2.2.2.2.2.1), hR.2.2.2.2.2.2.2.2.2.2.2.2.2.2.2.2.2.2.1, hR.2.2.2.2.2.2.2.2.2.2.2.2.2.2.2.2.2.2.2.1, hR.2.2.2.2.2.2.2.2.2.2.2.2.2.2.2.2.2.2.2.2.1, hR.2.2.2.2.2.2.2.2.2.2.2.2.2.2.2.2.2.2.2.2.2.1, hR.2.2.2.2.2.2.2.2.2.2.2.2.2.2.2.2.2.2.2.2.2.2.1, hR.2.2.2.2.2.2.2.2.2.2.2.2.2.2.2.2.2.2.2.2.2.2.2.1, hR.2.2.2.2.2.2.2.2.2.2.2.2.2.2.2.2.2.2.2.2.2.2.2.2.1, hR.2.2.2.2.2.2.2.2.2.2.2.2.2.2.2.2.2.2.2.2.2.2.2.2.2.1, hR.2.2.2.2.2.2.2.2.2.2.2.2.2.2.2.2.2.2.2.2.2.2.2.2.2.2.1, hR.2.2.2.2.2.2.2.2.2.2.2.2.2.2.2.2.2.2.2.2.2.2.2.2.2.2.2.1, hR.2.2.2.2.2.2.2.2.2.2.2.2.2.2.2.2.2.2.2.2.2.2.2.2.2.2.2.2.1, hR.2.2.2.2.2.2.2.2.2.2.2.2.2.2.2.2.2.2.2.2.2.2.2.2.2.2.2.2.2.1, hR.2.2.2.2.2.2.2.2.2.2.2.2.2.2.2.2.2.2.2.2.2.2.2.2.2.2.2.2.2.2.1, hR.2.2.2.2.2.2.2.2.2.2.2.2.2.2.2.2.2.2.2.2.2.2.2.2.2.2.2.2.2.2.2.1, hR.2.2.2.2.2.2.2.2.2.2.2.2.2.2.2.2.2.2.2.2.2.2.2.2.2.2.2.2.2.2.2.2.1, hR.2.2.2.2.2.2.2.2.2.2.2.2.2.2.2.2.2.2.2.2.2.2.2.2.2.2.2.2.2.2.2.2.2.1, hR.2.2.2.2.2.2.2.2.2.2.2.2.2.2.2.2.2.2.2.2.2.2.2.2.2.2.2.2.2.2.2.2.2.2.1, hR.2.2.2.2.2.2.2.2.2.2.2.2.2.2.2.2.2.2.2.2.2.2.2.2.2.2.2.2.2.2.2.2.2.2.2, hr, ↓lt_e, ↓gd_e, ↓Option.bind_some, ↓reduceIte, if_true, if_false, if_pT, if_nF, decide_true, Bool.not_true, Bool.not_false, not_true_eq_false, not_false_eq_true, Bool.false_eq_true, Bool.true_eq_false, eq_self, n3_lit, n3_add, n3_mul, n3_sub, n3_tn, n3_le_t, n3_le_f, n3_lt_t, n3_lt_f, n3_eq_f, n3_eq_t, n3_inb, n3_rem, n3_div, n3_zb, bb_0, bb_1, zb_bb, bb_T, bb_F, n3_dec, n3_m1, n3_eqm, n3_eqmt, n3_ltm, n3_mlt, n3_lem, n3_mle, n3_neg_lt, n3_nlt_neg, n3_nle_neg, n3_neg_le]
  · simp (disch := omega) only [jn_X12_worthOf_63, jn_X12_worthOf_51, jn_X12_worthOf_35, jn_X12_worthOf_34, bd_X12_worthOf_7, ↓lt_e, ↓gd_e, ↓Option.bind_some, ↓reduceIte, if_true, if_false, if_pT, if_nF, decide_true, Bool.not_true, Bool.not_false, not_true_eq_false, not_false_eq_true, Bool.false_eq_true, Bool.true_eq_false, eq_self, n3_lit, n3_add, n3_mul, n3_sub, n3_tn, n3_le_t, n3_le_f, n3_lt_t, n3_lt_f, n3_eq_f, n3_eq_t, n3_inb, n3_rem, n3_div, n3_zb, bb_0, bb_1, zb_bb, bb_T, bb_F, n3_dec, n3_m1, n3_eqm, n3_eqmt, n3_ltm, n3_mlt, n3_lem, n3_mle, n3_neg_lt, n3_nlt_neg, n3_nle_neg, n3_neg_le]
def knkF (B : Nat) : Nat := bb (¬ (kvS B 25).1 = n3 0)
theorem C_knocks {N : Nat} (hN : 1099511627776 ≤ N) {Λ : Lay} {ad : Nat → Nat} {μ : Mem} {F : Nat → Nat} {m : Nat} {A : Nat → Nat → Nat} {b : Nat} {J : Nat → Nat} {T : Nat → Int32} {n : Nat} {f : Int32} (hY : Ly Λ ad) (h : RC ad μ F m A b J T n f) (ho : Ok F m A b J T n)  : m_X11_knocks N Λ μ (ad 0) = some (n3 (knkF (F 10))) := by
  have hj := hY.1
  have hP := hY.2.2.1
  have hS := hY.2.2.2.1 3 (Or.inl rfl)
  have hL := hY.2.2.2.2.1 30 (Or.inl rfl)
  have hC := h.1
  have hw := ho.1
  have hl := ho.2.1
  have hb := hw.1; unfold WB at hb
  have q : μ.1 (ad 3) 9 = n3 (F 10) := hC.2.2.2.2.2.2.2.2.2.1
  have kv := c_knockValue (Λ := Λ) (μ := μ) hN hb.2.2.2.2.2.2.2.2.2.2.1
  unfold knkF
  by_cases e : (kvS (F 10) 25).1 = n3 0
  · simp (disch := omega) only [jn_X11_knocks_18, m_X11_knocks, ↓ob (hP.1), ↓ob (hP.2.1), ↓ob (hP.2.2.1), ↓ob (hP.2.2.2.1), ↓ob (hP.2.2.2.2.1), ↓ob (hP.2.2.2.2.2.1), ↓ob (hP.2.2.2.2.2.2.1), ↓ob (hP.2.2.2.2.2.2.2.1), ↓ob (hP.2.2.2.2.2.2.2.2.1), ↓ob (hP.2.2.2.2.2.2.2.2.2.1), ↓ob (hP.2.2.2.2.2.2.2.2.2.2.1), ↓ob (hP.2.2.2.2.2.2.2.2.2.2.2.1), ↓ob (hP.2.2.2.2.2.2.2.2.2.2.2.2.1), ↓ob (hP.2.2.2.2.2.2.2.2.2.2.2.2.2.1), hP.2.2.2.2.2.2.2.2.2.2.2.2.2.2, q, kv, e, ↓lt_e, ↓gd_e, ↓Option.bind_some, ↓reduceIte, if_true, if_false, if_pT, if_nF, decide_true, Bool.not_true, Bool.not_false, not_true_eq_false, not_false_eq_true, Bool.false_eq_true, Bool.true_eq_false, eq_self, n3_lit, n3_zb, bb_F]
  · simp (disch := omega) only [jn_X11_knocks_18, m_X11_knocks, ↓ob (hP.1), ↓ob (hP.2.1), ↓ob (hP.2.2.1), ↓ob (hP.2.2.2.1), ↓ob (hP.2.2.2.2.1), ↓ob (hP.2.2.2.2.2.1), ↓ob (hP.2.2.2.2.2.2.1), ↓ob (hP.2.2.2.2.2.2.2.1), ↓ob (hP.2.2.2.2.2.2.2.2.1), ↓ob (hP.2.2.2.2.2.2.2.2.2.1), ↓ob (hP.2.2.2.2.2.2.2.2.2.2.1), ↓ob (hP.2.2.2.2.2.2.2.2.2.2.2.1), ↓ob (hP.2.2.2.2.2.2.2.2.2.2.2.2.1), ↓ob (hP.2.2.2.2.2.2.2.2.2.2.2.2.2.1), hP.2.2.2.2.2.2.2.2.2.2.2.2.2.2, q, kv, e, ↓lt_e, ↓gd_e, ↓Option.bind_some, ↓reduceIte, if_true, if_false, if_pT, if_nF, decide_true, Bool.not_true, Bool.not_false, not_true_eq_false, not_false_eq_true, Bool.false_eq_true, Bool.true_eq_false, eq_self, n3_lit, n3_zb, bb_T]
theorem R_knocks {N : Nat} (hN : 1099511627776 ≤ N) {Λ : Lay} {ad : Nat → Nat} {μ : Mem} {F : Nat → Nat} {m : Nat} {A : Nat → Nat → Nat} {b : Nat} {J : Nat → Nat} {T : Nat → Int32} {n : Nat} {f : Int32} (hY : Ly Λ ad) (h : RR ad μ F m A b J T n f) (ho : Ok F m A b J T n)  : RV ad μ (m_X12_knocks N Λ μ (ad 181)) 0 (n3 (knkF (F 10))) F m A b J T n f := by
  have hj := hY.1
  have hR := hY.2.1
  have hW := h.1
  have hw := ho.1
  have hl := ho.2.1
  have hb := hw.1; unfold WB at hb
  unfold m_X12_knocks
  refine RV.start hY.1 h (fun μ0 h0 t0 => ?_)
  obtain ⟨μ1, e1, hr, f1⟩ := r_laysWorth (μ := μ0) hN hR hj
  have hW1 := h0.1.fr f1 (by omega)
  have kv := r_worthOf hN hR hr hb.2.2.2.2.2.2.2.2.2.2.1
  refine RV.scr h0 t0 (f1.mono (fun i hi => by unfold ScX; omega)) ?_
  unfold knkF
  by_cases e : (kvS (F 10) 25).1 = n3 0
  · simp (disch := omega) only [jn_X12_knocks_28, ↓ob (hR.1), ↓ob (hR.2.1), ↓ob (hR.2.2.1), ↓ob (hR.2.2.2.1), ↓ob (hR.2.2.2.2.1), ↓ob (hR.2.2.2.2.2.1), ↓ob (hR.2.2.2.2.2.2.1), ↓ob (hR.2.2.2.2.2.2.2.1), ↓ob (hR.2.2.2.2.2.2.2.2.1), ↓ob (hR.2.2.2.2.2.2.2.2.2.1), ↓ob (hR.2.2.2.2.2.2.2.2.2.2.1), ↓ob (hR.2.2.2.2.2.2.2.2.2.2.2.1), ↓ob (hR.2.2.2.2.2.2.2.2.2.2.2.2.1), ↓ob (hR.2.2.2.2.2.2.2.2.2.2.2.2.2.1), ↓ob (hR.2.2.2.2.2.2.2.2.2.2.2.2.2.2.1), ↓ob (hR.2.2.2.2.2.2.2.2.2.2.2.2.2.2.2.1), ↓ob (hR.2.2.2.2.2.2.2.2.2.2.2.2.2.2.2.2.1), ↓ob (hR.2.2.2.2.2.2.2.2.2.2.2.2.2.2.2.2.2.1), hR.2.2.2.2.2.2.2.2.2.2.2.2.2.2.2.2.2.2.1, hR.2.2.2.2.2.2.2.2.2.2.2.2.2.2.2.2.2.2.2.1, hR.2.2.2.2.2.2.2.2.2.2.2.2.2.2.2.2.2.2.2.2.1, hR.2.2.2.2.2.2.2.2.2.2.2.2.2.2.2.2.2.2.2.2.2.1, hR.2.2.2.2.2.2.2.2.2.2.2.2.2.2.2.2.2.2.2.2.2.2.1, hR.2.2.2.2.2.2.2.2.2.2.2.2.2.2.2.2.2.2.2.2.2.2.2.1, hR.2.2.2.2.2.2.2.2.2.2.2.2.2.2.2.2.2.2.2.2.2.2.2.2.1, hR.2.2.2.2.2.2.2.2.2.2.2.2.2.2.2.2.2.2.2.2.2.2.2.2.2.1, hR.2.2.2.2.2.2.2.2.2.2.2.2.2.2.2.2.2.2.2.2.2.2.2.2.2.2.1, hR.2.2.2.2.2.2.2.2.2.2.2.2.2.2.2.2.2.2.2.2.2.2.2.2.2.2.2.1, hR.2.2.2.2.2.2.2.2.2.2.2.2.2.2.2.2.2.2.2.2.2.2.2.2.2.2.2.2.1, hR.2.2.2.2.2.2.2.2.2.2.2.2.2.2.2.2.2.2.2.2.2.2.2.2.2.2.2.2.2.1, hR.2.2.2.2.2.2.2.2.2.2.2.2.2.2.2.2.2.2.2.2.2.2.2.2.2.2.2.2.2.2.1, hR.2.2.2.2.2.2.2.2.2.2.2.2.2.2.2.2.2.2.2.2.2.2.2.2.2.2.2.2.2.2.2.1, hR.2.2.2.2.2.2.2.2.2.2.2.2.2.2.2.2.2.2.2.2.2.2.2.2.2.2.2.2.2.2.2.2.1, hR.2.2.2.2.2.2.2.2.2.2.2.2.2.2.2.2.2.2.2.2.2.2.2.2.2.2.2.2.2.2.2.2.2.1, hR.2.2.2.2.2.2.2.2.2.2.2.2.2.2.2.2.2.2.2.2.2.2.2.2.2.2.2.2.2.2.2.2.2.2.1, hR.2.2.2.2.2.2.2.2.2.2.2.2.2.2.2.2.2.2.2.2.2.2.2.2.2.2.2.2.2.2.2.2.2.2.2, hW1, e1, kv, e, ↓lt_e, ↓gd_e, ↓Option.bind_some, ↓reduceIte, if_true, if_false, if_pT, if_nF, decide_true, Bool.not_true, Bool.not_false, not_true_eq_false, not_false_eq_true, Bool.false_eq_true, Bool.true_eq_false, eq_self, n3_lit, n3_tn, n3_inb, n3_zb, bb_F]
  · simp (disch := omega) only [jn_X12_knocks_28, ↓ob (hR.1), ↓ob (hR.2.1), ↓ob (hR.2.2.1), ↓ob (hR.2.2.2.1), ↓ob (hR.2.2.2.2.1), ↓ob (hR.2.2.2.2.2.1), ↓ob (hR.2.2.2.2.2.2.1), ↓ob (hR.2.2.2.2.2.2.2.1), ↓ob (hR.2.2.2.2.2.2.2.2.1), ↓ob (hR.2.2.2.2.2.2.2.2.2.1), ↓ob (hR.2.2.2.2.2.2.2.2.2.2.1), ↓ob (hR.2.2.2.2.2.2.2.2.2.2.2.1), ↓ob (hR.2.2.2.2.2.2.2.2.2.2.2.2.1), ↓ob (hR.2.2.2.2.2.2.2.2.2.2.2.2.2.1), ↓ob (hR.2.2.2.2.2.2.2.2.2.2.2.2.2.2.1), ↓ob (hR.2.2.2.2.2.2.2.2.2.2.2.2.2.2.2.1), ↓ob (hR.2.2.2.2.2.2.2.2.2.2.2.2.2.2.2.2.1), ↓ob (hR.2.2.2.2.2.2.2.2.2.2.2.2.2.2.2.2.2.1), hR.2.2.2.2.2.2.2.2.2.2.2.2.2.2.2.2.2.2.1, hR.2.2.2.2.2.2.2.2.2.2.2.2.2.2.2.2.2.2.2.1, hR.2.2.2.2.2.2.2.2.2.2.2.2.2.2.2.2.2.2.2.2.1, hR.2.2.2.2.2.2.2.2.2.2.2.2.2.2.2.2.2.2.2.2.2.1, hR.2.2.2.2.2.2.2.2.2.2.2.2.2.2.2.2.2.2.2.2.2.2.1, hR.2.2.2.2.2.2.2.2.2.2.2.2.2.2.2.2.2.2.2.2.2.2.2.1, hR.2.2.2.2.2.2.2.2.2.2.2.2.2.2.2.2.2.2.2.2.2.2.2.2.1, hR.2.2.2.2.2.2.2.2.2.2.2.2.2.2.2.2.2.2.2.2.2.2.2.2.2.1, hR.2.2.2.2.2.2.2.2.2.2.2.2.2.2.2.2.2.2.2.2.2.2.2.2.2.2.1, hR.2.2.2.2.2.2.2.2.2.2.2.2.2.2.2.2.2.2.2.2.2.2.2.2.2.2.2.1, hR.2.2.2.2.2.2.2.2.2.2.2.2.2.2.2.2.2.2.2.2.2.2.2.2.2.2.2.2.1, hR.2.2.2.2.2.2.2.2.2.2.2.2.2.2.2.2.2.2.2.2.2.2.2.2.2.2.2.2.2.1, hR.2.2.2.2.2.2.2.2.2.2.2.2.2.2.2.2.2.2.2.2.2.2.2.2.2.2.2.2.2.2.1, hR.2.2.2.2.2.2.2.2.2.2.2.2.2.2.2.2.2.2.2.2.2.2.2.2.2.2.2.2.2.2.2.1, hR.2.2.2.2.2.2.2.2.2.2.2.2.2.2.2.2.2.2.2.2.2.2.2.2.2.2.2.2.2.2.2.2.1, hR.2.2.2.2.2.2.2.2.2.2.2.2.2.2.2.2.2.2.2.2.2.2.2.2.2.2.2.2.2.2.2.2.2.1, hR.2.2.2.2.2.2.2.2.2.2.2.2.2.2.2.2.2.2.2.2.2.2.2.2.2.2.2.2.2.2.2.2.2.2.1, hR.2.2.2.2.2.2.2.2.2.2.2.2.2.2.2.2.2.2.2.2.2.2.2.2.2.2.2.2.2.2.2.2.2.2.2, hW1, e1, kv, e, ↓lt_e, ↓gd_e, ↓Option.bind_some, ↓reduceIte, if_true, if_false, if_pT, if_nF, decide_true, Bool.not_true, Bool.not_false, not_true_eq_false, not_false_eq_true, Bool.false_eq_true, Bool.true_eq_false, eq_self, n3_lit, n3_tn, n3_inb, n3_zb, bb_T]
/-! the knock -/
def clm (B o : Nat) : Nat := B &&& (o ^^^ 4294967295)
theorem n3_clm (B o : Nat) : n3 B &&& (n3 o ^^^ -n3 1) = n3 (clm B o) := by rw [n3_neg1, n3_xor, n3_and]; rfl
theorem clm_0 {B o : Nat} (ho : o < 4294967296) : clm o B = 0 ↔ B &&& o = o := by
  unfold clm
  constructor
  · intro h
    apply Nat.eq_of_testBit_eq
    intro i
    have hi := congrArg (fun x => x.testBit i) h
    simp only [Nat.testBit_and, Nat.testBit_xor, show (4294967295 : Nat) = 2 ^ 32 - 1 from rfl, Nat.testBit_two_pow_sub_one, Nat.zero_testBit] at hi
    rw [Nat.testBit_and]
    by_cases h32 : i < 32
    · simp [h32] at hi
      cases hB : B.testBit i <;> cases hO : o.testBit i <;> simp_all
    · have : o.testBit i = false := Nat.testBit_lt_two_pow (Nat.lt_of_lt_of_le ho (Nat.pow_le_pow_right (n := 2) (by decide) (show 32 ≤ i by omega)))
      rw [this, Bool.and_false]
  · intro h
    apply Nat.eq_of_testBit_eq
    intro i
    have hi := congrArg (fun x => x.testBit i) h
    simp only [Nat.testBit_and] at hi
    simp only [Nat.testBit_and, Nat.testBit_xor, show (4294967295 : Nat) = 2 ^ 32 - 1 from rfl, Nat.testBit_two_pow_sub_one, Nat.zero_testBit]
    by_cases h32 : i < 32
    · cases hB : B.testBit i <;> cases hO : o.testBit i <;> simp_all
    · have : o.testBit i = false := Nat.testBit_lt_two_pow (Nat.lt_of_lt_of_le ho (Nat.pow_le_pow_right (n := 2) (by decide) (show 32 ≤ i by omega)))
      rw [this, Bool.false_and]
def outF2 (k : Nat) : Nat := rn (k / 2) (k % 2 + 1)
theorem outF2_lt : ∀ k, k < 48 → outF2 k < 33554432 := by decide +kernel
theorem outF2_e : ∀ k, k < 48 → outF2 k = (if k % 2 = 0 then 1 else 3) * 2 ^ (k / 2) := by decide +kernel
def knP (B k : Nat) : Bool := decide (B &&& outF2 k = outF2 k) && decide ((kvS (clm B (outF2 k)) 25).1 = n3 0)
theorem knP_iff {B k : Nat} : knP B k = true ↔ B &&& outF2 k = outF2 k ∧ (kvS (clm B (outF2 k)) 25).1 = n3 0 := by simp [knP]
theorem clm_le (B o : Nat) : clm B o ≤ B := Nat.and_le_left
/-- one knock of the class -/
theorem c_knk {N : Nat} (hN : 1099511627776 ≤ N) {Λ : Lay} {μ : Mem} {B : Nat} (hB : B < 16777216) (i : Nat) (hi : i < 48) (k) : bd_X6_winningKnock_2 N Λ μ k (n3 B) (n3 i) = if knP B i = true then some (n3 i) else k (n3 (i + 1)) := by
  have ol := outF2_lt i hi
  have oe := outF2_e i hi
  have cl := clm_le B (outF2 i)
  have kv := c_knockValue (Λ := Λ) (μ := μ) hN (B := clm B (outF2 i)) (by omega)
  have ha : B &&& outF2 i ≤ B := Nat.and_le_left
  have e19 : jn_X6_winningKnock_19 N Λ μ k (n3 B) (n3 i) (n3 (if i % 2 = 0 then 1 else 3)) = if knP B i = true then some (n3 i) else k (n3 (i + 1)) := by
    by_cases h1 : B &&& outF2 i = outF2 i
    · by_cases h2 : (kvS (clm B (outF2 i)) 25).1 = n3 0
      · rw [if_pos (knP_iff.2 ⟨h1, h2⟩)]
        simp (disch := omega) only [jn_X6_winningKnock_19, jn_X6_winningKnock_44, ↓lt_e, ↓gd_e, ↓Option.bind_some, ↓reduceIte, if_true, if_false, if_pT, if_nF, decide_true, Bool.not_true, Bool.not_false, not_true_eq_false, not_false_eq_true, Bool.false_eq_true, Bool.true_eq_false, eq_self, n3_lit, n3_div, n3_shl, ← oe, n3_clm, n3_and, h1, kv, h2, n3_eq_t]
      · rw [if_neg (fun hc => h2 (knP_iff.1 hc).2)]
        simp (disch := omega) only [jn_X6_winningKnock_19, jn_X6_winningKnock_44, ↓lt_e, ↓gd_e, ↓Option.bind_some, ↓reduceIte, if_true, if_false, if_pT, if_nF, decide_true, Bool.not_true, Bool.not_false, not_true_eq_false, not_false_eq_true, Bool.false_eq_true, Bool.true_eq_false, eq_self, n3_lit, n3_div, n3_shl, ← oe, n3_clm, n3_and, h1, kv, h2, n3_eq_t, n3_add]
    · rw [if_neg (fun hc => h1 (knP_iff.1 hc).1)]
      simp (disch := omega) only [jn_X6_winningKnock_19, jn_X6_winningKnock_44, ↓lt_e, ↓gd_e, ↓Option.bind_some, ↓reduceIte, if_true, if_false, if_pT, if_nF, decide_true, Bool.not_true, Bool.not_false, not_true_eq_false, not_false_eq_true, Bool.false_eq_true, Bool.true_eq_false, eq_self, n3_lit, n3_div, n3_shl, ← oe, n3_clm, n3_and, n3_eq_f, n3_add]
  rw [← e19]
  by_cases h0 : i % 2 = 0
  · rw [if_pos h0]
    simp (disch := omega) only [bd_X6_winningKnock_2, ↓lt_e, ↓gd_e, ↓Option.bind_some, ↓reduceIte, if_true, if_false, if_pT, if_nF, decide_true, Bool.not_true, Bool.not_false, not_true_eq_false, not_false_eq_true, Bool.false_eq_true, Bool.true_eq_false, eq_self, n3_lit, n3_le_f, n3_rem, n3_eq_t]
  · rw [if_neg h0]
    simp (disch := omega) only [bd_X6_winningKnock_2, ↓lt_e, ↓gd_e, ↓Option.bind_some, ↓reduceIte, if_true, if_false, if_pT, if_nF, decide_true, Bool.not_true, Bool.not_false, not_true_eq_false, not_false_eq_true, Bool.false_eq_true, Bool.true_eq_false, eq_self, n3_lit, n3_le_f, n3_rem, n3_eq_f]
def knoF (B : Nat) : Nat := nf (ff (knP B) 48) 48
theorem C_knock {N : Nat} (hN : 1099511627776 ≤ N) {Λ : Lay} {ad : Nat → Nat} {μ : Mem} {F : Nat → Nat} {m : Nat} {A : Nat → Nat → Nat} {b : Nat} {J : Nat → Nat} {T : Nat → Int32} {n : Nat} {f : Int32} (hY : Ly Λ ad) (h : RC ad μ F m A b J T n f) (ho : Ok F m A b J T n)  : m_X11_knock N Λ μ (ad 0) = some (n3 (knoF (F 10))) := by
  have hj := hY.1
  have hP := hY.2.2.1
  have hS := hY.2.2.2.1 3 (Or.inl rfl)
  have hL := hY.2.2.2.2.1 30 (Or.inl rfl)
  have hC := h.1
  have hw := ho.1
  have hl := ho.2.1
  have hb := hw.1; unfold WB at hb
  have q : μ.1 (ad 3) 9 = n3 (F 10) := hC.2.2.2.2.2.2.2.2.2.1
  have hB : F 10 < 16777216 := hb.2.2.2.2.2.2.2.2.2.2.1
  have hl' := ff_le (knP (F 10)) 48
  have wk : m_X6_winningKnock N Λ μ (n3 (F 10)) = some (n3 (knoF (F 10))) := by
    unfold m_X6_winningKnock lp_X6_winningKnock_2 knoF
    refine cw_it (fun i => n3 i) (ff (knP (F 10)) 48) rfl (fun i hi k => ?_) (fun k => ?_) (by omega)
    · rw [c_knk hN hB i (by omega) k, ff_no hi]; rfl
    · unfold nf
      by_cases e : ff (knP (F 10)) 48 < 48
      · rw [if_pos e, c_knk hN hB _ e k, ff_yes e]; rfl
      · rw [if_neg e, show ff (knP (F 10)) 48 = 48 by omega]
        simp (disch := omega) only [bd_X6_winningKnock_2, n3_neg1, ↓lt_e, ↓gd_e, ↓Option.bind_some, ↓reduceIte, if_true, if_false, if_pT, if_nF, decide_true, Bool.not_true, Bool.not_false, not_true_eq_false, not_false_eq_true, Bool.false_eq_true, Bool.true_eq_false, eq_self, n3_lit, n3_add, n3_mul, n3_sub, n3_tn, n3_le_t, n3_le_f, n3_lt_t, n3_lt_f, n3_eq_f, n3_eq_t, n3_inb, n3_rem, n3_div, n3_zb, bb_0, bb_1, zb_bb, bb_T, bb_F, n3_dec, n3_m1, n3_eqm, n3_eqmt, n3_ltm, n3_mlt, n3_lem, n3_mle, n3_neg_lt, n3_nlt_neg, n3_nle_neg, n3_neg_le]
  simp (disch := omega) only [m_X11_knock, ↓ob (hP.1), ↓ob (hP.2.1), ↓ob (hP.2.2.1), ↓ob (hP.2.2.2.1), ↓ob (hP.2.2.2.2.1), ↓ob (hP.2.2.2.2.2.1), ↓ob (hP.2.2.2.2.2.2.1), ↓ob (hP.2.2.2.2.2.2.2.1), ↓ob (hP.2.2.2.2.2.2.2.2.1), ↓ob (hP.2.2.2.2.2.2.2.2.2.1), ↓ob (hP.2.2.2.2.2.2.2.2.2.2.1), ↓ob (hP.2.2.2.2.2.2.2.2.2.2.2.1), ↓ob (hP.2.2.2.2.2.2.2.2.2.2.2.2.1), ↓ob (hP.2.2.2.2.2.2.2.2.2.2.2.2.2.1), hP.2.2.2.2.2.2.2.2.2.2.2.2.2.2, q, wk, ↓lt_e, ↓gd_e, ↓Option.bind_some, ↓reduceIte, if_true, if_false, if_pT, if_nF, decide_true, Bool.not_true, Bool.not_false, not_true_eq_false, not_false_eq_true, Bool.false_eq_true, Bool.true_eq_false, eq_self]
theorem R_knock {N : Nat} (hN : 1099511627776 ≤ N) {Λ : Lay} {ad : Nat → Nat} {μ : Mem} {F : Nat → Nat} {m : Nat} {A : Nat → Nat → Nat} {b : Nat} {J : Nat → Nat} {T : Nat → Int32} {n : Nat} {f : Int32} (hY : Ly Λ ad) (h : RR ad μ F m A b J T n f) (ho : Ok F m A b J T n)  : RV ad μ (m_X12_knock N Λ μ (ad 181)) 0 (n3 (knoF (F 10))) F m A b J T n f := by
  have hj := hY.1
  have hR := hY.2.1
  have hW := h.1
  have hw := ho.1
  have hl := ho.2.1
  have hb := hw.1; unfold WB at hb
  unfold m_X12_knock
  refine RV.start hY.1 h (fun μ0 h0 t0 => ?_)
  obtain ⟨μ1, e1, hr, f1⟩ := r_laysWorth (μ := μ0) hN hR hj
  have hW1 := h0.1.fr f1 (by omega)
  have hB : F 10 < 16777216 := hb.2.2.2.2.2.2.2.2.2.2.1
  refine RV.scr h0 t0 (f1.mono (fun i hi => by unfold ScX; omega)) ?_
  simp (disch := omega) only [↓ob (hR.1), ↓ob (hR.2.1), ↓ob (hR.2.2.1), ↓ob (hR.2.2.2.1), ↓ob (hR.2.2.2.2.1), ↓ob (hR.2.2.2.2.2.1), ↓ob (hR.2.2.2.2.2.2.1), ↓ob (hR.2.2.2.2.2.2.2.1), ↓ob (hR.2.2.2.2.2.2.2.2.1), ↓ob (hR.2.2.2.2.2.2.2.2.2.1), ↓ob (hR.2.2.2.2.2.2.2.2.2.2.1), ↓ob (hR.2.2.2.2.2.2.2.2.2.2.2.1), ↓ob (hR.2.2.2.2.2.2.2.2.2.2.2.2.1), ↓ob (hR.2.2.2.2.2.2.2.2.2.2.2.2.2.1), ↓ob (hR.2.2.2.2.2.2.2.2.2.2.2.2.2.2.1), ↓ob (hR.2.2.2.2.2.2.2.2.2.2.2.2.2.2.2.1), ↓ob (hR.2.2.2.2.2.2.2.2.2.2.2.2.2.2.2.2.1), ↓ob (hR.2.2.2.2.2.2.2.2.2.2.2.2.2.2.2.2.2.1), hR.2.2.2.2.2.2.2.2.2.2.2.2.2.2.2.2.2.2.1, hR.2.2.2.2.2.2.2.2.2.2.2.2.2.2.2.2.2.2.2.1, hR.2.2.2.2.2.2.2.2.2.2.2.2.2.2.2.2.2.2.2.2.1, hR.2.2.2.2.2.2.2.2.2.2.2.2.2.2.2.2.2.2.2.2.2.1, hR.2.2.2.2.2.2.2.2.2.2.2.2.2.2.2.2.2.2.2.2.2.2.1, hR.2.2.2.2.2.2.2.2.2.2.2.2.2.2.2.2.2.2.2.2.2.2.2.1, hR.2.2.2.2.2.2.2.2.2.2.2.2.2.2.2.2.2.2.2.2.2.2.2.2.1, hR.2.2.2.2.2.2.2.2.2.2.2.2.2.2.2.2.2.2.2.2.2.2.2.2.2.1, hR.2.2.2.2.2.2.2.2.2.2.2.2.2.2.2.2.2.2.2.2.2.2.2.2.2.2.1, hR.2.2.2.2.2.2.2.2.2.2.2.2.2.2.2.2.2.2.2.2.2.2.2.2.2.2.2.1, hR.2.2.2.2.2.2.2.2.2.2.2.2.2.2.2.2.2.2.2.2.2.2.2.2.2.2.2.2.1, hR.2.2.2.2.2.2.2.2.2.2.2.2.2.2.2.2.2.2.2.2.2.2.2.2.2.2.2.2.2.1, hR.2.2.2.2.2.2.2.2.2.2.2.2.2.2.2.2.2.2.2.2.2.2.2.2.2.2.2.2.2.2.1, hR.2.2.2.2.2.2.2.2.2.2.2.2.2.2.2.2.2.2.2.2.2.2.2.2.2.2.2.2.2.2.2.1, hR.2.2.2.2.2.2.2.2.2.2.2.2.2.2.2.2.2.2.2.2.2.2.2.2.2.2.2.2.2.2.2.2.1, hR.2.2.2.2.2.2.2.2.2.2.2.2.2.2.2.2.2.2.2.2.2.2.2.2.2.2.2.2.2.2.2.2.2.1, hR.2.2.2.2.2.2.2.2.2.2.2.2.2.2.2.2.2.2.2.2.2.2.2.2.2.2.2.2.2.2.2.2.2.2.1, hR.2.2.2.2.2.2.2.2.2.2.2.2.2.2.2.2.2.2.2.2.2.2.2.2.2.2.2.2.2.2.2.2.2.2.2, hW1, e1, ↓lt_e, ↓gd_e, ↓Option.bind_some, ↓reduceIte, if_true, if_false, if_pT, if_nF, decide_true, Bool.not_true, Bool.not_false, not_true_eq_false, not_false_eq_true, Bool.false_eq_true, Bool.true_eq_false, eq_self, n3_lit, n3_tn, n3_inb, n3_neg1, lp_X12_knock_22]
  unfold knoF
  rw [← dn_ff]
  generalize F 10 = B at hB
  refine cw_it (fun i => (n3 (dn (knP B) 48 i), n3 (48 - i) - n3 1, μ1)) 48 rfl (fun i hi k => ?_) (fun k => ?_) (by omega)
  · have e47 : 48 - i - 1 = 48 - (i + 1) := by omega
    have ol := outF2_lt (48 - (i + 1)) (by omega)
    have cl := clm_le B (outF2 (48 - (i + 1)))
    have kv := r_worthOf hN hR hr (B := clm B (outF2 (48 - (i + 1)))) (by omega)
    have ro : m_X12_run N Λ μ1 (n3 ((48 - (i + 1)) / 2)) (n3 ((48 - (i + 1)) % 2 + 1)) = some (n3 (outF2 (48 - (i + 1)))) := r_run (by omega) (by omega)
    have c0 := clm_0 (B := B) (o := outF2 (48 - (i + 1))) (by omega)
    have cl2 := clm_le (outF2 (48 - (i + 1))) B
    rw [dn_s]
    by_cases h1 : B &&& outF2 (48 - (i + 1)) = outF2 (48 - (i + 1))
    · have h1' := c0.2 h1
      by_cases h2 : (kvS (clm B (outF2 (48 - (i + 1)))) 25).1 = n3 0
      · rw [if_pos (knP_iff.2 ⟨h1, h2⟩)]
        simp (disch := omega) only [jn_X12_knock_66, jn_X12_knock_65, bd_X12_knock_22, e47, ro, n3_clm, h1', kv, h2, ↓lt_e, ↓gd_e, ↓Option.bind_some, ↓reduceIte, if_true, if_false, if_pT, if_nF, decide_true, Bool.not_true, Bool.not_false, not_true_eq_false, not_false_eq_true, Bool.false_eq_true, Bool.true_eq_false, eq_self, n3_lit, n3_add, n3_mul, n3_sub, n3_tn, n3_le_t, n3_le_f, n3_lt_t, n3_lt_f, n3_eq_f, n3_eq_t, n3_inb, n3_rem, n3_div, n3_zb, bb_0, bb_1, zb_bb, bb_T, bb_F, n3_dec, n3_m1, n3_eqm, n3_eqmt, n3_ltm, n3_mlt, n3_lem, n3_mle, n3_neg_lt, n3_nlt_neg, n3_nle_neg, n3_neg_le]
      · rw [if_neg (fun hc => h2 (knP_iff.1 hc).2)]
        simp (disch := omega) only [jn_X12_knock_66, jn_X12_knock_65, bd_X12_knock_22, e47, ro, n3_clm, h1', kv, h2, ↓lt_e, ↓gd_e, ↓Option.bind_some, ↓reduceIte, if_true, if_false, if_pT, if_nF, decide_true, Bool.not_true, Bool.not_false, not_true_eq_false, not_false_eq_true, Bool.false_eq_true, Bool.true_eq_false, eq_self, n3_lit, n3_add, n3_mul, n3_sub, n3_tn, n3_le_t, n3_le_f, n3_lt_t, n3_lt_f, n3_eq_f, n3_eq_t, n3_inb, n3_rem, n3_div, n3_zb, bb_0, bb_1, zb_bb, bb_T, bb_F, n3_dec, n3_m1, n3_eqm, n3_eqmt, n3_ltm, n3_mlt, n3_lem, n3_mle, n3_neg_lt, n3_nlt_neg, n3_nle_neg, n3_neg_le]
    · have h1' := mt c0.1 h1
      rw [if_neg (fun hc => h1 (knP_iff.1 hc).1)]
      simp (disch := omega) only [jn_X12_knock_66, jn_X12_knock_65, bd_X12_knock_22, e47, ro, n3_clm, ↓lt_e, ↓gd_e, ↓Option.bind_some, ↓reduceIte, if_true, if_false, if_pT, if_nF, decide_true, Bool.not_true, Bool.not_false, not_true_eq_false, not_false_eq_true, Bool.false_eq_true, Bool.true_eq_false, eq_self, n3_lit, n3_add, n3_mul, n3_sub, n3_tn, n3_le_t, n3_le_f, n3_lt_t, n3_lt_f, n3_eq_f, n3_eq_t, n3_inb, n3_rem, n3_div, n3_zb, bb_0, bb_1, zb_bb, bb_T, bb_F, n3_dec, n3_m1, n3_eqm, n3_eqmt, n3_ltm, n3_mlt, n3_lem, n3_mle, n3_neg_lt, n3_nlt_neg, n3_nle_neg, n3_neg_le]
  · simp (disch := omega) only [jn_X12_knock_66, jn_X12_knock_65, bd_X12_knock_22, Nat.sub_self, ↓lt_e, ↓gd_e, ↓Option.bind_some, ↓reduceIte, if_true, if_false, if_pT, if_nF, decide_true, Bool.not_true, Bool.not_false, not_true_eq_false, not_false_eq_true, Bool.false_eq_true, Bool.true_eq_false, eq_self, n3_lit, n3_add, n3_mul, n3_sub, n3_tn, n3_le_t, n3_le_f, n3_lt_t, n3_lt_f, n3_eq_f, n3_eq_t, n3_inb, n3_rem, n3_div, n3_zb, bb_0, bb_1, zb_bb, bb_T, bb_F, n3_dec, n3_m1, n3_eqm, n3_eqmt, n3_ltm, n3_mlt, n3_lem, n3_mle, n3_neg_lt, n3_nlt_neg, n3_nle_neg, n3_neg_le]
/-! sets and the least over them -/
def mnS (p : Nat → Bool) (v : Nat → Nat) : Nat → Nat × Nat
  | 0 => (0, 4294967295)
  | s + 1 => if p s = true then (if (mnS p v s).2 = 4294967295 ∨ v s < (mnS p v s).1 then (v s, s) else mnS p v s) else mnS p v s
theorem mnS_spec (p : Nat → Bool) (v : Nat → Nat) : ∀ n, n ≤ 8 → ((mnS p v n).2 = 4294967295 ∧ (∀ s, s < n → p s = false)) ∨ ((mnS p v n).2 < n ∧ p (mnS p v n).2 = true ∧ v (mnS p v n).2 = (mnS p v n).1 ∧ (∀ s, s < n → p s = true → (mnS p v n).1 ≤ v s) ∧ (∀ s, s < (mnS p v n).2 → p s = true → (mnS p v n).1 < v s))
  | 0, _ => Or.inl ⟨rfl, fun s hs => absurd hs (Nat.not_lt_zero s)⟩
  | n + 1, h8 => by
    have ih := mnS_spec p v n (by omega)
    unfold mnS
    by_cases hp : p n = true
    · rw [if_pos hp]
      rcases ih with ⟨h1, h2⟩ | ⟨h1, h2, h3, h4, h5⟩
      · rw [if_pos (Or.inl h1)]
        refine Or.inr ⟨by omega, hp, rfl, fun s hs hps => ?_, fun s hs hps => ?_⟩
        · by_cases e : s = n
          · rw [e]; exact Nat.le_refl _
          · rw [h2 s (by omega)] at hps; cases hps
        · rw [h2 s hs] at hps; cases hps
      · by_cases hc : v n < (mnS p v n).1
        · rw [if_pos (Or.inr hc)]
          refine Or.inr ⟨by omega, hp, rfl, fun s hs hps => ?_, fun s hs hps => ?_⟩
          · show v n ≤ v s
            by_cases e : s = n
            · rw [e]; exact Nat.le_refl _
            · have := h4 s (by omega) hps; omega
          · show v n < v s
            have hs' : s < n := hs
            have := h4 s hs' hps; omega
        · rw [if_neg (by omega)]
          refine Or.inr ⟨by omega, h2, h3, fun s hs hps => ?_, h5⟩
          by_cases e : s = n
          · rw [e]; omega
          · exact h4 s (by omega) hps
    · rw [if_neg hp]
      have hp' : p n = false := Bool.eq_false_iff.2 hp
      rcases ih with ⟨h1, h2⟩ | ⟨h1, h2, h3, h4, h5⟩
      · refine Or.inl ⟨h1, fun s hs => ?_⟩
        by_cases e : s = n
        · rw [e]; exact hp'
        · exact h2 s (by omega)
      · refine Or.inr ⟨by omega, h2, h3, fun s hs hps => ?_, h5⟩
        by_cases e : s = n
        · rw [e, hp'] at hps; cases hps
        · exact h4 s (by omega) hps
theorem mnS_congr {p q : Nat → Bool} {v w : Nat → Nat} : ∀ {n : Nat}, (∀ s, s < n → p s = q s) → (∀ s, s < n → q s = true → v s = w s) → mnS p v n = mnS q w n
  | 0, _, _ => rfl
  | n + 1, h1, h2 => by
    unfold mnS
    rw [mnS_congr (fun s hs => h1 s (by omega)) (fun s hs => h2 s (by omega)), h1 n (by omega)]
    by_cases e : q n = true
    · rw [if_pos e, if_pos e, h2 n (by omega) e]
    · rw [if_neg e, if_neg e]
theorem cnt_del {p : Nat → Bool} {s : Nat} (hp : p s = true) : ∀ {n : Nat}, s < n → cnt (fun t => p t && !decide (t = s)) n + 1 = cnt p n
  | n + 1, hs => by
    unfold cnt
    by_cases e : s = n
    · subst e
      have : cnt (fun t => p t && !decide (t = s)) s = cnt p s := by
        have key : ∀ m, m ≤ s → cnt (fun t => p t && !decide (t = s)) m = cnt p m := by
          intro m
          induction m with
          | zero => intro _; rfl
          | succ m ih =>
            intro hm
            unfold cnt
            rw [ih (by omega)]
            have : decide (m = s) = false := decide_eq_false (by omega)
            simp [this]
        exact key s (Nat.le_refl s)
      rw [this]; simp [hp]
    · have ih := cnt_del hp (n := n) (by omega)
      have : decide (n = s) = false := decide_eq_false (fun h => e h.symm)
      simp only [this, Bool.not_false, Bool.and_true]
      omega
/-! the table of what is left: its value at a set is made of those at greater sets -/
def tbl (val : Nat → (Nat → Nat) → Nat) : Nat → Nat → Nat
  | 0 => fun _ => 0
  | j + 1 => up (tbl val j) (256 - (j + 1)) (val (256 - (j + 1)) (tbl val j))
theorem tbl_stay (val : Nat → (Nat → Nat) → Nat) : ∀ (j i d : Nat), j ≤ i → i ≤ 256 → 256 - j ≤ d → d < 256 → tbl val i d = tbl val j d
  | j, 0, d, h1, _, _, _ => by rw [show j = 0 by omega]
  | j, i + 1, d, h1, h2, h3, h4 => by
    by_cases e : j = i + 1
    · rw [e]
    · have : tbl val (i + 1) d = tbl val i d := up_n (by omega)
      rw [this]; exact tbl_stay val j i d (by omega) (by omega) h3 h4
theorem tbl_rec (val : Nat → (Nat → Nat) → Nat) (hv : ∀ d T T', d < 256 → (∀ e, d < e → e < 256 → T e = T' e) → val d T = val d T') (d : Nat) (hd : d < 256) : tbl val 256 d = val d (tbl val 256) := by
  rw [tbl_stay val (256 - d) 256 d (by omega) (by omega) (by omega) hd]
  obtain ⟨j, hj⟩ : ∃ j, 256 - d = j + 1 := ⟨255 - d, by omega⟩
  rw [hj]
  have e : tbl val (j + 1) d = val d (tbl val j) := by
    show up (tbl val j) (256 - (j + 1)) (val (256 - (j + 1)) (tbl val j)) d = _
    rw [show 256 - (j + 1) = d by omega, up_e]
  rw [e]
  exact hv d _ _ hd (fun e h1 h2 => (tbl_stay val j 256 e (by omega) (by omega) (by omega) h2).symm)
/-! the cost -/
def lft (all d s : Nat) : Bool := all.testBit s && !d.testBit s
def gsm (F : Nat → Nat) (d : Nat) : Nat → Nat
  | 0 => 0
  | n + 1 => gsm F d n + (if d.testBit n = true then F (25 + 6 * n + 2) else 0)
def cstF (F : Nat → Nat) (d s : Nat) : Nat := feeF F s * ((gsm F d (F 0) + F (25 + 6 * s + 2) + F 6 - 1) / F 6)
def ytV (F : Nat → Nat) (all : Nat) (d : Nat) (T : Nat → Nat) : Nat := (mnS (lft all d) (fun s => cstF F d s + T (d ||| 2 ^ s)) 8).1
def ytF (F : Nat → Nat) (all : Nat) : Nat → Nat := tbl (ytV F all) 256
theorem or_gt {d s : Nat} (h : d.testBit s = false) : d < d ||| 2 ^ s := by
  have h1 : d ≤ d ||| 2 ^ s := Nat.left_le_or
  rcases Nat.lt_or_eq_of_le h1 with h2 | h2
  · exact h2
  · have : (d ||| 2 ^ s).testBit s = true := by rw [Nat.testBit_or, Nat.testBit_two_pow_self, Bool.or_true]
    rw [← h2, h] at this; cases this
theorem or_lt8 {d s : Nat} (hd : d < 256) (hs : s < 8) : d ||| 2 ^ s < 256 := Nat.or_lt_two_pow (n := 8) hd (Nat.pow_lt_pow_right (by decide) hs)
theorem lft_f {all d s : Nat} (h : lft all d s = true) : all.testBit s = true ∧ d.testBit s = false := by
  unfold lft at h
  cases h1 : all.testBit s <;> cases h2 : d.testBit s <;> simp_all
theorem yt_rec (F : Nat → Nat) (all d : Nat) (hd : d < 256) : ytF F all d = (mnS (lft all d) (fun s => cstF F d s + ytF F all (d ||| 2 ^ s)) 8).1 := by
  refine tbl_rec (ytV F all) (fun d T T' hd' h => ?_) d hd
  unfold ytV
  rw [mnS_congr (q := lft all d) (w := fun s => cstF F d s + T' (d ||| 2 ^ s)) (fun s _ => rfl) (fun s hs hp => ?_)]
  show cstF F d s + T (d ||| 2 ^ s) = cstF F d s + T' (d ||| 2 ^ s)
  rw [h _ (or_gt (lft_f hp).2) (or_lt8 hd' hs)]
theorem lft_or {all d s : Nat} : lft all (d ||| 2 ^ s) = fun t => lft all d t && !decide (t = s) := by
  funext t; unfold lft
  rw [Nat.testBit_or, Nat.testBit_two_pow]
  by_cases e : t = s
  · simp [e]
  · have : decide (s = t) = false := decide_eq_false (fun h => e h.symm)
    simp [e, this]
/-- what is in the set of all ships there are -/
def Sub (d all : Nat) : Prop := d &&& all = d
theorem Sub.bit {d all s : Nat} (h : Sub d all) (hd : d.testBit s = true) : all.testBit s = true := by
  unfold Sub at h
  have := congrArg (fun x => x.testBit s) h
  simp only [Nat.testBit_and, hd, Bool.true_and] at this
  exact this
theorem Sub.le {d all : Nat} (h : Sub d all) : d ≤ all := by rw [← h]; exact Nat.and_le_right
theorem Sub.or {d all s : Nat} (h : Sub d all) (hs : all.testBit s = true) : Sub (d ||| 2 ^ s) all := by
  unfold Sub
  apply Nat.eq_of_testBit_eq
  intro i
  rw [Nat.testBit_and, Nat.testBit_or, Nat.testBit_two_pow]
  by_cases e : s = i
  · subst e; simp [hs]
  · cases hd : d.testBit i
    · simp [e]
    · simp [h.bit hd]
theorem gsm_le {F : Nat → Nat} (hw : WF F) (d : Nat) : ∀ n, n ≤ F 0 → gsm F d n ≤ 99 * n
  | 0, _ => Nat.le_refl _
  | n + 1, h => by
    have h1 := gsm_le hw d n (by omega)
    have h2 := hw.2.2.1 n (by omega)
    unfold ShOk at h2
    unfold gsm; split <;> omega
theorem fee_le {F : Nat → Nat} (hw : WF F) (hl : LawOk F) {s : Nat} (hs : s < F 0) : feeF F s ≤ 516 := by
  have h2 := hw.2.2.1 s hs
  have := smf_le (kd := 2) (s := s) hl
  unfold ShOk at h2
  unfold feeF; omega
theorem cst_le {F : Nat → Nat} (hw : WF F) (hl : LawOk F) {d s : Nat} (hs : s < F 0) (h6 : 0 < F 6) : cstF F d s ≤ 516 * 900 := by
  have h8 : F 0 ≤ 8 := hw.1.1
  have h9 : F 6 ≤ 9 := hw.1.2.2.2.2.2.2.1
  have h2 := hw.2.2.1 s hs
  have hg := gsm_le hw d (F 0) (Nat.le_refl _)
  unfold ShOk at h2
  refine Nat.mul_le_mul (fee_le hw hl hs) ?_
  exact Nat.le_trans (Nat.div_le_self _ _) (by omega)
theorem cnt_le8 (p : Nat → Bool) : cnt p 8 ≤ 8 := cnt_le p 8
/-- the sets of ships that are there -/
def InS (F : Nat → Nat) (all : Nat) : Prop := all < 2 ^ F 0
theorem InS.bit {F : Nat → Nat} {all s : Nat} (h : InS F all) (hs : all.testBit s = true) : s < F 0 := by
  rcases Nat.lt_or_ge s (F 0) with h1 | h1
  · exact h1
  · have : all.testBit s = false := Nat.testBit_lt_two_pow (Nat.lt_of_lt_of_le h (Nat.pow_le_pow_right (n := 2) (by decide) h1))
    rw [this] at hs; cases hs
theorem InS.lt {F : Nat → Nat} {all : Nat} (h : InS F all) (h8 : F 0 ≤ 8) : all < 256 := Nat.lt_of_lt_of_le h (Nat.pow_le_pow_right (n := 2) (by decide) h8)
theorem yt_le {F : Nat → Nat} (hw : WF F) (hl : LawOk F) (h6 : 0 < F 6) {all : Nat} (ha : InS F all) : ∀ (n d : Nat), d < 256 → cnt (lft all d) 8 ≤ n → ytF F all d ≤ 464400 * n := by
  intro n
  induction n with
  | zero =>
    intro d hd hc
    rw [yt_rec F all d hd]
    rcases mnS_spec (lft all d) (fun s => cstF F d s + ytF F all (d ||| 2 ^ s)) 8 (by omega) with ⟨h1, h2⟩ | ⟨h1, h2, h3, h4, h5⟩
    · have key : ∀ n, n ≤ 8 → mnS (lft all d) (fun s => cstF F d s + ytF F all (d ||| 2 ^ s)) n = (0, 4294967295) := by
        intro n
        induction n with
        | zero => intro _; rfl
        | succ n ih => intro hn; unfold mnS; rw [if_neg (by rw [h2 n (by omega)]; decide)]; exact ih (by omega)
      rw [key 8 (by omega)]; omega
    · have hcn := cnt_del h2 (n := 8) h1
      omega
  | succ n ih =>
    intro d hd hc
    rw [yt_rec F all d hd]
    rcases mnS_spec (lft all d) (fun s => cstF F d s + ytF F all (d ||| 2 ^ s)) 8 (by omega) with ⟨h1, h2⟩ | ⟨h1, h2, h3, h4, h5⟩
    · have key : ∀ n, n ≤ 8 → mnS (lft all d) (fun s => cstF F d s + ytF F all (d ||| 2 ^ s)) n = (0, 4294967295) := by
        intro n
        induction n with
        | zero => intro _; rfl
        | succ n ih => intro hn; unfold mnS; rw [if_neg (by rw [h2 n (by omega)]; decide)]; exact ih (by omega)
      rw [key 8 (by omega)]; exact Nat.zero_le _
    · generalize (mnS (lft all d) (fun s => cstF F d s + ytF F all (d ||| 2 ^ s)) 8).2 = s at h1 h2 h3 h4 h5
      rw [← h3]
      have hb := lft_f h2
      have hs := ha.bit hb.1
      have hcn := cnt_del h2 (n := 8) h1
      rw [← lft_or] at hcn
      have ih' := ih (d ||| 2 ^ s) (or_lt8 hd h1) (by omega)
      have hcs := cst_le (d := d) hw hl hs h6
      show cstF F d s + ytF F all (d ||| 2 ^ s) ≤ 464400 * (n + 1)
      omega
theorem yt_B {F : Nat → Nat} (hw : WF F) (hl : LawOk F) (h6 : 0 < F 6) {all : Nat} (ha : InS F all) {d : Nat} (hd : d < 256) : ytF F all d ≤ 4000000 := by
  have := yt_le hw hl h6 ha 8 d hd (cnt_le8 (lft all d))
  omega
/-! the cost: the class -/
theorem c_findFees {N : Nat} (hN : 1099511627776 ≤ N) {Λ : Lay} {ad : Nat → Nat} {σ : Nat} {μ : Mem} {F : Nat → Nat} (hS : LyS Λ ad σ) (hC : CS ad μ σ F)  {r : Nat} (hQ : LyQ Λ ad) (hL : LyL Λ ad r) (hj : Inj ad) (hw : WF F) (hl : LawOk F) (hd : σ + 8 < r) (hd2 : r + 5 < 166) (hc : CL ad μ r F) : ∃ μ', m_X6_findFees N Λ μ (ad 175) (ad σ) (ad r) = some μ' ∧ (∀ s, s < 8 → μ'.1 (ad 178) s = n3 (if s < F 0 then feeF F s else 0)) ∧ Fr ad (fun i => i = 178 ∨ i = r + 5) μ μ' := by
  have hb := hw.1; unfold WB at hb
  unfold m_X6_findFees lp_X6_findFees_2
  refine cw_iv (P := fun i x => ∃ μ1 : Mem, x = (n3 i, μ1) ∧ (∀ s, s < i → μ1.1 (ad 178) s = n3 (if s < F 0 then feeF F s else 0)) ∧ Fr ad (fun i => i = 178 ∨ i = r + 5) μ μ1) (Q := fun X => ∃ μ', X = some μ' ∧ (∀ s, s < 8 → μ'.1 (ad 178) s = n3 (if s < F 0 then feeF F s else 0)) ∧ Fr ad (fun i => i = 178 ∨ i = r + 5) μ μ') 8 ⟨μ, rfl, fun s hs => absurd hs (Nat.not_lt_zero s), Fr.refl μ⟩ (fun i hi x hx => ?_) (fun x hx => ?_) (show 8 < N by omega)
  · obtain ⟨μ1, rfl, hr, hf⟩ := hx
    left
    have hC1 := hC.fr hf (fun i a b => by omega)
    have q8 : μ1.1 (ad σ) 8 = n3 (F 0) := hC1.2.2.2.2.2.2.2.2.1
    by_cases hif : i < F 0
    · obtain ⟨μ2, e2, f2⟩ := c_feeOf hN hS hC1 hL hj hw hl (by omega) (hc.fr hf (fun i a b => by omega)) i hif
      refine ⟨_, ⟨mset μ2 (ad 178) i (n3 (feeF F i)), rfl, fun s hs => ?_, (hf.trans (f2.mono (fun i hi => Or.inr hi))).set hj (Or.inl rfl)⟩, fun k => ?_⟩
      · by_cases e : s = i
        · subst e; rw [mse, if_pos hif]
        · rw [msn e, (f2 178 (by omega)).1]; exact hr s (by omega)
      · simp (disch := omega) only [jn_X6_findFees_31, bd_X6_findFees_2, ↓ob (hQ.1), ↓ob (hQ.2.1), ↓ob (hQ.2.2.1), ↓ob (hQ.2.2.2.1), hQ.2.2.2.2.1, hQ.2.2.2.2.2.1, hQ.2.2.2.2.2.2.1, hQ.2.2.2.2.2.2.2.1, ↓ob (hQ.2.2.2.2.2.2.2.2.1), ↓ob (hQ.2.2.2.2.2.2.2.2.2.1), ↓ob (hQ.2.2.2.2.2.2.2.2.2.2.1), hQ.2.2.2.2.2.2.2.2.2.2.2.1, hQ.2.2.2.2.2.2.2.2.2.2.2.2.1, hQ.2.2.2.2.2.2.2.2.2.2.2.2.2.1, ↓ob (hQ.2.2.2.2.2.2.2.2.2.2.2.2.2.2.1), ↓ob (hQ.2.2.2.2.2.2.2.2.2.2.2.2.2.2.2.1), ↓ob (hQ.2.2.2.2.2.2.2.2.2.2.2.2.2.2.2.2.1), ↓ob (hQ.2.2.2.2.2.2.2.2.2.2.2.2.2.2.2.2.2.1), ↓ob (hQ.2.2.2.2.2.2.2.2.2.2.2.2.2.2.2.2.2.2.1), hQ.2.2.2.2.2.2.2.2.2.2.2.2.2.2.2.2.2.2.2.1, hQ.2.2.2.2.2.2.2.2.2.2.2.2.2.2.2.2.2.2.2.2.1, hQ.2.2.2.2.2.2.2.2.2.2.2.2.2.2.2.2.2.2.2.2.2.1, hQ.2.2.2.2.2.2.2.2.2.2.2.2.2.2.2.2.2.2.2.2.2.2.1, hQ.2.2.2.2.2.2.2.2.2.2.2.2.2.2.2.2.2.2.2.2.2.2.2, q8, e2, ↓lt_e, ↓gd_e, ↓Option.bind_some, ↓reduceIte, if_true, if_false, if_pT, if_nF, decide_true, Bool.not_true, Bool.not_false, not_true_eq_false, not_false_eq_true, Bool.false_eq_true, Bool.true_eq_false, eq_self, n3_lit, n3_add, n3_mul, n3_sub, n3_tn, n3_le_t, n3_le_f, n3_lt_t, n3_lt_f, n3_eq_f, n3_eq_t, n3_inb, n3_rem, n3_div, n3_zb, bb_0, bb_1, zb_bb, bb_T, bb_F, n3_dec, n3_m1, n3_eqm, n3_eqmt, n3_ltm, n3_mlt, n3_lem, n3_mle, n3_neg_lt, n3_nlt_neg, n3_nle_neg, n3_neg_le]
    · refine ⟨_, ⟨mset μ1 (ad 178) i (n3 0), rfl, fun s hs => ?_, hf.set hj (Or.inl rfl)⟩, fun k => ?_⟩
      · by_cases e : s = i
        · subst e; rw [mse, if_neg hif]
        · rw [msn e]; exact hr s (by omega)
      · simp (disch := omega) only [jn_X6_findFees_31, bd_X6_findFees_2, ↓ob (hQ.1), ↓ob (hQ.2.1), ↓ob (hQ.2.2.1), ↓ob (hQ.2.2.2.1), hQ.2.2.2.2.1, hQ.2.2.2.2.2.1, hQ.2.2.2.2.2.2.1, hQ.2.2.2.2.2.2.2.1, ↓ob (hQ.2.2.2.2.2.2.2.2.1), ↓ob (hQ.2.2.2.2.2.2.2.2.2.1), ↓ob (hQ.2.2.2.2.2.2.2.2.2.2.1), hQ.2.2.2.2.2.2.2.2.2.2.2.1, hQ.2.2.2.2.2.2.2.2.2.2.2.2.1, hQ.2.2.2.2.2.2.2.2.2.2.2.2.2.1, ↓ob (hQ.2.2.2.2.2.2.2.2.2.2.2.2.2.2.1), ↓ob (hQ.2.2.2.2.2.2.2.2.2.2.2.2.2.2.2.1), ↓ob (hQ.2.2.2.2.2.2.2.2.2.2.2.2.2.2.2.2.1), ↓ob (hQ.2.2.2.2.2.2.2.2.2.2.2.2.2.2.2.2.2.1), ↓ob (hQ.2.2.2.2.2.2.2.2.2.2.2.2.2.2.2.2.2.2.1), hQ.2.2.2.2.2.2.2.2.2.2.2.2.2.2.2.2.2.2.2.1, hQ.2.2.2.2.2.2.2.2.2.2.2.2.2.2.2.2.2.2.2.2.1, hQ.2.2.2.2.2.2.2.2.2.2.2.2.2.2.2.2.2.2.2.2.2.1, hQ.2.2.2.2.2.2.2.2.2.2.2.2.2.2.2.2.2.2.2.2.2.2.1, hQ.2.2.2.2.2.2.2.2.2.2.2.2.2.2.2.2.2.2.2.2.2.2.2, q8, ↓lt_e, ↓gd_e, ↓Option.bind_some, ↓reduceIte, if_true, if_false, if_pT, if_nF, decide_true, Bool.not_true, Bool.not_false, not_true_eq_false, not_false_eq_true, Bool.false_eq_true, Bool.true_eq_false, eq_self, n3_lit, n3_add, n3_mul, n3_sub, n3_tn, n3_le_t, n3_le_f, n3_lt_t, n3_lt_f, n3_eq_f, n3_eq_t, n3_inb, n3_rem, n3_div, n3_zb, bb_0, bb_1, zb_bb, bb_T, bb_F, n3_dec, n3_m1, n3_eqm, n3_eqmt, n3_ltm, n3_mlt, n3_lem, n3_mle, n3_neg_lt, n3_nlt_neg, n3_nle_neg, n3_neg_le]
  · obtain ⟨μ1, rfl, hr, hf⟩ := hx
    exact ⟨_, ⟨μ1, rfl, hr, hf⟩, fun k => by simp (disch := omega) only [jn_X6_findFees_31, bd_X6_findFees_2, ↓lt_e, ↓gd_e, ↓Option.bind_some, ↓reduceIte, if_true, if_false, if_pT, if_nF, decide_true, Bool.not_true, Bool.not_false, not_true_eq_false, not_false_eq_true, Bool.false_eq_true, Bool.true_eq_false, eq_self, n3_lit, n3_add, n3_mul, n3_sub, n3_tn, n3_le_t, n3_le_f, n3_lt_t, n3_lt_f, n3_eq_f, n3_eq_t, n3_inb, n3_rem, n3_div, n3_zb, bb_0, bb_1, zb_bb, bb_T, bb_F, n3_dec, n3_m1, n3_eqm, n3_eqmt, n3_ltm, n3_mlt, n3_lem, n3_mle, n3_neg_lt, n3_nlt_neg, n3_nle_neg, n3_neg_le]⟩
theorem n3_0mul (x : Int32) : n3 0 * x = n3 0 := by
  show (0 : Int32) * x = 0
  exact Int32.zero_mul
theorem n3_1mul (x : Int32) : n3 1 * x = x := by
  show (1 : Int32) * x = x
  exact Int32.one_mul x
theorem n3_lft {all d s : Nat} (ha : all < 256) (hs : s < 8) : ishr (n3 all &&& (n3 d ^^^ -n3 1)) (n3 s) &&& n3 1 = n3 (bb (lft all d s = true)) := by
  have hc := clm_le all d
  rw [n3_clm, n3_bit (by omega) (by omega)]
  have e : (clm all d).testBit s = lft all d s := by
    unfold clm lft
    rw [Nat.testBit_and, Nat.testBit_xor, show (4294967295 : Nat) = 2 ^ 32 - 1 from rfl, Nat.testBit_two_pow_sub_one]
    have : decide (s < 32) = true := decide_eq_true (by omega)
    rw [this, Bool.xor_true]
  rw [e]
theorem n3_sub0 {d all : Nat} (hd : d < 4294967296) : (n3 d &&& (n3 all ^^^ -n3 1) = n3 0) = Sub d all := by
  have hc := clm_le d all
  rw [n3_clm, n3_eq_c (by omega) (by omega)]
  apply propext
  rw [clm_0 hd]
  unfold Sub
  rw [Nat.and_comm]
theorem gsm_ge {F : Nat → Nat} {d : Nat} (hd : d < 2 ^ F 0) : ∀ n, F 0 ≤ n → gsm F d n = gsm F d (F 0)
  | 0, h => by rw [show F 0 = 0 by omega]
  | n + 1, h => by
    by_cases e : F 0 = n + 1
    · rw [e]
    · have hb : d.testBit n = false := Nat.testBit_lt_two_pow (Nat.lt_of_lt_of_le hd (Nat.pow_le_pow_right (n := 2) (by decide) (by omega)))
      show gsm F d n + (if d.testBit n = true then F (25 + 6 * n + 2) else 0) = gsm F d (F 0)
      rw [hb, gsm_ge hd n (by omega)]; rfl
theorem c_orderRest {N : Nat} (hN : 1099511627776 ≤ N) {Λ : Lay} {ad : Nat → Nat} {σ : Nat} {μ : Mem} {F : Nat → Nat} (hS : LyS Λ ad σ) (hC : CS ad μ σ F)  (hQ : LyQ Λ ad) (hj : Inj ad) (hw : WF F) (hl : LawOk F) (h6 : 0 < F 6) (hσ : σ + 8 < 166) {all d : Nat} (ha : InS F all) (hsub : Sub d all) (hda : d < all) (hfee : ∀ s, s < 8 → μ.1 (ad 178) s = n3 (if s < F 0 then feeF F s else 0)) (hT : ∀ e, d < e → e < 256 → Sub e all → μ.1 (ad 179) e = n3 (ytF F all e)) : ∃ μ', m_X6_orderRest N Λ μ (ad 175) (n3 d) (n3 all) (ad σ) = some μ' ∧ (∀ e, d ≤ e → e < 256 → Sub e all → μ'.1 (ad 179) e = n3 (ytF F all e)) ∧ μ'.1 (ad 175) 1 = n3 (mnS (lft all d) (fun s => cstF F d s + ytF F all (d ||| 2 ^ s)) 8).2 ∧ Fr ad (fun i => i = 175 ∨ i = 179) μ μ' := by
  have hb := hw.1; unfold WB at hb
  have ha8 := ha.lt hb.1
  have hdl : d < 256 := by omega
  have hdF : d < 2 ^ F 0 := Nat.lt_trans hda ha
  unfold m_X6_orderRest lp_X6_orderRest_6
  suffices hmain : ∃ μ', lp_X6_orderRest_46 N Λ (ad 175) (n3 d) (n3 all) (ad σ) (n3 (gsm F d 8)) (n3 0, mset μ (ad 175) 1 (n3 4294967295)) = some μ' ∧ (∀ e, d ≤ e → e < 256 → Sub e all → μ'.1 (ad 179) e = n3 (ytF F all e)) ∧ μ'.1 (ad 175) 1 = n3 (mnS (lft all d) (fun s => cstF F d s + ytF F all (d ||| 2 ^ s)) 8).2 ∧ Fr ad (fun i => i = 175 ∨ i = 179) μ μ' by
    obtain ⟨μ', e', h1, h2, h3⟩ := hmain
    refine ⟨μ', ?_, h1, h2, h3⟩
    refine cw_it (fun i => (n3 (gsm F d i), n3 i, μ)) 8 rfl (fun i hi k => ?_) (fun k => ?_) (by omega)
    · have eg : gsm F d (i + 1) = gsm F d i + (if d.testBit i = true then F (25 + 6 * i + 2) else 0) := rfl
      rw [eg]
      by_cases hbit : d.testBit i = true
      · have hiF := InS.bit (F := F) (all := d) hdF hbit
        simp (disch := omega) only [bd_X6_orderRest_6, ↓ob (hS.1), ↓ob (hS.2.1), ↓ob (hS.2.2.1), ↓ob (hS.2.2.2.1), ↓ob (hS.2.2.2.2.1), ↓ob (hS.2.2.2.2.2.1), ↓ob (hS.2.2.2.2.2.2.1), ↓ob (hS.2.2.2.2.2.2.2.1), hS.2.2.2.2.2.2.2.2.1, hS.2.2.2.2.2.2.2.2.2.1, hS.2.2.2.2.2.2.2.2.2.2.1, hS.2.2.2.2.2.2.2.2.2.2.2.1, hS.2.2.2.2.2.2.2.2.2.2.2.2.1, hS.2.2.2.2.2.2.2.2.2.2.2.2.2.1, hS.2.2.2.2.2.2.2.2.2.2.2.2.2.2, hC.1, hC.2.1, hC.2.2.1, hC.2.2.2.1, hC.2.2.2.2.1, hC.2.2.2.2.2.1, hC.2.2.2.2.2.2.1, hC.2.2.2.2.2.2.2.1, hC.2.2.2.2.2.2.2.2.1, hC.2.2.2.2.2.2.2.2.2.1, hC.2.2.2.2.2.2.2.2.2.2.1, hC.2.2.2.2.2.2.2.2.2.2.2.1, hC.2.2.2.2.2.2.2.2.2.2.2.2.1, hC.2.2.2.2.2.2.2.2.2.2.2.2.2.1, hC.2.2.2.2.2.2.2.2.2.2.2.2.2.2.1, hC.2.2.2.2.2.2.2.2.2.2.2.2.2.2.2.1, hC.2.2.2.2.2.2.2.2.2.2.2.2.2.2.2.2.1, n3_bit, hbit, ↓lt_e, ↓gd_e, ↓Option.bind_some, ↓reduceIte, if_true, if_false, if_pT, if_nF, decide_true, Bool.not_true, Bool.not_false, not_true_eq_false, not_false_eq_true, Bool.false_eq_true, Bool.true_eq_false, eq_self, n3_lit, n3_add, n3_mul, n3_sub, n3_tn, n3_le_t, n3_le_f, n3_lt_t, n3_lt_f, n3_eq_f, n3_eq_t, n3_inb, n3_rem, n3_div, n3_zb, bb_0, bb_1, zb_bb, bb_T, bb_F, n3_dec, n3_m1, n3_eqm, n3_eqmt, n3_ltm, n3_mlt, n3_lem, n3_mle, n3_neg_lt, n3_nlt_neg, n3_nle_neg, n3_neg_le, Nat.one_mul]
      · simp (disch := omega) only [bd_X6_orderRest_6, ↓ob (hS.1), ↓ob (hS.2.1), ↓ob (hS.2.2.1), ↓ob (hS.2.2.2.1), ↓ob (hS.2.2.2.2.1), ↓ob (hS.2.2.2.2.2.1), ↓ob (hS.2.2.2.2.2.2.1), ↓ob (hS.2.2.2.2.2.2.2.1), hS.2.2.2.2.2.2.2.2.1, hS.2.2.2.2.2.2.2.2.2.1, hS.2.2.2.2.2.2.2.2.2.2.1, hS.2.2.2.2.2.2.2.2.2.2.2.1, hS.2.2.2.2.2.2.2.2.2.2.2.2.1, hS.2.2.2.2.2.2.2.2.2.2.2.2.2.1, hS.2.2.2.2.2.2.2.2.2.2.2.2.2.2, n3_bit, hbit, ↓lt_e, ↓gd_e, ↓Option.bind_some, ↓reduceIte, if_true, if_false, if_pT, if_nF, decide_true, Bool.not_true, Bool.not_false, not_true_eq_false, not_false_eq_true, Bool.false_eq_true, Bool.true_eq_false, eq_self, n3_lit, n3_add, n3_mul, n3_sub, n3_tn, n3_le_t, n3_le_f, n3_lt_t, n3_lt_f, n3_eq_f, n3_eq_t, n3_inb, n3_rem, n3_div, n3_zb, bb_0, bb_1, zb_bb, bb_T, bb_F, n3_dec, n3_m1, n3_eqm, n3_eqmt, n3_ltm, n3_mlt, n3_lem, n3_mle, n3_neg_lt, n3_nlt_neg, n3_nle_neg, n3_neg_le, n3_0mul]
    · rw [← e']
      simp (disch := omega) only [bd_X6_orderRest_6, n3_neg1, ↓ob (hS.1), ↓ob (hS.2.1), ↓ob (hS.2.2.1), ↓ob (hS.2.2.2.1), ↓ob (hS.2.2.2.2.1), ↓ob (hS.2.2.2.2.2.1), ↓ob (hS.2.2.2.2.2.2.1), ↓ob (hS.2.2.2.2.2.2.2.1), hS.2.2.2.2.2.2.2.2.1, hS.2.2.2.2.2.2.2.2.2.1, hS.2.2.2.2.2.2.2.2.2.2.1, hS.2.2.2.2.2.2.2.2.2.2.2.1, hS.2.2.2.2.2.2.2.2.2.2.2.2.1, hS.2.2.2.2.2.2.2.2.2.2.2.2.2.1, hS.2.2.2.2.2.2.2.2.2.2.2.2.2.2, ↓lt_e, ↓gd_e, ↓Option.bind_some, ↓reduceIte, if_true, if_false, if_pT, if_nF, decide_true, Bool.not_true, Bool.not_false, not_true_eq_false, not_false_eq_true, Bool.false_eq_true, Bool.true_eq_false, eq_self, n3_lit, n3_add, n3_mul, n3_sub, n3_tn, n3_le_t, n3_le_f, n3_lt_t, n3_lt_f, n3_eq_f, n3_eq_t, n3_inb, n3_rem, n3_div, n3_zb, bb_0, bb_1, zb_bb, bb_T, bb_F, n3_dec, n3_m1, n3_eqm, n3_eqmt, n3_ltm, n3_mlt, n3_lem, n3_mle, n3_neg_lt, n3_nlt_neg, n3_nle_neg, n3_neg_le]
  unfold lp_X6_orderRest_46
  have eg8 := gsm_ge hdF 8 hb.1
  have hglb := gsm_le hw d (F 0) (Nat.le_refl _)
  refine cw_iv (P := fun i x => ∃ μ1 : Mem, x = (n3 i, μ1) ∧ (∀ e, d < e → e < 256 → Sub e all → μ1.1 (ad 179) e = n3 (ytF F all e)) ∧ μ1.1 (ad 175) 1 = n3 (mnS (lft all d) (fun s => cstF F d s + ytF F all (d ||| 2 ^ s)) i).2 ∧ ((mnS (lft all d) (fun s => cstF F d s + ytF F all (d ||| 2 ^ s)) i).2 ≠ 4294967295 → μ1.1 (ad 179) d = n3 (mnS (lft all d) (fun s => cstF F d s + ytF F all (d ||| 2 ^ s)) i).1) ∧ Fr ad (fun i => i = 175 ∨ i = 179) μ μ1) (Q := fun X => ∃ μ', X = some μ' ∧ (∀ e, d ≤ e → e < 256 → Sub e all → μ'.1 (ad 179) e = n3 (ytF F all e)) ∧ μ'.1 (ad 175) 1 = n3 (mnS (lft all d) (fun s => cstF F d s + ytF F all (d ||| 2 ^ s)) 8).2 ∧ Fr ad (fun i => i = 175 ∨ i = 179) μ μ') 8 ⟨mset μ (ad 175) 1 (n3 4294967295), rfl, fun e h1 h2 h3 => by rw [mso hj (by omega)]; exact hT e h1 h2 h3, mse _ _ _ _, fun hne => absurd rfl hne, (Fr.refl μ).set hj (Or.inl rfl)⟩ (fun i hi x hx => ?_) (fun x hx => ?_) (show 8 < N by omega)
  · obtain ⟨μ1, rfl, hT1, hch, hbs, hf⟩ := hx
    left
    have hC1 := hC.fr hf (fun i a b => by omega)
    have es : mnS (lft all d) (fun s => cstF F d s + ytF F all (d ||| 2 ^ s)) (i + 1) = if lft all d i = true then (if (mnS (lft all d) (fun s => cstF F d s + ytF F all (d ||| 2 ^ s)) i).2 = 4294967295 ∨ cstF F d i + ytF F all (d ||| 2 ^ i) < (mnS (lft all d) (fun s => cstF F d s + ytF F all (d ||| 2 ^ s)) i).1 then (cstF F d i + ytF F all (d ||| 2 ^ i), i) else mnS (lft all d) (fun s => cstF F d s + ytF F all (d ||| 2 ^ s)) i) else mnS (lft all d) (fun s => cstF F d s + ytF F all (d ||| 2 ^ s)) i := rfl
    rw [es]
    have hsp := mnS_spec (lft all d) (fun s => cstF F d s + ytF F all (d ||| 2 ^ s)) i (by omega)
    by_cases hp : lft all d i = true
    · rw [if_pos hp]
      have hb2 := lft_f hp
      have hiF := ha.bit hb2.1
      have hso := hw.2.2.1 i hiF
      have hor := or_lt8 hdl hi
      have hgt := or_gt hb2.2
      have hY := hT1 (d ||| 2 ^ i) hgt hor (hsub.or hb2.1)
      have hfe : μ1.1 (ad 178) i = n3 (feeF F i) := by rw [(hf 178 (by omega)).1, hfee i hi, if_pos hiF]
      have hy := yt_B hw hl h6 ha hor
      have hcl := cst_le (d := d) hw hl hiF h6
      have hcd : feeF F i * ((gsm F d (F 0) + F (25 + 6 * i + 2) + F 6 - 1) / F 6) = cstF F d i := rfl
      have q3 : μ1.1 (ad σ) 3 = n3 (F 6) := hC1.2.2.2.1
      have q4 : μ1.1 (ad (σ + 4)) i = n3 (F (25 + 6 * i + 2)) := hC1.2.2.2.2.2.2.2.2.2.2.2.2.2.2.1 i hiF
      unfold ShOk at hso
      have ru : m_X6_roundedUp N Λ μ1 (n3 (gsm F d 8 + F (25 + 6 * i + 2))) (n3 (F 6)) = some (n3 ((gsm F d (F 0) + F (25 + 6 * i + 2) + F 6 - 1) / F 6)) := by
        rw [eg8]
        simp (disch := omega) only [jn_X6_roundedUp_15, m_X6_roundedUp, ↓lt_e, ↓gd_e, ↓Option.bind_some, ↓reduceIte, if_true, if_false, if_pT, if_nF, decide_true, Bool.not_true, Bool.not_false, not_true_eq_false, not_false_eq_true, Bool.false_eq_true, Bool.true_eq_false, eq_self, n3_lit, n3_add, n3_mul, n3_sub, n3_tn, n3_le_t, n3_le_f, n3_lt_t, n3_lt_f, n3_eq_f, n3_eq_t, n3_inb, n3_rem, n3_div, n3_zb, bb_0, bb_1, zb_bb, bb_T, bb_F, n3_dec, n3_m1, n3_eqm, n3_eqmt, n3_ltm, n3_mlt, n3_lem, n3_mle, n3_neg_lt, n3_nlt_neg, n3_nle_neg, n3_neg_le]
      generalize mnS (lft all d) (fun s => cstF F d s + ytF F all (d ||| 2 ^ s)) i = mm at hch hbs hsp ⊢
      by_cases hc : mm.2 = 4294967295 ∨ cstF F d i + ytF F all (d ||| 2 ^ i) < mm.1
      · rw [if_pos hc]
        refine ⟨_, ⟨mset (mset μ1 (ad 179) d (n3 (cstF F d i + ytF F all (d ||| 2 ^ i)))) (ad 175) 1 (n3 i), rfl, fun e h1 h2 h3 => ?_, mse _ _ _ _, fun _ => ?_, (hf.set hj (Or.inr rfl)).set hj (Or.inl rfl)⟩, fun k => ?_⟩
        · rw [mso hj (by omega), msn (by omega)]; exact hT1 e h1 h2 h3
        · rw [mso hj (by omega), mse]
        · by_cases hc1 : mm.2 = 4294967295
          · rw [hc1] at hch
            simp (disch := omega) only [bd_X6_orderRest_46, jn_X6_orderRest_129, jn_X6_orderRest_143, ↓ob (hQ.1), ↓ob (hQ.2.1), ↓ob (hQ.2.2.1), ↓ob (hQ.2.2.2.1), hQ.2.2.2.2.1, hQ.2.2.2.2.2.1, hQ.2.2.2.2.2.2.1, hQ.2.2.2.2.2.2.2.1, ↓ob (hQ.2.2.2.2.2.2.2.2.1), ↓ob (hQ.2.2.2.2.2.2.2.2.2.1), ↓ob (hQ.2.2.2.2.2.2.2.2.2.2.1), hQ.2.2.2.2.2.2.2.2.2.2.2.1, hQ.2.2.2.2.2.2.2.2.2.2.2.2.1, hQ.2.2.2.2.2.2.2.2.2.2.2.2.2.1, ↓ob (hQ.2.2.2.2.2.2.2.2.2.2.2.2.2.2.1), ↓ob (hQ.2.2.2.2.2.2.2.2.2.2.2.2.2.2.2.1), ↓ob (hQ.2.2.2.2.2.2.2.2.2.2.2.2.2.2.2.2.1), ↓ob (hQ.2.2.2.2.2.2.2.2.2.2.2.2.2.2.2.2.2.1), ↓ob (hQ.2.2.2.2.2.2.2.2.2.2.2.2.2.2.2.2.2.2.1), hQ.2.2.2.2.2.2.2.2.2.2.2.2.2.2.2.2.2.2.2.1, hQ.2.2.2.2.2.2.2.2.2.2.2.2.2.2.2.2.2.2.2.2.1, hQ.2.2.2.2.2.2.2.2.2.2.2.2.2.2.2.2.2.2.2.2.2.1, hQ.2.2.2.2.2.2.2.2.2.2.2.2.2.2.2.2.2.2.2.2.2.2.1, hQ.2.2.2.2.2.2.2.2.2.2.2.2.2.2.2.2.2.2.2.2.2.2.2, ↓ob (hS.1), ↓ob (hS.2.1), ↓ob (hS.2.2.1), ↓ob (hS.2.2.2.1), ↓ob (hS.2.2.2.2.1), ↓ob (hS.2.2.2.2.2.1), ↓ob (hS.2.2.2.2.2.2.1), ↓ob (hS.2.2.2.2.2.2.2.1), hS.2.2.2.2.2.2.2.2.1, hS.2.2.2.2.2.2.2.2.2.1, hS.2.2.2.2.2.2.2.2.2.2.1, hS.2.2.2.2.2.2.2.2.2.2.2.1, hS.2.2.2.2.2.2.2.2.2.2.2.2.1, hS.2.2.2.2.2.2.2.2.2.2.2.2.2.1, hS.2.2.2.2.2.2.2.2.2.2.2.2.2.2, n3_lft, hp, q3, q4, ru, hfe, n3_shl, n3_or, Nat.one_mul, hY, hcd, hch, ↓lt_e, ↓gd_e, ↓Option.bind_some, ↓reduceIte, if_true, if_false, if_pT, if_nF, decide_true, Bool.not_true, Bool.not_false, not_true_eq_false, not_false_eq_true, Bool.false_eq_true, Bool.true_eq_false, eq_self, n3_lit, n3_add, n3_mul, n3_sub, n3_tn, n3_le_t, n3_le_f, n3_lt_t, n3_lt_f, n3_eq_f, n3_eq_t, n3_inb, n3_rem, n3_div, n3_zb, bb_0, bb_1, zb_bb, bb_T, bb_F, n3_dec, n3_m1, n3_eqm, n3_eqmt, n3_ltm, n3_mlt, n3_lem, n3_mle, n3_neg_lt, n3_nlt_neg, n3_nle_neg, n3_neg_le]
          · have hbs' := hbs hc1
            have hc2 := hc.resolve_left hc1
            have hm1 : mm.1 ≤ 10000000 := by
              rcases hsp with ⟨a1, _⟩ | ⟨a1, a2, a3, a4, a5⟩
              · exact absurd a1 hc1
              · have b2 := lft_f a2
                have bF := ha.bit b2.1
                have := cst_le (d := d) hw hl bF h6
                have := yt_B hw hl h6 ha (or_lt8 hdl (show mm.2 < 8 by omega))
                rw [← a3]
                show cstF F d mm.2 + ytF F all (d ||| 2 ^ mm.2) ≤ _
                omega
            have hm2 : mm.2 < 8 := by rcases hsp with ⟨a1, _⟩ | ⟨a1, _⟩ <;> omega
            simp (disch := omega) only [bd_X6_orderRest_46, jn_X6_orderRest_129, jn_X6_orderRest_143, ↓ob (hQ.1), ↓ob (hQ.2.1), ↓ob (hQ.2.2.1), ↓ob (hQ.2.2.2.1), hQ.2.2.2.2.1, hQ.2.2.2.2.2.1, hQ.2.2.2.2.2.2.1, hQ.2.2.2.2.2.2.2.1, ↓ob (hQ.2.2.2.2.2.2.2.2.1), ↓ob (hQ.2.2.2.2.2.2.2.2.2.1), ↓ob (hQ.2.2.2.2.2.2.2.2.2.2.1), hQ.2.2.2.2.2.2.2.2.2.2.2.1, hQ.2.2.2.2.2.2.2.2.2.2.2.2.1, hQ.2.2.2.2.2.2.2.2.2.2.2.2.2.1, ↓ob (hQ.2.2.2.2.2.2.2.2.2.2.2.2.2.2.1), ↓ob (hQ.2.2.2.2.2.2.2.2.2.2.2.2.2.2.2.1), ↓ob (hQ.2.2.2.2.2.2.2.2.2.2.2.2.2.2.2.2.1), ↓ob (hQ.2.2.2.2.2.2.2.2.2.2.2.2.2.2.2.2.2.1), ↓ob (hQ.2.2.2.2.2.2.2.2.2.2.2.2.2.2.2.2.2.2.1), hQ.2.2.2.2.2.2.2.2.2.2.2.2.2.2.2.2.2.2.2.1, hQ.2.2.2.2.2.2.2.2.2.2.2.2.2.2.2.2.2.2.2.2.1, hQ.2.2.2.2.2.2.2.2.2.2.2.2.2.2.2.2.2.2.2.2.2.1, hQ.2.2.2.2.2.2.2.2.2.2.2.2.2.2.2.2.2.2.2.2.2.2.1, hQ.2.2.2.2.2.2.2.2.2.2.2.2.2.2.2.2.2.2.2.2.2.2.2, ↓ob (hS.1), ↓ob (hS.2.1), ↓ob (hS.2.2.1), ↓ob (hS.2.2.2.1), ↓ob (hS.2.2.2.2.1), ↓ob (hS.2.2.2.2.2.1), ↓ob (hS.2.2.2.2.2.2.1), ↓ob (hS.2.2.2.2.2.2.2.1), hS.2.2.2.2.2.2.2.2.1, hS.2.2.2.2.2.2.2.2.2.1, hS.2.2.2.2.2.2.2.2.2.2.1, hS.2.2.2.2.2.2.2.2.2.2.2.1, hS.2.2.2.2.2.2.2.2.2.2.2.2.1, hS.2.2.2.2.2.2.2.2.2.2.2.2.2.1, hS.2.2.2.2.2.2.2.2.2.2.2.2.2.2, n3_lft, hp, q3, q4, ru, hfe, n3_shl, n3_or, Nat.one_mul, hY, hcd, hch, hbs', ↓lt_e, ↓gd_e, ↓Option.bind_some, ↓reduceIte, if_true, if_false, if_pT, if_nF, decide_true, Bool.not_true, Bool.not_false, not_true_eq_false, not_false_eq_true, Bool.false_eq_true, Bool.true_eq_false, eq_self, n3_lit, n3_add, n3_mul, n3_sub, n3_tn, n3_le_t, n3_le_f, n3_lt_t, n3_lt_f, n3_eq_f, n3_eq_t, n3_inb, n3_rem, n3_div, n3_zb, bb_0, bb_1, zb_bb, bb_T, bb_F, n3_dec, n3_m1, n3_eqm, n3_eqmt, n3_ltm, n3_mlt, n3_lem, n3_mle, n3_neg_lt, n3_nlt_neg, n3_nle_neg, n3_neg_le]
      · rw [if_neg hc]
        have hc1 : mm.2 ≠ 4294967295 := fun e => hc (Or.inl e)
        have hbs' := hbs hc1
        have hm1 : mm.1 ≤ 10000000 := by
          rcases hsp with ⟨a1, _⟩ | ⟨a1, a2, a3, a4, a5⟩
          · exact absurd a1 hc1
          · have b2 := lft_f a2
            have bF := ha.bit b2.1
            have := cst_le (d := d) hw hl bF h6
            have := yt_B hw hl h6 ha (or_lt8 hdl (show mm.2 < 8 by omega))
            rw [← a3]
            show cstF F d mm.2 + ytF F all (d ||| 2 ^ mm.2) ≤ _
            omega
        have hm2 : mm.2 < 8 := by rcases hsp with ⟨a1, _⟩ | ⟨a1, _⟩ <;> omega
        refine ⟨_, ⟨μ1, rfl, hT1, hch, hbs, hf⟩, fun k => ?_⟩
        simp (disch := omega) only [bd_X6_orderRest_46, jn_X6_orderRest_129, jn_X6_orderRest_143, ↓ob (hQ.1), ↓ob (hQ.2.1), ↓ob (hQ.2.2.1), ↓ob (hQ.2.2.2.1), hQ.2.2.2.2.1, hQ.2.2.2.2.2.1, hQ.2.2.2.2.2.2.1, hQ.2.2.2.2.2.2.2.1, ↓ob (hQ.2.2.2.2.2.2.2.2.1), ↓ob (hQ.2.2.2.2.2.2.2.2.2.1), ↓ob (hQ.2.2.2.2.2.2.2.2.2.2.1), hQ.2.2.2.2.2.2.2.2.2.2.2.1, hQ.2.2.2.2.2.2.2.2.2.2.2.2.1, hQ.2.2.2.2.2.2.2.2.2.2.2.2.2.1, ↓ob (hQ.2.2.2.2.2.2.2.2.2.2.2.2.2.2.1), ↓ob (hQ.2.2.2.2.2.2.2.2.2.2.2.2.2.2.2.1), ↓ob (hQ.2.2.2.2.2.2.2.2.2.2.2.2.2.2.2.2.1), ↓ob (hQ.2.2.2.2.2.2.2.2.2.2.2.2.2.2.2.2.2.1), ↓ob (hQ.2.2.2.2.2.2.2.2.2.2.2.2.2.2.2.2.2.2.1), hQ.2.2.2.2.2.2.2.2.2.2.2.2.2.2.2.2.2.2.2.1, hQ.2.2.2.2.2.2.2.2.2.2.2.2.2.2.2.2.2.2.2.2.1, hQ.2.2.2.2.2.2.2.2.2.2.2.2.2.2.2.2.2.2.2.2.2.1, hQ.2.2.2.2.2.2.2.2.2.2.2.2.2.2.2.2.2.2.2.2.2.2.1, hQ.2.2.2.2.2.2.2.2.2.2.2.2.2.2.2.2.2.2.2.2.2.2.2, ↓ob (hS.1), ↓ob (hS.2.1), ↓ob (hS.2.2.1), ↓ob (hS.2.2.2.1), ↓ob (hS.2.2.2.2.1), ↓ob (hS.2.2.2.2.2.1), ↓ob (hS.2.2.2.2.2.2.1), ↓ob (hS.2.2.2.2.2.2.2.1), hS.2.2.2.2.2.2.2.2.1, hS.2.2.2.2.2.2.2.2.2.1, hS.2.2.2.2.2.2.2.2.2.2.1, hS.2.2.2.2.2.2.2.2.2.2.2.1, hS.2.2.2.2.2.2.2.2.2.2.2.2.1, hS.2.2.2.2.2.2.2.2.2.2.2.2.2.1, hS.2.2.2.2.2.2.2.2.2.2.2.2.2.2, n3_lft, hp, q3, q4, ru, hfe, n3_shl, n3_or, Nat.one_mul, hY, hcd, hch, hbs', ↓lt_e, ↓gd_e, ↓Option.bind_some, ↓reduceIte, if_true, if_false, if_pT, if_nF, decide_true, Bool.not_true, Bool.not_false, not_true_eq_false, not_false_eq_true, Bool.false_eq_true, Bool.true_eq_false, eq_self, n3_lit, n3_add, n3_mul, n3_sub, n3_tn, n3_le_t, n3_le_f, n3_lt_t, n3_lt_f, n3_eq_f, n3_eq_t, n3_inb, n3_rem, n3_div, n3_zb, bb_0, bb_1, zb_bb, bb_T, bb_F, n3_dec, n3_m1, n3_eqm, n3_eqmt, n3_ltm, n3_mlt, n3_lem, n3_mle, n3_neg_lt, n3_nlt_neg, n3_nle_neg, n3_neg_le]
    · rw [if_neg hp]
      refine ⟨_, ⟨μ1, rfl, hT1, hch, hbs, hf⟩, fun k => ?_⟩
      simp (disch := omega) only [bd_X6_orderRest_46, jn_X6_orderRest_143, ↓ob (hQ.1), ↓ob (hQ.2.1), ↓ob (hQ.2.2.1), ↓ob (hQ.2.2.2.1), hQ.2.2.2.2.1, hQ.2.2.2.2.2.1, hQ.2.2.2.2.2.2.1, hQ.2.2.2.2.2.2.2.1, ↓ob (hQ.2.2.2.2.2.2.2.2.1), ↓ob (hQ.2.2.2.2.2.2.2.2.2.1), ↓ob (hQ.2.2.2.2.2.2.2.2.2.2.1), hQ.2.2.2.2.2.2.2.2.2.2.2.1, hQ.2.2.2.2.2.2.2.2.2.2.2.2.1, hQ.2.2.2.2.2.2.2.2.2.2.2.2.2.1, ↓ob (hQ.2.2.2.2.2.2.2.2.2.2.2.2.2.2.1), ↓ob (hQ.2.2.2.2.2.2.2.2.2.2.2.2.2.2.2.1), ↓ob (hQ.2.2.2.2.2.2.2.2.2.2.2.2.2.2.2.2.1), ↓ob (hQ.2.2.2.2.2.2.2.2.2.2.2.2.2.2.2.2.2.1), ↓ob (hQ.2.2.2.2.2.2.2.2.2.2.2.2.2.2.2.2.2.2.1), hQ.2.2.2.2.2.2.2.2.2.2.2.2.2.2.2.2.2.2.2.1, hQ.2.2.2.2.2.2.2.2.2.2.2.2.2.2.2.2.2.2.2.2.1, hQ.2.2.2.2.2.2.2.2.2.2.2.2.2.2.2.2.2.2.2.2.2.1, hQ.2.2.2.2.2.2.2.2.2.2.2.2.2.2.2.2.2.2.2.2.2.2.1, hQ.2.2.2.2.2.2.2.2.2.2.2.2.2.2.2.2.2.2.2.2.2.2.2, ↓ob (hS.1), ↓ob (hS.2.1), ↓ob (hS.2.2.1), ↓ob (hS.2.2.2.1), ↓ob (hS.2.2.2.2.1), ↓ob (hS.2.2.2.2.2.1), ↓ob (hS.2.2.2.2.2.2.1), ↓ob (hS.2.2.2.2.2.2.2.1), hS.2.2.2.2.2.2.2.2.1, hS.2.2.2.2.2.2.2.2.2.1, hS.2.2.2.2.2.2.2.2.2.2.1, hS.2.2.2.2.2.2.2.2.2.2.2.1, hS.2.2.2.2.2.2.2.2.2.2.2.2.1, hS.2.2.2.2.2.2.2.2.2.2.2.2.2.1, hS.2.2.2.2.2.2.2.2.2.2.2.2.2.2, n3_lft, hp, ↓lt_e, ↓gd_e, ↓Option.bind_some, ↓reduceIte, if_true, if_false, if_pT, if_nF, decide_true, Bool.not_true, Bool.not_false, not_true_eq_false, not_false_eq_true, Bool.false_eq_true, Bool.true_eq_false, eq_self, n3_lit, n3_add, n3_mul, n3_sub, n3_tn, n3_le_t, n3_le_f, n3_lt_t, n3_lt_f, n3_eq_f, n3_eq_t, n3_inb, n3_rem, n3_div, n3_zb, bb_0, bb_1, zb_bb, bb_T, bb_F, n3_dec, n3_m1, n3_eqm, n3_eqmt, n3_ltm, n3_mlt, n3_lem, n3_mle, n3_neg_lt, n3_nlt_neg, n3_nle_neg, n3_neg_le]
  · obtain ⟨μ1, rfl, hT1, hch, hbs, hf⟩ := hx
    refine ⟨_, ⟨μ1, rfl, fun e h1 h2 h3 => ?_, hch, hf⟩, fun k => ?_⟩
    · by_cases ed : e = d
      · rw [ed, yt_rec F all d hdl]
        refine hbs ?_
        rcases mnS_spec (lft all d) (fun s => cstF F d s + ytF F all (d ||| 2 ^ s)) 8 (by omega) with ⟨a1, a2⟩ | ⟨a1, _⟩
        · exfalso
          have : all &&& d = all := by
            apply Nat.eq_of_testBit_eq
            intro i
            rw [Nat.testBit_and]
            cases hai : all.testBit i
            · rfl
            · have hiF := ha.bit hai
              have := a2 i (by omega)
              unfold lft at this
              rw [hai] at this
              cases hdi : d.testBit i
              · rw [hdi] at this; cases this
              · rfl
          have hle : all ≤ d := by rw [← this]; exact Nat.and_le_right
          omega
        · omega
      · exact hT1 e (by omega) h2 h3
    · simp (disch := omega) only [bd_X6_orderRest_46, ↓ob (hQ.1), ↓ob (hQ.2.1), ↓ob (hQ.2.2.1), ↓ob (hQ.2.2.2.1), hQ.2.2.2.2.1, hQ.2.2.2.2.2.1, hQ.2.2.2.2.2.2.1, hQ.2.2.2.2.2.2.2.1, ↓ob (hQ.2.2.2.2.2.2.2.2.1), ↓ob (hQ.2.2.2.2.2.2.2.2.2.1), ↓ob (hQ.2.2.2.2.2.2.2.2.2.2.1), hQ.2.2.2.2.2.2.2.2.2.2.2.1, hQ.2.2.2.2.2.2.2.2.2.2.2.2.1, hQ.2.2.2.2.2.2.2.2.2.2.2.2.2.1, ↓ob (hQ.2.2.2.2.2.2.2.2.2.2.2.2.2.2.1), ↓ob (hQ.2.2.2.2.2.2.2.2.2.2.2.2.2.2.2.1), ↓ob (hQ.2.2.2.2.2.2.2.2.2.2.2.2.2.2.2.2.1), ↓ob (hQ.2.2.2.2.2.2.2.2.2.2.2.2.2.2.2.2.2.1), ↓ob (hQ.2.2.2.2.2.2.2.2.2.2.2.2.2.2.2.2.2.2.1), hQ.2.2.2.2.2.2.2.2.2.2.2.2.2.2.2.2.2.2.2.1, hQ.2.2.2.2.2.2.2.2.2.2.2.2.2.2.2.2.2.2.2.2.1, hQ.2.2.2.2.2.2.2.2.2.2.2.2.2.2.2.2.2.2.2.2.2.1, hQ.2.2.2.2.2.2.2.2.2.2.2.2.2.2.2.2.2.2.2.2.2.2.1, hQ.2.2.2.2.2.2.2.2.2.2.2.2.2.2.2.2.2.2.2.2.2.2.2, ↓ob (hS.1), ↓ob (hS.2.1), ↓ob (hS.2.2.1), ↓ob (hS.2.2.2.1), ↓ob (hS.2.2.2.2.1), ↓ob (hS.2.2.2.2.2.1), ↓ob (hS.2.2.2.2.2.2.1), ↓ob (hS.2.2.2.2.2.2.2.1), hS.2.2.2.2.2.2.2.2.1, hS.2.2.2.2.2.2.2.2.2.1, hS.2.2.2.2.2.2.2.2.2.2.1, hS.2.2.2.2.2.2.2.2.2.2.2.1, hS.2.2.2.2.2.2.2.2.2.2.2.2.1, hS.2.2.2.2.2.2.2.2.2.2.2.2.2.1, hS.2.2.2.2.2.2.2.2.2.2.2.2.2.2, ↓lt_e, ↓gd_e, ↓Option.bind_some, ↓reduceIte, if_true, if_false, if_pT, if_nF, decide_true, Bool.not_true, Bool.not_false, not_true_eq_false, not_false_eq_true, Bool.false_eq_true, Bool.true_eq_false, eq_self, n3_lit, n3_add, n3_mul, n3_sub, n3_tn, n3_le_t, n3_le_f, n3_lt_t, n3_lt_f, n3_eq_f, n3_eq_t, n3_inb, n3_rem, n3_div, n3_zb, bb_0, bb_1, zb_bb, bb_T, bb_F, n3_dec, n3_m1, n3_eqm, n3_eqmt, n3_ltm, n3_mlt, n3_lem, n3_mle, n3_neg_lt, n3_nlt_neg, n3_nle_neg, n3_neg_le]
/-! the cost: both -/
theorem mnS_no {p : Nat → Bool} {v : Nat → Nat} : ∀ {n : Nat}, (∀ s, s < n → p s = false) → mnS p v n = (0, 4294967295)
  | 0, _ => rfl
  | n + 1, h => by unfold mnS; rw [if_neg (by rw [h n (by omega)]; decide)]; exact mnS_no (fun s hs => h s (by omega))
theorem mnS_ge {p : Nat → Bool} {v : Nat → Nat} {n : Nat} : ∀ m, n ≤ m → (∀ s, n ≤ s → s < m → p s = false) → mnS p v m = mnS p v n
  | 0, h, _ => by rw [show n = 0 by omega]
  | m + 1, h, hp => by
    by_cases e : n = m + 1
    · rw [e]
    · show (if p m = true then _ else mnS p v m) = _
      rw [if_neg (by rw [hp m (by omega) (by omega)]; decide)]
      exact mnS_ge m (by omega) (fun s h1 h2 => hp s h1 (by omega))
theorem yt_all (F : Nat → Nat) {all : Nat} (ha : all < 256) : ytF F all all = 0 := by
  rw [yt_rec F all all ha, mnS_no]
  intro s _
  unfold lft
  cases all.testBit s <;> rfl
theorem lft_all {all d : Nat} (h : Sub d all) (h2 : ∀ s, s < 8 → lft all d s = false) (ha : all < 256) : d = all := by
  have : all &&& d = all := by
    apply Nat.eq_of_testBit_eq
    intro i
    rw [Nat.testBit_and]
    cases hai : all.testBit i
    · rfl
    · have hi : i < 8 := by
        rcases Nat.lt_or_ge i 8 with h1 | h1
        · exact h1
        · have : all.testBit i = false := Nat.testBit_lt_two_pow (Nat.lt_of_lt_of_le ha (Nat.pow_le_pow_right (n := 2) (by decide) h1))
          rw [this] at hai; cases hai
      have := h2 i hi
      unfold lft at this
      rw [hai] at this
      cases hdi : d.testBit i
      · rw [hdi] at this; cases this
      · rfl
  unfold Sub at h
  rw [Nat.and_comm, this] at h
  exact h.symm
theorem Sub.zero (all : Nat) : Sub 0 all := Nat.zero_and _
def busF (F : Nat → Nat) : Nat := sb (bz F) (F 0)
theorem bus_In (F : Nat → Nat) : InS F (busF F) := sb_lt _ _
def cosF (F : Nat → Nat) : Nat := if busF F = 0 then 0 else if F 6 = 0 then 4294967295 else ytF F (busF F) 0
def firF (F : Nat → Nat) : Nat := if busF F = 0 then 4294967295 else if F 6 = 0 then 4294967295 else (mnS (lft (busF F) 0) (fun s => cstF F 0 s + ytF F (busF F) (0 ||| 2 ^ s)) 8).2
theorem c_orderWork {N : Nat} (hN : 1099511627776 ≤ N) {Λ : Lay} {ad : Nat → Nat} {μ : Mem} {F : Nat → Nat} {m : Nat} {A : Nat → Nat → Nat} {b : Nat} {J : Nat → Nat} {T : Nat → Int32} {n : Nat} {f : Int32} (hY : Ly Λ ad) (h : RC ad μ F m A b J T n f) (ho : Ok F m A b J T n)  : ∃ μ', m_X6_orderWork N Λ μ (ad 175) (ad 3) (ad 30) = some μ' ∧ μ'.1 (ad 175) 0 = n3 (cosF F) ∧ μ'.1 (ad 175) 1 = n3 (firF F) ∧ Fr ad (fun i => ScC i ∧ i < 181) μ μ' := by
  have hj := hY.1
  have hP := hY.2.2.1
  have hS := hY.2.2.2.1 3 (Or.inl rfl)
  have hL := hY.2.2.2.2.1 30 (Or.inl rfl)
  have hC := h.1
  have hw := ho.1
  have hl := ho.2.1
  have hb := hw.1; unfold WB at hb
  have hQ := hY.2.2.2.2.2.2.2.1
  have bs : m_X9_busyDocked N Λ μ (ad 3) = some (n3 (busF F)) := c_busy hN hS hC hw
  have ha := bus_In F
  have ha8 := ha.lt hb.1
  have f0 : Fr ad (fun i => i = 175) μ (mset (mset μ (ad 175) 0 (n3 0)) (ad 175) 1 (n3 4294967295)) := ((Fr.refl μ).set hj (by rfl)).set hj (by rfl)
  have q3 : (mset (mset μ (ad 175) 0 (n3 0)) (ad 175) 1 (n3 4294967295)).1 (ad 3) 3 = n3 (F 6) := by rw [(f0 3 (by omega)).1]; exact hC.2.2.2.1
  unfold cosF firF
  by_cases hb0 : busF F = 0
  · refine ⟨_, ?_, by rw [if_pos hb0, msn (by omega), mse], by rw [if_pos hb0, mse], f0.mono (fun i hi => by unfold ScC; omega)⟩
    simp (disch := omega) only [m_X6_orderWork, bs, hb0, n3_neg1, ↓lt_e, ↓gd_e, ↓Option.bind_some, ↓reduceIte, if_true, if_false, if_pT, if_nF, decide_true, Bool.not_true, Bool.not_false, not_true_eq_false, not_false_eq_true, Bool.false_eq_true, Bool.true_eq_false, eq_self, n3_lit, n3_add, n3_mul, n3_sub, n3_tn, n3_le_t, n3_le_f, n3_lt_t, n3_lt_f, n3_eq_f, n3_eq_t, n3_inb, n3_rem, n3_div, n3_zb, bb_0, bb_1, zb_bb, bb_T, bb_F, n3_dec, n3_m1, n3_eqm, n3_eqmt, n3_ltm, n3_mlt, n3_lem, n3_mle, n3_neg_lt, n3_nlt_neg, n3_nle_neg, n3_neg_le]
  · rw [if_neg hb0, if_neg hb0]
    by_cases h60 : F 6 = 0
    · rw [if_pos h60, if_pos h60]
      refine ⟨mset (mset (mset μ (ad 175) 0 (n3 0)) (ad 175) 1 (n3 4294967295)) (ad 175) 0 (n3 4294967295), ?_, mse _ _ _ _, by rw [msn (by omega), mse], (f0.set hj (by rfl)).mono (fun i hi => by unfold ScC; omega)⟩
      rw [h60] at q3
      simp (disch := omega) only [m_X6_orderWork, bs, q3, n3_neg1, ↓lt_e, ↓gd_e, ↓Option.bind_some, ↓reduceIte, if_true, if_false, if_pT, if_nF, decide_true, Bool.not_true, Bool.not_false, not_true_eq_false, not_false_eq_true, Bool.false_eq_true, Bool.true_eq_false, eq_self, n3_lit, n3_add, n3_mul, n3_sub, n3_tn, n3_le_t, n3_le_f, n3_lt_t, n3_lt_f, n3_eq_f, n3_eq_t, n3_inb, n3_rem, n3_div, n3_zb, bb_0, bb_1, zb_bb, bb_T, bb_F, n3_dec, n3_m1, n3_eqm, n3_eqmt, n3_ltm, n3_mlt, n3_lem, n3_mle, n3_neg_lt, n3_nlt_neg, n3_nle_neg, n3_neg_le]
    · rw [if_neg h60, if_neg h60]
      generalize hμ1 : mset (mset μ (ad 175) 0 (n3 0)) (ad 175) 1 (n3 4294967295) = μ1 at f0 q3
      have hC1 : CS ad μ1 3 F := hC.fr f0 (fun i a b => by omega)
      obtain ⟨μ2, e2, hfee, f2⟩ := c_findFees hN hS hC1 hQ hL hj hw hl (by omega) (by omega) (h.2.1.fr f0 (fun i a b => by omega))
      have hst : m_X6_orderWork N Λ μ (ad 175) (ad 3) (ad 30) = lp_X6_orderWork_51 N Λ (ad 175) (ad 3) (n3 (busF F)) (n3 (busF F) - n3 1, mset μ2 (ad 179) (busF F) (n3 0)) := by
        have h9 : F 6 ≤ 9 := hb.2.2.2.2.2.2.1
        simp (disch := omega) only [m_X6_orderWork, bs, n3_neg1, ↓lt_e, ↓gd_e, ↓Option.bind_some, ↓reduceIte, if_true, if_false, if_pT, if_nF, decide_true, Bool.not_true, Bool.not_false, not_true_eq_false, not_false_eq_true, Bool.false_eq_true, Bool.true_eq_false, eq_self, n3_lit, n3_eq_f, hμ1, q3, n3_lt_t, e2, ↓ob (hQ.1), ↓ob (hQ.2.1), ↓ob (hQ.2.2.1), ↓ob (hQ.2.2.2.1), hQ.2.2.2.2.1, hQ.2.2.2.2.2.1, hQ.2.2.2.2.2.2.1, hQ.2.2.2.2.2.2.2.1, ↓ob (hQ.2.2.2.2.2.2.2.2.1), ↓ob (hQ.2.2.2.2.2.2.2.2.2.1), ↓ob (hQ.2.2.2.2.2.2.2.2.2.2.1), hQ.2.2.2.2.2.2.2.2.2.2.2.1, hQ.2.2.2.2.2.2.2.2.2.2.2.2.1, hQ.2.2.2.2.2.2.2.2.2.2.2.2.2.1, ↓ob (hQ.2.2.2.2.2.2.2.2.2.2.2.2.2.2.1), ↓ob (hQ.2.2.2.2.2.2.2.2.2.2.2.2.2.2.2.1), ↓ob (hQ.2.2.2.2.2.2.2.2.2.2.2.2.2.2.2.2.1), ↓ob (hQ.2.2.2.2.2.2.2.2.2.2.2.2.2.2.2.2.2.1), ↓ob (hQ.2.2.2.2.2.2.2.2.2.2.2.2.2.2.2.2.2.2.1), hQ.2.2.2.2.2.2.2.2.2.2.2.2.2.2.2.2.2.2.2.1, hQ.2.2.2.2.2.2.2.2.2.2.2.2.2.2.2.2.2.2.2.2.1, hQ.2.2.2.2.2.2.2.2.2.2.2.2.2.2.2.2.2.2.2.2.2.1, hQ.2.2.2.2.2.2.2.2.2.2.2.2.2.2.2.2.2.2.2.2.2.2.1, hQ.2.2.2.2.2.2.2.2.2.2.2.2.2.2.2.2.2.2.2.2.2.2.2, n3_inb, n3_tn]
      rw [hst]
      generalize busF F = all at ha ha8 hb0
      have hfr2 : Fr ad (fun i => ScC i ∧ i < 181) μ (mset μ2 (ad 179) all (n3 0)) := ((f0.mono (fun i hi => by unfold ScC; omega)).trans (f2.mono (fun i hi => by unfold ScC; omega))).set hj (by unfold ScC; omega)
      unfold lp_X6_orderWork_51
      refine cw_iv (P := fun i x => ∃ μ3 : Mem, x = (n3 (all - i) - n3 1, μ3) ∧ (∀ e, all - i ≤ e → e < 256 → Sub e all → μ3.1 (ad 179) e = n3 (ytF F all e)) ∧ (i = all → μ3.1 (ad 175) 1 = n3 (mnS (lft all 0) (fun s => cstF F 0 s + ytF F all (0 ||| 2 ^ s)) 8).2) ∧ (∀ s, s < 8 → μ3.1 (ad 178) s = n3 (if s < F 0 then feeF F s else 0)) ∧ Fr ad (fun i => ScC i ∧ i < 181) μ μ3) (Q := fun X => ∃ μ', X = some μ' ∧ μ'.1 (ad 175) 0 = n3 (ytF F all 0) ∧ μ'.1 (ad 175) 1 = n3 (mnS (lft all 0) (fun s => cstF F 0 s + ytF F all (0 ||| 2 ^ s)) 8).2 ∧ Fr ad (fun i => ScC i ∧ i < 181) μ μ') all ⟨_, rfl, fun e h1 h2 h3 => ?_, fun h0 => absurd h0.symm hb0, fun s hs => by rw [mso hj (by omega)]; exact hfee s hs, hfr2⟩ (fun i hi x hx => ?_) (fun x hx => ?_) (show all < N by omega)
      · have := h3.le
        have ee : e = all := by omega
        rw [ee, mse, yt_all F ha8]
      · obtain ⟨μ3, rfl, hT3, hch3, hfe3, hf3⟩ := hx
        left
        have e1 : all - i - 1 = all - (i + 1) := by omega
        have hC3 : CS ad μ3 3 F := hC.fr hf3 (fun i a b => by unfold ScC; omega)
        by_cases hsub : Sub (all - (i + 1)) all
        · obtain ⟨μ4, e4, hT4, hch4, f4⟩ := c_orderRest hN hS hC3 hQ hj hw hl (by omega) (by omega) ha hsub (by omega) hfe3 (fun e h1 h2 h3 => hT3 e (by omega) h2 h3)
          refine ⟨_, ⟨μ4, rfl, hT4, fun hia => ?_, fun s hs => by rw [(f4 178 (by omega)).1]; exact hfe3 s hs, hf3.trans (f4.mono (fun i hi => by unfold ScC; omega))⟩, fun k => ?_⟩
          · rw [show all - (i + 1) = 0 by omega] at hch4; exact hch4
          · have hz : (n3 (all - (i + 1)) &&& (n3 all ^^^ -n3 1) = n3 0) = True := by rw [n3_sub0 (by omega)]; exact eq_true hsub
            simp (disch := omega) only [bd_X6_orderWork_51, jn_X6_orderWork_73, e1, hz, e4, ↓lt_e, ↓gd_e, ↓Option.bind_some, ↓reduceIte, if_true, if_false, if_pT, if_nF, decide_true, Bool.not_true, Bool.not_false, not_true_eq_false, not_false_eq_true, Bool.false_eq_true, Bool.true_eq_false, eq_self, n3_lit, n3_sub, n3_lt_f, n3_dec]
        · refine ⟨_, ⟨μ3, rfl, fun e h1 h2 h3 => ?_, fun hia => ?_, hfe3, hf3⟩, fun k => ?_⟩
          · by_cases ed : e = all - (i + 1)
            · rw [ed] at h3; exact absurd h3 hsub
            · exact hT3 e (by omega) h2 h3
          · rw [show all - (i + 1) = 0 by omega] at hsub; exact absurd (Sub.zero all) hsub
          · have hz : (n3 (all - (i + 1)) &&& (n3 all ^^^ -n3 1) = n3 0) = False := by rw [n3_sub0 (by omega)]; exact eq_false hsub
            simp (disch := omega) only [bd_X6_orderWork_51, jn_X6_orderWork_73, e1, hz, ↓lt_e, ↓gd_e, ↓Option.bind_some, ↓reduceIte, if_true, if_false, if_pT, if_nF, decide_true, Bool.not_true, Bool.not_false, not_true_eq_false, not_false_eq_true, Bool.false_eq_true, Bool.true_eq_false, eq_self, n3_lit, n3_sub, n3_lt_f, n3_dec]
      · obtain ⟨μ3, rfl, hT3, hch3, hfe3, hf3⟩ := hx
        have h0 := hT3 0 (by omega) (by omega) (Sub.zero all)
        refine ⟨_, ⟨mset μ3 (ad 175) 0 (n3 (ytF F all 0)), rfl, mse _ _ _ _, by rw [msn (by omega)]; exact hch3 rfl, hf3.set hj (by unfold ScC; omega)⟩, fun k => ?_⟩
        simp (disch := omega) only [bd_X6_orderWork_51, Nat.sub_self, ↓ob (hQ.1), ↓ob (hQ.2.1), ↓ob (hQ.2.2.1), ↓ob (hQ.2.2.2.1), hQ.2.2.2.2.1, hQ.2.2.2.2.2.1, hQ.2.2.2.2.2.2.1, hQ.2.2.2.2.2.2.2.1, ↓ob (hQ.2.2.2.2.2.2.2.2.1), ↓ob (hQ.2.2.2.2.2.2.2.2.2.1), ↓ob (hQ.2.2.2.2.2.2.2.2.2.2.1), hQ.2.2.2.2.2.2.2.2.2.2.2.1, hQ.2.2.2.2.2.2.2.2.2.2.2.2.1, hQ.2.2.2.2.2.2.2.2.2.2.2.2.2.1, ↓ob (hQ.2.2.2.2.2.2.2.2.2.2.2.2.2.2.1), ↓ob (hQ.2.2.2.2.2.2.2.2.2.2.2.2.2.2.2.1), ↓ob (hQ.2.2.2.2.2.2.2.2.2.2.2.2.2.2.2.2.1), ↓ob (hQ.2.2.2.2.2.2.2.2.2.2.2.2.2.2.2.2.2.1), ↓ob (hQ.2.2.2.2.2.2.2.2.2.2.2.2.2.2.2.2.2.2.1), hQ.2.2.2.2.2.2.2.2.2.2.2.2.2.2.2.2.2.2.2.1, hQ.2.2.2.2.2.2.2.2.2.2.2.2.2.2.2.2.2.2.2.2.1, hQ.2.2.2.2.2.2.2.2.2.2.2.2.2.2.2.2.2.2.2.2.2.1, hQ.2.2.2.2.2.2.2.2.2.2.2.2.2.2.2.2.2.2.2.2.2.2.1, hQ.2.2.2.2.2.2.2.2.2.2.2.2.2.2.2.2.2.2.2.2.2.2.2, h0, ↓lt_e, ↓gd_e, ↓Option.bind_some, ↓reduceIte, if_true, if_false, if_pT, if_nF, decide_true, Bool.not_true, Bool.not_false, not_true_eq_false, not_false_eq_true, Bool.false_eq_true, Bool.true_eq_false, eq_self, n3_lit, n3_add, n3_mul, n3_sub, n3_tn, n3_le_t, n3_le_f, n3_lt_t, n3_lt_f, n3_eq_f, n3_eq_t, n3_inb, n3_rem, n3_div, n3_zb, bb_0, bb_1, zb_bb, bb_T, bb_F, n3_dec, n3_m1, n3_eqm, n3_eqmt, n3_ltm, n3_mlt, n3_lem, n3_mle, n3_neg_lt, n3_nlt_neg, n3_nle_neg, n3_neg_le]
theorem C_cost {N : Nat} (hN : 1099511627776 ≤ N) {Λ : Lay} {ad : Nat → Nat} {μ : Mem} {F : Nat → Nat} {m : Nat} {A : Nat → Nat → Nat} {b : Nat} {J : Nat → Nat} {T : Nat → Int32} {n : Nat} {f : Int32} (hY : Ly Λ ad) (h : RC ad μ F m A b J T n f) (ho : Ok F m A b J T n)  : CV ad μ (m_X11_cost N Λ μ (ad 0)) (n3 (cosF F)) F m A b J T n f := by
  have hP := hY.2.2.1
  obtain ⟨μ1, e1, h1, h2, f1⟩ := c_orderWork hN hY h ho
  exact CV.scr h f1 (by simp (disch := omega) only [m_X11_cost, ↓ob (hP.1), ↓ob (hP.2.1), ↓ob (hP.2.2.1), ↓ob (hP.2.2.2.1), ↓ob (hP.2.2.2.2.1), ↓ob (hP.2.2.2.2.2.1), ↓ob (hP.2.2.2.2.2.2.1), ↓ob (hP.2.2.2.2.2.2.2.1), ↓ob (hP.2.2.2.2.2.2.2.2.1), ↓ob (hP.2.2.2.2.2.2.2.2.2.1), ↓ob (hP.2.2.2.2.2.2.2.2.2.2.1), ↓ob (hP.2.2.2.2.2.2.2.2.2.2.2.1), ↓ob (hP.2.2.2.2.2.2.2.2.2.2.2.2.1), ↓ob (hP.2.2.2.2.2.2.2.2.2.2.2.2.2.1), hP.2.2.2.2.2.2.2.2.2.2.2.2.2.2, e1, h1, ↓lt_e, ↓gd_e, ↓Option.bind_some, ↓reduceIte, if_true, if_false, if_pT, if_nF, decide_true, Bool.not_true, Bool.not_false, not_true_eq_false, not_false_eq_true, Bool.false_eq_true, Bool.true_eq_false, eq_self])
theorem C_first {N : Nat} (hN : 1099511627776 ≤ N) {Λ : Lay} {ad : Nat → Nat} {μ : Mem} {F : Nat → Nat} {m : Nat} {A : Nat → Nat → Nat} {b : Nat} {J : Nat → Nat} {T : Nat → Int32} {n : Nat} {f : Int32} (hY : Ly Λ ad) (h : RC ad μ F m A b J T n f) (ho : Ok F m A b J T n)  : CV ad μ (m_X11_first N Λ μ (ad 0)) (n3 (firF F)) F m A b J T n f := by
  have hP := hY.2.2.1
  obtain ⟨μ1, e1, h1, h2, f1⟩ := c_orderWork hN hY h ho
  exact CV.scr h f1 (by simp (disch := omega) only [m_X11_first, ↓ob (hP.1), ↓ob (hP.2.1), ↓ob (hP.2.2.1), ↓ob (hP.2.2.2.1), ↓ob (hP.2.2.2.2.1), ↓ob (hP.2.2.2.2.2.1), ↓ob (hP.2.2.2.2.2.2.1), ↓ob (hP.2.2.2.2.2.2.2.1), ↓ob (hP.2.2.2.2.2.2.2.2.1), ↓ob (hP.2.2.2.2.2.2.2.2.2.1), ↓ob (hP.2.2.2.2.2.2.2.2.2.2.1), ↓ob (hP.2.2.2.2.2.2.2.2.2.2.2.1), ↓ob (hP.2.2.2.2.2.2.2.2.2.2.2.2.1), ↓ob (hP.2.2.2.2.2.2.2.2.2.2.2.2.2.1), hP.2.2.2.2.2.2.2.2.2.2.2.2.2.2, e1, h2, ↓lt_e, ↓gd_e, ↓Option.bind_some, ↓reduceIte, if_true, if_false, if_pT, if_nF, decide_true, Bool.not_true, Bool.not_false, not_true_eq_false, not_false_eq_true, Bool.false_eq_true, Bool.true_eq_false, eq_self])
/-! the reference -/
theorem r_busy {N : Nat} (hN : 1099511627776 ≤ N) {Λ : Lay} {ad : Nat → Nat} {μ : Mem} {F : Nat → Nat} (hR : LyR Λ ad) (hW : Row μ (ad 182) 1222 F)  (hw : WF F) : m_X12_busyOnes N Λ μ (ad 181) = some (n3 (busF F)) := by
  have hb := hw.1; unfold WB at hb
  unfold m_X12_busyOnes lp_X12_busyOnes_4 busF
  refine cw_it (fun i => (n3 (sb (bz F) i), n3 i)) (F 0) rfl (fun i hi k => ?_) (fun k => ?_) (by omega)
  · have hso := hw.2.2.1 i hi
    unfold ShOk at hso
    have dk := r_isDocked (N := N) hR hW i (by omega) (by omega)
    by_cases h1 : F (25 + 6 * i + 3) = 1
    · by_cases h2 : 0 < F (25 + 6 * i + 2)
      · have e := bz_iff.2 ⟨h1, h2⟩
        simp (disch := omega) only [jn_X12_busyOnes_37, jn_X12_busyOnes_36, bd_X12_busyOnes_4, r_ships hR hW, dk, r_of hR hW, h1, sb_s, e, n3_shl, n3_or, Nat.one_mul, ↓lt_e, ↓gd_e, ↓Option.bind_some, ↓reduceIte, if_true, if_false, if_pT, if_nF, decide_true, Bool.not_true, Bool.not_false, not_true_eq_false, not_false_eq_true, Bool.false_eq_true, Bool.true_eq_false, eq_self, n3_lit, n3_add, n3_mul, n3_sub, n3_tn, n3_le_t, n3_le_f, n3_lt_t, n3_lt_f, n3_eq_f, n3_eq_t, n3_inb, n3_rem, n3_div, n3_zb, bb_0, bb_1, zb_bb, bb_T, bb_F, n3_dec, n3_m1, n3_eqm, n3_eqmt, n3_ltm, n3_mlt, n3_lem, n3_mle, n3_neg_lt, n3_nlt_neg, n3_nle_neg, n3_neg_le]
      · have e : ¬ bz F i = true := fun hc => h2 (bz_iff.1 hc).2
        simp (disch := omega) only [jn_X12_busyOnes_37, jn_X12_busyOnes_36, bd_X12_busyOnes_4, r_ships hR hW, dk, r_of hR hW, h1, sb_s, e, n3_or, ↓lt_e, ↓gd_e, ↓Option.bind_some, ↓reduceIte, if_true, if_false, if_pT, if_nF, decide_true, Bool.not_true, Bool.not_false, not_true_eq_false, not_false_eq_true, Bool.false_eq_true, Bool.true_eq_false, eq_self, n3_lit, n3_add, n3_mul, n3_sub, n3_tn, n3_le_t, n3_le_f, n3_lt_t, n3_lt_f, n3_eq_f, n3_eq_t, n3_inb, n3_rem, n3_div, n3_zb, bb_0, bb_1, zb_bb, bb_T, bb_F, n3_dec, n3_m1, n3_eqm, n3_eqmt, n3_ltm, n3_mlt, n3_lem, n3_mle, n3_neg_lt, n3_nlt_neg, n3_nle_neg, n3_neg_le]
    · have e : ¬ bz F i = true := fun hc => h1 (bz_iff.1 hc).1
      simp (disch := omega) only [jn_X12_busyOnes_37, jn_X12_busyOnes_36, bd_X12_busyOnes_4, r_ships hR hW, dk, h1, sb_s, e, n3_or, ↓lt_e, ↓gd_e, ↓Option.bind_some, ↓reduceIte, if_true, if_false, if_pT, if_nF, decide_true, Bool.not_true, Bool.not_false, not_true_eq_false, not_false_eq_true, Bool.false_eq_true, Bool.true_eq_false, eq_self, n3_lit, n3_add, n3_mul, n3_sub, n3_tn, n3_le_t, n3_le_f, n3_lt_t, n3_lt_f, n3_eq_f, n3_eq_t, n3_inb, n3_rem, n3_div, n3_zb, bb_0, bb_1, zb_bb, bb_T, bb_F, n3_dec, n3_m1, n3_eqm, n3_eqmt, n3_ltm, n3_mlt, n3_lem, n3_mle, n3_neg_lt, n3_nlt_neg, n3_nle_neg, n3_neg_le]
  · simp (disch := omega) only [jn_X12_busyOnes_37, jn_X12_busyOnes_36, bd_X12_busyOnes_4, r_ships hR hW, ↓lt_e, ↓gd_e, ↓Option.bind_some, ↓reduceIte, if_true, if_false, if_pT, if_nF, decide_true, Bool.not_true, Bool.not_false, not_true_eq_false, not_false_eq_true, Bool.false_eq_true, Bool.true_eq_false, eq_self, n3_lit, n3_add, n3_mul, n3_sub, n3_tn, n3_le_t, n3_le_f, n3_lt_t, n3_lt_f, n3_eq_f, n3_eq_t, n3_inb, n3_rem, n3_div, n3_zb, bb_0, bb_1, zb_bb, bb_T, bb_F, n3_dec, n3_m1, n3_eqm, n3_eqmt, n3_ltm, n3_mlt, n3_lem, n3_mle, n3_neg_lt, n3_nlt_neg, n3_nle_neg, n3_neg_le]
theorem r_costNext {N : Nat} (hN : 1099511627776 ≤ N) {Λ : Lay} {ad : Nat → Nat} {μ : Mem} {F : Nat → Nat} (hR : LyR Λ ad) (hW : Row μ (ad 182) 1222 F)  (hj : Inj ad) (hw : WF F) (hl : LawOk F) (h6 : 0 < F 6) {d s Y : Nat} (hd : d < 256) (hs : s < F 0) (hY : μ.1 (ad 193) (d ||| 2 ^ s) = n3 Y) (hYb : Y ≤ 4000000) : ∃ μ', m_X12_costNext N Λ μ (ad 181) (n3 d) (n3 s) = some (n3 (cstF F d s + Y), μ') ∧ Fr ad (fun i => i = 189) μ μ' := by
  have hb := hw.1; unfold WB at hb
  have hso := hw.2.2.1 s hs
  unfold ShOk at hso
  obtain ⟨μ1, e1, f1⟩ := r_feeOf hN hR hW hj hw hl s hs
  have hW1 := hW.fr f1 (by omega)
  have hY1 : μ1.1 (ad 193) (d ||| 2 ^ s) = n3 Y := by rw [(f1 193 (by omega)).1]; exact hY
  have hor := or_lt8 hd (show s < 8 by omega)
  have hg := gsm_le hw d (F 0) (Nat.le_refl _)
  refine ⟨μ1, ?_, f1⟩
  simp (disch := omega) only [m_X12_costNext, r_of hR hW, ↓lt_e, ↓gd_e, ↓Option.bind_some, ↓reduceIte, if_true, if_false, if_pT, if_nF, decide_true, Bool.not_true, Bool.not_false, not_true_eq_false, not_false_eq_true, Bool.false_eq_true, Bool.true_eq_false, eq_self, n3_lit, lp_X12_costNext_10]
  refine cw_it (fun i => (n3 (F (25 + 6 * s + 2) + gsm F d i), n3 i, μ)) (F 0) rfl (fun i hi k => ?_) (fun k => ?_) (by omega)
  · have eg : gsm F d (i + 1) = gsm F d i + (if d.testBit i = true then F (25 + 6 * i + 2) else 0) := rfl
    rw [eg]
    by_cases hbit : d.testBit i = true
    · simp (disch := omega) only [bd_X12_costNext_10, jn_X12_costNext_40, r_ships hR hW, r_has, r_of hR hW, hbit, ↓lt_e, ↓gd_e, ↓Option.bind_some, ↓reduceIte, if_true, if_false, if_pT, if_nF, decide_true, Bool.not_true, Bool.not_false, not_true_eq_false, not_false_eq_true, Bool.false_eq_true, Bool.true_eq_false, eq_self, n3_lit, n3_add, n3_mul, n3_sub, n3_tn, n3_le_t, n3_le_f, n3_lt_t, n3_lt_f, n3_eq_f, n3_eq_t, n3_inb, n3_rem, n3_div, n3_zb, bb_0, bb_1, zb_bb, bb_T, bb_F, n3_dec, n3_m1, n3_eqm, n3_eqmt, n3_ltm, n3_mlt, n3_lem, n3_mle, n3_neg_lt, n3_nlt_neg, n3_nle_neg, n3_neg_le]
      rw [show F (25 + 6 * s + 2) + gsm F d i + F (25 + 6 * i + 2) = F (25 + 6 * s + 2) + (gsm F d i + F (25 + 6 * i + 2)) by omega]
    · simp (disch := omega) only [bd_X12_costNext_10, jn_X12_costNext_40, r_ships hR hW, r_has, hbit, ↓lt_e, ↓gd_e, ↓Option.bind_some, ↓reduceIte, if_true, if_false, if_pT, if_nF, decide_true, Bool.not_true, Bool.not_false, not_true_eq_false, not_false_eq_true, Bool.false_eq_true, Bool.true_eq_false, eq_self, n3_lit, n3_add, n3_mul, n3_sub, n3_tn, n3_le_t, n3_le_f, n3_lt_t, n3_lt_f, n3_eq_f, n3_eq_t, n3_inb, n3_rem, n3_div, n3_zb, bb_0, bb_1, zb_bb, bb_T, bb_F, n3_dec, n3_m1, n3_eqm, n3_eqmt, n3_ltm, n3_mlt, n3_lem, n3_mle, n3_neg_lt, n3_nlt_neg, n3_nle_neg, n3_neg_le, Nat.add_zero]
  · have ec : cstF F d s = feeF F s * ((F (25 + 6 * s + 2) + gsm F d (F 0) + F 6 - 1) / F 6) := by unfold cstF; rw [Nat.add_comm (gsm F d (F 0))]
    rw [ec]
    simp (disch := omega) only [bd_X12_costNext_10, r_ships hR hW, e1, ↓ob (hR.1), ↓ob (hR.2.1), ↓ob (hR.2.2.1), ↓ob (hR.2.2.2.1), ↓ob (hR.2.2.2.2.1), ↓ob (hR.2.2.2.2.2.1), ↓ob (hR.2.2.2.2.2.2.1), ↓ob (hR.2.2.2.2.2.2.2.1), ↓ob (hR.2.2.2.2.2.2.2.2.1), ↓ob (hR.2.2.2.2.2.2.2.2.2.1), ↓ob (hR.2.2.2.2.2.2.2.2.2.2.1), ↓ob (hR.2.2.2.2.2.2.2.2.2.2.2.1), ↓ob (hR.2.2.2.2.2.2.2.2.2.2.2.2.1), ↓ob (hR.2.2.2.2.2.2.2.2.2.2.2.2.2.1), ↓ob (hR.2.2.2.2.2.2.2.2.2.2.2.2.2.2.1), ↓ob (hR.2.2.2.2.2.2.2.2.2.2.2.2.2.2.2.1), ↓ob (hR.2.2.2.2.2.2.2.2.2.2.2.2.2.2.2.2.1), ↓ob (hR.2.2.2.2.2.2.2.2.2.2.2.2.2.2.2.2.2.1), hR.2.2.2.2.2.2.2.2.2.2.2.2.2.2.2.2.2.2.1, hR.2.2.2.2.2.2.2.2.2.2.2.2.2.2.2.2.2.2.2.1, hR.2.2.2.2.2.2.2.2.2.2.2.2.2.2.2.2.2.2.2.2.1, hR.2.2.2.2.2.2.2.2.2.2.2.2.2.2.2.2.2.2.2.2.2.1, hR.2.2.2.2.2.2.2.2.2.2.2.2.2.2.2.2.2.2.2.2.2.2.1, hR.2.2.2.2.2.2.2.2.2.2.2.2.2.2.2.2.2.2.2.2.2.2.2.1, hR.2.2.2.2.2.2.2.2.2.2.2.2.2.2.2.2.2.2.2.2.2.2.2.2.1, hR.2.2.2.2.2.2.2.2.2.2.2.2.2.2.2.2.2.2.2.2.2.2.2.2.2.1, hR.2.2.2.2.2.2.2.2.2.2.2.2.2.2.2.2.2.2.2.2.2.2.2.2.2.2.1, hR.2.2.2.2.2.2.2.2.2.2.2.2.2.2.2.2.2.2.2.2.2.2.2.2.2.2.2.1, hR.2.2.2.2.2.2.2.2.2.2.2.2.2.2.2.2.2.2.2.2.2.2.2.2.2.2.2.2.1, hR.2.2.2.2.2.2.2.2.2.2.2.2.2.2.2.2.2.2.2.2.2.2.2.2.2.2.2.2.2.1, hR.2.2.2.2.2.2.2.2.2.2.2.2.2.2.2.2.2.2.2.2.2.2.2.2.2.2.2.2.2.2.1, hR.2.2.2.2.2.2.2.2.2.2.2.2.2.2.2.2.2.2.2.2.2.2.2.2.2.2.2.2.2.2.2.1, hR.2.2.2.2.2.2.2.2.2.2.2.2.2.2.2.2.2.2.2.2.2.2.2.2.2.2.2.2.2.2.2.2.1, hR.2.2.2.2.2.2.2.2.2.2.2.2.2.2.2.2.2.2.2.2.2.2.2.2.2.2.2.2.2.2.2.2.2.1, hR.2.2.2.2.2.2.2.2.2.2.2.2.2.2.2.2.2.2.2.2.2.2.2.2.2.2.2.2.2.2.2.2.2.2.1, hR.2.2.2.2.2.2.2.2.2.2.2.2.2.2.2.2.2.2.2.2.2.2.2.2.2.2.2.2.2.2.2.2.2.2.2, hW1, n3_shl, n3_or, Nat.one_mul, hY1, ↓lt_e, ↓gd_e, ↓Option.bind_some, ↓reduceIte, if_true, if_false, if_pT, if_nF, decide_true, Bool.not_true, Bool.not_false, not_true_eq_false, not_false_eq_true, Bool.false_eq_true, Bool.true_eq_false, eq_self, n3_lit, n3_add, n3_mul, n3_sub, n3_tn, n3_le_t, n3_le_f, n3_lt_t, n3_lt_f, n3_eq_f, n3_eq_t, n3_inb, n3_rem, n3_div, n3_zb, bb_0, bb_1, zb_bb, bb_T, bb_F, n3_dec, n3_m1, n3_eqm, n3_eqmt, n3_ltm, n3_mlt, n3_lem, n3_mle, n3_neg_lt, n3_nlt_neg, n3_nle_neg, n3_neg_le]
theorem r_laysCosts {N : Nat} (hN : 1099511627776 ≤ N) {Λ : Lay} {ad : Nat → Nat} {μ : Mem} {F : Nat → Nat} (hR : LyR Λ ad) (hW : Row μ (ad 182) 1222 F)  (hj : Inj ad) (hw : WF F) (hl : LawOk F) (h6 : 0 < F 6) {all : Nat} (ha : InS F all) : ∃ μ', m_X12_laysCosts N Λ μ (ad 181) (n3 all) = some μ' ∧ (∀ e, e < 256 → Sub e all → μ'.1 (ad 193) e = n3 (ytF F all e)) ∧ Fr ad (fun i => i = 189 ∨ i = 193) μ μ' := by
  have hb := hw.1; unfold WB at hb
  have ha8 := ha.lt hb.1
  unfold m_X12_laysCosts lp_X12_laysCosts_2
  refine cw_ik (P := fun i x => ∃ μ1 : Mem, x = (n3 (all + 1 - i) - n3 1, μ1) ∧ (∀ e, all + 1 - i ≤ e → e < 256 → Sub e all → μ1.1 (ad 193) e = n3 (ytF F all e)) ∧ Fr ad (fun i => i = 189 ∨ i = 193) μ μ1) (Q := fun X => ∃ μ', X = some μ' ∧ (∀ e, e < 256 → Sub e all → μ'.1 (ad 193) e = n3 (ytF F all e)) ∧ Fr ad (fun i => i = 189 ∨ i = 193) μ μ') (all + 1) ⟨μ, ?_, fun e h1 h2 h3 => ?_, Fr.refl μ⟩ (fun i hi x hx k => ?_) (fun x hx k => ?_) (show all + 1 < N by omega)
  · rw [Nat.sub_zero, n3_sub (by omega), Nat.add_sub_cancel]
  · have := h3.le; omega
  · obtain ⟨μ1, rfl, hT1, hf1⟩ := hx
    left
    have e1 : all + 1 - i - 1 = all - i := by omega
    have e2 : all + 1 - (i + 1) = all - i := by omega
    show ∃ s', _ ∧ bd_X12_laysCosts_2 N Λ μ1 k (ad 181) (n3 all) (n3 (all + 1 - i) - n3 1) = k s'
    rw [n3_sub (a := all + 1 - i) (b := 1) (by omega), e1, e2]
    by_cases hsub : Sub (all - i) all
    · have hz : (n3 (all - i) &&& (n3 all ^^^ -n3 1) = n3 0) = True := by rw [n3_sub0 (by omega)]; exact eq_true hsub
      have est : bd_X12_laysCosts_2 N Λ μ1 k (ad 181) (n3 all) (n3 (all - i)) = lp_X12_laysCosts_32 N Λ k (ad 181) (n3 all) (n3 (all - i)) (n3 (if all - i = all then 0 else 100000000), n3 0, μ1) := by
        by_cases ei : all - i = all
        · rw [if_pos ei]
          simp (disch := omega) only [bd_X12_laysCosts_2, jn_X12_laysCosts_28, hz, ↓lt_e, ↓gd_e, ↓Option.bind_some, ↓reduceIte, if_true, if_false, if_pT, if_nF, decide_true, Bool.not_true, Bool.not_false, not_true_eq_false, not_false_eq_true, Bool.false_eq_true, Bool.true_eq_false, eq_self, n3_lit, n3_lt_f, n3_eq_t]
        · rw [if_neg ei]
          simp (disch := omega) only [bd_X12_laysCosts_2, jn_X12_laysCosts_28, hz, ↓lt_e, ↓gd_e, ↓Option.bind_some, ↓reduceIte, if_true, if_false, if_pT, if_nF, decide_true, Bool.not_true, Bool.not_false, not_true_eq_false, not_false_eq_true, Bool.false_eq_true, Bool.true_eq_false, eq_self, n3_lit, n3_lt_f, n3_eq_f]
      rw [est]
      generalize hd : all - i = d at hsub hz hT1
      have hdl : d < 256 := by omega
      unfold lp_X12_laysCosts_32
      refine cw_ik (P := fun s x => ∃ μ2 : Mem, x = (n3 (if (mnS (lft all d) (fun s => cstF F d s + ytF F all (d ||| 2 ^ s)) s).2 = 4294967295 then (if d = all then 0 else 100000000) else (mnS (lft all d) (fun s => cstF F d s + ytF F all (d ||| 2 ^ s)) s).1), n3 s, μ2) ∧ Fr ad (fun i => i = 189) μ1 μ2) (Q := fun X => ∃ s' : Int32 × Mem, (∃ μ2 : Mem, s' = (n3 d - n3 1, μ2) ∧ (∀ e, d ≤ e → e < 256 → Sub e all → μ2.1 (ad 193) e = n3 (ytF F all e)) ∧ Fr ad (fun i => i = 189 ∨ i = 193) μ μ2) ∧ X = k s') (F 0) ⟨μ1, rfl, Fr.refl μ1⟩ (fun s hs x hx k' => ?_) (fun x hx k' => ?_) (show F 0 < N by omega)
      · obtain ⟨μ2, rfl, hf2⟩ := hx
        left
        have hW2 : Row μ2 (ad 182) 1222 F := (hW.fr hf1 (by omega)).fr hf2 (by omega)
        have es : mnS (lft all d) (fun s => cstF F d s + ytF F all (d ||| 2 ^ s)) (s + 1) = if lft all d s = true then (if (mnS (lft all d) (fun s => cstF F d s + ytF F all (d ||| 2 ^ s)) s).2 = 4294967295 ∨ cstF F d s + ytF F all (d ||| 2 ^ s) < (mnS (lft all d) (fun s => cstF F d s + ytF F all (d ||| 2 ^ s)) s).1 then (cstF F d s + ytF F all (d ||| 2 ^ s), s) else mnS (lft all d) (fun s => cstF F d s + ytF F all (d ||| 2 ^ s)) s) else mnS (lft all d) (fun s => cstF F d s + ytF F all (d ||| 2 ^ s)) s := rfl
        rw [es]
        have hsp := mnS_spec (lft all d) (fun s => cstF F d s + ytF F all (d ||| 2 ^ s)) s (by omega)
        have hh : m_X12_has N Λ μ2 (n3 all &&& (n3 d ^^^ -n3 1)) (n3 s) = some (n3 (bb (lft all d s = true))) := by
          have := n3_lft (all := all) (d := d) (s := s) ha8 (by omega)
          simp (disch := omega) only [jn_X12_has_14, m_X12_has, ↓lt_e, ↓gd_e, ↓Option.bind_some, ↓reduceIte, if_true, if_false, if_pT, if_nF, decide_true, Bool.not_true, Bool.not_false, not_true_eq_false, not_false_eq_true, Bool.false_eq_true, Bool.true_eq_false, eq_self, n3_lit, this]
          by_cases hp : lft all d s = true
          · simp (disch := omega) only [hp, ↓lt_e, ↓gd_e, ↓Option.bind_some, ↓reduceIte, if_true, if_false, if_pT, if_nF, decide_true, Bool.not_true, Bool.not_false, not_true_eq_false, not_false_eq_true, Bool.false_eq_true, Bool.true_eq_false, eq_self, n3_lit, n3_add, n3_mul, n3_sub, n3_tn, n3_le_t, n3_le_f, n3_lt_t, n3_lt_f, n3_eq_f, n3_eq_t, n3_inb, n3_rem, n3_div, n3_zb, bb_0, bb_1, zb_bb, bb_T, bb_F, n3_dec, n3_m1, n3_eqm, n3_eqmt, n3_ltm, n3_mlt, n3_lem, n3_mle, n3_neg_lt, n3_nlt_neg, n3_nle_neg, n3_neg_le]
          · simp (disch := omega) only [hp, ↓lt_e, ↓gd_e, ↓Option.bind_some, ↓reduceIte, if_true, if_false, if_pT, if_nF, decide_true, Bool.not_true, Bool.not_false, not_true_eq_false, not_false_eq_true, Bool.false_eq_true, Bool.true_eq_false, eq_self, n3_lit, n3_add, n3_mul, n3_sub, n3_tn, n3_le_t, n3_le_f, n3_lt_t, n3_lt_f, n3_eq_f, n3_eq_t, n3_inb, n3_rem, n3_div, n3_zb, bb_0, bb_1, zb_bb, bb_T, bb_F, n3_dec, n3_m1, n3_eqm, n3_eqmt, n3_ltm, n3_mlt, n3_lem, n3_mle, n3_neg_lt, n3_nlt_neg, n3_nle_neg, n3_neg_le]
        by_cases hp : lft all d s = true
        · rw [if_pos hp]
          have hb2 := lft_f hp
          have hor := or_lt8 hdl (show s < 8 by omega)
          have hgt := or_gt hb2.2
          have hYs : μ2.1 (ad 193) (d ||| 2 ^ s) = n3 (ytF F all (d ||| 2 ^ s)) := by rw [(hf2 193 (by omega)).1]; exact hT1 _ (by omega) hor (hsub.or hb2.1)
          have hyb := yt_B hw hl h6 ha hor
          have hcl := cst_le (d := d) hw hl hs h6
          obtain ⟨μ3, e3, f3⟩ := r_costNext hN hR hW2 hj hw hl h6 hdl hs hYs hyb
          have hne : d ≠ all := fun e => by rw [e] at hb2; rw [hb2.1] at hb2; exact absurd hb2.2 (by decide)
          refine ⟨_, ⟨μ3, rfl, hf2.trans f3⟩, ?_⟩
          have hm1 : (mnS (lft all d) (fun s => cstF F d s + ytF F all (d ||| 2 ^ s)) s).2 ≠ 4294967295 → (mnS (lft all d) (fun s => cstF F d s + ytF F all (d ||| 2 ^ s)) s).1 ≤ 10000000 := by
            intro hc1
            rcases hsp with ⟨a1, _⟩ | ⟨a1, a2, a3, a4, a5⟩
            · exact absurd a1 hc1
            · have b2 := lft_f a2
              have bF := ha.bit b2.1
              have := cst_le (d := d) hw hl bF h6
              have := yt_B hw hl h6 ha (or_lt8 hdl (show (mnS (lft all d) (fun s => cstF F d s + ytF F all (d ||| 2 ^ s)) s).2 < 8 by omega))
              rw [← a3]
              show cstF F d _ + ytF F all (d ||| 2 ^ _) ≤ _
              omega
          generalize mnS (lft all d) (fun s => cstF F d s + ytF F all (d ||| 2 ^ s)) s = mm at hm1
          rw [if_neg hne]
          by_cases hc1 : mm.2 = 4294967295
          · rw [if_pos hc1, if_pos (Or.inl hc1), if_neg (show ¬ s = 4294967295 by omega)]
            simp (disch := omega) only [bd_X12_laysCosts_32, jn_X12_laysCosts_66, r_ships hR hW2, n3_neg1, ↓lt_e, ↓gd_e, ↓Option.bind_some, ↓reduceIte, if_true, if_false, if_pT, if_nF, decide_true, Bool.not_true, Bool.not_false, not_true_eq_false, not_false_eq_true, Bool.false_eq_true, Bool.true_eq_false, eq_self, n3_lit, n3_le_f, ← n3_neg1, hh, hp, bb_0, bb_T, e3, n3_imin, n3_add, n3_eq_f]
            rw [show min 100000000 (cstF F d s + ytF F all (d ||| 2 ^ s)) = cstF F d s + ytF F all (d ||| 2 ^ s) by omega]
          · have hm1' := hm1 hc1
            rw [if_neg hc1]
            have hmin : (if (if mm.2 = 4294967295 ∨ cstF F d s + ytF F all (d ||| 2 ^ s) < mm.1 then (cstF F d s + ytF F all (d ||| 2 ^ s), s) else mm).2 = 4294967295 then 100000000 else (if mm.2 = 4294967295 ∨ cstF F d s + ytF F all (d ||| 2 ^ s) < mm.1 then (cstF F d s + ytF F all (d ||| 2 ^ s), s) else mm).1) = min mm.1 (cstF F d s + ytF F all (d ||| 2 ^ s)) := by
              by_cases hlt : cstF F d s + ytF F all (d ||| 2 ^ s) < mm.1
              · rw [if_pos (Or.inr hlt), if_neg (show ¬ s = 4294967295 by omega)]
                show cstF F d s + ytF F all (d ||| 2 ^ s) = _
                omega
              · have hn : ¬ (mm.2 = 4294967295 ∨ cstF F d s + ytF F all (d ||| 2 ^ s) < mm.1) := fun hh => hh.elim hc1 hlt
                simp only [if_neg hn, if_neg hc1]; omega
            rw [hmin]
            simp (disch := omega) only [bd_X12_laysCosts_32, jn_X12_laysCosts_66, r_ships hR hW2, ↓lt_e, ↓gd_e, ↓Option.bind_some, ↓reduceIte, if_true, if_false, if_pT, if_nF, decide_true, Bool.not_true, Bool.not_false, not_true_eq_false, not_false_eq_true, Bool.false_eq_true, Bool.true_eq_false, eq_self, n3_lit, n3_le_f, hh, hp, bb_0, bb_T, e3, n3_imin, n3_add, n3_eq_f]
        · rw [if_neg hp]
          refine ⟨_, ⟨μ2, rfl, hf2⟩, ?_⟩
          simp (disch := omega) only [bd_X12_laysCosts_32, jn_X12_laysCosts_66, r_ships hR hW2, ↓lt_e, ↓gd_e, ↓Option.bind_some, ↓reduceIte, if_true, if_false, if_pT, if_nF, decide_true, Bool.not_true, Bool.not_false, not_true_eq_false, not_false_eq_true, Bool.false_eq_true, Bool.true_eq_false, eq_self, n3_lit, n3_le_f, hh, hp, bb_0, bb_F, n3_add, n3_eq_t]
      · obtain ⟨μ2, rfl, hf2⟩ := hx
        have hW2 : Row μ2 (ad 182) 1222 F := (hW.fr hf1 (by omega)).fr hf2 (by omega)
        have hge : mnS (lft all d) (fun s => cstF F d s + ytF F all (d ||| 2 ^ s)) 8 = mnS (lft all d) (fun s => cstF F d s + ytF F all (d ||| 2 ^ s)) (F 0) := mnS_ge 8 hb.1 (fun s h1 h2 => by
          have : all.testBit s = false := Nat.testBit_lt_two_pow (Nat.lt_of_lt_of_le ha (Nat.pow_le_pow_right (n := 2) (by decide) h1))
          unfold lft; rw [this]; rfl)
        have hval : (if (mnS (lft all d) (fun s => cstF F d s + ytF F all (d ||| 2 ^ s)) (F 0)).2 = 4294967295 then (if d = all then 0 else 100000000) else (mnS (lft all d) (fun s => cstF F d s + ytF F all (d ||| 2 ^ s)) (F 0)).1) = ytF F all d := by
          rw [yt_rec F all d hdl, ← hge]
          rcases mnS_spec (lft all d) (fun s => cstF F d s + ytF F all (d ||| 2 ^ s)) 8 (by omega) with ⟨a1, a2⟩ | ⟨a1, _⟩
          · rw [if_pos a1, if_pos (lft_all hsub a2 ha8), mnS_no a2]
          · rw [if_neg (by omega)]
        rw [hval]
        refine ⟨_, ⟨mset μ2 (ad 193) d (n3 (ytF F all d)), rfl, fun e h1 h2 h3 => ?_, (hf1.trans (hf2.mono (fun i hi => Or.inl hi))).set hj (Or.inr rfl)⟩, ?_⟩
        · by_cases ed : e = d
          · rw [ed, mse]
          · rw [msn ed, (hf2 193 (by omega)).1]; exact hT1 e (by omega) h2 h3
        · simp (disch := omega) only [bd_X12_laysCosts_32, jn_X12_laysCosts_79, r_ships hR hW2, ↓ob (hR.1), ↓ob (hR.2.1), ↓ob (hR.2.2.1), ↓ob (hR.2.2.2.1), ↓ob (hR.2.2.2.2.1), ↓ob (hR.2.2.2.2.2.1), ↓ob (hR.2.2.2.2.2.2.1), ↓ob (hR.2.2.2.2.2.2.2.1), ↓ob (hR.2.2.2.2.2.2.2.2.1), ↓ob (hR.2.2.2.2.2.2.2.2.2.1), ↓ob (hR.2.2.2.2.2.2.2.2.2.2.1), ↓ob (hR.2.2.2.2.2.2.2.2.2.2.2.1), ↓ob (hR.2.2.2.2.2.2.2.2.2.2.2.2.1), ↓ob (hR.2.2.2.2.2.2.2.2.2.2.2.2.2.1), ↓ob (hR.2.2.2.2.2.2.2.2.2.2.2.2.2.2.1), ↓ob (hR.2.2.2.2.2.2.2.2.2.2.2.2.2.2.2.1), ↓ob (hR.2.2.2.2.2.2.2.2.2.2.2.2.2.2.2.2.1), ↓ob (hR.2.2.2.2.2.2.2.2.2.2.2.2.2.2.2.2.2.1), hR.2.2.2.2.2.2.2.2.2.2.2.2.2.2.2.2.2.2.1, hR.2.2.2.2.2.2.2.2.2.2.2.2.2.2.2.2.2.2.2.1, hR.2.2.2.2.2.2.2.2.2.2.2.2.2.2.2.2.2.2.2.2.1, hR.2.2.2.2.2.2.2.2.2.2.2.2.2.2.2.2.2.2.2.2.2.1, hR.2.2.2.2.2.2.2.2.2.2.2.2.2.2.2.2.2.2.2.2.2.2.1, hR.2.2.2.2.2.2.2.2.2.2.2.2.2.2.2.2.2.2.2.2.2.2.2.1, hR.2.2.2.2.2.2.2.2.2.2.2.2.2.2.2.2.2.2.2.2.2.2.2.2.1, hR.2.2.2.2.2.2.2.2.2.2.2.2.2.2.2.2.2.2.2.2.2.2.2.2.2.1, hR.2.2.2.2.2.2.2.2.2.2.2.2.2.2.2.2.2.2.2.2.2.2.2.2.2.2.1, hR.2.2.2.2.2.2.2.2.2.2.2.2.2.2.2.2.2.2.2.2.2.2.2.2.2.2.2.1, hR.2.2.2.2.2.2.2.2.2.2.2.2.2.2.2.2.2.2.2.2.2.2.2.2.2.2.2.2.1, hR.2.2.2.2.2.2.2.2.2.2.2.2.2.2.2.2.2.2.2.2.2.2.2.2.2.2.2.2.2.1, hR.2.2.2.2.2.2.2.2.2.2.2.2.2.2.2.2.2.2.2.2.2.2.2.2.2.2.2.2.2.2.1, hR.2.2.2.2.2.2.2.2.2.2.2.2.2.2.2.2.2.2.2.2.2.2.2.2.2.2.2.2.2.2.2.1, hR.2.2.2.2.2.2.2.2.2.2.2.2.2.2.2.2.2.2.2.2.2.2.2.2.2.2.2.2.2.2.2.2.1, hR.2.2.2.2.2.2.2.2.2.2.2.2.2.2.2.2.2.2.2.2.2.2.2.2.2.2.2.2.2.2.2.2.2.1, hR.2.2.2.2.2.2.2.2.2.2.2.2.2.2.2.2.2.2.2.2.2.2.2.2.2.2.2.2.2.2.2.2.2.2.1, hR.2.2.2.2.2.2.2.2.2.2.2.2.2.2.2.2.2.2.2.2.2.2.2.2.2.2.2.2.2.2.2.2.2.2.2, ↓lt_e, ↓gd_e, ↓Option.bind_some, ↓reduceIte, if_true, if_false, if_pT, if_nF, decide_true, Bool.not_true, Bool.not_false, not_true_eq_false, not_false_eq_true, Bool.false_eq_true, Bool.true_eq_false, eq_self, n3_lit, n3_le_t, n3_inb, n3_tn, n3_dec]
    · have hz : (n3 (all - i) &&& (n3 all ^^^ -n3 1) = n3 0) = False := by rw [n3_sub0 (by omega)]; exact eq_false hsub
      refine ⟨_, ⟨μ1, rfl, fun e h1 h2 h3 => ?_, hf1⟩, ?_⟩
      · by_cases ed : e = all - i
        · rw [ed] at h3; exact absurd h3 hsub
        · exact hT1 e (by omega) h2 h3
      · simp (disch := omega) only [bd_X12_laysCosts_2, jn_X12_laysCosts_79, hz, ↓lt_e, ↓gd_e, ↓Option.bind_some, ↓reduceIte, if_true, if_false, if_pT, if_nF, decide_true, Bool.not_true, Bool.not_false, not_true_eq_false, not_false_eq_true, Bool.false_eq_true, Bool.true_eq_false, eq_self, n3_lit, n3_lt_f, n3_dec]
  · obtain ⟨μ1, rfl, hT1, hf1⟩ := hx
    refine ⟨μ1, ?_, fun e h1 h2 => hT1 e (by omega) h1 h2, hf1⟩
    simp (disch := omega) only [bd_X12_laysCosts_2, Nat.sub_self, ↓lt_e, ↓gd_e, ↓Option.bind_some, ↓reduceIte, if_true, if_false, if_pT, if_nF, decide_true, Bool.not_true, Bool.not_false, not_true_eq_false, not_false_eq_true, Bool.false_eq_true, Bool.true_eq_false, eq_self, n3_lit, n3_add, n3_mul, n3_sub, n3_tn, n3_le_t, n3_le_f, n3_lt_t, n3_lt_f, n3_eq_f, n3_eq_t, n3_inb, n3_rem, n3_div, n3_zb, bb_0, bb_1, zb_bb, bb_T, bb_F, n3_dec, n3_m1, n3_eqm, n3_eqmt, n3_ltm, n3_mlt, n3_lem, n3_mle, n3_neg_lt, n3_nlt_neg, n3_nle_neg, n3_neg_le]
theorem R_cost {N : Nat} (hN : 1099511627776 ≤ N) {Λ : Lay} {ad : Nat → Nat} {μ : Mem} {F : Nat → Nat} {m : Nat} {A : Nat → Nat → Nat} {b : Nat} {J : Nat → Nat} {T : Nat → Int32} {n : Nat} {f : Int32} (hY : Ly Λ ad) (h : RR ad μ F m A b J T n f) (ho : Ok F m A b J T n)  : RV ad μ (m_X12_cost N Λ μ (ad 181)) 0 (n3 (cosF F)) F m A b J T n f := by
  have hj := hY.1
  have hR := hY.2.1
  have hW := h.1
  have hw := ho.1
  have hl := ho.2.1
  have hb := hw.1; unfold WB at hb
  unfold m_X12_cost
  refine RV.start hY.1 h (fun μ0 h0 t0 => ?_)
  have hW0 := h0.1
  have bs := r_busy hN hR hW0 hw
  have ha := bus_In F
  have ha8 := ha.lt hb.1
  unfold cosF
  by_cases hb0 : busF F = 0
  · rw [if_pos hb0]
    exact RV.same h0 t0 (by simp (disch := omega) only [jn_X12_cost_33, jn_X12_cost_24, bs, hb0, ↓lt_e, ↓gd_e, ↓Option.bind_some, ↓reduceIte, if_true, if_false, if_pT, if_nF, decide_true, Bool.not_true, Bool.not_false, not_true_eq_false, not_false_eq_true, Bool.false_eq_true, Bool.true_eq_false, eq_self, n3_lit, n3_add, n3_mul, n3_sub, n3_tn, n3_le_t, n3_le_f, n3_lt_t, n3_lt_f, n3_eq_f, n3_eq_t, n3_inb, n3_rem, n3_div, n3_zb, bb_0, bb_1, zb_bb, bb_T, bb_F, n3_dec, n3_m1, n3_eqm, n3_eqmt, n3_ltm, n3_mlt, n3_lem, n3_mle, n3_neg_lt, n3_nlt_neg, n3_nle_neg, n3_neg_le])
  · rw [if_neg hb0]
    by_cases h60 : F 6 = 0
    · rw [if_pos h60]
      exact RV.same h0 t0 (by simp (disch := omega) only [jn_X12_cost_33, jn_X12_cost_24, bs, ↓ob (hR.1), ↓ob (hR.2.1), ↓ob (hR.2.2.1), ↓ob (hR.2.2.2.1), ↓ob (hR.2.2.2.2.1), ↓ob (hR.2.2.2.2.2.1), ↓ob (hR.2.2.2.2.2.2.1), ↓ob (hR.2.2.2.2.2.2.2.1), ↓ob (hR.2.2.2.2.2.2.2.2.1), ↓ob (hR.2.2.2.2.2.2.2.2.2.1), ↓ob (hR.2.2.2.2.2.2.2.2.2.2.1), ↓ob (hR.2.2.2.2.2.2.2.2.2.2.2.1), ↓ob (hR.2.2.2.2.2.2.2.2.2.2.2.2.1), ↓ob (hR.2.2.2.2.2.2.2.2.2.2.2.2.2.1), ↓ob (hR.2.2.2.2.2.2.2.2.2.2.2.2.2.2.1), ↓ob (hR.2.2.2.2.2.2.2.2.2.2.2.2.2.2.2.1), ↓ob (hR.2.2.2.2.2.2.2.2.2.2.2.2.2.2.2.2.1), ↓ob (hR.2.2.2.2.2.2.2.2.2.2.2.2.2.2.2.2.2.1), hR.2.2.2.2.2.2.2.2.2.2.2.2.2.2.2.2.2.2.1, hR.2.2.2.2.2.2.2.2.2.2.2.2.2.2.2.2.2.2.2.1, hR.2.2.2.2.2.2.2.2.2.2.2.2.2.2.2.2.2.2.2.2.1, hR.2.2.2.2.2.2.2.2.2.2.2.2.2.2.2.2.2.2.2.2.2.1, hR.2.2.2.2.2.2.2.2.2.2.2.2.2.2.2.2.2.2.2.2.2.2.1, hR.2.2.2.2.2.2.2.2.2.2.2.2.2.2.2.2.2.2.2.2.2.2.2.1, hR.2.2.2.2.2.2.2.2.2.2.2.2.2.2.2.2.2.2.2.2.2.2.2.2.1, hR.2.2.2.2.2.2.2.2.2.2.2.2.2.2.2.2.2.2.2.2.2.2.2.2.2.1, hR.2.2.2.2.2.2.2.2.2.2.2.2.2.2.2.2.2.2.2.2.2.2.2.2.2.2.1, hR.2.2.2.2.2.2.2.2.2.2.2.2.2.2.2.2.2.2.2.2.2.2.2.2.2.2.2.1, hR.2.2.2.2.2.2.2.2.2.2.2.2.2.2.2.2.2.2.2.2.2.2.2.2.2.2.2.2.1, hR.2.2.2.2.2.2.2.2.2.2.2.2.2.2.2.2.2.2.2.2.2.2.2.2.2.2.2.2.2.1, hR.2.2.2.2.2.2.2.2.2.2.2.2.2.2.2.2.2.2.2.2.2.2.2.2.2.2.2.2.2.2.1, hR.2.2.2.2.2.2.2.2.2.2.2.2.2.2.2.2.2.2.2.2.2.2.2.2.2.2.2.2.2.2.2.1, hR.2.2.2.2.2.2.2.2.2.2.2.2.2.2.2.2.2.2.2.2.2.2.2.2.2.2.2.2.2.2.2.2.1, hR.2.2.2.2.2.2.2.2.2.2.2.2.2.2.2.2.2.2.2.2.2.2.2.2.2.2.2.2.2.2.2.2.2.1, hR.2.2.2.2.2.2.2.2.2.2.2.2.2.2.2.2.2.2.2.2.2.2.2.2.2.2.2.2.2.2.2.2.2.2.1, hR.2.2.2.2.2.2.2.2.2.2.2.2.2.2.2.2.2.2.2.2.2.2.2.2.2.2.2.2.2.2.2.2.2.2.2, hW0, h60, n3_neg1, ↓lt_e, ↓gd_e, ↓Option.bind_some, ↓reduceIte, if_true, if_false, if_pT, if_nF, decide_true, Bool.not_true, Bool.not_false, not_true_eq_false, not_false_eq_true, Bool.false_eq_true, Bool.true_eq_false, eq_self, n3_lit, n3_add, n3_mul, n3_sub, n3_tn, n3_le_t, n3_le_f, n3_lt_t, n3_lt_f, n3_eq_f, n3_eq_t, n3_inb, n3_rem, n3_div, n3_zb, bb_0, bb_1, zb_bb, bb_T, bb_F, n3_dec, n3_m1, n3_eqm, n3_eqmt, n3_ltm, n3_mlt, n3_lem, n3_mle, n3_neg_lt, n3_nlt_neg, n3_nle_neg, n3_neg_le])
    · rw [if_neg h60]
      obtain ⟨μ1, e1, hT, f1⟩ := r_laysCosts hN hR hW0 hj hw hl (by omega) ha
      have hz := hT 0 (by omega) (Sub.zero _)
      exact RV.scr h0 t0 (f1.mono (fun i hi => by unfold ScX; omega)) (by simp (disch := omega) only [jn_X12_cost_33, jn_X12_cost_24, bs, ↓ob (hR.1), ↓ob (hR.2.1), ↓ob (hR.2.2.1), ↓ob (hR.2.2.2.1), ↓ob (hR.2.2.2.2.1), ↓ob (hR.2.2.2.2.2.1), ↓ob (hR.2.2.2.2.2.2.1), ↓ob (hR.2.2.2.2.2.2.2.1), ↓ob (hR.2.2.2.2.2.2.2.2.1), ↓ob (hR.2.2.2.2.2.2.2.2.2.1), ↓ob (hR.2.2.2.2.2.2.2.2.2.2.1), ↓ob (hR.2.2.2.2.2.2.2.2.2.2.2.1), ↓ob (hR.2.2.2.2.2.2.2.2.2.2.2.2.1), ↓ob (hR.2.2.2.2.2.2.2.2.2.2.2.2.2.1), ↓ob (hR.2.2.2.2.2.2.2.2.2.2.2.2.2.2.1), ↓ob (hR.2.2.2.2.2.2.2.2.2.2.2.2.2.2.2.1), ↓ob (hR.2.2.2.2.2.2.2.2.2.2.2.2.2.2.2.2.1), ↓ob (hR.2.2.2.2.2.2.2.2.2.2.2.2.2.2.2.2.2.1), hR.2.2.2.2.2.2.2.2.2.2.2.2.2.2.2.2.2.2.1, hR.2.2.2.2.2.2.2.2.2.2.2.2.2.2.2.2.2.2.2.1, hR.2.2.2.2.2.2.2.2.2.2.2.2.2.2.2.2.2.2.2.2.1, hR.2.2.2.2.2.2.2.2.2.2.2.2.2.2.2.2.2.2.2.2.2.1, hR.2.2.2.2.2.2.2.2.2.2.2.2.2.2.2.2.2.2.2.2.2.2.1, hR.2.2.2.2.2.2.2.2.2.2.2.2.2.2.2.2.2.2.2.2.2.2.2.1, hR.2.2.2.2.2.2.2.2.2.2.2.2.2.2.2.2.2.2.2.2.2.2.2.2.1, hR.2.2.2.2.2.2.2.2.2.2.2.2.2.2.2.2.2.2.2.2.2.2.2.2.2.1, hR.2.2.2.2.2.2.2.2.2.2.2.2.2.2.2.2.2.2.2.2.2.2.2.2.2.2.1, hR.2.2.2.2.2.2.2.2.2.2.2.2.2.2.2.2.2.2.2.2.2.2.2.2.2.2.2.1, hR.2.2.2.2.2.2.2.2.2.2.2.2.2.2.2.2.2.2.2.2.2.2.2.2.2.2.2.2.1, hR.2.2.2.2.2.2.2.2.2.2.2.2.2.2.2.2.2.2.2.2.2.2.2.2.2.2.2.2.2.1, hR.2.2.2.2.2.2.2.2.2.2.2.2.2.2.2.2.2.2.2.2.2.2.2.2.2.2.2.2.2.2.1, hR.2.2.2.2.2.2.2.2.2.2.2.2.2.2.2.2.2.2.2.2.2.2.2.2.2.2.2.2.2.2.2.1, hR.2.2.2.2.2.2.2.2.2.2.2.2.2.2.2.2.2.2.2.2.2.2.2.2.2.2.2.2.2.2.2.2.1, hR.2.2.2.2.2.2.2.2.2.2.2.2.2.2.2.2.2.2.2.2.2.2.2.2.2.2.2.2.2.2.2.2.2.1, hR.2.2.2.2.2.2.2.2.2.2.2.2.2.2.2.2.2.2.2.2.2.2.2.2.2.2.2.2.2.2.2.2.2.2.1, hR.2.2.2.2.2.2.2.2.2.2.2.2.2.2.2.2.2.2.2.2.2.2.2.2.2.2.2.2.2.2.2.2.2.2.2, hW0, e1, hz, ↓lt_e, ↓gd_e, ↓Option.bind_some, ↓reduceIte, if_true, if_false, if_pT, if_nF, decide_true, Bool.not_true, Bool.not_false, not_true_eq_false, not_false_eq_true, Bool.false_eq_true, Bool.true_eq_false, eq_self, n3_lit, n3_add, n3_mul, n3_sub, n3_tn, n3_le_t, n3_le_f, n3_lt_t, n3_lt_f, n3_eq_f, n3_eq_t, n3_inb, n3_rem, n3_div, n3_zb, bb_0, bb_1, zb_bb, bb_T, bb_F, n3_dec, n3_m1, n3_eqm, n3_eqmt, n3_ltm, n3_mlt, n3_lem, n3_mle, n3_neg_lt, n3_nlt_neg, n3_nle_neg, n3_neg_le])
theorem R_first {N : Nat} (hN : 1099511627776 ≤ N) {Λ : Lay} {ad : Nat → Nat} {μ : Mem} {F : Nat → Nat} {m : Nat} {A : Nat → Nat → Nat} {b : Nat} {J : Nat → Nat} {T : Nat → Int32} {n : Nat} {f : Int32} (hY : Ly Λ ad) (h : RR ad μ F m A b J T n f) (ho : Ok F m A b J T n)  : RV ad μ (m_X12_first N Λ μ (ad 181)) 0 (n3 (firF F)) F m A b J T n f := by
  have hj := hY.1
  have hR := hY.2.1
  have hW := h.1
  have hw := ho.1
  have hl := ho.2.1
  have hb := hw.1; unfold WB at hb
  unfold m_X12_first
  refine RV.start hY.1 h (fun μ0 h0 t0 => ?_)
  have hW0 := h0.1
  have bs := r_busy hN hR hW0 hw
  have ha := bus_In F
  have ha8 := ha.lt hb.1
  unfold firF
  by_cases hb0 : busF F = 0
  · rw [if_pos hb0]
    exact RV.same h0 t0 (by simp (disch := omega) only [jn_X12_first_24, bs, hb0, n3_neg1, ↓lt_e, ↓gd_e, ↓Option.bind_some, ↓reduceIte, if_true, if_false, if_pT, if_nF, decide_true, Bool.not_true, Bool.not_false, not_true_eq_false, not_false_eq_true, Bool.false_eq_true, Bool.true_eq_false, eq_self, n3_lit, n3_add, n3_mul, n3_sub, n3_tn, n3_le_t, n3_le_f, n3_lt_t, n3_lt_f, n3_eq_f, n3_eq_t, n3_inb, n3_rem, n3_div, n3_zb, bb_0, bb_1, zb_bb, bb_T, bb_F, n3_dec, n3_m1, n3_eqm, n3_eqmt, n3_ltm, n3_mlt, n3_lem, n3_mle, n3_neg_lt, n3_nlt_neg, n3_nle_neg, n3_neg_le])
  · rw [if_neg hb0]
    by_cases h60 : F 6 = 0
    · rw [if_pos h60]
      exact RV.same h0 t0 (by simp (disch := omega) only [jn_X12_first_24, bs, ↓ob (hR.1), ↓ob (hR.2.1), ↓ob (hR.2.2.1), ↓ob (hR.2.2.2.1), ↓ob (hR.2.2.2.2.1), ↓ob (hR.2.2.2.2.2.1), ↓ob (hR.2.2.2.2.2.2.1), ↓ob (hR.2.2.2.2.2.2.2.1), ↓ob (hR.2.2.2.2.2.2.2.2.1), ↓ob (hR.2.2.2.2.2.2.2.2.2.1), ↓ob (hR.2.2.2.2.2.2.2.2.2.2.1), ↓ob (hR.2.2.2.2.2.2.2.2.2.2.2.1), ↓ob (hR.2.2.2.2.2.2.2.2.2.2.2.2.1), ↓ob (hR.2.2.2.2.2.2.2.2.2.2.2.2.2.1), ↓ob (hR.2.2.2.2.2.2.2.2.2.2.2.2.2.2.1), ↓ob (hR.2.2.2.2.2.2.2.2.2.2.2.2.2.2.2.1), ↓ob (hR.2.2.2.2.2.2.2.2.2.2.2.2.2.2.2.2.1), ↓ob (hR.2.2.2.2.2.2.2.2.2.2.2.2.2.2.2.2.2.1), hR.2.2.2.2.2.2.2.2.2.2.2.2.2.2.2.2.2.2.1, hR.2.2.2.2.2.2.2.2.2.2.2.2.2.2.2.2.2.2.2.1, hR.2.2.2.2.2.2.2.2.2.2.2.2.2.2.2.2.2.2.2.2.1, hR.2.2.2.2.2.2.2.2.2.2.2.2.2.2.2.2.2.2.2.2.2.1, hR.2.2.2.2.2.2.2.2.2.2.2.2.2.2.2.2.2.2.2.2.2.2.1, hR.2.2.2.2.2.2.2.2.2.2.2.2.2.2.2.2.2.2.2.2.2.2.2.1, hR.2.2.2.2.2.2.2.2.2.2.2.2.2.2.2.2.2.2.2.2.2.2.2.2.1, hR.2.2.2.2.2.2.2.2.2.2.2.2.2.2.2.2.2.2.2.2.2.2.2.2.2.1, hR.2.2.2.2.2.2.2.2.2.2.2.2.2.2.2.2.2.2.2.2.2.2.2.2.2.2.1, hR.2.2.2.2.2.2.2.2.2.2.2.2.2.2.2.2.2.2.2.2.2.2.2.2.2.2.2.1, hR.2.2.2.2.2.2.2.2.2.2.2.2.2.2.2.2.2.2.2.2.2.2.2.2.2.2.2.2.1, hR.2.2.2.2.2.2.2.2.2.2.2.2.2.2.2.2.2.2.2.2.2.2.2.2.2.2.2.2.2.1, hR.2.2.2.2.2.2.2.2.2.2.2.2.2.2.2.2.2.2.2.2.2.2.2.2.2.2.2.2.2.2.1, hR.2.2.2.2.2.2.2.2.2.2.2.2.2.2.2.2.2.2.2.2.2.2.2.2.2.2.2.2.2.2.2.1, hR.2.2.2.2.2.2.2.2.2.2.2.2.2.2.2.2.2.2.2.2.2.2.2.2.2.2.2.2.2.2.2.2.1, hR.2.2.2.2.2.2.2.2.2.2.2.2.2.2.2.2.2.2.2.2.2.2.2.2.2.2.2.2.2.2.2.2.2.1, hR.2.2.2.2.2.2.2.2.2.2.2.2.2.2.2.2.2.2.2.2.2.2.2.2.2.2.2.2.2.2.2.2.2.2.1, hR.2.2.2.2.2.2.2.2.2.2.2.2.2.2.2.2.2.2.2.2.2.2.2.2.2.2.2.2.2.2.2.2.2.2.2, hW0, h60, n3_neg1, ↓lt_e, ↓gd_e, ↓Option.bind_some, ↓reduceIte, if_true, if_false, if_pT, if_nF, decide_true, Bool.not_true, Bool.not_false, not_true_eq_false, not_false_eq_true, Bool.false_eq_true, Bool.true_eq_false, eq_self, n3_lit, n3_add, n3_mul, n3_sub, n3_tn, n3_le_t, n3_le_f, n3_lt_t, n3_lt_f, n3_eq_f, n3_eq_t, n3_inb, n3_rem, n3_div, n3_zb, bb_0, bb_1, zb_bb, bb_T, bb_F, n3_dec, n3_m1, n3_eqm, n3_eqmt, n3_ltm, n3_mlt, n3_lem, n3_mle, n3_neg_lt, n3_nlt_neg, n3_nle_neg, n3_neg_le])
    · rw [if_neg h60]
      obtain ⟨μ1, e1, hT, f1⟩ := r_laysCosts hN hR hW0 hj hw hl (by omega) ha
      simp (disch := omega) only [bs, ↓ob (hR.1), ↓ob (hR.2.1), ↓ob (hR.2.2.1), ↓ob (hR.2.2.2.1), ↓ob (hR.2.2.2.2.1), ↓ob (hR.2.2.2.2.2.1), ↓ob (hR.2.2.2.2.2.2.1), ↓ob (hR.2.2.2.2.2.2.2.1), ↓ob (hR.2.2.2.2.2.2.2.2.1), ↓ob (hR.2.2.2.2.2.2.2.2.2.1), ↓ob (hR.2.2.2.2.2.2.2.2.2.2.1), ↓ob (hR.2.2.2.2.2.2.2.2.2.2.2.1), ↓ob (hR.2.2.2.2.2.2.2.2.2.2.2.2.1), ↓ob (hR.2.2.2.2.2.2.2.2.2.2.2.2.2.1), ↓ob (hR.2.2.2.2.2.2.2.2.2.2.2.2.2.2.1), ↓ob (hR.2.2.2.2.2.2.2.2.2.2.2.2.2.2.2.1), ↓ob (hR.2.2.2.2.2.2.2.2.2.2.2.2.2.2.2.2.1), ↓ob (hR.2.2.2.2.2.2.2.2.2.2.2.2.2.2.2.2.2.1), hR.2.2.2.2.2.2.2.2.2.2.2.2.2.2.2.2.2.2.1, hR.2.2.2.2.2.2.2.2.2.2.2.2.2.2.2.2.2.2.2.1, hR.2.2.2.2.2.2.2.2.2.2.2.2.2.2.2.2.2.2.2.2.1, hR.2.2.2.2.2.2.2.2.2.2.2.2.2.2.2.2.2.2.2.2.2.1, hR.2.2.2.2.2.2.2.2.2.2.2.2.2.2.2.2.2.2.2.2.2.2.1, hR.2.2.2.2.2.2.2.2.2.2.2.2.2.2.2.2.2.2.2.2.2.2.2.1, hR.2.2.2.2.2.2.2.2.2.2.2.2.2.2.2.2.2.2.2.2.2.2.2.2.1, hR.2.2.2.2.2.2.2.2.2.2.2.2.2.2.2.2.2.2.2.2.2.2.2.2.2.1, hR.2.2.2.2.2.2.2.2.2.2.2.2.2.2.2.2.2.2.2.2.2.2.2.2.2.2.1, hR.2.2.2.2.2.2.2.2.2.2.2.2.2.2.2.2.2.2.2.2.2.2.2.2.2.2.2.1, hR.2.2.2.2.2.2.2.2.2.2.2.2.2.2.2.2.2.2.2.2.2.2.2.2.2.2.2.2.1, hR.2.2.2.2.2.2.2.2.2.2.2.2.2.2.2.2.2.2.2.2.2.2.2.2.2.2.2.2.2.1, hR.2.2.2.2.2.2.2.2.2.2.2.2.2.2.2.2.2.2.2.2.2.2.2.2.2.2.2.2.2.2.1, hR.2.2.2.2.2.2.2.2.2.2.2.2.2.2.2.2.2.2.2.2.2.2.2.2.2.2.2.2.2.2.2.1, hR.2.2.2.2.2.2.2.2.2.2.2.2.2.2.2.2.2.2.2.2.2.2.2.2.2.2.2.2.2.2.2.2.1, hR.2.2.2.2.2.2.2.2.2.2.2.2.2.2.2.2.2.2.2.2.2.2.2.2.2.2.2.2.2.2.2.2.2.1, hR.2.2.2.2.2.2.2.2.2.2.2.2.2.2.2.2.2.2.2.2.2.2.2.2.2.2.2.2.2.2.2.2.2.2.1, hR.2.2.2.2.2.2.2.2.2.2.2.2.2.2.2.2.2.2.2.2.2.2.2.2.2.2.2.2.2.2.2.2.2.2.2, hW0, e1, ↓lt_e, ↓gd_e, ↓Option.bind_some, ↓reduceIte, if_true, if_false, if_pT, if_nF, decide_true, Bool.not_true, Bool.not_false, not_true_eq_false, not_false_eq_true, Bool.false_eq_true, Bool.true_eq_false, eq_self, n3_lit, n3_add, n3_mul, n3_sub, n3_tn, n3_le_t, n3_le_f, n3_lt_t, n3_lt_f, n3_eq_f, n3_eq_t, n3_inb, n3_rem, n3_div, n3_zb, bb_0, bb_1, zb_bb, bb_T, bb_F, n3_dec, n3_m1, n3_eqm, n3_eqmt, n3_ltm, n3_mlt, n3_lem, n3_mle, n3_neg_lt, n3_nlt_neg, n3_nle_neg, n3_neg_le, lp_X12_first_33]
      generalize busF F = all at ha ha8 hb0 hT
      have hyr := yt_rec F all 0 (by omega)
      rcases mnS_spec (lft all 0) (fun s => cstF F 0 s + ytF F all (0 ||| 2 ^ s)) 8 (by omega) with ⟨a1, a2⟩ | ⟨a1, a2, a3, a4, a5⟩
      · exact absurd (lft_all (Sub.zero all) a2 ha8).symm hb0
      · generalize hc : (mnS (lft all 0) (fun s => cstF F 0 s + ytF F all (0 ||| 2 ^ s)) 8).2 = c at a1 a2 a3 a5
        rw [← hyr] at a3 a4 a5
        have step : ∀ s, s < 8 → ∀ μ2, Fr ad (fun i => i = 189 ∨ i = 193) μ0 μ2 → (∀ e, e < 256 → Sub e all → μ2.1 (ad 193) e = n3 (ytF F all e)) → ∀ k, ∃ μ3, Fr ad (fun i => i = 189) μ2 μ3 ∧ bd_X12_first_33 N Λ μ2 k (ad 181) (n3 all) (n3 s) = if lft all 0 s = true ∧ cstF F 0 s + ytF F all (0 ||| 2 ^ s) = ytF F all 0 then some (n3 s, μ3) else k (n3 (s + 1), μ3) := by
          intro s hs μ2 hf2 hT2 k
          have hW2 : Row μ2 (ad 182) 1222 F := hW0.fr hf2 (by omega)
          have hl0 : lft all 0 s = all.testBit s := by unfold lft; rw [Nat.zero_testBit]; cases all.testBit s <;> rfl
          by_cases hbit : all.testBit s = true
          · have hsF := ha.bit hbit
            have hor := or_lt8 (d := 0) (by omega) hs
            have hYs := hT2 (0 ||| 2 ^ s) hor ((Sub.zero all).or hbit)
            have hyb := yt_B hw hl (show 0 < F 6 by omega) ha hor
            have hyb0 := yt_B hw hl (show 0 < F 6 by omega) ha (d := 0) (by omega)
            obtain ⟨μ3, e3, f3⟩ := r_costNext hN hR hW2 hj hw hl (by omega) (d := 0) (by omega) hsF hYs hyb
            have hz : μ3.1 (ad 193) 0 = n3 (ytF F all 0) := by rw [(f3 193 (by omega)).1]; exact hT2 0 (by omega) (Sub.zero all)
            have hcl := cst_le (d := 0) hw hl hsF (show 0 < F 6 by omega)
            refine ⟨μ3, f3, ?_⟩
            by_cases hv : cstF F 0 s + ytF F all (0 ||| 2 ^ s) = ytF F all 0
            · rw [if_pos ⟨by rw [hl0]; exact hbit, hv⟩]
              rw [hv] at e3
              simp (disch := omega) only [bd_X12_first_33, r_has, hbit, e3, ↓ob (hR.1), ↓ob (hR.2.1), ↓ob (hR.2.2.1), ↓ob (hR.2.2.2.1), ↓ob (hR.2.2.2.2.1), ↓ob (hR.2.2.2.2.2.1), ↓ob (hR.2.2.2.2.2.2.1), ↓ob (hR.2.2.2.2.2.2.2.1), ↓ob (hR.2.2.2.2.2.2.2.2.1), ↓ob (hR.2.2.2.2.2.2.2.2.2.1), ↓ob (hR.2.2.2.2.2.2.2.2.2.2.1), ↓ob (hR.2.2.2.2.2.2.2.2.2.2.2.1), ↓ob (hR.2.2.2.2.2.2.2.2.2.2.2.2.1), ↓ob (hR.2.2.2.2.2.2.2.2.2.2.2.2.2.1), ↓ob (hR.2.2.2.2.2.2.2.2.2.2.2.2.2.2.1), ↓ob (hR.2.2.2.2.2.2.2.2.2.2.2.2.2.2.2.1), ↓ob (hR.2.2.2.2.2.2.2.2.2.2.2.2.2.2.2.2.1), ↓ob (hR.2.2.2.2.2.2.2.2.2.2.2.2.2.2.2.2.2.1), hR.2.2.2.2.2.2.2.2.2.2.2.2.2.2.2.2.2.2.1, hR.2.2.2.2.2.2.2.2.2.2.2.2.2.2.2.2.2.2.2.1, hR.2.2.2.2.2.2.2.2.2.2.2.2.2.2.2.2.2.2.2.2.1, hR.2.2.2.2.2.2.2.2.2.2.2.2.2.2.2.2.2.2.2.2.2.1, hR.2.2.2.2.2.2.2.2.2.2.2.2.2.2.2.2.2.2.2.2.2.2.1, hR.2.2.2.2.2.2.2.2.2.2.2.2.2.2.2.2.2.2.2.2.2.2.2.1, hR.2.2.2.2.2.2.2.2.2.2.2.2.2.2.2.2.2.2.2.2.2.2.2.2.1, hR.2.2.2.2.2.2.2.2.2.2.2.2.2.2.2.2.2.2.2.2.2.2.2.2.2.1, hR.2.2.2.2.2.2.2.2.2.2.2.2.2.2.2.2.2.2.2.2.2.2.2.2.2.2.1, hR.2.2.2.2.2.2.2.2.2.2.2.2.2.2.2.2.2.2.2.2.2.2.2.2.2.2.2.1, hR.2.2.2.2.2.2.2.2.2.2.2.2.2.2.2.2.2.2.2.2.2.2.2.2.2.2.2.2.1, hR.2.2.2.2.2.2.2.2.2.2.2.2.2.2.2.2.2.2.2.2.2.2.2.2.2.2.2.2.2.1, hR.2.2.2.2.2.2.2.2.2.2.2.2.2.2.2.2.2.2.2.2.2.2.2.2.2.2.2.2.2.2.1, hR.2.2.2.2.2.2.2.2.2.2.2.2.2.2.2.2.2.2.2.2.2.2.2.2.2.2.2.2.2.2.2.1, hR.2.2.2.2.2.2.2.2.2.2.2.2.2.2.2.2.2.2.2.2.2.2.2.2.2.2.2.2.2.2.2.2.1, hR.2.2.2.2.2.2.2.2.2.2.2.2.2.2.2.2.2.2.2.2.2.2.2.2.2.2.2.2.2.2.2.2.2.1, hR.2.2.2.2.2.2.2.2.2.2.2.2.2.2.2.2.2.2.2.2.2.2.2.2.2.2.2.2.2.2.2.2.2.2.1, hR.2.2.2.2.2.2.2.2.2.2.2.2.2.2.2.2.2.2.2.2.2.2.2.2.2.2.2.2.2.2.2.2.2.2.2, hz, ↓lt_e, ↓gd_e, ↓Option.bind_some, ↓reduceIte, if_true, if_false, if_pT, if_nF, decide_true, Bool.not_true, Bool.not_false, not_true_eq_false, not_false_eq_true, Bool.false_eq_true, Bool.true_eq_false, eq_self, n3_lit, n3_add, n3_mul, n3_sub, n3_tn, n3_le_t, n3_le_f, n3_lt_t, n3_lt_f, n3_eq_f, n3_eq_t, n3_inb, n3_rem, n3_div, n3_zb, bb_0, bb_1, zb_bb, bb_T, bb_F, n3_dec, n3_m1, n3_eqm, n3_eqmt, n3_ltm, n3_mlt, n3_lem, n3_mle, n3_neg_lt, n3_nlt_neg, n3_nle_neg, n3_neg_le]
            · rw [if_neg (fun hh => hv hh.2)]
              simp (disch := omega) only [bd_X12_first_33, jn_X12_first_56, r_has, hbit, e3, ↓ob (hR.1), ↓ob (hR.2.1), ↓ob (hR.2.2.1), ↓ob (hR.2.2.2.1), ↓ob (hR.2.2.2.2.1), ↓ob (hR.2.2.2.2.2.1), ↓ob (hR.2.2.2.2.2.2.1), ↓ob (hR.2.2.2.2.2.2.2.1), ↓ob (hR.2.2.2.2.2.2.2.2.1), ↓ob (hR.2.2.2.2.2.2.2.2.2.1), ↓ob (hR.2.2.2.2.2.2.2.2.2.2.1), ↓ob (hR.2.2.2.2.2.2.2.2.2.2.2.1), ↓ob (hR.2.2.2.2.2.2.2.2.2.2.2.2.1), ↓ob (hR.2.2.2.2.2.2.2.2.2.2.2.2.2.1), ↓ob (hR.2.2.2.2.2.2.2.2.2.2.2.2.2.2.1), ↓ob (hR.2.2.2.2.2.2.2.2.2.2.2.2.2.2.2.1), ↓ob (hR.2.2.2.2.2.2.2.2.2.2.2.2.2.2.2.2.1), ↓ob (hR.2.2.2.2.2.2.2.2.2.2.2.2.2.2.2.2.2.1), hR.2.2.2.2.2.2.2.2.2.2.2.2.2.2.2.2.2.2.1, hR.2.2.2.2.2.2.2.2.2.2.2.2.2.2.2.2.2.2.2.1, hR.2.2.2.2.2.2.2.2.2.2.2.2.2.2.2.2.2.2.2.2.1, hR.2.2.2.2.2.2.2.2.2.2.2.2.2.2.2.2.2.2.2.2.2.1, hR.2.2.2.2.2.2.2.2.2.2.2.2.2.2.2.2.2.2.2.2.2.2.1, hR.2.2.2.2.2.2.2.2.2.2.2.2.2.2.2.2.2.2.2.2.2.2.2.1, hR.2.2.2.2.2.2.2.2.2.2.2.2.2.2.2.2.2.2.2.2.2.2.2.2.1, hR.2.2.2.2.2.2.2.2.2.2.2.2.2.2.2.2.2.2.2.2.2.2.2.2.2.1, hR.2.2.2.2.2.2.2.2.2.2.2.2.2.2.2.2.2.2.2.2.2.2.2.2.2.2.1, hR.2.2.2.2.2.2.2.2.2.2.2.2.2.2.2.2.2.2.2.2.2.2.2.2.2.2.2.1, hR.2.2.2.2.2.2.2.2.2.2.2.2.2.2.2.2.2.2.2.2.2.2.2.2.2.2.2.2.1, hR.2.2.2.2.2.2.2.2.2.2.2.2.2.2.2.2.2.2.2.2.2.2.2.2.2.2.2.2.2.1, hR.2.2.2.2.2.2.2.2.2.2.2.2.2.2.2.2.2.2.2.2.2.2.2.2.2.2.2.2.2.2.1, hR.2.2.2.2.2.2.2.2.2.2.2.2.2.2.2.2.2.2.2.2.2.2.2.2.2.2.2.2.2.2.2.1, hR.2.2.2.2.2.2.2.2.2.2.2.2.2.2.2.2.2.2.2.2.2.2.2.2.2.2.2.2.2.2.2.2.1, hR.2.2.2.2.2.2.2.2.2.2.2.2.2.2.2.2.2.2.2.2.2.2.2.2.2.2.2.2.2.2.2.2.2.1, hR.2.2.2.2.2.2.2.2.2.2.2.2.2.2.2.2.2.2.2.2.2.2.2.2.2.2.2.2.2.2.2.2.2.2.1, hR.2.2.2.2.2.2.2.2.2.2.2.2.2.2.2.2.2.2.2.2.2.2.2.2.2.2.2.2.2.2.2.2.2.2.2, hz, ↓lt_e, ↓gd_e, ↓Option.bind_some, ↓reduceIte, if_true, if_false, if_pT, if_nF, decide_true, Bool.not_true, Bool.not_false, not_true_eq_false, not_false_eq_true, Bool.false_eq_true, Bool.true_eq_false, eq_self, n3_lit, n3_add, n3_mul, n3_sub, n3_tn, n3_le_t, n3_le_f, n3_lt_t, n3_lt_f, n3_eq_f, n3_eq_t, n3_inb, n3_rem, n3_div, n3_zb, bb_0, bb_1, zb_bb, bb_T, bb_F, n3_dec, n3_m1, n3_eqm, n3_eqmt, n3_ltm, n3_mlt, n3_lem, n3_mle, n3_neg_lt, n3_nlt_neg, n3_nle_neg, n3_neg_le]
          · refine ⟨μ2, Fr.refl μ2, ?_⟩
            rw [if_neg (fun hh => hbit (by rw [← hl0]; exact hh.1))]
            simp (disch := omega) only [bd_X12_first_33, jn_X12_first_56, r_has, hbit, ↓ob (hR.1), ↓ob (hR.2.1), ↓ob (hR.2.2.1), ↓ob (hR.2.2.2.1), ↓ob (hR.2.2.2.2.1), ↓ob (hR.2.2.2.2.2.1), ↓ob (hR.2.2.2.2.2.2.1), ↓ob (hR.2.2.2.2.2.2.2.1), ↓ob (hR.2.2.2.2.2.2.2.2.1), ↓ob (hR.2.2.2.2.2.2.2.2.2.1), ↓ob (hR.2.2.2.2.2.2.2.2.2.2.1), ↓ob (hR.2.2.2.2.2.2.2.2.2.2.2.1), ↓ob (hR.2.2.2.2.2.2.2.2.2.2.2.2.1), ↓ob (hR.2.2.2.2.2.2.2.2.2.2.2.2.2.1), ↓ob (hR.2.2.2.2.2.2.2.2.2.2.2.2.2.2.1), ↓ob (hR.2.2.2.2.2.2.2.2.2.2.2.2.2.2.2.1), ↓ob (hR.2.2.2.2.2.2.2.2.2.2.2.2.2.2.2.2.1), ↓ob (hR.2.2.2.2.2.2.2.2.2.2.2.2.2.2.2.2.2.1), hR.2.2.2.2.2.2.2.2.2.2.2.2.2.2.2.2.2.2.1, hR.2.2.2.2.2.2.2.2.2.2.2.2.2.2.2.2.2.2.2.1, hR.2.2.2.2.2.2.2.2.2.2.2.2.2.2.2.2.2.2.2.2.1, hR.2.2.2.2.2.2.2.2.2.2.2.2.2.2.2.2.2.2.2.2.2.1, hR.2.2.2.2.2.2.2.2.2.2.2.2.2.2.2.2.2.2.2.2.2.2.1, hR.2.2.2.2.2.2.2.2.2.2.2.2.2.2.2.2.2.2.2.2.2.2.2.1, hR.2.2.2.2.2.2.2.2.2.2.2.2.2.2.2.2.2.2.2.2.2.2.2.2.1, hR.2.2.2.2.2.2.2.2.2.2.2.2.2.2.2.2.2.2.2.2.2.2.2.2.2.1, hR.2.2.2.2.2.2.2.2.2.2.2.2.2.2.2.2.2.2.2.2.2.2.2.2.2.2.1, hR.2.2.2.2.2.2.2.2.2.2.2.2.2.2.2.2.2.2.2.2.2.2.2.2.2.2.2.1, hR.2.2.2.2.2.2.2.2.2.2.2.2.2.2.2.2.2.2.2.2.2.2.2.2.2.2.2.2.1, hR.2.2.2.2.2.2.2.2.2.2.2.2.2.2.2.2.2.2.2.2.2.2.2.2.2.2.2.2.2.1, hR.2.2.2.2.2.2.2.2.2.2.2.2.2.2.2.2.2.2.2.2.2.2.2.2.2.2.2.2.2.2.1, hR.2.2.2.2.2.2.2.2.2.2.2.2.2.2.2.2.2.2.2.2.2.2.2.2.2.2.2.2.2.2.2.1, hR.2.2.2.2.2.2.2.2.2.2.2.2.2.2.2.2.2.2.2.2.2.2.2.2.2.2.2.2.2.2.2.2.1, hR.2.2.2.2.2.2.2.2.2.2.2.2.2.2.2.2.2.2.2.2.2.2.2.2.2.2.2.2.2.2.2.2.2.1, hR.2.2.2.2.2.2.2.2.2.2.2.2.2.2.2.2.2.2.2.2.2.2.2.2.2.2.2.2.2.2.2.2.2.2.1, hR.2.2.2.2.2.2.2.2.2.2.2.2.2.2.2.2.2.2.2.2.2.2.2.2.2.2.2.2.2.2.2.2.2.2.2, ↓lt_e, ↓gd_e, ↓Option.bind_some, ↓reduceIte, if_true, if_false, if_pT, if_nF, decide_true, Bool.not_true, Bool.not_false, not_true_eq_false, not_false_eq_true, Bool.false_eq_true, Bool.true_eq_false, eq_self, n3_lit, n3_add, n3_mul, n3_sub, n3_tn, n3_le_t, n3_le_f, n3_lt_t, n3_lt_f, n3_eq_f, n3_eq_t, n3_inb, n3_rem, n3_div, n3_zb, bb_0, bb_1, zb_bb, bb_T, bb_F, n3_dec, n3_m1, n3_eqm, n3_eqmt, n3_ltm, n3_mlt, n3_lem, n3_mle, n3_neg_lt, n3_nlt_neg, n3_nle_neg, n3_neg_le]
        refine cw_ik (P := fun s x => ∃ μ2 : Mem, x = (n3 s, μ2) ∧ (∀ e, e < 256 → Sub e all → μ2.1 (ad 193) e = n3 (ytF F all e)) ∧ Fr ad (fun i => i = 189 ∨ i = 193) μ0 μ2) (Q := fun X => RV ad μ0 X 0 (n3 c) F m A b J T n f) c ⟨μ1, rfl, hT, f1⟩ (fun s hs x hx k => ?_) (fun x hx k => ?_) (show c < N by omega)
        · obtain ⟨μ2, rfl, hT2, hf2⟩ := hx
          left
          obtain ⟨μ3, f3, e3⟩ := step s (by omega) μ2 hf2 hT2 k
          refine ⟨_, ⟨μ3, rfl, fun e h1 h2 => by rw [(f3 193 (by omega)).1]; exact hT2 e h1 h2, hf2.trans (f3.mono (fun i hi => Or.inl hi))⟩, ?_⟩
          rw [if_neg (fun hh => by have h5 : ytF F all 0 < cstF F 0 s + ytF F all (0 ||| 2 ^ s) := a5 s hs hh.1; omega)] at e3
          exact e3
        · obtain ⟨μ2, rfl, hT2, hf2⟩ := hx
          obtain ⟨μ3, f3, e3⟩ := step c a1 μ2 hf2 hT2 k
          rw [if_pos ⟨a2, a3⟩] at e3
          exact RV.scr h0 t0 ((hf2.trans (f3.mono (fun i hi => Or.inl hi))).mono (fun i hi => by unfold ScX; omega)) e3

theorem CQ.gap {ad : Nat → Nat} {μ : Mem} {T : Nat → Int32} {r p lo : Nat} (h : CQ ad μ T r p (372 * lo)) (hl : lo ≤ 30) : CQ ad μ T r p (372 * lo + 12 * lo) := by
  obtain ⟨a1, a2, a3, a4⟩ := h
  have hs : ∀ k, k < 12 * lo → ftc T (372 * lo + k) r = false := fun k hk => ftc_skip (by omega) r
  refine ⟨?_, ?_, a3, fun h w v hw hv => ?_⟩
  · rw [a1, ctP_gap (p := fun c => ftc T c r) (12 * lo) hs]
  · rw [a2, fsu_gap (p := fun c => ftc T c r) (12 * lo) (by omega) hs]
  · rw [a4 h w v hw hv, ctP_gap (p := prP T r w v) (12 * lo) (fun k hk => prP_f (hs k hk))]
theorem c_search {N : Nat} (hN : 1099511627776 ≤ N) {Λ : Lay} {ad : Nat → Nat} {μ : Mem} (hj : Inj ad) (hQ : LyQ Λ ad) {T : Nat → Int32} {r p : Nat} (hr : r ≤ 20) (hp : p ≤ 1) (hT : ∀ k, k < r → u3 (T (2 * k)) < 100 ∧ u3 (T (2 * k + 1)) < 31) (hq : CQ0 ad μ T r) : ∃ μ', m_X0_search N Λ μ (ad 166) (n3 p) = some μ' ∧ CQ ad μ' T r p 11532 ∧ Fr ad (fun i => 166 ≤ i ∧ i ≤ 170) μ μ' := by
  have f0 : Fr ad (fun i => i = 166) μ (mset (mset μ (ad 166) 0 (n3 0)) (ad 166) 1 (n3 4294967295)) := ((Fr.refl μ).set hj (by rfl)).set hj (by rfl)
  have c0 : (mset (mset μ (ad 166) 0 (n3 0)) (ad 166) 1 (n3 4294967295)).1 (ad 166) 0 = n3 0 := by rw [msn (by omega), mse]
  have c1 : (mset (mset μ (ad 166) 0 (n3 0)) (ad 166) 1 (n3 4294967295)).1 (ad 166) 1 = n3 4294967295 := mse _ _ _ _
  have c2 : (mset (mset μ (ad 166) 0 (n3 0)) (ad 166) 1 (n3 4294967295)).1 (ad 166) 2 = μ.1 (ad 166) 2 := by rw [msn (by omega), msn (by omega)]
  have es : m_X0_search N Λ μ (ad 166) (n3 p) = lp_X0_search_12 N Λ (ad 166) (n3 p) (n3 0, mset (mset μ (ad 166) 0 (n3 0)) (ad 166) 1 (n3 4294967295)) := by
    unfold m_X0_search; rw [n3_lit 1, n3_neg1]; rfl
  rw [es]
  generalize mset (mset μ (ad 166) 0 (n3 0)) (ad 166) 1 (n3 4294967295) = μ0 at f0 c0 c1 c2
  unfold lp_X0_search_12
  refine cw_iv (P := fun i s => ∃ μ1 : Mem, s = (n3 i, μ1) ∧ Row μ1 (ad 170) i (fun _ => 0) ∧ Fr ad (fun i => i = 170) μ0 μ1) (Q := fun X => ∃ μ', X = some μ' ∧ CQ ad μ' T r p 11532 ∧ Fr ad (fun i => 166 ≤ i ∧ i ≤ 170) μ μ') 372 ⟨μ0, rfl, fun k hk => absurd hk (Nat.not_lt_zero k), Fr.refl μ0⟩ (fun i hi' s hs => ?_) (fun s hs => ?_) (show 372 < N by omega)
  · obtain ⟨μ1, rfl, hb, hf⟩ := hs
    left
    refine ⟨_, ⟨mset μ1 (ad 170) i (n3 0), rfl, hb.ad1 rfl, hf.set hj (by rfl)⟩, fun k => ?_⟩
    simp (disch := omega) only [bd_X0_search_12, ↓ob (hQ.1), ↓ob (hQ.2.1), ↓ob (hQ.2.2.1), ↓ob (hQ.2.2.2.1), hQ.2.2.2.2.1, hQ.2.2.2.2.2.1, hQ.2.2.2.2.2.2.1, hQ.2.2.2.2.2.2.2.1, ↓ob (hQ.2.2.2.2.2.2.2.2.1), ↓ob (hQ.2.2.2.2.2.2.2.2.2.1), ↓ob (hQ.2.2.2.2.2.2.2.2.2.2.1), hQ.2.2.2.2.2.2.2.2.2.2.2.1, hQ.2.2.2.2.2.2.2.2.2.2.2.2.1, hQ.2.2.2.2.2.2.2.2.2.2.2.2.2.1, ↓ob (hQ.2.2.2.2.2.2.2.2.2.2.2.2.2.2.1), ↓ob (hQ.2.2.2.2.2.2.2.2.2.2.2.2.2.2.2.1), ↓ob (hQ.2.2.2.2.2.2.2.2.2.2.2.2.2.2.2.2.1), ↓ob (hQ.2.2.2.2.2.2.2.2.2.2.2.2.2.2.2.2.2.1), ↓ob (hQ.2.2.2.2.2.2.2.2.2.2.2.2.2.2.2.2.2.2.1), hQ.2.2.2.2.2.2.2.2.2.2.2.2.2.2.2.2.2.2.2.1, hQ.2.2.2.2.2.2.2.2.2.2.2.2.2.2.2.2.2.2.2.2.1, hQ.2.2.2.2.2.2.2.2.2.2.2.2.2.2.2.2.2.2.2.2.2.1, hQ.2.2.2.2.2.2.2.2.2.2.2.2.2.2.2.2.2.2.2.2.2.2.1, hQ.2.2.2.2.2.2.2.2.2.2.2.2.2.2.2.2.2.2.2.2.2.2.2, ↓lt_e, ↓gd_e, ↓Option.bind_some, ↓reduceIte, if_true, if_false, if_pT, if_nF, decide_true, Bool.not_true, Bool.not_false, not_true_eq_false, not_false_eq_true, Bool.false_eq_true, Bool.true_eq_false, eq_self, n3_lit, n3_add, n3_mul, n3_sub, n3_tn, n3_le_t, n3_le_f, n3_lt_t, n3_lt_f, n3_eq_f, n3_eq_t, n3_inb, n3_rem, n3_div, n3_zb, bb_0, bb_1, zb_bb, bb_T, bb_F, n3_dec, n3_m1, n3_eqm, n3_eqmt, n3_ltm, n3_mlt, n3_lem, n3_mle, n3_neg_lt, n3_nlt_neg, n3_nle_neg, n3_neg_le]
  · obtain ⟨μ1, rfl, hb, hf⟩ := hs
    have es2 : ∀ k, bd_X0_search_12 N Λ μ1 k (ad 166) (n3 p) (n3 372) = lp_X0_search_34 N Λ (ad 166) (n3 p) (n3 0, μ1) := fun k => by
      simp (disch := omega) only [bd_X0_search_12, ↓lt_e, ↓gd_e, ↓Option.bind_some, ↓reduceIte, if_true, if_false, if_pT, if_nF, decide_true, Bool.not_true, Bool.not_false, not_true_eq_false, not_false_eq_true, Bool.false_eq_true, Bool.true_eq_false, eq_self, n3_lit, n3_add, n3_mul, n3_sub, n3_tn, n3_le_t, n3_le_f, n3_lt_t, n3_lt_f, n3_eq_f, n3_eq_t, n3_inb, n3_rem, n3_div, n3_zb, bb_0, bb_1, zb_bb, bb_T, bb_F, n3_dec, n3_m1, n3_eqm, n3_eqmt, n3_ltm, n3_mlt, n3_lem, n3_mle, n3_neg_lt, n3_nlt_neg, n3_nle_neg, n3_neg_le]
    refine ⟨_, ?_, es2⟩
    have q6 := (hf 166 (by omega)).1
    have hff : Fr ad (fun i => 166 ≤ i ∧ i ≤ 170) μ μ1 := (f0.mono (fun i hi => by omega)).trans (hf.mono (fun i hi => by omega))
    have hq1 : CQ ad μ1 T r p (372 * 0) := ⟨by rw [q6]; exact c0, by rw [q6]; exact c1, (hq.fr f0 c2 (by omega) (by omega)).fr hf (by rw [q6]) (by omega) (by omega), fun _ w v hw hv => hb (w * 31 + v) (by omega)⟩
    unfold lp_X0_search_34
    refine cw_ik (P := fun lo s => ∃ μ2 : Mem, s = (n3 lo, μ2) ∧ CQ ad μ2 T r p (372 * lo) ∧ Fr ad (fun i => 166 ≤ i ∧ i ≤ 170) μ μ2) (Q := fun X => ∃ μ', X = some μ' ∧ CQ ad μ' T r p 11532 ∧ Fr ad (fun i => 166 ≤ i ∧ i ≤ 170) μ μ') 31 ⟨μ1, rfl, hq1, hff⟩ (fun lo hlo s hs k => ?_) (fun s hs k => ?_) (show 31 < N by omega)
    · obtain ⟨μ2, rfl, hq2, hf2⟩ := hs
      left
      have e4 : bd_X0_search_34 N Λ μ2 k (ad 166) (n3 p) (n3 lo) = lp_X0_search_42 N Λ k (ad 166) (n3 p) (n3 lo) (n3 (lo + 0), μ2) := by
        simp (disch := omega) only [bd_X0_search_34, ↓lt_e, ↓gd_e, ↓Option.bind_some, ↓reduceIte, if_true, if_false, if_pT, if_nF, decide_true, Bool.not_true, Bool.not_false, not_true_eq_false, not_false_eq_true, Bool.false_eq_true, Bool.true_eq_false, eq_self, n3_lit, n3_add, n3_mul, n3_sub, n3_tn, n3_le_t, n3_le_f, n3_lt_t, n3_lt_f, n3_eq_f, n3_eq_t, n3_inb, n3_rem, n3_div, n3_zb, bb_0, bb_1, zb_bb, bb_T, bb_F, n3_dec, n3_m1, n3_eqm, n3_eqmt, n3_ltm, n3_mlt, n3_lem, n3_mle, n3_neg_lt, n3_nlt_neg, n3_nle_neg, n3_neg_le, Nat.add_zero]
      show ∃ s', _ ∧ bd_X0_search_34 N Λ μ2 k (ad 166) (n3 p) (n3 lo) = k s'
      rw [e4]
      unfold lp_X0_search_42
      refine cw_ik (P := fun d s => ∃ μ3 : Mem, s = (n3 (lo + d), μ3) ∧ CQ ad μ3 T r p (372 * lo + 12 * (lo + d)) ∧ Fr ad (fun i => 166 ≤ i ∧ i ≤ 170) μ μ3) (Q := fun X => ∃ s' : Int32 × Mem, (∃ μ3 : Mem, s' = (n3 (lo + 1), μ3) ∧ CQ ad μ3 T r p (372 * (lo + 1)) ∧ Fr ad (fun i => 166 ≤ i ∧ i ≤ 170) μ μ3) ∧ X = k s') (31 - lo) ⟨μ2, rfl, hq2.gap (by omega), hf2⟩ (fun d hd s hs k' => ?_) (fun s hs k' => ?_) (show 31 - lo < N by omega)
      · obtain ⟨μ3, rfl, hq3, hf3⟩ := hs
        left
        obtain ⟨μ4, e5, hq4, hf4⟩ := c_searchLate hN hj hQ (show lo ≤ lo + d by omega) (show lo + d ≤ 30 by omega) hr hp hT hq3
        refine ⟨_, ⟨μ4, rfl, ?_, hf3.trans (hf4.mono (fun i hi => by omega))⟩, ?_⟩
        · rw [show 372 * lo + 12 * (lo + (d + 1)) = 372 * lo + 12 * (lo + d) + 12 by omega]; exact hq4
        · simp (disch := omega) only [bd_X0_search_42, e5, ↓lt_e, ↓gd_e, ↓Option.bind_some, ↓reduceIte, if_true, if_false, if_pT, if_nF, decide_true, Bool.not_true, Bool.not_false, not_true_eq_false, not_false_eq_true, Bool.false_eq_true, Bool.true_eq_false, eq_self, n3_lit, n3_add, n3_mul, n3_sub, n3_tn, n3_le_t, n3_le_f, n3_lt_t, n3_lt_f, n3_eq_f, n3_eq_t, n3_inb, n3_rem, n3_div, n3_zb, bb_0, bb_1, zb_bb, bb_T, bb_F, n3_dec, n3_m1, n3_eqm, n3_eqmt, n3_ltm, n3_mlt, n3_lem, n3_mle, n3_neg_lt, n3_nlt_neg, n3_nle_neg, n3_neg_le, Nat.add_assoc]
      · obtain ⟨μ3, rfl, hq3, hf3⟩ := hs
        refine ⟨_, ⟨μ3, rfl, ?_, hf3⟩, ?_⟩
        · rw [show 372 * (lo + 1) = 372 * lo + 12 * (lo + (31 - lo)) by omega]; exact hq3
        · have e31 : lo + (31 - lo) = 31 := by omega
          simp (disch := omega) only [bd_X0_search_42, e31, ↓lt_e, ↓gd_e, ↓Option.bind_some, ↓reduceIte, if_true, if_false, if_pT, if_nF, decide_true, Bool.not_true, Bool.not_false, not_true_eq_false, not_false_eq_true, Bool.false_eq_true, Bool.true_eq_false, eq_self, n3_lit, n3_add, n3_mul, n3_sub, n3_tn, n3_le_t, n3_le_f, n3_lt_t, n3_lt_f, n3_eq_f, n3_eq_t, n3_inb, n3_rem, n3_div, n3_zb, bb_0, bb_1, zb_bb, bb_T, bb_F, n3_dec, n3_m1, n3_eqm, n3_eqmt, n3_ltm, n3_mlt, n3_lem, n3_mle, n3_neg_lt, n3_nlt_neg, n3_nle_neg, n3_neg_le]
    · obtain ⟨μ2, rfl, hq2, hf2⟩ := hs
      refine ⟨μ2, ?_, hq2, hf2⟩
      simp (disch := omega) only [bd_X0_search_34, ↓lt_e, ↓gd_e, ↓Option.bind_some, ↓reduceIte, if_true, if_false, if_pT, if_nF, decide_true, Bool.not_true, Bool.not_false, not_true_eq_false, not_false_eq_true, Bool.false_eq_true, Bool.true_eq_false, eq_self, n3_lit, n3_add, n3_mul, n3_sub, n3_tn, n3_le_t, n3_le_f, n3_lt_t, n3_lt_f, n3_eq_f, n3_eq_t, n3_inb, n3_rem, n3_div, n3_zb, bb_0, bb_1, zb_bb, bb_T, bb_F, n3_dec, n3_m1, n3_eqm, n3_eqmt, n3_ltm, n3_mlt, n3_lem, n3_mle, n3_neg_lt, n3_nlt_neg, n3_nle_neg, n3_neg_le]
theorem c_greatP {N : Nat} (hN : 1099511627776 ≤ N) {Λ : Lay} {ad : Nat → Nat} {μ : Mem} (hQ : LyQ Λ ad) {T : Nat → Int32} {r : Nat} (hq : CQ ad μ T r 1 11532) {w : Nat} (hw : w < 12) : m_X0_greatestPart N Λ μ (ad 166) (n3 w) = some (n3 (gpC T r w)) := by
  unfold m_X0_greatestPart lp_X0_greatestPart_4
  refine cw_it (fun v => (n3 (mxv (fun v => ctP (prP T r w v) 11532) v), n3 v)) 31 rfl (fun v hv k => ?_) (fun k => ?_) (by omega)
  · have a1 := hq.2.2.2 rfl w v hw hv
    have a2 := ctP_le (prP T r w v) 11532
    have a3 := mxv_le (f := fun v => ctP (prP T r w v) 11532) (b := 11532) v (fun v _ => ctP_le (prP T r w v) 11532)
    simp (disch := omega) only [bd_X0_greatestPart_4, ↓ob (hQ.1), ↓ob (hQ.2.1), ↓ob (hQ.2.2.1), ↓ob (hQ.2.2.2.1), hQ.2.2.2.2.1, hQ.2.2.2.2.2.1, hQ.2.2.2.2.2.2.1, hQ.2.2.2.2.2.2.2.1, ↓ob (hQ.2.2.2.2.2.2.2.2.1), ↓ob (hQ.2.2.2.2.2.2.2.2.2.1), ↓ob (hQ.2.2.2.2.2.2.2.2.2.2.1), hQ.2.2.2.2.2.2.2.2.2.2.2.1, hQ.2.2.2.2.2.2.2.2.2.2.2.2.1, hQ.2.2.2.2.2.2.2.2.2.2.2.2.2.1, ↓ob (hQ.2.2.2.2.2.2.2.2.2.2.2.2.2.2.1), ↓ob (hQ.2.2.2.2.2.2.2.2.2.2.2.2.2.2.2.1), ↓ob (hQ.2.2.2.2.2.2.2.2.2.2.2.2.2.2.2.2.1), ↓ob (hQ.2.2.2.2.2.2.2.2.2.2.2.2.2.2.2.2.2.1), ↓ob (hQ.2.2.2.2.2.2.2.2.2.2.2.2.2.2.2.2.2.2.1), hQ.2.2.2.2.2.2.2.2.2.2.2.2.2.2.2.2.2.2.2.1, hQ.2.2.2.2.2.2.2.2.2.2.2.2.2.2.2.2.2.2.2.2.1, hQ.2.2.2.2.2.2.2.2.2.2.2.2.2.2.2.2.2.2.2.2.2.1, hQ.2.2.2.2.2.2.2.2.2.2.2.2.2.2.2.2.2.2.2.2.2.2.1, hQ.2.2.2.2.2.2.2.2.2.2.2.2.2.2.2.2.2.2.2.2.2.2.2, a1, n3_imax, ↓lt_e, ↓gd_e, ↓Option.bind_some, ↓reduceIte, if_true, if_false, if_pT, if_nF, decide_true, Bool.not_true, Bool.not_false, not_true_eq_false, not_false_eq_true, Bool.false_eq_true, Bool.true_eq_false, eq_self, n3_lit, n3_add, n3_mul, n3_sub, n3_tn, n3_le_t, n3_le_f, n3_lt_t, n3_lt_f, n3_eq_f, n3_eq_t, n3_inb, n3_rem, n3_div, n3_zb, bb_0, bb_1, zb_bb, bb_T, bb_F, n3_dec, n3_m1, n3_eqm, n3_eqmt, n3_ltm, n3_mlt, n3_lem, n3_mle, n3_neg_lt, n3_nlt_neg, n3_nle_neg, n3_neg_le, mxv]
  · simp (disch := omega) only [bd_X0_greatestPart_4, ↓lt_e, ↓gd_e, ↓Option.bind_some, ↓reduceIte, if_true, if_false, if_pT, if_nF, decide_true, Bool.not_true, Bool.not_false, not_true_eq_false, not_false_eq_true, Bool.false_eq_true, Bool.true_eq_false, eq_self, n3_lit, n3_add, n3_mul, n3_sub, n3_tn, n3_le_t, n3_le_f, n3_lt_t, n3_lt_f, n3_eq_f, n3_eq_t, n3_inb, n3_rem, n3_div, n3_zb, bb_0, bb_1, zb_bb, bb_T, bb_F, n3_dec, n3_m1, n3_eqm, n3_eqmt, n3_ltm, n3_mlt, n3_lem, n3_mle, n3_neg_lt, n3_nlt_neg, n3_nle_neg, n3_neg_le, gpC]
/-- which hour is asked for -/
def akC (T : Nat → Int32) (r : Nat) : Nat := if ctP (fun c => ftc T c r) 11532 < 2 then 4294967295 else (bsh (gpC T r) 12).1
theorem c_bestHour {N : Nat} (hN : 1099511627776 ≤ N) {Λ : Lay} {ad : Nat → Nat} {μ : Mem} (hQ : LyQ Λ ad) {T : Nat → Int32} {r : Nat} (hq : CQ ad μ T r 1 11532) : m_X0_bestHour N Λ μ (ad 166) = some (n3 (akC T r)) := by
  have a0 := hq.1
  have hle := ctP_le (fun c => ftc T c r) 11532
  unfold akC
  by_cases h2 : ctP (fun c => ftc T c r) 11532 < 2
  · rw [if_pos h2]
    unfold m_X0_bestHour lp_X0_bestHour_9
    rw [lt_e, a0]
    refine cw_it (fun i => (n3 4294967295, n3 (ctP (fun c => ftc T c r) 11532), n3 i)) 0 rfl (fun i hi k => absurd hi (Nat.not_lt_zero i)) (fun k => ?_) (by omega)
    simp (disch := omega) only [bd_X0_bestHour_9, jn_X0_bestHour_52, a0, ↓lt_e, ↓gd_e, ↓Option.bind_some, ↓reduceIte, if_true, if_false, if_pT, if_nF, decide_true, Bool.not_true, Bool.not_false, not_true_eq_false, not_false_eq_true, Bool.false_eq_true, Bool.true_eq_false, eq_self, n3_lit, n3_add, n3_mul, n3_sub, n3_tn, n3_le_t, n3_le_f, n3_lt_t, n3_lt_f, n3_eq_f, n3_eq_t, n3_inb, n3_rem, n3_div, n3_zb, bb_0, bb_1, zb_bb, bb_T, bb_F, n3_dec, n3_m1, n3_eqm, n3_eqmt, n3_ltm, n3_mlt, n3_lem, n3_mle, n3_neg_lt, n3_nlt_neg, n3_nle_neg, n3_neg_le]
  · rw [if_neg h2]
    unfold m_X0_bestHour lp_X0_bestHour_9
    rw [lt_e, a0]
    have g0 : ∀ w, gpC T r w < 100000000 := fun w => by have := gpC_le T r w; omega
    refine cw_it (fun i => (n3 (bsh (gpC T r) i).1, n3 (if i = 0 then ctP (fun c => ftc T c r) 11532 else (bsh (gpC T r) i).2), n3 i)) 12 rfl (fun i hi k => ?_) (fun k => ?_) (by omega)
    · have cg := c_greatP hN hQ hq hi
      have gi := g0 i
      rw [if_neg (Nat.succ_ne_zero i)]
      by_cases h0 : i = 0
      · subst h0
        have b0 : bsh (gpC T r) 0 = (4294967295, 100000000) := rfl
        have b1 : bsh (gpC T r) (0 + 1) = (0, gpC T r 0) := if_pos gi
        rw [b1, b0, if_pos rfl]
        simp (disch := omega) only [bd_X0_bestHour_9, jn_X0_bestHour_41, jn_X0_bestHour_46, a0, cg, ↓lt_e, ↓gd_e, ↓Option.bind_some, ↓reduceIte, if_true, if_false, if_pT, if_nF, decide_true, Bool.not_true, Bool.not_false, not_true_eq_false, not_false_eq_true, Bool.false_eq_true, Bool.true_eq_false, eq_self, n3_lit, n3_add, n3_mul, n3_sub, n3_tn, n3_le_t, n3_le_f, n3_lt_t, n3_lt_f, n3_eq_f, n3_eq_t, n3_inb, n3_rem, n3_div, n3_zb, bb_0, bb_1, zb_bb, bb_T, bb_F, n3_dec, n3_m1, n3_eqm, n3_eqmt, n3_ltm, n3_mlt, n3_lem, n3_mle, n3_neg_lt, n3_nlt_neg, n3_nle_neg, n3_neg_le]
      · have b1 := bsh_1 (g0 0) (i - 1)
        rw [show i - 1 + 1 = i by omega] at b1
        have b2 := bsh_le2 (gpC T r) i
        have b3 := b1.2
        rw [if_neg h0]
        by_cases c : gpC T r i < (bsh (gpC T r) i).2
        · have b4 : bsh (gpC T r) (i + 1) = (i, gpC T r i) := if_pos c
          rw [b4]
          simp (disch := omega) only [bd_X0_bestHour_9, jn_X0_bestHour_41, jn_X0_bestHour_46, a0, cg, ↓lt_e, ↓gd_e, ↓Option.bind_some, ↓reduceIte, if_true, if_false, if_pT, if_nF, decide_true, Bool.not_true, Bool.not_false, not_true_eq_false, not_false_eq_true, Bool.false_eq_true, Bool.true_eq_false, eq_self, n3_lit, n3_add, n3_mul, n3_sub, n3_tn, n3_le_t, n3_le_f, n3_lt_t, n3_lt_f, n3_eq_f, n3_eq_t, n3_inb, n3_rem, n3_div, n3_zb, bb_0, bb_1, zb_bb, bb_T, bb_F, n3_dec, n3_m1, n3_eqm, n3_eqmt, n3_ltm, n3_mlt, n3_lem, n3_mle, n3_neg_lt, n3_nlt_neg, n3_nle_neg, n3_neg_le]
        · have b4 : bsh (gpC T r) (i + 1) = bsh (gpC T r) i := if_neg c
          rw [b4]
          simp (disch := omega) only [bd_X0_bestHour_9, jn_X0_bestHour_41, jn_X0_bestHour_46, a0, cg, ↓lt_e, ↓gd_e, ↓Option.bind_some, ↓reduceIte, if_true, if_false, if_pT, if_nF, decide_true, Bool.not_true, Bool.not_false, not_true_eq_false, not_false_eq_true, Bool.false_eq_true, Bool.true_eq_false, eq_self, n3_lit, n3_add, n3_mul, n3_sub, n3_tn, n3_le_t, n3_le_f, n3_lt_t, n3_lt_f, n3_eq_f, n3_eq_t, n3_inb, n3_rem, n3_div, n3_zb, bb_0, bb_1, zb_bb, bb_T, bb_F, n3_dec, n3_m1, n3_eqm, n3_eqmt, n3_ltm, n3_mlt, n3_lem, n3_mle, n3_neg_lt, n3_nlt_neg, n3_nle_neg, n3_neg_le]
    · simp (disch := omega) only [bd_X0_bestHour_9, jn_X0_bestHour_52, ↓lt_e, ↓gd_e, ↓Option.bind_some, ↓reduceIte, if_true, if_false, if_pT, if_nF, decide_true, Bool.not_true, Bool.not_false, not_true_eq_false, not_false_eq_true, Bool.false_eq_true, Bool.true_eq_false, eq_self, n3_lit, n3_add, n3_mul, n3_sub, n3_tn, n3_le_t, n3_le_f, n3_lt_t, n3_lt_f, n3_eq_f, n3_eq_t, n3_inb, n3_rem, n3_div, n3_zb, bb_0, bb_1, zb_bb, bb_T, bb_F, n3_dec, n3_m1, n3_eqm, n3_eqmt, n3_ltm, n3_mlt, n3_lem, n3_mle, n3_neg_lt, n3_nlt_neg, n3_nle_neg, n3_neg_le]

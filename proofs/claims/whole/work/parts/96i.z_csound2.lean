theorem c_ssearch {N : Nat} (hN : 1099511627776 ≤ N) {Λ : Lay} {ad : Nat → Nat} {μ : Mem} (hj : Inj ad) (hQ : LyQ Λ ad) {T : Nat → Int32} {r : Nat} (hr : r ≤ 20) (hT : ∀ k, k < r → u3 (T (2 * k)) < 24 ∧ u3 (T (2 * k + 1)) < 2) (hq : SQ0 ad μ T r) : ∃ μ', m_X8_search N Λ μ (ad 171) = some μ' ∧ SQ ad μ' T r 288 ∧ Fr ad (fun i => 171 ≤ i ∧ i ≤ 174) μ μ' := by
  have f0 : Fr ad (fun i => i = 171) μ (mset (mset (mset μ (ad 171) 0 (n3 0)) (ad 171) 1 (n3 4294967295)) (ad 171) 2 (n3 2)) := (((Fr.refl μ).set hj (by rfl)).set hj (by rfl)).set hj (by rfl)
  have c0 : (mset (mset (mset μ (ad 171) 0 (n3 0)) (ad 171) 1 (n3 4294967295)) (ad 171) 2 (n3 2)).1 (ad 171) 0 = n3 0 := by rw [msn (by omega), msn (by omega), mse]
  have c1 : (mset (mset (mset μ (ad 171) 0 (n3 0)) (ad 171) 1 (n3 4294967295)) (ad 171) 2 (n3 2)).1 (ad 171) 1 = n3 4294967295 := by rw [msn (by omega), mse]
  have c2 : (mset (mset (mset μ (ad 171) 0 (n3 0)) (ad 171) 1 (n3 4294967295)) (ad 171) 2 (n3 2)).1 (ad 171) 2 = n3 2 := mse _ _ _ _
  have c3 : (mset (mset (mset μ (ad 171) 0 (n3 0)) (ad 171) 1 (n3 4294967295)) (ad 171) 2 (n3 2)).1 (ad 171) 3 = μ.1 (ad 171) 3 := by rw [msn (by omega), msn (by omega), msn (by omega)]
  have es : m_X8_search N Λ μ (ad 171) = lp_X8_search_17 N Λ (ad 171) (n3 0, mset (mset (mset μ (ad 171) 0 (n3 0)) (ad 171) 1 (n3 4294967295)) (ad 171) 2 (n3 2)) := by
    unfold m_X8_search; rw [n3_lit 1, n3_neg1]; rfl
  rw [es]
  generalize mset (mset (mset μ (ad 171) 0 (n3 0)) (ad 171) 1 (n3 4294967295)) (ad 171) 2 (n3 2) = μ0 at f0 c0 c1 c2 c3
  unfold lp_X8_search_17
  refine cw_iv (P := fun i s => ∃ μ1 : Mem, s = (n3 i, μ1) ∧ Row μ1 (ad 174) i (fun _ => 0) ∧ Fr ad (fun i => i = 174) μ0 μ1) (Q := fun X => ∃ μ', X = some μ' ∧ SQ ad μ' T r 288 ∧ Fr ad (fun i => 171 ≤ i ∧ i ≤ 174) μ μ') 24 ⟨μ0, rfl, fun k hk => absurd hk (Nat.not_lt_zero k), Fr.refl μ0⟩ (fun i hi' s hs => ?_) (fun s hs => ?_) (show 24 < N by omega)
  · obtain ⟨μ1, rfl, hb, hf⟩ := hs
    left
    refine ⟨_, ⟨mset μ1 (ad 174) i (n3 0), rfl, hb.ad1 rfl, hf.set hj (by rfl)⟩, fun k => ?_⟩
    simp (disch := omega) only [bd_X8_search_17, ↓ob (hQ.1), ↓ob (hQ.2.1), ↓ob (hQ.2.2.1), ↓ob (hQ.2.2.2.1), hQ.2.2.2.2.1, hQ.2.2.2.2.2.1, hQ.2.2.2.2.2.2.1, hQ.2.2.2.2.2.2.2.1, ↓ob (hQ.2.2.2.2.2.2.2.2.1), ↓ob (hQ.2.2.2.2.2.2.2.2.2.1), ↓ob (hQ.2.2.2.2.2.2.2.2.2.2.1), hQ.2.2.2.2.2.2.2.2.2.2.2.1, hQ.2.2.2.2.2.2.2.2.2.2.2.2.1, hQ.2.2.2.2.2.2.2.2.2.2.2.2.2.1, ↓ob (hQ.2.2.2.2.2.2.2.2.2.2.2.2.2.2.1), ↓ob (hQ.2.2.2.2.2.2.2.2.2.2.2.2.2.2.2.1), ↓ob (hQ.2.2.2.2.2.2.2.2.2.2.2.2.2.2.2.2.1), ↓ob (hQ.2.2.2.2.2.2.2.2.2.2.2.2.2.2.2.2.2.1), ↓ob (hQ.2.2.2.2.2.2.2.2.2.2.2.2.2.2.2.2.2.2.1), hQ.2.2.2.2.2.2.2.2.2.2.2.2.2.2.2.2.2.2.2.1, hQ.2.2.2.2.2.2.2.2.2.2.2.2.2.2.2.2.2.2.2.2.1, hQ.2.2.2.2.2.2.2.2.2.2.2.2.2.2.2.2.2.2.2.2.2.1, hQ.2.2.2.2.2.2.2.2.2.2.2.2.2.2.2.2.2.2.2.2.2.2.1, hQ.2.2.2.2.2.2.2.2.2.2.2.2.2.2.2.2.2.2.2.2.2.2.2, ↓lt_e, ↓gd_e, ↓Option.bind_some, ↓reduceIte, if_true, if_false, if_pT, if_nF, decide_true, Bool.not_true, Bool.not_false, not_true_eq_false, not_false_eq_true, Bool.false_eq_true, Bool.true_eq_false, eq_self, n3_lit, n3_add, n3_mul, n3_sub, n3_tn, n3_le_t, n3_le_f, n3_lt_t, n3_lt_f, n3_eq_f, n3_eq_t, n3_inb, n3_rem, n3_div, n3_zb, bb_0, bb_1, zb_bb, bb_T, bb_F, n3_dec, n3_m1, n3_eqm, n3_eqmt, n3_ltm, n3_mlt, n3_lem, n3_mle, n3_neg_lt, n3_nlt_neg, n3_nle_neg, n3_neg_le]
  · obtain ⟨μ1, rfl, hb, hf⟩ := hs
    have es2 : ∀ k, bd_X8_search_17 N Λ μ1 k (ad 171) (n3 24) = lp_X8_search_38 N Λ (ad 171) (n3 0, μ1) := fun k => by
      simp (disch := omega) only [bd_X8_search_17, ↓lt_e, ↓gd_e, ↓Option.bind_some, ↓reduceIte, if_true, if_false, if_pT, if_nF, decide_true, Bool.not_true, Bool.not_false, not_true_eq_false, not_false_eq_true, Bool.false_eq_true, Bool.true_eq_false, eq_self, n3_lit, n3_add, n3_mul, n3_sub, n3_tn, n3_le_t, n3_le_f, n3_lt_t, n3_lt_f, n3_eq_f, n3_eq_t, n3_inb, n3_rem, n3_div, n3_zb, bb_0, bb_1, zb_bb, bb_T, bb_F, n3_dec, n3_m1, n3_eqm, n3_eqmt, n3_ltm, n3_mlt, n3_lem, n3_mle, n3_neg_lt, n3_nlt_neg, n3_nle_neg, n3_neg_le]
    refine ⟨_, ?_, es2⟩
    have q6 := (hf 171 (by omega)).1
    have hff : Fr ad (fun i => 171 ≤ i ∧ i ≤ 174) μ μ1 := (f0.mono (fun i hi => by omega)).trans (hf.mono (fun i hi => by omega))
    have hq1 : SQ ad μ1 T r (12 * 0) := ⟨by rw [q6]; exact c0, by rw [q6]; exact c1, by rw [q6]; exact c2, (hq.fr f0 c3 (by omega) (by omega)).fr hf (by rw [q6]) (by omega) (by omega), fun i hi => hb i hi⟩
    unfold lp_X8_search_38
    refine cw_ik (P := fun b s => ∃ μ2 : Mem, s = (n3 b, μ2) ∧ SQ ad μ2 T r (12 * b) ∧ Fr ad (fun i => 171 ≤ i ∧ i ≤ 174) μ μ2) (Q := fun X => ∃ μ', X = some μ' ∧ SQ ad μ' T r 288 ∧ Fr ad (fun i => 171 ≤ i ∧ i ≤ 174) μ μ') 24 ⟨μ1, rfl, hq1, hff⟩ (fun b hb' s hs k => ?_) (fun s hs k => ?_) (show 24 < N by omega)
    · obtain ⟨μ2, rfl, hq2, hf2⟩ := hs
      left
      have e4 : bd_X8_search_38 N Λ μ2 k (ad 171) (n3 b) = lp_X8_search_46 N Λ k (ad 171) (n3 b) (n3 (0 + 1), μ2) := by
        simp (disch := omega) only [bd_X8_search_38, ↓lt_e, ↓gd_e, ↓Option.bind_some, ↓reduceIte, if_true, if_false, if_pT, if_nF, decide_true, Bool.not_true, Bool.not_false, not_true_eq_false, not_false_eq_true, Bool.false_eq_true, Bool.true_eq_false, eq_self, n3_lit, n3_add, n3_mul, n3_sub, n3_tn, n3_le_t, n3_le_f, n3_lt_t, n3_lt_f, n3_eq_f, n3_eq_t, n3_inb, n3_rem, n3_div, n3_zb, bb_0, bb_1, zb_bb, bb_T, bb_F, n3_dec, n3_m1, n3_eqm, n3_eqmt, n3_ltm, n3_mlt, n3_lem, n3_mle, n3_neg_lt, n3_nlt_neg, n3_nle_neg, n3_neg_le, Nat.zero_add]
      show ∃ s', _ ∧ bd_X8_search_38 N Λ μ2 k (ad 171) (n3 b) = k s'
      rw [e4]
      unfold lp_X8_search_46
      refine cw_ik (P := fun d s => ∃ μ3 : Mem, s = (n3 (d + 1), μ3) ∧ SQ ad μ3 T r (12 * b + d) ∧ Fr ad (fun i => 171 ≤ i ∧ i ≤ 174) μ μ3) (Q := fun X => ∃ s' : Int32 × Mem, (∃ μ3 : Mem, s' = (n3 (b + 1), μ3) ∧ SQ ad μ3 T r (12 * (b + 1)) ∧ Fr ad (fun i => 171 ≤ i ∧ i ≤ 174) μ μ3) ∧ X = k s') (min 12 (24 - b)) ⟨μ2, rfl, hq2, hf2⟩ (fun d hd s hs k' => ?_) (fun s hs k' => ?_) (show min 12 (24 - b) < N by omega)
      · obtain ⟨μ3, rfl, hq3, hf3⟩ := hs
        left
        obtain ⟨μ4, e5, hq4, hf4⟩ := c_weigh hN hj hQ (show b + (d + 1) ≤ 24 by omega) (show d < 12 by omega) hr hT hq3
        refine ⟨_, ⟨μ4, rfl, hq4, hf3.trans (hf4.mono (fun i hi => by omega))⟩, ?_⟩
        simp (disch := omega) only [bd_X8_search_46, e5, ↓lt_e, ↓gd_e, ↓Option.bind_some, ↓reduceIte, if_true, if_false, if_pT, if_nF, decide_true, Bool.not_true, Bool.not_false, not_true_eq_false, not_false_eq_true, Bool.false_eq_true, Bool.true_eq_false, eq_self, n3_lit, n3_add, n3_mul, n3_sub, n3_tn, n3_le_t, n3_le_f, n3_lt_t, n3_lt_f, n3_eq_f, n3_eq_t, n3_inb, n3_rem, n3_div, n3_zb, bb_0, bb_1, zb_bb, bb_T, bb_F, n3_dec, n3_m1, n3_eqm, n3_eqmt, n3_ltm, n3_mlt, n3_lem, n3_mle, n3_neg_lt, n3_nlt_neg, n3_nle_neg, n3_neg_le]
      · obtain ⟨μ3, rfl, hq3, hf3⟩ := hs
        refine ⟨_, ⟨μ3, rfl, ?_, hf3⟩, ?_⟩
        · have hg := hq3.gap (d := 12 - min 12 (24 - b)) (fun k hk => by
            have e1 : (12 * b + min 12 (24 - b) + k) / 12 = b := by omega
            have e2 : (12 * b + min 12 (24 - b) + k) % 12 = min 12 (24 - b) + k := by omega
            rw [e1, e2]; omega)
          rw [show 12 * (b + 1) = 12 * b + min 12 (24 - b) + (12 - min 12 (24 - b)) by omega]; exact hg
        · by_cases h12 : 12 ≤ 24 - b
          · simp (disch := omega) only [bd_X8_search_46, jn_X8_search_72, ↓lt_e, ↓gd_e, ↓Option.bind_some, ↓reduceIte, if_true, if_false, if_pT, if_nF, decide_true, Bool.not_true, Bool.not_false, not_true_eq_false, not_false_eq_true, Bool.false_eq_true, Bool.true_eq_false, eq_self, n3_lit, n3_add, n3_mul, n3_sub, n3_tn, n3_le_t, n3_le_f, n3_lt_t, n3_lt_f, n3_eq_f, n3_eq_t, n3_inb, n3_rem, n3_div, n3_zb, bb_0, bb_1, zb_bb, bb_T, bb_F, n3_dec, n3_m1, n3_eqm, n3_eqmt, n3_ltm, n3_mlt, n3_lem, n3_mle, n3_neg_lt, n3_nlt_neg, n3_nle_neg, n3_neg_le]
          · simp (disch := omega) only [bd_X8_search_46, jn_X8_search_72, ↓lt_e, ↓gd_e, ↓Option.bind_some, ↓reduceIte, if_true, if_false, if_pT, if_nF, decide_true, Bool.not_true, Bool.not_false, not_true_eq_false, not_false_eq_true, Bool.false_eq_true, Bool.true_eq_false, eq_self, n3_lit, n3_add, n3_mul, n3_sub, n3_tn, n3_le_t, n3_le_f, n3_lt_t, n3_lt_f, n3_eq_f, n3_eq_t, n3_inb, n3_rem, n3_div, n3_zb, bb_0, bb_1, zb_bb, bb_T, bb_F, n3_dec, n3_m1, n3_eqm, n3_eqmt, n3_ltm, n3_mlt, n3_lem, n3_mle, n3_neg_lt, n3_nlt_neg, n3_nle_neg, n3_neg_le]
    · obtain ⟨μ2, rfl, hq2, hf2⟩ := hs
      refine ⟨μ2, ?_, hq2, hf2⟩
      simp (disch := omega) only [bd_X8_search_38, ↓lt_e, ↓gd_e, ↓Option.bind_some, ↓reduceIte, if_true, if_false, if_pT, if_nF, decide_true, Bool.not_true, Bool.not_false, not_true_eq_false, not_false_eq_true, Bool.false_eq_true, Bool.true_eq_false, eq_self, n3_lit, n3_add, n3_mul, n3_sub, n3_tn, n3_le_t, n3_le_f, n3_lt_t, n3_lt_f, n3_eq_f, n3_eq_t, n3_inb, n3_rem, n3_div, n3_zb, bb_0, bb_1, zb_bb, bb_T, bb_F, n3_dec, n3_m1, n3_eqm, n3_eqmt, n3_ltm, n3_mlt, n3_lem, n3_mle, n3_neg_lt, n3_nlt_neg, n3_nle_neg, n3_neg_le]
/-- the greater share where one sounds -/
def gsS (T : Nat → Int32) (r i : Nat) : Nat := max (ctP (cvP T r i) 288) (ctP (slP T r) 288 - ctP (cvP T r i) 288)
theorem cvP_le (T : Nat → Int32) (r i : Nat) (c : Nat) : ctP (cvP T r i) c ≤ ctP (slP T r) c := ctP_mono (fun c h => by
  unfold cvP at h; simp only [Bool.and_eq_true] at h; exact h.1) c
def sdS (T : Nat → Int32) (r : Nat) : Nat := if ctP (slP T r) 288 < 2 then 4294967295 else (bsh (gsS T r) 24).1
theorem c_bestPlace {N : Nat} (hN : 1099511627776 ≤ N) {Λ : Lay} {ad : Nat → Nat} {μ : Mem} (hQ : LyQ Λ ad) {T : Nat → Int32} {r : Nat} (hq : SQ ad μ T r 288) : m_X8_bestPlace N Λ μ (ad 171) = some (n3 (sdS T r)) := by
  have a0 := hq.1
  have hle := ctP_le (slP T r) 288
  unfold sdS
  by_cases h2 : ctP (slP T r) 288 < 2
  · rw [if_pos h2]
    unfold m_X8_bestPlace lp_X8_bestPlace_9
    rw [lt_e, a0]
    refine cw_it (fun i => (n3 4294967295, n3 (ctP (slP T r) 288), n3 i)) 0 rfl (fun i hi k => absurd hi (Nat.not_lt_zero i)) (fun k => ?_) (by omega)
    simp (disch := omega) only [bd_X8_bestPlace_9, jn_X8_bestPlace_67, a0, ↓lt_e, ↓gd_e, ↓Option.bind_some, ↓reduceIte, if_true, if_false, if_pT, if_nF, decide_true, Bool.not_true, Bool.not_false, not_true_eq_false, not_false_eq_true, Bool.false_eq_true, Bool.true_eq_false, eq_self, n3_lit, n3_add, n3_mul, n3_sub, n3_tn, n3_le_t, n3_le_f, n3_lt_t, n3_lt_f, n3_eq_f, n3_eq_t, n3_inb, n3_rem, n3_div, n3_zb, bb_0, bb_1, zb_bb, bb_T, bb_F, n3_dec, n3_m1, n3_eqm, n3_eqmt, n3_ltm, n3_mlt, n3_lem, n3_mle, n3_neg_lt, n3_nlt_neg, n3_nle_neg, n3_neg_le]
  · rw [if_neg h2]
    unfold m_X8_bestPlace lp_X8_bestPlace_9
    rw [lt_e, a0]
    have g0 : ∀ w, gsS T r w < 100000000 := fun w => by have := cvP_le T r w 288; unfold gsS; omega
    refine cw_it (fun i => (n3 (bsh (gsS T r) i).1, n3 (if i = 0 then ctP (slP T r) 288 else (bsh (gsS T r) i).2), n3 i)) 24 rfl (fun i hi k => ?_) (fun k => ?_) (by omega)
    · have cg := hq.2.2.2.2 i hi
      have cl := cvP_le T r i 288
      have gi := g0 i
      have gd' : max (ctP (cvP T r i) 288) (ctP (slP T r) 288 - ctP (cvP T r i) 288) = gsS T r i := rfl
      rw [if_neg (Nat.succ_ne_zero i)]
      by_cases h0 : i = 0
      · subst h0
        have b0 : bsh (gsS T r) 0 = (4294967295, 100000000) := rfl
        have b1 : bsh (gsS T r) (0 + 1) = (0, gsS T r 0) := if_pos gi
        rw [b1, b0, if_pos rfl]
        simp (disch := omega) only [bd_X8_bestPlace_9, jn_X8_bestPlace_56, jn_X8_bestPlace_61, ↓ob (hQ.1), ↓ob (hQ.2.1), ↓ob (hQ.2.2.1), ↓ob (hQ.2.2.2.1), hQ.2.2.2.2.1, hQ.2.2.2.2.2.1, hQ.2.2.2.2.2.2.1, hQ.2.2.2.2.2.2.2.1, ↓ob (hQ.2.2.2.2.2.2.2.2.1), ↓ob (hQ.2.2.2.2.2.2.2.2.2.1), ↓ob (hQ.2.2.2.2.2.2.2.2.2.2.1), hQ.2.2.2.2.2.2.2.2.2.2.2.1, hQ.2.2.2.2.2.2.2.2.2.2.2.2.1, hQ.2.2.2.2.2.2.2.2.2.2.2.2.2.1, ↓ob (hQ.2.2.2.2.2.2.2.2.2.2.2.2.2.2.1), ↓ob (hQ.2.2.2.2.2.2.2.2.2.2.2.2.2.2.2.1), ↓ob (hQ.2.2.2.2.2.2.2.2.2.2.2.2.2.2.2.2.1), ↓ob (hQ.2.2.2.2.2.2.2.2.2.2.2.2.2.2.2.2.2.1), ↓ob (hQ.2.2.2.2.2.2.2.2.2.2.2.2.2.2.2.2.2.2.1), hQ.2.2.2.2.2.2.2.2.2.2.2.2.2.2.2.2.2.2.2.1, hQ.2.2.2.2.2.2.2.2.2.2.2.2.2.2.2.2.2.2.2.2.1, hQ.2.2.2.2.2.2.2.2.2.2.2.2.2.2.2.2.2.2.2.2.2.1, hQ.2.2.2.2.2.2.2.2.2.2.2.2.2.2.2.2.2.2.2.2.2.2.1, hQ.2.2.2.2.2.2.2.2.2.2.2.2.2.2.2.2.2.2.2.2.2.2.2, a0, cg, n3_imax, gd', ↓lt_e, ↓gd_e, ↓Option.bind_some, ↓reduceIte, if_true, if_false, if_pT, if_nF, decide_true, Bool.not_true, Bool.not_false, not_true_eq_false, not_false_eq_true, Bool.false_eq_true, Bool.true_eq_false, eq_self, n3_lit, n3_add, n3_mul, n3_sub, n3_tn, n3_le_t, n3_le_f, n3_lt_t, n3_lt_f, n3_eq_f, n3_eq_t, n3_inb, n3_rem, n3_div, n3_zb, bb_0, bb_1, zb_bb, bb_T, bb_F, n3_dec, n3_m1, n3_eqm, n3_eqmt, n3_ltm, n3_mlt, n3_lem, n3_mle, n3_neg_lt, n3_nlt_neg, n3_nle_neg, n3_neg_le]
      · have b1 := bsh_1 (g0 0) (i - 1)
        rw [show i - 1 + 1 = i by omega] at b1
        have b2 := bsh_le2 (gsS T r) i
        have b3 := b1.2
        rw [if_neg h0]
        by_cases c : gsS T r i < (bsh (gsS T r) i).2
        · have b4 : bsh (gsS T r) (i + 1) = (i, gsS T r i) := if_pos c
          rw [b4]
          simp (disch := omega) only [bd_X8_bestPlace_9, jn_X8_bestPlace_56, jn_X8_bestPlace_61, ↓ob (hQ.1), ↓ob (hQ.2.1), ↓ob (hQ.2.2.1), ↓ob (hQ.2.2.2.1), hQ.2.2.2.2.1, hQ.2.2.2.2.2.1, hQ.2.2.2.2.2.2.1, hQ.2.2.2.2.2.2.2.1, ↓ob (hQ.2.2.2.2.2.2.2.2.1), ↓ob (hQ.2.2.2.2.2.2.2.2.2.1), ↓ob (hQ.2.2.2.2.2.2.2.2.2.2.1), hQ.2.2.2.2.2.2.2.2.2.2.2.1, hQ.2.2.2.2.2.2.2.2.2.2.2.2.1, hQ.2.2.2.2.2.2.2.2.2.2.2.2.2.1, ↓ob (hQ.2.2.2.2.2.2.2.2.2.2.2.2.2.2.1), ↓ob (hQ.2.2.2.2.2.2.2.2.2.2.2.2.2.2.2.1), ↓ob (hQ.2.2.2.2.2.2.2.2.2.2.2.2.2.2.2.2.1), ↓ob (hQ.2.2.2.2.2.2.2.2.2.2.2.2.2.2.2.2.2.1), ↓ob (hQ.2.2.2.2.2.2.2.2.2.2.2.2.2.2.2.2.2.2.1), hQ.2.2.2.2.2.2.2.2.2.2.2.2.2.2.2.2.2.2.2.1, hQ.2.2.2.2.2.2.2.2.2.2.2.2.2.2.2.2.2.2.2.2.1, hQ.2.2.2.2.2.2.2.2.2.2.2.2.2.2.2.2.2.2.2.2.2.1, hQ.2.2.2.2.2.2.2.2.2.2.2.2.2.2.2.2.2.2.2.2.2.2.1, hQ.2.2.2.2.2.2.2.2.2.2.2.2.2.2.2.2.2.2.2.2.2.2.2, a0, cg, n3_imax, gd', ↓lt_e, ↓gd_e, ↓Option.bind_some, ↓reduceIte, if_true, if_false, if_pT, if_nF, decide_true, Bool.not_true, Bool.not_false, not_true_eq_false, not_false_eq_true, Bool.false_eq_true, Bool.true_eq_false, eq_self, n3_lit, n3_add, n3_mul, n3_sub, n3_tn, n3_le_t, n3_le_f, n3_lt_t, n3_lt_f, n3_eq_f, n3_eq_t, n3_inb, n3_rem, n3_div, n3_zb, bb_0, bb_1, zb_bb, bb_T, bb_F, n3_dec, n3_m1, n3_eqm, n3_eqmt, n3_ltm, n3_mlt, n3_lem, n3_mle, n3_neg_lt, n3_nlt_neg, n3_nle_neg, n3_neg_le]
        · have b4 : bsh (gsS T r) (i + 1) = bsh (gsS T r) i := if_neg c
          rw [b4]
          simp (disch := omega) only [bd_X8_bestPlace_9, jn_X8_bestPlace_56, jn_X8_bestPlace_61, ↓ob (hQ.1), ↓ob (hQ.2.1), ↓ob (hQ.2.2.1), ↓ob (hQ.2.2.2.1), hQ.2.2.2.2.1, hQ.2.2.2.2.2.1, hQ.2.2.2.2.2.2.1, hQ.2.2.2.2.2.2.2.1, ↓ob (hQ.2.2.2.2.2.2.2.2.1), ↓ob (hQ.2.2.2.2.2.2.2.2.2.1), ↓ob (hQ.2.2.2.2.2.2.2.2.2.2.1), hQ.2.2.2.2.2.2.2.2.2.2.2.1, hQ.2.2.2.2.2.2.2.2.2.2.2.2.1, hQ.2.2.2.2.2.2.2.2.2.2.2.2.2.1, ↓ob (hQ.2.2.2.2.2.2.2.2.2.2.2.2.2.2.1), ↓ob (hQ.2.2.2.2.2.2.2.2.2.2.2.2.2.2.2.1), ↓ob (hQ.2.2.2.2.2.2.2.2.2.2.2.2.2.2.2.2.1), ↓ob (hQ.2.2.2.2.2.2.2.2.2.2.2.2.2.2.2.2.2.1), ↓ob (hQ.2.2.2.2.2.2.2.2.2.2.2.2.2.2.2.2.2.2.1), hQ.2.2.2.2.2.2.2.2.2.2.2.2.2.2.2.2.2.2.2.1, hQ.2.2.2.2.2.2.2.2.2.2.2.2.2.2.2.2.2.2.2.2.1, hQ.2.2.2.2.2.2.2.2.2.2.2.2.2.2.2.2.2.2.2.2.2.1, hQ.2.2.2.2.2.2.2.2.2.2.2.2.2.2.2.2.2.2.2.2.2.2.1, hQ.2.2.2.2.2.2.2.2.2.2.2.2.2.2.2.2.2.2.2.2.2.2.2, a0, cg, n3_imax, gd', ↓lt_e, ↓gd_e, ↓Option.bind_some, ↓reduceIte, if_true, if_false, if_pT, if_nF, decide_true, Bool.not_true, Bool.not_false, not_true_eq_false, not_false_eq_true, Bool.false_eq_true, Bool.true_eq_false, eq_self, n3_lit, n3_add, n3_mul, n3_sub, n3_tn, n3_le_t, n3_le_f, n3_lt_t, n3_lt_f, n3_eq_f, n3_eq_t, n3_inb, n3_rem, n3_div, n3_zb, bb_0, bb_1, zb_bb, bb_T, bb_F, n3_dec, n3_m1, n3_eqm, n3_eqmt, n3_ltm, n3_mlt, n3_lem, n3_mle, n3_neg_lt, n3_nlt_neg, n3_nle_neg, n3_neg_le]
    · simp (disch := omega) only [bd_X8_bestPlace_9, jn_X8_bestPlace_67, ↓lt_e, ↓gd_e, ↓Option.bind_some, ↓reduceIte, if_true, if_false, if_pT, if_nF, decide_true, Bool.not_true, Bool.not_false, not_true_eq_false, not_false_eq_true, Bool.false_eq_true, Bool.true_eq_false, eq_self, n3_lit, n3_add, n3_mul, n3_sub, n3_tn, n3_le_t, n3_le_f, n3_lt_t, n3_lt_f, n3_eq_f, n3_eq_t, n3_inb, n3_rem, n3_div, n3_zb, bb_0, bb_1, zb_bb, bb_T, bb_F, n3_dec, n3_m1, n3_eqm, n3_eqmt, n3_ltm, n3_mlt, n3_lem, n3_mle, n3_neg_lt, n3_nlt_neg, n3_nle_neg, n3_neg_le]
/-! soundings: the reference -/
theorem r_liesAt {N : Nat} {Λ : Lay} {μ : Mem} {l : Nat} (hl : l < 288) : m_X12_liesAt N Λ μ (n3 l) = some (n3 (rn (l / 12) (l % 12 + 1))) := by
  simp (disch := omega) only [m_X12_liesAt, r_run, ↓lt_e, ↓gd_e, ↓Option.bind_some, ↓reduceIte, if_true, if_false, if_pT, if_nF, decide_true, Bool.not_true, Bool.not_false, not_true_eq_false, not_false_eq_true, Bool.false_eq_true, Bool.true_eq_false, eq_self, n3_lit, n3_add, n3_mul, n3_sub, n3_tn, n3_le_t, n3_le_f, n3_lt_t, n3_lt_f, n3_eq_f, n3_eq_t, n3_inb, n3_rem, n3_div, n3_zb, bb_0, bb_1, zb_bb, bb_T, bb_F, n3_dec, n3_m1, n3_eqm, n3_eqmt, n3_ltm, n3_mlt, n3_lem, n3_mle, n3_neg_lt, n3_nlt_neg, n3_nle_neg, n3_neg_le]
theorem r_wrongRows {N : Nat} (hN : 1099511627776 ≤ N) {Λ : Lay} {ad : Nat → Nat} {μ : Mem} (hR : LyR Λ ad) {T : Nat → Int32} {r l : Nat} (hl : l < 288) (hr : r ≤ 20) (hT : ∀ k, k < r → u3 (T (2 * k)) < 24 ∧ u3 (T (2 * k + 1)) < 2) (h1 : μ.1 (ad 181) 11 = n3 (2 * r)) (h2 : ∀ k, k < 2 * r → μ.1 (ad 187) k = T k) : m_X12_wrongRows N Λ μ (ad 181) (n3 l) = some (n3 (if l / 12 + l % 12 + 1 ≤ 24 then wrg T l r else 100000000)) := by
  by_cases hv : l / 12 + l % 12 + 1 ≤ 24
  · rw [if_pos hv]
    have es : m_X12_wrongRows N Λ μ (ad 181) (n3 l) = lp_X12_wrongRows_23 N Λ μ (ad 181) (n3 l) (n3 0, n3 0) := by
      simp (disch := omega) only [m_X12_wrongRows, ↓lt_e, ↓gd_e, ↓Option.bind_some, ↓reduceIte, if_true, if_false, if_pT, if_nF, decide_true, Bool.not_true, Bool.not_false, not_true_eq_false, not_false_eq_true, Bool.false_eq_true, Bool.true_eq_false, eq_self, n3_lit, n3_add, n3_mul, n3_sub, n3_tn, n3_le_t, n3_le_f, n3_lt_t, n3_lt_f, n3_eq_f, n3_eq_t, n3_inb, n3_rem, n3_div, n3_zb, bb_0, bb_1, zb_bb, bb_T, bb_F, n3_dec, n3_m1, n3_eqm, n3_eqmt, n3_ltm, n3_mlt, n3_lem, n3_mle, n3_neg_lt, n3_nlt_neg, n3_nle_neg, n3_neg_le]
    rw [es]
    unfold lp_X12_wrongRows_23
    refine cw_it (fun i => (n3 (wrg T l i), n3 (2 * i))) r rfl (fun i hi k => ?_) (fun k => ?_) (by omega)
    · have e1 := h2 (2 * i) (by omega)
      have e2 := h2 (2 * i + 1) (by omega)
      have a4 := hT i hi
      rw [← n3_u3 (T (2 * i))] at e1
      rw [← n3_u3 (T (2 * i + 1))] at e2
      have w1 := wrg_le T l i
      have la := r_liesAt (N := N) (Λ := Λ) (μ := μ) hl
      have rl := rn_lt (p := l / 12) (l := l % 12 + 1) (by omega)
      have bt : bb ((rn (l / 12) (l % 12 + 1)).testBit (u3 (T (2 * i))) = true) = wiN l (u3 (T (2 * i))) := bb_c (by rw [rn_bit])
      have wl : wiN l (u3 (T (2 * i))) ≤ 1 := bb_le _
      rw [show 2 * (i + 1) = 2 * i + 2 by omega]
      by_cases hm : wiN l (u3 (T (2 * i))) = u3 (T (2 * i + 1))
      · rw [wrg_t hm]
        simp (disch := omega) only [bd_X12_wrongRows_23, jn_X12_wrongRows_61, h1, la, ↓ob (hR.1), ↓ob (hR.2.1), ↓ob (hR.2.2.1), ↓ob (hR.2.2.2.1), ↓ob (hR.2.2.2.2.1), ↓ob (hR.2.2.2.2.2.1), ↓ob (hR.2.2.2.2.2.2.1), ↓ob (hR.2.2.2.2.2.2.2.1), ↓ob (hR.2.2.2.2.2.2.2.2.1), ↓ob (hR.2.2.2.2.2.2.2.2.2.1), ↓ob (hR.2.2.2.2.2.2.2.2.2.2.1), ↓ob (hR.2.2.2.2.2.2.2.2.2.2.2.1), ↓ob (hR.2.2.2.2.2.2.2.2.2.2.2.2.1), ↓ob (hR.2.2.2.2.2.2.2.2.2.2.2.2.2.1), ↓ob (hR.2.2.2.2.2.2.2.2.2.2.2.2.2.2.1), ↓ob (hR.2.2.2.2.2.2.2.2.2.2.2.2.2.2.2.1), ↓ob (hR.2.2.2.2.2.2.2.2.2.2.2.2.2.2.2.2.1), ↓ob (hR.2.2.2.2.2.2.2.2.2.2.2.2.2.2.2.2.2.1), hR.2.2.2.2.2.2.2.2.2.2.2.2.2.2.2.2.2.2.1, hR.2.2.2.2.2.2.2.2.2.2.2.2.2.2.2.2.2.2.2.1, hR.2.2.2.2.2.2.2.2.2.2.2.2.2.2.2.2.2.2.2.2.1, hR.2.2.2.2.2.2.2.2.2.2.2.2.2.2.2.2.2.2.2.2.2.1, hR.2.2.2.2.2.2.2.2.2.2.2.2.2.2.2.2.2.2.2.2.2.2.1, hR.2.2.2.2.2.2.2.2.2.2.2.2.2.2.2.2.2.2.2.2.2.2.2.1, hR.2.2.2.2.2.2.2.2.2.2.2.2.2.2.2.2.2.2.2.2.2.2.2.2.1, hR.2.2.2.2.2.2.2.2.2.2.2.2.2.2.2.2.2.2.2.2.2.2.2.2.2.1, hR.2.2.2.2.2.2.2.2.2.2.2.2.2.2.2.2.2.2.2.2.2.2.2.2.2.2.1, hR.2.2.2.2.2.2.2.2.2.2.2.2.2.2.2.2.2.2.2.2.2.2.2.2.2.2.2.1, hR.2.2.2.2.2.2.2.2.2.2.2.2.2.2.2.2.2.2.2.2.2.2.2.2.2.2.2.2.1, hR.2.2.2.2.2.2.2.2.2.2.2.2.2.2.2.2.2.2.2.2.2.2.2.2.2.2.2.2.2.1, hR.2.2.2.2.2.2.2.2.2.2.2.2.2.2.2.2.2.2.2.2.2.2.2.2.2.2.2.2.2.2.1, hR.2.2.2.2.2.2.2.2.2.2.2.2.2.2.2.2.2.2.2.2.2.2.2.2.2.2.2.2.2.2.2.1, hR.2.2.2.2.2.2.2.2.2.2.2.2.2.2.2.2.2.2.2.2.2.2.2.2.2.2.2.2.2.2.2.2.1, hR.2.2.2.2.2.2.2.2.2.2.2.2.2.2.2.2.2.2.2.2.2.2.2.2.2.2.2.2.2.2.2.2.2.1, hR.2.2.2.2.2.2.2.2.2.2.2.2.2.2.2.2.2.2.2.2.2.2.2.2.2.2.2.2.2.2.2.2.2.2.1, hR.2.2.2.2.2.2.2.2.2.2.2.2.2.2.2.2.2.2.2.2.2.2.2.2.2.2.2.2.2.2.2.2.2.2.2, e1, e2, n3_bit, bt, ↓lt_e, ↓gd_e, ↓Option.bind_some, ↓reduceIte, if_true, if_false, if_pT, if_nF, decide_true, Bool.not_true, Bool.not_false, not_true_eq_false, not_false_eq_true, Bool.false_eq_true, Bool.true_eq_false, eq_self, n3_lit, n3_add, n3_mul, n3_sub, n3_tn, n3_le_t, n3_le_f, n3_lt_t, n3_lt_f, n3_eq_f, n3_eq_t, n3_inb, n3_rem, n3_div, n3_zb, bb_0, bb_1, zb_bb, bb_T, bb_F, n3_dec, n3_m1, n3_eqm, n3_eqmt, n3_ltm, n3_mlt, n3_lem, n3_mle, n3_neg_lt, n3_nlt_neg, n3_nle_neg, n3_neg_le, Nat.add_zero]
      · rw [wrg_f hm]
        simp (disch := omega) only [bd_X12_wrongRows_23, jn_X12_wrongRows_61, h1, la, ↓ob (hR.1), ↓ob (hR.2.1), ↓ob (hR.2.2.1), ↓ob (hR.2.2.2.1), ↓ob (hR.2.2.2.2.1), ↓ob (hR.2.2.2.2.2.1), ↓ob (hR.2.2.2.2.2.2.1), ↓ob (hR.2.2.2.2.2.2.2.1), ↓ob (hR.2.2.2.2.2.2.2.2.1), ↓ob (hR.2.2.2.2.2.2.2.2.2.1), ↓ob (hR.2.2.2.2.2.2.2.2.2.2.1), ↓ob (hR.2.2.2.2.2.2.2.2.2.2.2.1), ↓ob (hR.2.2.2.2.2.2.2.2.2.2.2.2.1), ↓ob (hR.2.2.2.2.2.2.2.2.2.2.2.2.2.1), ↓ob (hR.2.2.2.2.2.2.2.2.2.2.2.2.2.2.1), ↓ob (hR.2.2.2.2.2.2.2.2.2.2.2.2.2.2.2.1), ↓ob (hR.2.2.2.2.2.2.2.2.2.2.2.2.2.2.2.2.1), ↓ob (hR.2.2.2.2.2.2.2.2.2.2.2.2.2.2.2.2.2.1), hR.2.2.2.2.2.2.2.2.2.2.2.2.2.2.2.2.2.2.1, hR.2.2.2.2.2.2.2.2.2.2.2.2.2.2.2.2.2.2.2.1, hR.2.2.2.2.2.2.2.2.2.2.2.2.2.2.2.2.2.2.2.2.1, hR.2.2.2.2.2.2.2.2.2.2.2.2.2.2.2.2.2.2.2.2.2.1, hR.2.2.2.2.2.2.2.2.2.2.2.2.2.2.2.2.2.2.2.2.2.2.1, hR.2.2.2.2.2.2.2.2.2.2.2.2.2.2.2.2.2.2.2.2.2.2.2.1, hR.2.2.2.2.2.2.2.2.2.2.2.2.2.2.2.2.2.2.2.2.2.2.2.2.1, hR.2.2.2.2.2.2.2.2.2.2.2.2.2.2.2.2.2.2.2.2.2.2.2.2.2.1, hR.2.2.2.2.2.2.2.2.2.2.2.2.2.2.2.2.2.2.2.2.2.2.2.2.2.2.1, hR.2.2.2.2.2.2.2.2.2.2.2.2.2.2.2.2.2.2.2.2.2.2.2.2.2.2.2.1, hR.2.2.2.2.2.2.2.2.2.2.2.2.2.2.2.2.2.2.2.2.2.2.2.2.2.2.2.2.1, hR.2.2.2.2.2.2.2.2.2.2.2.2.2.2.2.2.2.2.2.2.2.2.2.2.2.2.2.2.2.1, hR.2.2.2.2.2.2.2.2.2.2.2.2.2.2.2.2.2.2.2.2.2.2.2.2.2.2.2.2.2.2.1, hR.2.2.2.2.2.2.2.2.2.2.2.2.2.2.2.2.2.2.2.2.2.2.2.2.2.2.2.2.2.2.2.1, hR.2.2.2.2.2.2.2.2.2.2.2.2.2.2.2.2.2.2.2.2.2.2.2.2.2.2.2.2.2.2.2.2.1, hR.2.2.2.2.2.2.2.2.2.2.2.2.2.2.2.2.2.2.2.2.2.2.2.2.2.2.2.2.2.2.2.2.2.1, hR.2.2.2.2.2.2.2.2.2.2.2.2.2.2.2.2.2.2.2.2.2.2.2.2.2.2.2.2.2.2.2.2.2.2.1, hR.2.2.2.2.2.2.2.2.2.2.2.2.2.2.2.2.2.2.2.2.2.2.2.2.2.2.2.2.2.2.2.2.2.2.2, e1, e2, n3_bit, bt, ↓lt_e, ↓gd_e, ↓Option.bind_some, ↓reduceIte, if_true, if_false, if_pT, if_nF, decide_true, Bool.not_true, Bool.not_false, not_true_eq_false, not_false_eq_true, Bool.false_eq_true, Bool.true_eq_false, eq_self, n3_lit, n3_add, n3_mul, n3_sub, n3_tn, n3_le_t, n3_le_f, n3_lt_t, n3_lt_f, n3_eq_f, n3_eq_t, n3_inb, n3_rem, n3_div, n3_zb, bb_0, bb_1, zb_bb, bb_T, bb_F, n3_dec, n3_m1, n3_eqm, n3_eqmt, n3_ltm, n3_mlt, n3_lem, n3_mle, n3_neg_lt, n3_nlt_neg, n3_nle_neg, n3_neg_le]
    · simp (disch := omega) only [bd_X12_wrongRows_23, h1, ↓lt_e, ↓gd_e, ↓Option.bind_some, ↓reduceIte, if_true, if_false, if_pT, if_nF, decide_true, Bool.not_true, Bool.not_false, not_true_eq_false, not_false_eq_true, Bool.false_eq_true, Bool.true_eq_false, eq_self, n3_lit, n3_add, n3_mul, n3_sub, n3_tn, n3_le_t, n3_le_f, n3_lt_t, n3_lt_f, n3_eq_f, n3_eq_t, n3_inb, n3_rem, n3_div, n3_zb, bb_0, bb_1, zb_bb, bb_T, bb_F, n3_dec, n3_m1, n3_eqm, n3_eqmt, n3_ltm, n3_mlt, n3_lem, n3_mle, n3_neg_lt, n3_nlt_neg, n3_nle_neg, n3_neg_le]
  · rw [if_neg hv]
    simp (disch := omega) only [m_X12_wrongRows, ↓lt_e, ↓gd_e, ↓Option.bind_some, ↓reduceIte, if_true, if_false, if_pT, if_nF, decide_true, Bool.not_true, Bool.not_false, not_true_eq_false, not_false_eq_true, Bool.false_eq_true, Bool.true_eq_false, eq_self, n3_lit, n3_add, n3_mul, n3_sub, n3_tn, n3_le_t, n3_le_f, n3_lt_t, n3_lt_f, n3_eq_f, n3_eq_t, n3_inb, n3_rem, n3_div, n3_zb, bb_0, bb_1, zb_bb, bb_T, bb_F, n3_dec, n3_m1, n3_eqm, n3_eqmt, n3_ltm, n3_mlt, n3_lem, n3_mle, n3_neg_lt, n3_nlt_neg, n3_nle_neg, n3_neg_le]
theorem r_manyLies0 {N : Nat} (hN : 1099511627776 ≤ N) {Λ : Lay} {ad : Nat → Nat} {μ : Mem} (hR : LyR Λ ad) {T : Nat → Int32} {r : Nat} (hr : r ≤ 20) (hT : ∀ k, k < r → u3 (T (2 * k)) < 24 ∧ u3 (T (2 * k + 1)) < 2) (h1 : μ.1 (ad 181) 11 = n3 (2 * r)) (h2 : ∀ k, k < 2 * r → μ.1 (ad 187) k = T k) : m_X12_manyLies N Λ μ (ad 181) (n3 4294967295) = some (n3 (ctP (slP T r) 288)) := by
  unfold m_X12_manyLies lp_X12_manyLies_4
  refine cw_it (fun l => (n3 (ctP (slP T r) l), n3 l)) 288 rfl (fun l hl k => ?_) (fun k => ?_) (by omega)
  · have rw' := r_wrongRows hN hR hl hr hT h1 h2
    have hle := ctP_le (slP T r) l
    have hwl := wrg_le T l r
    by_cases hv : l / 12 + l % 12 + 1 ≤ 24
    · rw [if_pos hv] at rw'
      by_cases hw : wrg T l r < 2
      · rw [ctP_t (slP_t hv hw)]
        simp (disch := omega) only [jn_X12_manyLies_42, jn_X12_manyLies_37, jn_X12_manyLies_41, bd_X12_manyLies_4, rw', ↓lt_e, ↓gd_e, ↓Option.bind_some, ↓reduceIte, if_true, if_false, if_pT, if_nF, decide_true, Bool.not_true, Bool.not_false, not_true_eq_false, not_false_eq_true, Bool.false_eq_true, Bool.true_eq_false, eq_self, n3_lit, n3_add, n3_mul, n3_sub, n3_tn, n3_le_t, n3_le_f, n3_lt_t, n3_lt_f, n3_eq_f, n3_eq_t, n3_inb, n3_rem, n3_div, n3_zb, bb_0, bb_1, zb_bb, bb_T, bb_F, n3_dec, n3_m1, n3_eqm, n3_eqmt, n3_ltm, n3_mlt, n3_lem, n3_mle, n3_neg_lt, n3_nlt_neg, n3_nle_neg, n3_neg_le]
      · rw [ctP_f (slP_f hw)]
        simp (disch := omega) only [jn_X12_manyLies_42, jn_X12_manyLies_37, jn_X12_manyLies_41, bd_X12_manyLies_4, rw', ↓lt_e, ↓gd_e, ↓Option.bind_some, ↓reduceIte, if_true, if_false, if_pT, if_nF, decide_true, Bool.not_true, Bool.not_false, not_true_eq_false, not_false_eq_true, Bool.false_eq_true, Bool.true_eq_false, eq_self, n3_lit, n3_add, n3_mul, n3_sub, n3_tn, n3_le_t, n3_le_f, n3_lt_t, n3_lt_f, n3_eq_f, n3_eq_t, n3_inb, n3_rem, n3_div, n3_zb, bb_0, bb_1, zb_bb, bb_T, bb_F, n3_dec, n3_m1, n3_eqm, n3_eqmt, n3_ltm, n3_mlt, n3_lem, n3_mle, n3_neg_lt, n3_nlt_neg, n3_nle_neg, n3_neg_le, Nat.add_zero]
    · rw [if_neg hv] at rw'
      rw [ctP_f (slP_n (by omega))]
      simp (disch := omega) only [jn_X12_manyLies_42, jn_X12_manyLies_37, jn_X12_manyLies_41, bd_X12_manyLies_4, rw', ↓lt_e, ↓gd_e, ↓Option.bind_some, ↓reduceIte, if_true, if_false, if_pT, if_nF, decide_true, Bool.not_true, Bool.not_false, not_true_eq_false, not_false_eq_true, Bool.false_eq_true, Bool.true_eq_false, eq_self, n3_lit, n3_add, n3_mul, n3_sub, n3_tn, n3_le_t, n3_le_f, n3_lt_t, n3_lt_f, n3_eq_f, n3_eq_t, n3_inb, n3_rem, n3_div, n3_zb, bb_0, bb_1, zb_bb, bb_T, bb_F, n3_dec, n3_m1, n3_eqm, n3_eqmt, n3_ltm, n3_mlt, n3_lem, n3_mle, n3_neg_lt, n3_nlt_neg, n3_nle_neg, n3_neg_le, Nat.add_zero]
  · simp (disch := omega) only [jn_X12_manyLies_42, jn_X12_manyLies_37, jn_X12_manyLies_41, bd_X12_manyLies_4, ↓lt_e, ↓gd_e, ↓Option.bind_some, ↓reduceIte, if_true, if_false, if_pT, if_nF, decide_true, Bool.not_true, Bool.not_false, not_true_eq_false, not_false_eq_true, Bool.false_eq_true, Bool.true_eq_false, eq_self, n3_lit, n3_add, n3_mul, n3_sub, n3_tn, n3_le_t, n3_le_f, n3_lt_t, n3_lt_f, n3_eq_f, n3_eq_t, n3_inb, n3_rem, n3_div, n3_zb, bb_0, bb_1, zb_bb, bb_T, bb_F, n3_dec, n3_m1, n3_eqm, n3_eqmt, n3_ltm, n3_mlt, n3_lem, n3_mle, n3_neg_lt, n3_nlt_neg, n3_nle_neg, n3_neg_le]
theorem r_manyLies1 {N : Nat} (hN : 1099511627776 ≤ N) {Λ : Lay} {ad : Nat → Nat} {μ : Mem} (hR : LyR Λ ad) {T : Nat → Int32} {r : Nat} (hr : r ≤ 20) (hT : ∀ k, k < r → u3 (T (2 * k)) < 24 ∧ u3 (T (2 * k + 1)) < 2) (h1 : μ.1 (ad 181) 11 = n3 (2 * r)) (h2 : ∀ k, k < 2 * r → μ.1 (ad 187) k = T k) {p : Nat} (hp : p < 24) : m_X12_manyLies N Λ μ (ad 181) (n3 p) = some (n3 (ctP (cvP T r p) 288)) := by
  unfold m_X12_manyLies lp_X12_manyLies_4
  refine cw_it (fun l => (n3 (ctP (cvP T r p) l), n3 l)) 288 rfl (fun l hl k => ?_) (fun k => ?_) (by omega)
  · have rw' := r_wrongRows hN hR hl hr hT h1 h2
    have hle := ctP_le (cvP T r p) l
    have hwl := wrg_le T l r
    by_cases hv : l / 12 + l % 12 + 1 ≤ 24
    · rw [if_pos hv] at rw'
      have la := r_liesAt (N := N) (Λ := Λ) (μ := μ) hl
      have rl := rn_lt (p := l / 12) (l := l % 12 + 1) (by omega)
      by_cases hw : wrg T l r < 2
      · have rb := rn_bit (l / 12) (l % 12 + 1) p
        by_cases hc : l / 12 ≤ p ∧ p < l / 12 + (l % 12 + 1)
        · rw [ctP_t (cvP_t (slP_t hv hw) hc)]
          have hb : (rn (l / 12) (l % 12 + 1)).testBit p = true := rb.2 hc
          simp (disch := omega) only [jn_X12_manyLies_42, jn_X12_manyLies_37, jn_X12_manyLies_41, bd_X12_manyLies_4, rw', la, r_has, hb, ↓lt_e, ↓gd_e, ↓Option.bind_some, ↓reduceIte, if_true, if_false, if_pT, if_nF, decide_true, Bool.not_true, Bool.not_false, not_true_eq_false, not_false_eq_true, Bool.false_eq_true, Bool.true_eq_false, eq_self, n3_lit, n3_add, n3_mul, n3_sub, n3_tn, n3_le_t, n3_le_f, n3_lt_t, n3_lt_f, n3_eq_f, n3_eq_t, n3_inb, n3_rem, n3_div, n3_zb, bb_0, bb_1, zb_bb, bb_T, bb_F, n3_dec, n3_m1, n3_eqm, n3_eqmt, n3_ltm, n3_mlt, n3_lem, n3_mle, n3_neg_lt, n3_nlt_neg, n3_nle_neg, n3_neg_le]
        · rw [ctP_f (cvP_n hc)]
          have hb : (rn (l / 12) (l % 12 + 1)).testBit p = false := Bool.eq_false_iff.2 (fun h => hc (rb.1 h))
          simp (disch := omega) only [jn_X12_manyLies_42, jn_X12_manyLies_37, jn_X12_manyLies_41, bd_X12_manyLies_4, rw', la, r_has, hb, ↓lt_e, ↓gd_e, ↓Option.bind_some, ↓reduceIte, if_true, if_false, if_pT, if_nF, decide_true, Bool.not_true, Bool.not_false, not_true_eq_false, not_false_eq_true, Bool.false_eq_true, Bool.true_eq_false, eq_self, n3_lit, n3_add, n3_mul, n3_sub, n3_tn, n3_le_t, n3_le_f, n3_lt_t, n3_lt_f, n3_eq_f, n3_eq_t, n3_inb, n3_rem, n3_div, n3_zb, bb_0, bb_1, zb_bb, bb_T, bb_F, n3_dec, n3_m1, n3_eqm, n3_eqmt, n3_ltm, n3_mlt, n3_lem, n3_mle, n3_neg_lt, n3_nlt_neg, n3_nle_neg, n3_neg_le, Nat.add_zero]
      · rw [ctP_f (cvP_f (slP_f hw))]
        simp (disch := omega) only [jn_X12_manyLies_42, jn_X12_manyLies_37, jn_X12_manyLies_41, bd_X12_manyLies_4, rw', ↓lt_e, ↓gd_e, ↓Option.bind_some, ↓reduceIte, if_true, if_false, if_pT, if_nF, decide_true, Bool.not_true, Bool.not_false, not_true_eq_false, not_false_eq_true, Bool.false_eq_true, Bool.true_eq_false, eq_self, n3_lit, n3_add, n3_mul, n3_sub, n3_tn, n3_le_t, n3_le_f, n3_lt_t, n3_lt_f, n3_eq_f, n3_eq_t, n3_inb, n3_rem, n3_div, n3_zb, bb_0, bb_1, zb_bb, bb_T, bb_F, n3_dec, n3_m1, n3_eqm, n3_eqmt, n3_ltm, n3_mlt, n3_lem, n3_mle, n3_neg_lt, n3_nlt_neg, n3_nle_neg, n3_neg_le, Nat.add_zero]
    · rw [if_neg hv] at rw'
      rw [ctP_f (cvP_f (slP_n (by omega)))]
      simp (disch := omega) only [jn_X12_manyLies_42, jn_X12_manyLies_37, jn_X12_manyLies_41, bd_X12_manyLies_4, rw', ↓lt_e, ↓gd_e, ↓Option.bind_some, ↓reduceIte, if_true, if_false, if_pT, if_nF, decide_true, Bool.not_true, Bool.not_false, not_true_eq_false, not_false_eq_true, Bool.false_eq_true, Bool.true_eq_false, eq_self, n3_lit, n3_add, n3_mul, n3_sub, n3_tn, n3_le_t, n3_le_f, n3_lt_t, n3_lt_f, n3_eq_f, n3_eq_t, n3_inb, n3_rem, n3_div, n3_zb, bb_0, bb_1, zb_bb, bb_T, bb_F, n3_dec, n3_m1, n3_eqm, n3_eqmt, n3_ltm, n3_mlt, n3_lem, n3_mle, n3_neg_lt, n3_nlt_neg, n3_nle_neg, n3_neg_le, Nat.add_zero]
  · simp (disch := omega) only [jn_X12_manyLies_42, jn_X12_manyLies_37, jn_X12_manyLies_41, bd_X12_manyLies_4, ↓lt_e, ↓gd_e, ↓Option.bind_some, ↓reduceIte, if_true, if_false, if_pT, if_nF, decide_true, Bool.not_true, Bool.not_false, not_true_eq_false, not_false_eq_true, Bool.false_eq_true, Bool.true_eq_false, eq_self, n3_lit, n3_add, n3_mul, n3_sub, n3_tn, n3_le_t, n3_le_f, n3_lt_t, n3_lt_f, n3_eq_f, n3_eq_t, n3_inb, n3_rem, n3_div, n3_zb, bb_0, bb_1, zb_bb, bb_T, bb_F, n3_dec, n3_m1, n3_eqm, n3_eqmt, n3_ltm, n3_mlt, n3_lem, n3_mle, n3_neg_lt, n3_nlt_neg, n3_nle_neg, n3_neg_le]

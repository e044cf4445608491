/-! the class reads rows of two -/
def CQ0 (ad : Nat → Nat) (μ : Mem) (T : Nat → Int32) (r : Nat) : Prop := μ.1 (ad 166) 2 = n3 r ∧ Row μ (ad 167) r (fun k => u3 (T (2 * k)) % 12) ∧ Row μ (ad 168) r (fun k => u3 (T (2 * k + 1)))
theorem c_cread {N : Nat} (hN : 1099511627776 ≤ N) {Λ : Lay} {ad : Nat → Nat} {μ : Mem} (hj : Inj ad) (hP : LyP Λ ad) (hQ : LyQ Λ ad) {n : Nat} (hn : n ≤ 400) {T : Nat → Int32} (h1 : μ.1 (ad 1) 1 = n3 n) (h2 : ∀ k, k < n → μ.1 (ad 2) k = T k) (hB : ∀ k, k < n → Byt (T k)) : ∃ μ', m_X0_read N Λ μ (ad 166) (ad 1) = some (n3 (bb (tvO T n 100 31 = true)), μ') ∧ (tvO T n 100 31 = true → CQ0 ad μ' T (n / 2)) ∧ Fr ad (fun i => i = 166 ∨ i = 167 ∨ i = 168) μ μ' := by
  have f0 : Fr ad (fun i => i = 166 ∨ i = 167 ∨ i = 168) μ (mset μ (ad 166) 2 (n3 0)) := (Fr.refl μ).set hj (by omega)
  have h1' : (mset μ (ad 166) 2 (n3 0)).1 (ad 1) 1 = n3 n := by rw [mso hj (by omega)]; exact h1
  by_cases ho : n % 2 = 1
  · refine ⟨_, ?_, fun h => absurd h (by rw [tvO_o ho]; decide), f0⟩
    rw [bbB_f (tvO_o ho)]
    by_cases hl : 40 < n
    · simp (disch := omega) only [m_X0_read, jn_X0_read_23, h1', ↓lt_e, ↓gd_e, ↓Option.bind_some, ↓reduceIte, if_true, if_false, if_pT, if_nF, decide_true, Bool.not_true, Bool.not_false, not_true_eq_false, not_false_eq_true, Bool.false_eq_true, Bool.true_eq_false, eq_self, n3_lit, n3_add, n3_mul, n3_sub, n3_tn, n3_le_t, n3_le_f, n3_lt_t, n3_lt_f, n3_eq_f, n3_eq_t, n3_inb, n3_rem, n3_div, n3_zb, bb_0, bb_1, zb_bb, bb_T, bb_F, n3_dec, n3_m1, n3_eqm, n3_eqmt, n3_ltm, n3_mlt, n3_lem, n3_mle, n3_neg_lt, n3_nlt_neg, n3_nle_neg, n3_neg_le]
    · simp (disch := omega) only [m_X0_read, jn_X0_read_23, h1', ↓lt_e, ↓gd_e, ↓Option.bind_some, ↓reduceIte, if_true, if_false, if_pT, if_nF, decide_true, Bool.not_true, Bool.not_false, not_true_eq_false, not_false_eq_true, Bool.false_eq_true, Bool.true_eq_false, eq_self, n3_lit, n3_add, n3_mul, n3_sub, n3_tn, n3_le_t, n3_le_f, n3_lt_t, n3_lt_f, n3_eq_f, n3_eq_t, n3_inb, n3_rem, n3_div, n3_zb, bb_0, bb_1, zb_bb, bb_T, bb_F, n3_dec, n3_m1, n3_eqm, n3_eqmt, n3_ltm, n3_mlt, n3_lem, n3_mle, n3_neg_lt, n3_nlt_neg, n3_nle_neg, n3_neg_le]
  · by_cases hl : 40 < n
    · refine ⟨_, ?_, fun h => absurd h (by rw [tvO_l hl]; decide), f0⟩
      rw [bbB_f (tvO_l hl)]
      simp (disch := omega) only [m_X0_read, jn_X0_read_23, h1', ↓lt_e, ↓gd_e, ↓Option.bind_some, ↓reduceIte, if_true, if_false, if_pT, if_nF, decide_true, Bool.not_true, Bool.not_false, not_true_eq_false, not_false_eq_true, Bool.false_eq_true, Bool.true_eq_false, eq_self, n3_lit, n3_add, n3_mul, n3_sub, n3_tn, n3_le_t, n3_le_f, n3_lt_t, n3_lt_f, n3_eq_f, n3_eq_t, n3_inb, n3_rem, n3_div, n3_zb, bb_0, bb_1, zb_bb, bb_T, bb_F, n3_dec, n3_m1, n3_eqm, n3_eqmt, n3_ltm, n3_mlt, n3_lem, n3_mle, n3_neg_lt, n3_nlt_neg, n3_nle_neg, n3_neg_le]
    · rw [tvO_e (by omega) (by omega)]
      have es : m_X0_read N Λ μ (ad 166) (ad 1) = lp_X0_read_27 N Λ (ad 166) (ad 1) (n3 0, mset μ (ad 166) 2 (n3 0)) := by
        simp (disch := omega) only [m_X0_read, h1', ↓lt_e, ↓gd_e, ↓Option.bind_some, ↓reduceIte, if_true, if_false, if_pT, if_nF, decide_true, Bool.not_true, Bool.not_false, not_true_eq_false, not_false_eq_true, Bool.false_eq_true, Bool.true_eq_false, eq_self, n3_lit, n3_add, n3_mul, n3_sub, n3_tn, n3_le_t, n3_le_f, n3_lt_t, n3_lt_f, n3_eq_f, n3_eq_t, n3_inb, n3_rem, n3_div, n3_zb, bb_0, bb_1, zb_bb, bb_T, bb_F, n3_dec, n3_m1, n3_eqm, n3_eqmt, n3_ltm, n3_mlt, n3_lem, n3_mle, n3_neg_lt, n3_nlt_neg, n3_nle_neg, n3_neg_le]
      rw [es]
      unfold lp_X0_read_27
      refine cw_iv (P := fun i s => ∃ μ1 : Mem, s = (n3 (2 * i), μ1) ∧ tvb T 100 31 i = true ∧ CQ0 ad μ1 T i ∧ Fr ad (fun i => i = 166 ∨ i = 167 ∨ i = 168) μ μ1) (Q := fun X => ∃ μ', X = some (n3 (bb (tvb T 100 31 (n / 2) = true)), μ') ∧ (tvb T 100 31 (n / 2) = true → CQ0 ad μ' T (n / 2)) ∧ Fr ad (fun i => i = 166 ∨ i = 167 ∨ i = 168) μ μ') (n / 2) ⟨_, rfl, rfl, ⟨mse _ _ _ _, fun k hk => absurd hk (Nat.not_lt_zero k), fun k hk => absurd hk (Nat.not_lt_zero k)⟩, f0⟩ (fun i hi s hs => ?_) (fun s hs => ?_) (by omega)
      · obtain ⟨μ1, rfl, hb, ⟨q1, q2, q3⟩, hf⟩ := hs
        have g1 : μ1.1 (ad 1) 1 = n3 n := by rw [(hf 1 (by omega)).1]; exact h1
        have g2 : ∀ k, k < n → μ1.1 (ad 2) k = T k := by rw [(hf 2 (by omega)).1]; exact h2
        have s1 := c_sign (N := N) hP hn g1 g2 (show 2 * i < n by omega)
        have s2 := c_sign (N := N) hP hn g1 g2 (show 2 * i + 1 < n by omega)
        have b1 := byt_lo (hB (2 * i) (by omega)) (show 100 ≤ 128 by omega)
        have b2 := byt_lo (hB (2 * i + 1) (by omega)) (show 31 ≤ 128 by omega)
        have e3 : 2 * (i + 1) = 2 * i + 2 := by omega
        by_cases c : u3 (T (2 * i)) < 100 ∧ u3 (T (2 * i + 1)) < 31
        · obtain ⟨c1, c2⟩ := c
          left
          rw [byt_eq (by omega) c1] at s1
          rw [byt_eq (a := 31) (by omega) c2] at s2
          refine ⟨_, ⟨mset (mset (mset μ1 (ad 167) i (n3 (u3 (T (2 * i)) % 12))) (ad 168) i (n3 (u3 (T (2 * i + 1))))) (ad 166) 2 (n3 (i + 1)), rfl, tvb_s hb c1 c2, ⟨mse _ _ _ _, ?_, ?_⟩, ((hf.set hj (by omega)).set hj (by omega)).set hj (by omega)⟩, fun k => ?_⟩
          · exact (q2.ad1 rfl).off (by rw [mso hj (by omega), mso hj (by omega)])
          · have q3' : Row (mset μ1 (ad 167) i (n3 (u3 (T (2 * i)) % 12))) (ad 168) i (fun k => u3 (T (2 * k + 1))) := Row.off q3 (mso hj (by omega))
            exact (q3'.ad1 rfl).off (mso hj (by omega))
          · rw [e3]
            simp (disch := omega) only [jn_X0_read_23, jn_X0_read_63, bd_X0_read_27, g1, s1, s2, q1, ↓ob (hQ.1), ↓ob (hQ.2.1), ↓ob (hQ.2.2.1), ↓ob (hQ.2.2.2.1), hQ.2.2.2.2.1, hQ.2.2.2.2.2.1, hQ.2.2.2.2.2.2.1, hQ.2.2.2.2.2.2.2.1, ↓ob (hQ.2.2.2.2.2.2.2.2.1), ↓ob (hQ.2.2.2.2.2.2.2.2.2.1), ↓ob (hQ.2.2.2.2.2.2.2.2.2.2.1), hQ.2.2.2.2.2.2.2.2.2.2.2.1, hQ.2.2.2.2.2.2.2.2.2.2.2.2.1, hQ.2.2.2.2.2.2.2.2.2.2.2.2.2.1, ↓ob (hQ.2.2.2.2.2.2.2.2.2.2.2.2.2.2.1), ↓ob (hQ.2.2.2.2.2.2.2.2.2.2.2.2.2.2.2.1), ↓ob (hQ.2.2.2.2.2.2.2.2.2.2.2.2.2.2.2.2.1), ↓ob (hQ.2.2.2.2.2.2.2.2.2.2.2.2.2.2.2.2.2.1), ↓ob (hQ.2.2.2.2.2.2.2.2.2.2.2.2.2.2.2.2.2.2.1), hQ.2.2.2.2.2.2.2.2.2.2.2.2.2.2.2.2.2.2.2.1, hQ.2.2.2.2.2.2.2.2.2.2.2.2.2.2.2.2.2.2.2.2.1, hQ.2.2.2.2.2.2.2.2.2.2.2.2.2.2.2.2.2.2.2.2.2.1, hQ.2.2.2.2.2.2.2.2.2.2.2.2.2.2.2.2.2.2.2.2.2.2.1, hQ.2.2.2.2.2.2.2.2.2.2.2.2.2.2.2.2.2.2.2.2.2.2.2, mso hj, ↓lt_e, ↓gd_e, ↓Option.bind_some, ↓reduceIte, if_true, if_false, if_pT, if_nF, decide_true, Bool.not_true, Bool.not_false, not_true_eq_false, not_false_eq_true, Bool.false_eq_true, Bool.true_eq_false, eq_self, n3_lit, n3_add, n3_mul, n3_sub, n3_tn, n3_le_t, n3_le_f, n3_lt_t, n3_lt_f, n3_eq_f, n3_eq_t, n3_inb, n3_rem, n3_div, n3_zb, bb_0, bb_1, zb_bb, bb_T, bb_F, n3_dec, n3_m1, n3_eqm, n3_eqmt, n3_ltm, n3_mlt, n3_lem, n3_mle, n3_neg_lt, n3_nlt_neg, n3_nle_neg, n3_neg_le]
        · right
          have hx := tvb_m (tvb_n c) (n / 2 - (i + 1))
          rw [show i + 1 + (n / 2 - (i + 1)) = n / 2 by omega] at hx
          refine ⟨_, ⟨μ1, rfl, fun h => absurd h (by rw [hx]; decide), hf⟩, fun k => ?_⟩
          rw [bbB_f hx]
          by_cases c1 : u3 (T (2 * i)) < 100
          · have c2 : ¬ u3 (T (2 * i + 1)) % 256 < 31 := fun h => c ⟨c1, b2.1 h⟩
            rw [byt_eq (by omega) c1] at s1
            simp (disch := omega) only [jn_X0_read_23, jn_X0_read_63, bd_X0_read_27, g1, s1, s2, ↓lt_e, ↓gd_e, ↓Option.bind_some, ↓reduceIte, if_true, if_false, if_pT, if_nF, decide_true, Bool.not_true, Bool.not_false, not_true_eq_false, not_false_eq_true, Bool.false_eq_true, Bool.true_eq_false, eq_self, n3_lit, n3_add, n3_mul, n3_sub, n3_tn, n3_le_t, n3_le_f, n3_lt_t, n3_lt_f, n3_eq_f, n3_eq_t, n3_inb, n3_rem, n3_div, n3_zb, bb_0, bb_1, zb_bb, bb_T, bb_F, n3_dec, n3_m1, n3_eqm, n3_eqmt, n3_ltm, n3_mlt, n3_lem, n3_mle, n3_neg_lt, n3_nlt_neg, n3_nle_neg, n3_neg_le]
          · have c2 : ¬ u3 (T (2 * i)) % 256 < 100 := fun h => c1 (b1.1 h)
            simp (disch := omega) only [jn_X0_read_23, jn_X0_read_63, bd_X0_read_27, g1, s1, s2, ↓lt_e, ↓gd_e, ↓Option.bind_some, ↓reduceIte, if_true, if_false, if_pT, if_nF, decide_true, Bool.not_true, Bool.not_false, not_true_eq_false, not_false_eq_true, Bool.false_eq_true, Bool.true_eq_false, eq_self, n3_lit, n3_add, n3_mul, n3_sub, n3_tn, n3_le_t, n3_le_f, n3_lt_t, n3_lt_f, n3_eq_f, n3_eq_t, n3_inb, n3_rem, n3_div, n3_zb, bb_0, bb_1, zb_bb, bb_T, bb_F, n3_dec, n3_m1, n3_eqm, n3_eqmt, n3_ltm, n3_mlt, n3_lem, n3_mle, n3_neg_lt, n3_nlt_neg, n3_nle_neg, n3_neg_le]
      · obtain ⟨μ1, rfl, hb, hq, hf⟩ := hs
        have g1 : μ1.1 (ad 1) 1 = n3 n := by rw [(hf 1 (by omega)).1]; exact h1
        refine ⟨_, ⟨μ1, rfl, fun _ => hq, hf⟩, fun k => ?_⟩
        rw [bbB_t hb]
        simp (disch := omega) only [jn_X0_read_23, jn_X0_read_63, bd_X0_read_27, g1, ↓lt_e, ↓gd_e, ↓Option.bind_some, ↓reduceIte, if_true, if_false, if_pT, if_nF, decide_true, Bool.not_true, Bool.not_false, not_true_eq_false, not_false_eq_true, Bool.false_eq_true, Bool.true_eq_false, eq_self, n3_lit, n3_add, n3_mul, n3_sub, n3_tn, n3_le_t, n3_le_f, n3_lt_t, n3_lt_f, n3_eq_f, n3_eq_t, n3_inb, n3_rem, n3_div, n3_zb, bb_0, bb_1, zb_bb, bb_T, bb_F, n3_dec, n3_m1, n3_eqm, n3_eqmt, n3_ltm, n3_mlt, n3_lem, n3_mle, n3_neg_lt, n3_nlt_neg, n3_nle_neg, n3_neg_le]
def SQ0 (ad : Nat → Nat) (μ : Mem) (T : Nat → Int32) (r : Nat) : Prop := μ.1 (ad 171) 3 = n3 r ∧ Row μ (ad 172) r (fun k => u3 (T (2 * k))) ∧ Row μ (ad 173) r (fun k => u3 (T (2 * k + 1)))
theorem c_sread {N : Nat} (hN : 1099511627776 ≤ N) {Λ : Lay} {ad : Nat → Nat} {μ : Mem} (hj : Inj ad) (hP : LyP Λ ad) (hQ : LyQ Λ ad) {n : Nat} (hn : n ≤ 400) {T : Nat → Int32} (h1 : μ.1 (ad 1) 1 = n3 n) (h2 : ∀ k, k < n → μ.1 (ad 2) k = T k) (hB : ∀ k, k < n → Byt (T k)) : ∃ μ', m_X8_read N Λ μ (ad 171) (ad 1) = some (n3 (bb (tvO T n 24 2 = true)), μ') ∧ (tvO T n 24 2 = true → SQ0 ad μ' T (n / 2)) ∧ Fr ad (fun i => i = 171 ∨ i = 172 ∨ i = 173) μ μ' := by
  have f0 : Fr ad (fun i => i = 171 ∨ i = 172 ∨ i = 173) μ (mset μ (ad 171) 3 (n3 0)) := (Fr.refl μ).set hj (by omega)
  have h1' : (mset μ (ad 171) 3 (n3 0)).1 (ad 1) 1 = n3 n := by rw [mso hj (by omega)]; exact h1
  by_cases ho : n % 2 = 1
  · refine ⟨_, ?_, fun h => absurd h (by rw [tvO_o ho]; decide), f0⟩
    rw [bbB_f (tvO_o ho)]
    by_cases hl : 40 < n
    · simp (disch := omega) only [m_X8_read, jn_X8_read_23, h1', ↓lt_e, ↓gd_e, ↓Option.bind_some, ↓reduceIte, if_true, if_false, if_pT, if_nF, decide_true, Bool.not_true, Bool.not_false, not_true_eq_false, not_false_eq_true, Bool.false_eq_true, Bool.true_eq_false, eq_self, n3_lit, n3_add, n3_mul, n3_sub, n3_tn, n3_le_t, n3_le_f, n3_lt_t, n3_lt_f, n3_eq_f, n3_eq_t, n3_inb, n3_rem, n3_div, n3_zb, bb_0, bb_1, zb_bb, bb_T, bb_F, n3_dec, n3_m1, n3_eqm, n3_eqmt, n3_ltm, n3_mlt, n3_lem, n3_mle, n3_neg_lt, n3_nlt_neg, n3_nle_neg, n3_neg_le]
    · simp (disch := omega) only [m_X8_read, jn_X8_read_23, h1', ↓lt_e, ↓gd_e, ↓Option.bind_some, ↓reduceIte, if_true, if_false, if_pT, if_nF, decide_true, Bool.not_true, Bool.not_false, not_true_eq_false, not_false_eq_true, Bool.false_eq_true, Bool.true_eq_false, eq_self, n3_lit, n3_add, n3_mul, n3_sub, n3_tn, n3_le_t, n3_le_f, n3_lt_t, n3_lt_f, n3_eq_f, n3_eq_t, n3_inb, n3_rem, n3_div, n3_zb, bb_0, bb_1, zb_bb, bb_T, bb_F, n3_dec, n3_m1, n3_eqm, n3_eqmt, n3_ltm, n3_mlt, n3_lem, n3_mle, n3_neg_lt, n3_nlt_neg, n3_nle_neg, n3_neg_le]
  · by_cases hl : 40 < n
    · refine ⟨_, ?_, fun h => absurd h (by rw [tvO_l hl]; decide), f0⟩
      rw [bbB_f (tvO_l hl)]
      simp (disch := omega) only [m_X8_read, jn_X8_read_23, h1', ↓lt_e, ↓gd_e, ↓Option.bind_some, ↓reduceIte, if_true, if_false, if_pT, if_nF, decide_true, Bool.not_true, Bool.not_false, not_true_eq_false, not_false_eq_true, Bool.false_eq_true, Bool.true_eq_false, eq_self, n3_lit, n3_add, n3_mul, n3_sub, n3_tn, n3_le_t, n3_le_f, n3_lt_t, n3_lt_f, n3_eq_f, n3_eq_t, n3_inb, n3_rem, n3_div, n3_zb, bb_0, bb_1, zb_bb, bb_T, bb_F, n3_dec, n3_m1, n3_eqm, n3_eqmt, n3_ltm, n3_mlt, n3_lem, n3_mle, n3_neg_lt, n3_nlt_neg, n3_nle_neg, n3_neg_le]
    · rw [tvO_e (by omega) (by omega)]
      have es : m_X8_read N Λ μ (ad 171) (ad 1) = lp_X8_read_27 N Λ (ad 171) (ad 1) (n3 0, mset μ (ad 171) 3 (n3 0)) := by
        simp (disch := omega) only [m_X8_read, h1', ↓lt_e, ↓gd_e, ↓Option.bind_some, ↓reduceIte, if_true, if_false, if_pT, if_nF, decide_true, Bool.not_true, Bool.not_false, not_true_eq_false, not_false_eq_true, Bool.false_eq_true, Bool.true_eq_false, eq_self, n3_lit, n3_add, n3_mul, n3_sub, n3_tn, n3_le_t, n3_le_f, n3_lt_t, n3_lt_f, n3_eq_f, n3_eq_t, n3_inb, n3_rem, n3_div, n3_zb, bb_0, bb_1, zb_bb, bb_T, bb_F, n3_dec, n3_m1, n3_eqm, n3_eqmt, n3_ltm, n3_mlt, n3_lem, n3_mle, n3_neg_lt, n3_nlt_neg, n3_nle_neg, n3_neg_le]
      rw [es]
      unfold lp_X8_read_27
      refine cw_iv (P := fun i s => ∃ μ1 : Mem, s = (n3 (2 * i), μ1) ∧ tvb T 24 2 i = true ∧ SQ0 ad μ1 T i ∧ Fr ad (fun i => i = 171 ∨ i = 172 ∨ i = 173) μ μ1) (Q := fun X => ∃ μ', X = some (n3 (bb (tvb T 24 2 (n / 2) = true)), μ') ∧ (tvb T 24 2 (n / 2) = true → SQ0 ad μ' T (n / 2)) ∧ Fr ad (fun i => i = 171 ∨ i = 172 ∨ i = 173) μ μ') (n / 2) ⟨_, rfl, rfl, ⟨mse _ _ _ _, fun k hk => absurd hk (Nat.not_lt_zero k), fun k hk => absurd hk (Nat.not_lt_zero k)⟩, f0⟩ (fun i hi s hs => ?_) (fun s hs => ?_) (by omega)
      · obtain ⟨μ1, rfl, hb, ⟨q1, q2, q3⟩, hf⟩ := hs
        have g1 : μ1.1 (ad 1) 1 = n3 n := by rw [(hf 1 (by omega)).1]; exact h1
        have g2 : ∀ k, k < n → μ1.1 (ad 2) k = T k := by rw [(hf 2 (by omega)).1]; exact h2
        have s1 := c_sign (N := N) hP hn g1 g2 (show 2 * i < n by omega)
        have s2 := c_sign (N := N) hP hn g1 g2 (show 2 * i + 1 < n by omega)
        have s3 := c_sign (N := N) (μ := mset μ1 (ad 172) i (n3 (u3 (T (2 * i))))) hP hn (by rw [mso hj (by omega)]; exact g1) (by rw [mso hj (by omega)]; exact g2) (show 2 * i + 1 < n by omega)
        have b1 := byt_lo (hB (2 * i) (by omega)) (show 24 ≤ 128 by omega)
        have b2 := byt_lo (hB (2 * i + 1) (by omega)) (show 2 ≤ 128 by omega)
        have e3 : 2 * (i + 1) = 2 * i + 2 := by omega
        by_cases c : u3 (T (2 * i)) < 24 ∧ u3 (T (2 * i + 1)) < 2
        · obtain ⟨c1, c2⟩ := c
          left
          rw [byt_eq (a := 24) (by omega) c1] at s1
          rw [byt_eq (a := 2) (by omega) c2] at s2 s3
          refine ⟨_, ⟨mset (mset (mset μ1 (ad 172) i (n3 (u3 (T (2 * i))))) (ad 173) i (n3 (u3 (T (2 * i + 1))))) (ad 171) 3 (n3 (i + 1)), rfl, tvb_s hb c1 c2, ⟨mse _ _ _ _, ?_, ?_⟩, ((hf.set hj (by omega)).set hj (by omega)).set hj (by omega)⟩, fun k => ?_⟩
          · exact (q2.ad1 rfl).off (by rw [mso hj (by omega), mso hj (by omega)])
          · have q3' : Row (mset μ1 (ad 172) i (n3 (u3 (T (2 * i))))) (ad 173) i (fun k => u3 (T (2 * k + 1))) := Row.off q3 (mso hj (by omega))
            exact (q3'.ad1 rfl).off (mso hj (by omega))
          · rw [e3]
            by_cases c3 : u3 (T (2 * i + 1)) = 1
            · have x1 : n3 1 &&& n3 1 = n3 1 := by decide
              rw [c3] at s2 s3 ⊢
              simp (disch := omega) only [jn_X8_read_23, jn_X8_read_56, jn_X8_read_96, bd_X8_read_27, g1, s1, s2, s3, q1, ↓ob (hQ.1), ↓ob (hQ.2.1), ↓ob (hQ.2.2.1), ↓ob (hQ.2.2.2.1), hQ.2.2.2.2.1, hQ.2.2.2.2.2.1, hQ.2.2.2.2.2.2.1, hQ.2.2.2.2.2.2.2.1, ↓ob (hQ.2.2.2.2.2.2.2.2.1), ↓ob (hQ.2.2.2.2.2.2.2.2.2.1), ↓ob (hQ.2.2.2.2.2.2.2.2.2.2.1), hQ.2.2.2.2.2.2.2.2.2.2.2.1, hQ.2.2.2.2.2.2.2.2.2.2.2.2.1, hQ.2.2.2.2.2.2.2.2.2.2.2.2.2.1, ↓ob (hQ.2.2.2.2.2.2.2.2.2.2.2.2.2.2.1), ↓ob (hQ.2.2.2.2.2.2.2.2.2.2.2.2.2.2.2.1), ↓ob (hQ.2.2.2.2.2.2.2.2.2.2.2.2.2.2.2.2.1), ↓ob (hQ.2.2.2.2.2.2.2.2.2.2.2.2.2.2.2.2.2.1), ↓ob (hQ.2.2.2.2.2.2.2.2.2.2.2.2.2.2.2.2.2.2.1), hQ.2.2.2.2.2.2.2.2.2.2.2.2.2.2.2.2.2.2.2.1, hQ.2.2.2.2.2.2.2.2.2.2.2.2.2.2.2.2.2.2.2.2.1, hQ.2.2.2.2.2.2.2.2.2.2.2.2.2.2.2.2.2.2.2.2.2.1, hQ.2.2.2.2.2.2.2.2.2.2.2.2.2.2.2.2.2.2.2.2.2.2.1, hQ.2.2.2.2.2.2.2.2.2.2.2.2.2.2.2.2.2.2.2.2.2.2.2, x1, mso hj, ↓lt_e, ↓gd_e, ↓Option.bind_some, ↓reduceIte, if_true, if_false, if_pT, if_nF, decide_true, Bool.not_true, Bool.not_false, not_true_eq_false, not_false_eq_true, Bool.false_eq_true, Bool.true_eq_false, eq_self, n3_lit, n3_add, n3_mul, n3_sub, n3_tn, n3_le_t, n3_le_f, n3_lt_t, n3_lt_f, n3_eq_f, n3_eq_t, n3_inb, n3_rem, n3_div, n3_zb, bb_0, bb_1, zb_bb, bb_T, bb_F, n3_dec, n3_m1, n3_eqm, n3_eqmt, n3_ltm, n3_mlt, n3_lem, n3_mle, n3_neg_lt, n3_nlt_neg, n3_nle_neg, n3_neg_le]
            · have x1 : n3 0 &&& n3 1 = n3 0 := by decide
              have c4 : u3 (T (2 * i + 1)) = 0 := by omega
              rw [c4] at s2 s3 ⊢
              simp (disch := omega) only [jn_X8_read_23, jn_X8_read_56, jn_X8_read_96, bd_X8_read_27, g1, s1, s2, s3, q1, ↓ob (hQ.1), ↓ob (hQ.2.1), ↓ob (hQ.2.2.1), ↓ob (hQ.2.2.2.1), hQ.2.2.2.2.1, hQ.2.2.2.2.2.1, hQ.2.2.2.2.2.2.1, hQ.2.2.2.2.2.2.2.1, ↓ob (hQ.2.2.2.2.2.2.2.2.1), ↓ob (hQ.2.2.2.2.2.2.2.2.2.1), ↓ob (hQ.2.2.2.2.2.2.2.2.2.2.1), hQ.2.2.2.2.2.2.2.2.2.2.2.1, hQ.2.2.2.2.2.2.2.2.2.2.2.2.1, hQ.2.2.2.2.2.2.2.2.2.2.2.2.2.1, ↓ob (hQ.2.2.2.2.2.2.2.2.2.2.2.2.2.2.1), ↓ob (hQ.2.2.2.2.2.2.2.2.2.2.2.2.2.2.2.1), ↓ob (hQ.2.2.2.2.2.2.2.2.2.2.2.2.2.2.2.2.1), ↓ob (hQ.2.2.2.2.2.2.2.2.2.2.2.2.2.2.2.2.2.1), ↓ob (hQ.2.2.2.2.2.2.2.2.2.2.2.2.2.2.2.2.2.2.1), hQ.2.2.2.2.2.2.2.2.2.2.2.2.2.2.2.2.2.2.2.1, hQ.2.2.2.2.2.2.2.2.2.2.2.2.2.2.2.2.2.2.2.2.1, hQ.2.2.2.2.2.2.2.2.2.2.2.2.2.2.2.2.2.2.2.2.2.1, hQ.2.2.2.2.2.2.2.2.2.2.2.2.2.2.2.2.2.2.2.2.2.2.1, hQ.2.2.2.2.2.2.2.2.2.2.2.2.2.2.2.2.2.2.2.2.2.2.2, x1, mso hj, ↓lt_e, ↓gd_e, ↓Option.bind_some, ↓reduceIte, if_true, if_false, if_pT, if_nF, decide_true, Bool.not_true, Bool.not_false, not_true_eq_false, not_false_eq_true, Bool.false_eq_true, Bool.true_eq_false, eq_self, n3_lit, n3_add, n3_mul, n3_sub, n3_tn, n3_le_t, n3_le_f, n3_lt_t, n3_lt_f, n3_eq_f, n3_eq_t, n3_inb, n3_rem, n3_div, n3_zb, bb_0, bb_1, zb_bb, bb_T, bb_F, n3_dec, n3_m1, n3_eqm, n3_eqmt, n3_ltm, n3_mlt, n3_lem, n3_mle, n3_neg_lt, n3_nlt_neg, n3_nle_neg, n3_neg_le]
        · right
          have hx := tvb_m (tvb_n c) (n / 2 - (i + 1))
          rw [show i + 1 + (n / 2 - (i + 1)) = n / 2 by omega] at hx
          refine ⟨_, ⟨μ1, rfl, fun h => absurd h (by rw [hx]; decide), hf⟩, fun k => ?_⟩
          rw [bbB_f hx]
          by_cases c1 : u3 (T (2 * i)) < 24
          · have c2 : ¬ u3 (T (2 * i + 1)) % 256 < 2 := fun h => c ⟨c1, b2.1 h⟩
            rw [byt_eq (a := 24) (by omega) c1] at s1
            simp (disch := omega) only [jn_X8_read_23, jn_X8_read_56, jn_X8_read_96, bd_X8_read_27, g1, s1, s2, ↓lt_e, ↓gd_e, ↓Option.bind_some, ↓reduceIte, if_true, if_false, if_pT, if_nF, decide_true, Bool.not_true, Bool.not_false, not_true_eq_false, not_false_eq_true, Bool.false_eq_true, Bool.true_eq_false, eq_self, n3_lit, n3_add, n3_mul, n3_sub, n3_tn, n3_le_t, n3_le_f, n3_lt_t, n3_lt_f, n3_eq_f, n3_eq_t, n3_inb, n3_rem, n3_div, n3_zb, bb_0, bb_1, zb_bb, bb_T, bb_F, n3_dec, n3_m1, n3_eqm, n3_eqmt, n3_ltm, n3_mlt, n3_lem, n3_mle, n3_neg_lt, n3_nlt_neg, n3_nle_neg, n3_neg_le]
          · have c2 : ¬ u3 (T (2 * i)) % 256 < 24 := fun h => c1 (b1.1 h)
            simp (disch := omega) only [jn_X8_read_23, jn_X8_read_56, jn_X8_read_96, bd_X8_read_27, g1, s1, s2, ↓lt_e, ↓gd_e, ↓Option.bind_some, ↓reduceIte, if_true, if_false, if_pT, if_nF, decide_true, Bool.not_true, Bool.not_false, not_true_eq_false, not_false_eq_true, Bool.false_eq_true, Bool.true_eq_false, eq_self, n3_lit, n3_add, n3_mul, n3_sub, n3_tn, n3_le_t, n3_le_f, n3_lt_t, n3_lt_f, n3_eq_f, n3_eq_t, n3_inb, n3_rem, n3_div, n3_zb, bb_0, bb_1, zb_bb, bb_T, bb_F, n3_dec, n3_m1, n3_eqm, n3_eqmt, n3_ltm, n3_mlt, n3_lem, n3_mle, n3_neg_lt, n3_nlt_neg, n3_nle_neg, n3_neg_le]
      · obtain ⟨μ1, rfl, hb, hq, hf⟩ := hs
        have g1 : μ1.1 (ad 1) 1 = n3 n := by rw [(hf 1 (by omega)).1]; exact h1
        refine ⟨_, ⟨μ1, rfl, fun _ => hq, hf⟩, fun k => ?_⟩
        rw [bbB_t hb]
        simp (disch := omega) only [jn_X8_read_23, jn_X8_read_56, jn_X8_read_96, bd_X8_read_27, g1, ↓lt_e, ↓gd_e, ↓Option.bind_some, ↓reduceIte, if_true, if_false, if_pT, if_nF, decide_true, Bool.not_true, Bool.not_false, not_true_eq_false, not_false_eq_true, Bool.false_eq_true, Bool.true_eq_false, eq_self, n3_lit, n3_add, n3_mul, n3_sub, n3_tn, n3_le_t, n3_le_f, n3_lt_t, n3_lt_f, n3_eq_f, n3_eq_t, n3_inb, n3_rem, n3_div, n3_zb, bb_0, bb_1, zb_bb, bb_T, bb_F, n3_dec, n3_m1, n3_eqm, n3_eqmt, n3_ltm, n3_mlt, n3_lem, n3_mle, n3_neg_lt, n3_nlt_neg, n3_nle_neg, n3_neg_le]

/-! tides and blocks told -/
theorem cw_s {σ ρ : Type} (stp : (σ → Option ρ) → σ → Option ρ) (M : Nat) (s : σ) : cw stp (M + 1) s = stp (cw stp M) s := rfl
theorem r_tde {N : Nat} {Λ : Lay} {μ : Mem} {a : Nat} (K : Int32 × Int32 × Int32 × Mem → Option (Int32 × Mem)) (v : Int32) {z : Nat} (hz : z ≤ 1) : bd_X12_readTide_6 N Λ μ K a v (n3 z) (n3 0) = some (n3 z, μ) := by
  simp (disch := omega) only [bd_X12_readTide_6, ↓lt_e, ↓gd_e, ↓Option.bind_some, ↓reduceIte, if_true, if_false, if_pT, if_nF, decide_true, Bool.not_true, Bool.not_false, not_true_eq_false, not_false_eq_true, Bool.false_eq_true, Bool.true_eq_false, eq_self, n3_lit, n3_add, n3_mul, n3_sub, n3_tn, n3_le_t, n3_le_f, n3_lt_t, n3_lt_f, n3_eq_f, n3_eq_t, n3_inb, n3_rem, n3_div, n3_zb, bb_0, bb_1, zb_bb, bb_T, bb_F, n3_dec, n3_m1, n3_eqm, n3_eqmt, n3_ltm, n3_mlt, n3_lem, n3_mle, n3_neg_lt, n3_nlt_neg, n3_nle_neg, n3_neg_le]
theorem r_bke {N : Nat} {Λ : Lay} {μ : Mem} {a : Nat} (K : Int32 × Int32 × Int32 × Mem → Option (Int32 × Mem)) (v : Int32) {z : Nat} (hz : z ≤ 1) : bd_X12_readBlocks_6 N Λ μ K a v (n3 z) (n3 0) = some (n3 z, μ) := by
  simp (disch := omega) only [bd_X12_readBlocks_6, ↓lt_e, ↓gd_e, ↓Option.bind_some, ↓reduceIte, if_true, if_false, if_pT, if_nF, decide_true, Bool.not_true, Bool.not_false, not_true_eq_false, not_false_eq_true, Bool.false_eq_true, Bool.true_eq_false, eq_self, n3_lit, n3_add, n3_mul, n3_sub, n3_tn, n3_le_t, n3_le_f, n3_lt_t, n3_lt_f, n3_eq_f, n3_eq_t, n3_inb, n3_rem, n3_div, n3_zb, bb_0, bb_1, zb_bb, bb_T, bb_F, n3_dec, n3_m1, n3_eqm, n3_eqmt, n3_ltm, n3_mlt, n3_lem, n3_mle, n3_neg_lt, n3_nlt_neg, n3_nle_neg, n3_neg_le]
theorem l_tides {N : Nat} (hN : 1099511627776 ≤ N) {Λ : Lay} {ad : Nat → Nat} (hj : Inj ad) (hP : LyP Λ ad) (hD : LyD Λ ad 48 12 8) (hR : LyR Λ ad) {T : Nat → Int32} {n m : Nat} (hm : Tm T n m) (hS12 : LyS Λ ad 12) : ∀ (d h i pe b M M' : Nat) (G : Nat → Nat), WF G → h + d = 12 → d < M → d + 1 < M' → i ≤ m → pe ≤ n → nb T n pe = BT T n i → LO ad T n m G (fun μ v => cw (fun k s => bd_X1_readTides_2 N Λ (s.2) k (ad 48) s.1) M (n3 h, rd ad 48 μ i v)) (fun μ => cw (fun k s => bd_X12_readTide_6 N Λ (s.2.2.2) k (ad 181) s.1 s.2.1 s.2.2.1) M' (n3 h, n3 1, n3 1, pt ad μ pe b)) := by
  intro d
  induction d with
  | zero =>
    intro h i pe b M M' G hw hh hM hM' hi hpe hpb
    obtain ⟨M, rfl⟩ : ∃ Q, M = Q + 1 := ⟨M - 1, by omega⟩
    obtain ⟨M', rfl⟩ : ∃ Q, M' = Q + 1 + 1 := ⟨M' - 2, by omega⟩
    have h12 : h = 12 := by omega
    subst h12
    refine LO.fail i hi (fun μ v t c => ⟨v, ?_⟩) (fun μ t c => ⟨re T n 2 (BT T n i), ?_⟩)
    · show bd_X1_readTides_2 N Λ (rd ad 48 μ i v) _ (ad 48) (n3 12) = _
      simp (disch := omega) only [bd_X1_readTides_2, ↓lt_e, ↓gd_e, ↓Option.bind_some, ↓reduceIte, if_true, if_false, if_pT, if_nF, decide_true, Bool.not_true, Bool.not_false, not_true_eq_false, not_false_eq_true, Bool.false_eq_true, Bool.true_eq_false, eq_self, n3_lit, n3_add, n3_mul, n3_sub, n3_tn, n3_le_t, n3_le_f, n3_lt_t, n3_lt_f, n3_eq_f, n3_eq_t, n3_inb, n3_rem, n3_div, n3_zb, bb_0, bb_1, zb_bb, bb_T, bb_F, n3_dec, n3_m1, n3_eqm, n3_eqmt, n3_ltm, n3_mlt, n3_lem, n3_mle, n3_neg_lt, n3_nlt_neg, n3_nle_neg, n3_neg_le]
    · have c1 := r_number hN hj hR t hpe hpb b (show 0 ≤ 9999 by omega) (show 30 ≤ 9999 by omega)
      have e : ∀ K, bd_X12_readTide_6 N Λ (pt ad μ pe b) K (ad 181) (n3 12) (n3 1) (n3 1) = K (n3 13, n3 0, n3 0, pt ad μ (re T n 2 (BT T n i)) (BT T n i)) := fun K => by
        by_cases hv : NVp T n i 0 30
        · have hx : NTv T n i ≤ 30 := hv.2.2.2
          rw [if_pos hv] at c1
          simp (disch := omega) only [bd_X12_readTide_6, jn_X12_readTide_34, jn_X12_readTide_35, jn_X12_readTide_51, jn_X12_readTide_69, jn_X12_readTide_70, n3_lit, c1, ↓lt_e, ↓gd_e, ↓Option.bind_some, ↓reduceIte, if_true, if_false, if_pT, if_nF, decide_true, Bool.not_true, Bool.not_false, not_true_eq_false, not_false_eq_true, Bool.false_eq_true, Bool.true_eq_false, eq_self, n3_eq_f, n3_eq_t, n3_lt_f, n3_le_t, n3_add]
        · rw [if_neg hv] at c1
          simp (disch := omega) only [bd_X12_readTide_6, jn_X12_readTide_34, jn_X12_readTide_35, jn_X12_readTide_51, jn_X12_readTide_69, jn_X12_readTide_70, n3_lit, c1, ↓lt_e, ↓gd_e, ↓Option.bind_some, ↓reduceIte, if_true, if_false, if_pT, if_nF, decide_true, Bool.not_true, Bool.not_false, not_true_eq_false, not_false_eq_true, Bool.false_eq_true, Bool.true_eq_false, eq_self, n3_lit, n3_add, n3_mul, n3_sub, n3_tn, n3_le_t, n3_le_f, n3_lt_t, n3_lt_f, n3_eq_f, n3_eq_t, n3_inb, n3_rem, n3_div, n3_zb, bb_0, bb_1, zb_bb, bb_T, bb_F, n3_dec, n3_m1, n3_eqm, n3_eqmt, n3_ltm, n3_mlt, n3_lem, n3_mle, n3_neg_lt, n3_nlt_neg, n3_nle_neg, n3_neg_le]
      exact (e _).trans (r_tde _ _ (by omega))
  | succ d ih =>
    intro h i pe b M M' G hw hh hM hM' hi hpe hpb
    have hb := hw.1; unfold WB at hb
    obtain ⟨M, rfl⟩ : ∃ Q, M = Q + 1 := ⟨M - 1, by omega⟩
    obtain ⟨M', rfl⟩ : ∃ Q, M' = Q + 1 := ⟨M' - 1, by omega⟩
    have bt := BT_le T n i
    by_cases hv : NVp T n i 0 30
    · have hx : NTv T n i ≤ 30 := hv.2.2.2
      have hi1 := hm.nv hi hv
      have hwf : WF (up G (13 + h) (NTv T n i)) := hw.up_t (by omega) hx
      have hal : ∀ h, h < 12 → lcO (13 + h) = 1 ∧ lcI (13 + h) = h := by decide
      have cw1 : ∀ μ, CS ad μ 12 G → CS ad (mset μ (ad 13) h (n3 (NTv T n i))) 12 (up G (13 + h) (NTv T n i)) := fun μ c => c.wr hj hb.1 hb.2.2.2.2.2.2.2.2.2.2.2.1 (13 + h) (NTv T n i) (by omega) ⟨by omega, by omega⟩ (by omega) (by omega) 13 h (by rw [(hal h (by omega)).1]) (hal h (by omega)).2.symm
      by_cases hk : KT T n (i + 1) = 2
      · refine LO.step (ih (h + 1) (i + 1) (BT T n (i + 1)) (BT T n (i + 1)) M M' (up G (13 + h) (NTv T n i)) hwf (by omega) (by omega) (by omega) hi1 (BT_le T n (i + 1)) (BT_nb T n (i + 1))) ((LwE.refl G).up (by omega) (by omega)) (up_n (by omega)) (fun μ v t c => ⟨mset μ (ad 13) h (n3 (NTv T n i)), NTv T n i, ?_, t.w hj (by omega) _ _, cw1 μ c, (Fr.refl μ).set hj (by omega)⟩) (fun μ t c => ⟨mset μ (ad 182) (13 + h) (n3 (NTv T n i)), ?_, t.w hj _ _, c.set _ _, (Fr.refl μ).set hj (by omega), fun k _ _ => by rw [mso hj (by omega)]⟩)
        · have c1 := c_tn_t hN (Or.inl rfl) hj hP hD t hi v (show 0 ≤ 9999 by omega) (show 30 ≤ 9999 by omega) hv
          have c2 := c_an (N := N) hN (Or.inl rfl) hj hP hD (t.w hj (show 13 ≠ 1 ∧ 13 ≠ 2 ∧ 13 ≠ 48 ∧ 13 ≠ 48 + 1 ∧ 13 ≠ 48 + 2 ∧ 13 ≠ 48 + 3 by omega) h (n3 (NTv T n i))) hi1 (NTv T n i)
          rw [bb_t hk] at c2
          have d2 := hS12.1
          have e : ∀ K, bd_X1_readTides_2 N Λ (rd ad 48 μ i v) K (ad 48) (n3 h) = K (n3 (h + 1), rd ad 48 (mset μ (ad 13) h (n3 (NTv T n i))) (i + 1) (NTv T n i)) := fun K => by
            simp (disch := omega) only [bd_X1_readTides_2, n3_lit, c1, ↓ob (hD.1), ↓ob (hD.2.1), ↓ob (hD.2.2.1), ↓ob (hD.2.2.2.1), ↓ob (hD.2.2.2.2.1), hD.2.2.2.2.2.1, hD.2.2.2.2.2.2.1, hD.2.2.2.2.2.2.2, ↓ob (d2), hS12.2.2.2.2.2.2.2.2.1, rd_2, rd_w hj, c2, ↓lt_e, ↓gd_e, ↓Option.bind_some, ↓reduceIte, if_true, if_false, if_pT, if_nF, decide_true, Bool.not_true, Bool.not_false, not_true_eq_false, not_false_eq_true, Bool.false_eq_true, Bool.true_eq_false, eq_self, n3_le_f, n3_eq_f, n3_inb, n3_tn, n3_add]
          exact e _
        · have c1 := r_nm_t hN hj hR t hpe hpb b (show 0 ≤ 9999 by omega) (show 30 ≤ 9999 by omega) hv
          have c2 := r_inn (N := N) hN hj hR (t.w hj (13 + h) (n3 (NTv T n i))) (te_le T bt) (BT_nx (T := T) (n := n) (i := i)) (BT T n i)
          rw [bb_t hk] at c2
          have e : ∀ K, bd_X12_readTide_6 N Λ (pt ad μ pe b) K (ad 181) (n3 h) (n3 1) (n3 1) = K (n3 (h + 1), n3 1, n3 1, pt ad (mset μ (ad 182) (13 + h) (n3 (NTv T n i))) (BT T n (i + 1)) (BT T n (i + 1))) := fun K => by
            simp (disch := omega) only [bd_X12_readTide_6, jn_X12_readTide_34, jn_X12_readTide_35, jn_X12_readTide_51, jn_X12_readTide_69, jn_X12_readTide_70, n3_lit, c1, ↓ob (hR.1), ↓ob (hR.2.1), ↓ob (hR.2.2.1), ↓ob (hR.2.2.2.1), ↓ob (hR.2.2.2.2.1), ↓ob (hR.2.2.2.2.2.1), ↓ob (hR.2.2.2.2.2.2.1), ↓ob (hR.2.2.2.2.2.2.2.1), ↓ob (hR.2.2.2.2.2.2.2.2.1), ↓ob (hR.2.2.2.2.2.2.2.2.2.1), ↓ob (hR.2.2.2.2.2.2.2.2.2.2.1), ↓ob (hR.2.2.2.2.2.2.2.2.2.2.2.1), ↓ob (hR.2.2.2.2.2.2.2.2.2.2.2.2.1), ↓ob (hR.2.2.2.2.2.2.2.2.2.2.2.2.2.1), ↓ob (hR.2.2.2.2.2.2.2.2.2.2.2.2.2.2.1), ↓ob (hR.2.2.2.2.2.2.2.2.2.2.2.2.2.2.2.1), ↓ob (hR.2.2.2.2.2.2.2.2.2.2.2.2.2.2.2.2.1), ↓ob (hR.2.2.2.2.2.2.2.2.2.2.2.2.2.2.2.2.2.1), hR.2.2.2.2.2.2.2.2.2.2.2.2.2.2.2.2.2.2.1, hR.2.2.2.2.2.2.2.2.2.2.2.2.2.2.2.2.2.2.2.1, hR.2.2.2.2.2.2.2.2.2.2.2.2.2.2.2.2.2.2.2.2.1, hR.2.2.2.2.2.2.2.2.2.2.2.2.2.2.2.2.2.2.2.2.2.1, hR.2.2.2.2.2.2.2.2.2.2.2.2.2.2.2.2.2.2.2.2.2.2.1, hR.2.2.2.2.2.2.2.2.2.2.2.2.2.2.2.2.2.2.2.2.2.2.2.1, hR.2.2.2.2.2.2.2.2.2.2.2.2.2.2.2.2.2.2.2.2.2.2.2.2.1, hR.2.2.2.2.2.2.2.2.2.2.2.2.2.2.2.2.2.2.2.2.2.2.2.2.2.1, hR.2.2.2.2.2.2.2.2.2.2.2.2.2.2.2.2.2.2.2.2.2.2.2.2.2.2.1, hR.2.2.2.2.2.2.2.2.2.2.2.2.2.2.2.2.2.2.2.2.2.2.2.2.2.2.2.1, hR.2.2.2.2.2.2.2.2.2.2.2.2.2.2.2.2.2.2.2.2.2.2.2.2.2.2.2.2.1, hR.2.2.2.2.2.2.2.2.2.2.2.2.2.2.2.2.2.2.2.2.2.2.2.2.2.2.2.2.2.1, hR.2.2.2.2.2.2.2.2.2.2.2.2.2.2.2.2.2.2.2.2.2.2.2.2.2.2.2.2.2.2.1, hR.2.2.2.2.2.2.2.2.2.2.2.2.2.2.2.2.2.2.2.2.2.2.2.2.2.2.2.2.2.2.2.1, hR.2.2.2.2.2.2.2.2.2.2.2.2.2.2.2.2.2.2.2.2.2.2.2.2.2.2.2.2.2.2.2.2.1, hR.2.2.2.2.2.2.2.2.2.2.2.2.2.2.2.2.2.2.2.2.2.2.2.2.2.2.2.2.2.2.2.2.2.1, hR.2.2.2.2.2.2.2.2.2.2.2.2.2.2.2.2.2.2.2.2.2.2.2.2.2.2.2.2.2.2.2.2.2.2.1, hR.2.2.2.2.2.2.2.2.2.2.2.2.2.2.2.2.2.2.2.2.2.2.2.2.2.2.2.2.2.2.2.2.2.2.2, pt_w hj, c2, ↓lt_e, ↓gd_e, ↓Option.bind_some, ↓reduceIte, if_true, if_false, if_pT, if_nF, decide_true, Bool.not_true, Bool.not_false, not_true_eq_false, not_false_eq_true, Bool.false_eq_true, Bool.true_eq_false, eq_self, n3_eq_f, n3_eq_t, n3_lt_f, n3_le_f, n3_add, n3_inb, n3_tn]
          exact e _
      · refine LO.one hj hw (i + 1) hi1 (13 + h) (NTv T n i) (by omega) ⟨by omega, by omega⟩ (by omega) (by omega) 13 h (by rw [(hal h (by omega)).1]) (hal h (by omega)).2.symm hwf (BT T n (i + 1)) (BT_le T n (i + 1)) (BT_nb T n (i + 1)) (fun μ v t c => ⟨NTv T n i, ?_⟩) (fun μ t c => ⟨BT T n (i + 1), ?_⟩)
        · have c1 := c_tn_t hN (Or.inl rfl) hj hP hD t hi v (show 0 ≤ 9999 by omega) (show 30 ≤ 9999 by omega) hv
          have c2 := c_an (N := N) hN (Or.inl rfl) hj hP hD (t.w hj (show 13 ≠ 1 ∧ 13 ≠ 2 ∧ 13 ≠ 48 ∧ 13 ≠ 48 + 1 ∧ 13 ≠ 48 + 2 ∧ 13 ≠ 48 + 3 by omega) h (n3 (NTv T n i))) hi1 (NTv T n i)
          rw [bb_f hk] at c2
          rw [cw_s]
          have d2 := hS12.1
          simp (disch := omega) only [bd_X1_readTides_2, n3_lit, c1, ↓ob (hD.1), ↓ob (hD.2.1), ↓ob (hD.2.2.1), ↓ob (hD.2.2.2.1), ↓ob (hD.2.2.2.2.1), hD.2.2.2.2.2.1, hD.2.2.2.2.2.2.1, hD.2.2.2.2.2.2.2, ↓ob (d2), hS12.2.2.2.2.2.2.2.2.1, rd_2, rd_w hj, c2, ↓lt_e, ↓gd_e, ↓Option.bind_some, ↓reduceIte, if_true, if_false, if_pT, if_nF, decide_true, Bool.not_true, Bool.not_false, not_true_eq_false, not_false_eq_true, Bool.false_eq_true, Bool.true_eq_false, eq_self, n3_le_f, n3_eq_f, n3_eq_t, n3_inb, n3_tn]
        · have c1 := r_nm_t hN hj hR t hpe hpb b (show 0 ≤ 9999 by omega) (show 30 ≤ 9999 by omega) hv
          have c2 := r_inn (N := N) hN hj hR (t.w hj (13 + h) (n3 (NTv T n i))) (te_le T bt) (BT_nx (T := T) (n := n) (i := i)) (BT T n i)
          rw [bb_f hk] at c2
          obtain ⟨M', rfl⟩ : ∃ Q, M' = Q + 1 := ⟨M' - 1, by omega⟩
          have e : ∀ K, bd_X12_readTide_6 N Λ (pt ad μ pe b) K (ad 181) (n3 h) (n3 1) (n3 1) = K (n3 (h + 1), n3 1, n3 0, pt ad (mset μ (ad 182) (13 + h) (n3 (NTv T n i))) (BT T n (i + 1)) (BT T n (i + 1))) := fun K => by
            simp (disch := omega) only [bd_X12_readTide_6, jn_X12_readTide_34, jn_X12_readTide_35, jn_X12_readTide_51, jn_X12_readTide_69, jn_X12_readTide_70, n3_lit, c1, ↓ob (hR.1), ↓ob (hR.2.1), ↓ob (hR.2.2.1), ↓ob (hR.2.2.2.1), ↓ob (hR.2.2.2.2.1), ↓ob (hR.2.2.2.2.2.1), ↓ob (hR.2.2.2.2.2.2.1), ↓ob (hR.2.2.2.2.2.2.2.1), ↓ob (hR.2.2.2.2.2.2.2.2.1), ↓ob (hR.2.2.2.2.2.2.2.2.2.1), ↓ob (hR.2.2.2.2.2.2.2.2.2.2.1), ↓ob (hR.2.2.2.2.2.2.2.2.2.2.2.1), ↓ob (hR.2.2.2.2.2.2.2.2.2.2.2.2.1), ↓ob (hR.2.2.2.2.2.2.2.2.2.2.2.2.2.1), ↓ob (hR.2.2.2.2.2.2.2.2.2.2.2.2.2.2.1), ↓ob (hR.2.2.2.2.2.2.2.2.2.2.2.2.2.2.2.1), ↓ob (hR.2.2.2.2.2.2.2.2.2.2.2.2.2.2.2.2.1), ↓ob (hR.2.2.2.2.2.2.2.2.2.2.2.2.2.2.2.2.2.1), hR.2.2.2.2.2.2.2.2.2.2.2.2.2.2.2.2.2.2.1, hR.2.2.2.2.2.2.2.2.2.2.2.2.2.2.2.2.2.2.2.1, hR.2.2.2.2.2.2.2.2.2.2.2.2.2.2.2.2.2.2.2.2.1, hR.2.2.2.2.2.2.2.2.2.2.2.2.2.2.2.2.2.2.2.2.2.1, hR.2.2.2.2.2.2.2.2.2.2.2.2.2.2.2.2.2.2.2.2.2.2.1, hR.2.2.2.2.2.2.2.2.2.2.2.2.2.2.2.2.2.2.2.2.2.2.2.1, hR.2.2.2.2.2.2.2.2.2.2.2.2.2.2.2.2.2.2.2.2.2.2.2.2.1, hR.2.2.2.2.2.2.2.2.2.2.2.2.2.2.2.2.2.2.2.2.2.2.2.2.2.1, hR.2.2.2.2.2.2.2.2.2.2.2.2.2.2.2.2.2.2.2.2.2.2.2.2.2.2.1, hR.2.2.2.2.2.2.2.2.2.2.2.2.2.2.2.2.2.2.2.2.2.2.2.2.2.2.2.1, hR.2.2.2.2.2.2.2.2.2.2.2.2.2.2.2.2.2.2.2.2.2.2.2.2.2.2.2.2.1, hR.2.2.2.2.2.2.2.2.2.2.2.2.2.2.2.2.2.2.2.2.2.2.2.2.2.2.2.2.2.1, hR.2.2.2.2.2.2.2.2.2.2.2.2.2.2.2.2.2.2.2.2.2.2.2.2.2.2.2.2.2.2.1, hR.2.2.2.2.2.2.2.2.2.2.2.2.2.2.2.2.2.2.2.2.2.2.2.2.2.2.2.2.2.2.2.1, hR.2.2.2.2.2.2.2.2.2.2.2.2.2.2.2.2.2.2.2.2.2.2.2.2.2.2.2.2.2.2.2.2.1, hR.2.2.2.2.2.2.2.2.2.2.2.2.2.2.2.2.2.2.2.2.2.2.2.2.2.2.2.2.2.2.2.2.2.1, hR.2.2.2.2.2.2.2.2.2.2.2.2.2.2.2.2.2.2.2.2.2.2.2.2.2.2.2.2.2.2.2.2.2.2.1, hR.2.2.2.2.2.2.2.2.2.2.2.2.2.2.2.2.2.2.2.2.2.2.2.2.2.2.2.2.2.2.2.2.2.2.2, pt_w hj, c2, ↓lt_e, ↓gd_e, ↓Option.bind_some, ↓reduceIte, if_true, if_false, if_pT, if_nF, decide_true, Bool.not_true, Bool.not_false, not_true_eq_false, not_false_eq_true, Bool.false_eq_true, Bool.true_eq_false, eq_self, n3_eq_f, n3_eq_t, n3_lt_f, n3_le_f, n3_add, n3_inb, n3_tn]
          exact (e _).trans (r_tde _ _ (by omega))
    · refine LO.fail i hi (fun μ v t c => ⟨v, ?_⟩) (fun μ t c => ⟨re T n 2 (BT T n i), ?_⟩)
      · have c1 := c_tn_f hN (Or.inl rfl) hj hP hD t hi v (show 0 ≤ 9999 by omega) (show 30 ≤ 9999 by omega) hv
        rw [cw_s]
        simp (disch := omega) only [bd_X1_readTides_2, n3_lit, c1, ↓lt_e, ↓gd_e, ↓Option.bind_some, ↓reduceIte, if_true, if_false, if_pT, if_nF, decide_true, Bool.not_true, Bool.not_false, not_true_eq_false, not_false_eq_true, Bool.false_eq_true, Bool.true_eq_false, eq_self, n3_le_f, n3_eq_t]
      · have c1 := r_nm_f hN hj hR t hpe hpb b (show 0 ≤ 9999 by omega) (show 30 ≤ 9999 by omega) hv
        obtain ⟨M', rfl⟩ : ∃ Q, M' = Q + 1 := ⟨M' - 1, by omega⟩
        have e : ∀ K, bd_X12_readTide_6 N Λ (pt ad μ pe b) K (ad 181) (n3 h) (n3 1) (n3 1) = K (n3 (h + 1), n3 0, n3 0, pt ad μ (re T n 2 (BT T n i)) (BT T n i)) := fun K => by
          simp (disch := omega) only [bd_X12_readTide_6, jn_X12_readTide_34, jn_X12_readTide_35, jn_X12_readTide_51, jn_X12_readTide_69, jn_X12_readTide_70, n3_lit, c1, ↓lt_e, ↓gd_e, ↓Option.bind_some, ↓reduceIte, if_true, if_false, if_pT, if_nF, decide_true, Bool.not_true, Bool.not_false, not_true_eq_false, not_false_eq_true, Bool.false_eq_true, Bool.true_eq_false, eq_self, n3_lit, n3_add, n3_mul, n3_sub, n3_tn, n3_le_t, n3_le_f, n3_lt_t, n3_lt_f, n3_eq_f, n3_eq_t, n3_inb, n3_rem, n3_div, n3_zb, bb_0, bb_1, zb_bb, bb_T, bb_F, n3_dec, n3_m1, n3_eqm, n3_eqmt, n3_ltm, n3_mlt, n3_lem, n3_mle, n3_neg_lt, n3_nlt_neg, n3_nle_neg, n3_neg_le]
        exact (e _).trans (r_tde _ _ (by omega))
theorem l_blocks {N : Nat} (hN : 1099511627776 ≤ N) {Λ : Lay} {ad : Nat → Nat} (hj : Inj ad) (hP : LyP Λ ad) (hD : LyD Λ ad 48 12 8) (hR : LyR Λ ad) {T : Nat → Int32} {n m : Nat} (hm : Tm T n m) : ∀ (d h i pe b M M' : Nat) (G : Nat → Nat), WF G → h + d = 12 → d < M → d + 1 < M' → i ≤ m → pe ≤ n → nb T n pe = BT T n i → LO ad T n m G (fun μ v => cw (fun k s => bd_X1_readBlocks_2 N Λ (s.2) k (ad 48) s.1) M (n3 h, rd ad 48 μ i v)) (fun μ => cw (fun k s => bd_X12_readBlocks_6 N Λ (s.2.2.2) k (ad 181) s.1 s.2.1 s.2.2.1) M' (n3 h, n3 1, n3 1, pt ad μ pe b)) := by
  intro d
  induction d with
  | zero =>
    intro h i pe b M M' G hw hh hM hM' hi hpe hpb
    obtain ⟨M, rfl⟩ : ∃ Q, M = Q + 1 := ⟨M - 1, by omega⟩
    obtain ⟨M', rfl⟩ : ∃ Q, M' = Q + 1 + 1 := ⟨M' - 2, by omega⟩
    have h12 : h = 12 := by omega
    subst h12
    refine LO.fail i hi (fun μ v t c => ⟨v, ?_⟩) (fun μ t c => ⟨re T n 2 (BT T n i), ?_⟩)
    · show bd_X1_readBlocks_2 N Λ (rd ad 48 μ i v) _ (ad 48) (n3 12) = _
      simp (disch := omega) only [bd_X1_readBlocks_2, ↓lt_e, ↓gd_e, ↓Option.bind_some, ↓reduceIte, if_true, if_false, if_pT, if_nF, decide_true, Bool.not_true, Bool.not_false, not_true_eq_false, not_false_eq_true, Bool.false_eq_true, Bool.true_eq_false, eq_self, n3_lit, n3_add, n3_mul, n3_sub, n3_tn, n3_le_t, n3_le_f, n3_lt_t, n3_lt_f, n3_eq_f, n3_eq_t, n3_inb, n3_rem, n3_div, n3_zb, bb_0, bb_1, zb_bb, bb_T, bb_F, n3_dec, n3_m1, n3_eqm, n3_eqmt, n3_ltm, n3_mlt, n3_lem, n3_mle, n3_neg_lt, n3_nlt_neg, n3_nle_neg, n3_neg_le]
    · have c1 := r_number hN hj hR t hpe hpb b (show 0 ≤ 9999 by omega) (show 23 ≤ 9999 by omega)
      have e : ∀ K, bd_X12_readBlocks_6 N Λ (pt ad μ pe b) K (ad 181) (n3 12) (n3 1) (n3 1) = K (n3 13, n3 0, n3 0, pt ad μ (re T n 2 (BT T n i)) (BT T n i)) := fun K => by
        by_cases hv : NVp T n i 0 23
        · have hx : NTv T n i ≤ 23 := hv.2.2.2
          rw [if_pos hv] at c1
          simp (disch := omega) only [bd_X12_readBlocks_6, jn_X12_readBlocks_34, jn_X12_readBlocks_35, jn_X12_readBlocks_54, jn_X12_readBlocks_72, jn_X12_readBlocks_73, n3_lit, c1, ↓lt_e, ↓gd_e, ↓Option.bind_some, ↓reduceIte, if_true, if_false, if_pT, if_nF, decide_true, Bool.not_true, Bool.not_false, not_true_eq_false, not_false_eq_true, Bool.false_eq_true, Bool.true_eq_false, eq_self, n3_eq_f, n3_eq_t, n3_lt_f, n3_le_t, n3_add]
        · rw [if_neg hv] at c1
          simp (disch := omega) only [bd_X12_readBlocks_6, jn_X12_readBlocks_34, jn_X12_readBlocks_35, jn_X12_readBlocks_54, jn_X12_readBlocks_72, jn_X12_readBlocks_73, n3_lit, c1, ↓lt_e, ↓gd_e, ↓Option.bind_some, ↓reduceIte, if_true, if_false, if_pT, if_nF, decide_true, Bool.not_true, Bool.not_false, not_true_eq_false, not_false_eq_true, Bool.false_eq_true, Bool.true_eq_false, eq_self, n3_lit, n3_add, n3_mul, n3_sub, n3_tn, n3_le_t, n3_le_f, n3_lt_t, n3_lt_f, n3_eq_f, n3_eq_t, n3_inb, n3_rem, n3_div, n3_zb, bb_0, bb_1, zb_bb, bb_T, bb_F, n3_dec, n3_m1, n3_eqm, n3_eqmt, n3_ltm, n3_mlt, n3_lem, n3_mle, n3_neg_lt, n3_nlt_neg, n3_nle_neg, n3_neg_le]
      exact (e _).trans (r_bke _ _ (by omega))
  | succ d ih =>
    intro h i pe b M M' G hw hh hM hM' hi hpe hpb
    have hb := hw.1; unfold WB at hb
    obtain ⟨M, rfl⟩ : ∃ Q, M = Q + 1 := ⟨M - 1, by omega⟩
    obtain ⟨M', rfl⟩ : ∃ Q, M' = Q + 1 := ⟨M' - 1, by omega⟩
    have bt := BT_le T n i
    by_cases hv : NVp T n i 0 23
    · have hx : NTv T n i ≤ 23 := hv.2.2.2
      have hi1 := hm.nv hi hv
      have hlt : G 10 ||| 2 ^ NTv T n i < 2 ^ 24 := Nat.or_lt_two_pow (by omega) (Nat.pow_lt_pow_right (by omega) (by omega))
      have hwf : WF (up G 10 (G 10 ||| 2 ^ NTv T n i)) := hw.up_lo (by omega) (by omega) (by
        have e24 : (2 : Nat) ^ 24 = 16777216 := rfl
        unfold WB; simp (disch := omega) only [up_n, up_e]; omega)
      have cw1 : ∀ μ, CS ad μ 12 G → CS ad (mset μ (ad 12) 9 (n3 (G 10 ||| 2 ^ NTv T n i))) 12 (up G 10 (G 10 ||| 2 ^ NTv T n i)) := fun μ c => c.wr hj hb.1 hb.2.2.2.2.2.2.2.2.2.2.2.1 10 _ (by omega) ⟨by omega, by omega⟩ (by omega) (by omega) 12 9 rfl rfl
      have q9 : ∀ μ j v, CS ad μ 12 G → (rd ad 48 μ j v).1 (ad 12) 9 = n3 (G 10) := fun μ j v c => by rw [rd_o hj (by omega)]; exact c.2.2.2.2.2.2.2.2.2.1
      have q10 : ∀ μ p b, Row μ (ad 182) 1222 G → (pt ad μ p b).1 (ad 182) 10 = n3 (G 10) := fun μ p b c => by rw [pt_o hj (by omega)]; exact c 10 (by omega)
      by_cases hk : KT T n (i + 1) = 2
      · refine LO.step (ih (h + 1) (i + 1) (BT T n (i + 1)) (BT T n (i + 1)) M M' (up G 10 (G 10 ||| 2 ^ NTv T n i)) hwf (by omega) (by omega) (by omega) hi1 (BT_le T n (i + 1)) (BT_nb T n (i + 1))) ((LwE.refl G).up (by omega) (by omega)) (up_n (by omega)) (fun μ v t c => ⟨mset μ (ad 12) 9 (n3 (G 10 ||| 2 ^ NTv T n i)), NTv T n i, ?_, t.w hj (by omega) _ _, cw1 μ c, (Fr.refl μ).set hj (by omega)⟩) (fun μ t c => ⟨mset μ (ad 182) 10 (n3 (G 10 ||| 2 ^ NTv T n i)), ?_, t.w hj _ _, c.set _ _, (Fr.refl μ).set hj (by omega), fun k _ _ => by rw [mso hj (by omega)]⟩)
        · have c1 := c_tn_t hN (Or.inl rfl) hj hP hD t hi v (show 0 ≤ 9999 by omega) (show 23 ≤ 9999 by omega) hv
          have c2 := c_an (N := N) hN (Or.inl rfl) hj hP hD (t.w hj (show 12 ≠ 1 ∧ 12 ≠ 2 ∧ 12 ≠ 48 ∧ 12 ≠ 48 + 1 ∧ 12 ≠ 48 + 2 ∧ 12 ≠ 48 + 3 by omega) 9 (n3 (G 10 ||| 2 ^ NTv T n i))) hi1 (NTv T n i)
          rw [bb_t hk] at c2
          have q := q9 μ (i + 1) (NTv T n i) c
          have e : ∀ K, bd_X1_readBlocks_2 N Λ (rd ad 48 μ i v) K (ad 48) (n3 h) = K (n3 (h + 1), rd ad 48 (mset μ (ad 12) 9 (n3 (G 10 ||| 2 ^ NTv T n i))) (i + 1) (NTv T n i)) := fun K => by
            simp (disch := omega) only [bd_X1_readBlocks_2, n3_lit, c1, ↓ob (hD.1), ↓ob (hD.2.1), ↓ob (hD.2.2.1), ↓ob (hD.2.2.2.1), ↓ob (hD.2.2.2.2.1), hD.2.2.2.2.2.1, hD.2.2.2.2.2.2.1, hD.2.2.2.2.2.2.2, rd_2, q, n3_shl, n3_or, Nat.one_mul, rd_w hj, c2, ↓lt_e, ↓gd_e, ↓Option.bind_some, ↓reduceIte, if_true, if_false, if_pT, if_nF, decide_true, Bool.not_true, Bool.not_false, not_true_eq_false, not_false_eq_true, Bool.false_eq_true, Bool.true_eq_false, eq_self, n3_le_f, n3_eq_f, n3_inb, n3_tn, n3_add]
          exact e _
        · have c1 := r_nm_t hN hj hR t hpe hpb b (show 0 ≤ 9999 by omega) (show 23 ≤ 9999 by omega) hv
          have c2 := r_inn (N := N) hN hj hR (t.w hj 10 (n3 (G 10 ||| 2 ^ NTv T n i))) (te_le T bt) (BT_nx (T := T) (n := n) (i := i)) (BT T n i)
          rw [bb_t hk] at c2
          have q := q10 μ (te T n (BT T n i)) (BT T n i) c
          have e : ∀ K, bd_X12_readBlocks_6 N Λ (pt ad μ pe b) K (ad 181) (n3 h) (n3 1) (n3 1) = K (n3 (h + 1), n3 1, n3 1, pt ad (mset μ (ad 182) 10 (n3 (G 10 ||| 2 ^ NTv T n i))) (BT T n (i + 1)) (BT T n (i + 1))) := fun K => by
            simp (disch := omega) only [bd_X12_readBlocks_6, jn_X12_readBlocks_34, jn_X12_readBlocks_35, jn_X12_readBlocks_54, jn_X12_readBlocks_72, jn_X12_readBlocks_73, n3_lit, c1, ↓ob (hR.1), ↓ob (hR.2.1), ↓ob (hR.2.2.1), ↓ob (hR.2.2.2.1), ↓ob (hR.2.2.2.2.1), ↓ob (hR.2.2.2.2.2.1), ↓ob (hR.2.2.2.2.2.2.1), ↓ob (hR.2.2.2.2.2.2.2.1), ↓ob (hR.2.2.2.2.2.2.2.2.1), ↓ob (hR.2.2.2.2.2.2.2.2.2.1), ↓ob (hR.2.2.2.2.2.2.2.2.2.2.1), ↓ob (hR.2.2.2.2.2.2.2.2.2.2.2.1), ↓ob (hR.2.2.2.2.2.2.2.2.2.2.2.2.1), ↓ob (hR.2.2.2.2.2.2.2.2.2.2.2.2.2.1), ↓ob (hR.2.2.2.2.2.2.2.2.2.2.2.2.2.2.1), ↓ob (hR.2.2.2.2.2.2.2.2.2.2.2.2.2.2.2.1), ↓ob (hR.2.2.2.2.2.2.2.2.2.2.2.2.2.2.2.2.1), ↓ob (hR.2.2.2.2.2.2.2.2.2.2.2.2.2.2.2.2.2.1), hR.2.2.2.2.2.2.2.2.2.2.2.2.2.2.2.2.2.2.1, hR.2.2.2.2.2.2.2.2.2.2.2.2.2.2.2.2.2.2.2.1, hR.2.2.2.2.2.2.2.2.2.2.2.2.2.2.2.2.2.2.2.2.1, hR.2.2.2.2.2.2.2.2.2.2.2.2.2.2.2.2.2.2.2.2.2.1, hR.2.2.2.2.2.2.2.2.2.2.2.2.2.2.2.2.2.2.2.2.2.2.1, hR.2.2.2.2.2.2.2.2.2.2.2.2.2.2.2.2.2.2.2.2.2.2.2.1, hR.2.2.2.2.2.2.2.2.2.2.2.2.2.2.2.2.2.2.2.2.2.2.2.2.1, hR.2.2.2.2.2.2.2.2.2.2.2.2.2.2.2.2.2.2.2.2.2.2.2.2.2.1, hR.2.2.2.2.2.2.2.2.2.2.2.2.2.2.2.2.2.2.2.2.2.2.2.2.2.2.1, hR.2.2.2.2.2.2.2.2.2.2.2.2.2.2.2.2.2.2.2.2.2.2.2.2.2.2.2.1, hR.2.2.2.2.2.2.2.2.2.2.2.2.2.2.2.2.2.2.2.2.2.2.2.2.2.2.2.2.1, hR.2.2.2.2.2.2.2.2.2.2.2.2.2.2.2.2.2.2.2.2.2.2.2.2.2.2.2.2.2.1, hR.2.2.2.2.2.2.2.2.2.2.2.2.2.2.2.2.2.2.2.2.2.2.2.2.2.2.2.2.2.2.1, hR.2.2.2.2.2.2.2.2.2.2.2.2.2.2.2.2.2.2.2.2.2.2.2.2.2.2.2.2.2.2.2.1, hR.2.2.2.2.2.2.2.2.2.2.2.2.2.2.2.2.2.2.2.2.2.2.2.2.2.2.2.2.2.2.2.2.1, hR.2.2.2.2.2.2.2.2.2.2.2.2.2.2.2.2.2.2.2.2.2.2.2.2.2.2.2.2.2.2.2.2.2.1, hR.2.2.2.2.2.2.2.2.2.2.2.2.2.2.2.2.2.2.2.2.2.2.2.2.2.2.2.2.2.2.2.2.2.2.1, hR.2.2.2.2.2.2.2.2.2.2.2.2.2.2.2.2.2.2.2.2.2.2.2.2.2.2.2.2.2.2.2.2.2.2.2, q, n3_shl, n3_or, Nat.one_mul, pt_w hj, c2, ↓lt_e, ↓gd_e, ↓Option.bind_some, ↓reduceIte, if_true, if_false, if_pT, if_nF, decide_true, Bool.not_true, Bool.not_false, not_true_eq_false, not_false_eq_true, Bool.false_eq_true, Bool.true_eq_false, eq_self, n3_eq_f, n3_eq_t, n3_lt_f, n3_le_f, n3_add, n3_inb, n3_tn]
          exact e _
      · refine LO.one hj hw (i + 1) hi1 10 (G 10 ||| 2 ^ NTv T n i) (by omega) ⟨by omega, by omega⟩ (by omega) (by omega) 12 9 rfl rfl hwf (BT T n (i + 1)) (BT_le T n (i + 1)) (BT_nb T n (i + 1)) (fun μ v t c => ⟨NTv T n i, ?_⟩) (fun μ t c => ⟨BT T n (i + 1), ?_⟩)
        · have c1 := c_tn_t hN (Or.inl rfl) hj hP hD t hi v (show 0 ≤ 9999 by omega) (show 23 ≤ 9999 by omega) hv
          have c2 := c_an (N := N) hN (Or.inl rfl) hj hP hD (t.w hj (show 12 ≠ 1 ∧ 12 ≠ 2 ∧ 12 ≠ 48 ∧ 12 ≠ 48 + 1 ∧ 12 ≠ 48 + 2 ∧ 12 ≠ 48 + 3 by omega) 9 (n3 (G 10 ||| 2 ^ NTv T n i))) hi1 (NTv T n i)
          rw [bb_f hk] at c2
          have q := q9 μ (i + 1) (NTv T n i) c
          rw [cw_s]
          simp (disch := omega) only [bd_X1_readBlocks_2, n3_lit, c1, ↓ob (hD.1), ↓ob (hD.2.1), ↓ob (hD.2.2.1), ↓ob (hD.2.2.2.1), ↓ob (hD.2.2.2.2.1), hD.2.2.2.2.2.1, hD.2.2.2.2.2.2.1, hD.2.2.2.2.2.2.2, rd_2, q, n3_shl, n3_or, Nat.one_mul, rd_w hj, c2, ↓lt_e, ↓gd_e, ↓Option.bind_some, ↓reduceIte, if_true, if_false, if_pT, if_nF, decide_true, Bool.not_true, Bool.not_false, not_true_eq_false, not_false_eq_true, Bool.false_eq_true, Bool.true_eq_false, eq_self, n3_le_f, n3_eq_f, n3_eq_t, n3_inb, n3_tn]
        · have c1 := r_nm_t hN hj hR t hpe hpb b (show 0 ≤ 9999 by omega) (show 23 ≤ 9999 by omega) hv
          have c2 := r_inn (N := N) hN hj hR (t.w hj 10 (n3 (G 10 ||| 2 ^ NTv T n i))) (te_le T bt) (BT_nx (T := T) (n := n) (i := i)) (BT T n i)
          rw [bb_f hk] at c2
          have q := q10 μ (te T n (BT T n i)) (BT T n i) c
          obtain ⟨M', rfl⟩ : ∃ Q, M' = Q + 1 := ⟨M' - 1, by omega⟩
          have e : ∀ K, bd_X12_readBlocks_6 N Λ (pt ad μ pe b) K (ad 181) (n3 h) (n3 1) (n3 1) = K (n3 (h + 1), n3 1, n3 0, pt ad (mset μ (ad 182) 10 (n3 (G 10 ||| 2 ^ NTv T n i))) (BT T n (i + 1)) (BT T n (i + 1))) := fun K => by
            simp (disch := omega) only [bd_X12_readBlocks_6, jn_X12_readBlocks_34, jn_X12_readBlocks_35, jn_X12_readBlocks_54, jn_X12_readBlocks_72, jn_X12_readBlocks_73, n3_lit, c1, ↓ob (hR.1), ↓ob (hR.2.1), ↓ob (hR.2.2.1), ↓ob (hR.2.2.2.1), ↓ob (hR.2.2.2.2.1), ↓ob (hR.2.2.2.2.2.1), ↓ob (hR.2.2.2.2.2.2.1), ↓ob (hR.2.2.2.2.2.2.2.1), ↓ob (hR.2.2.2.2.2.2.2.2.1), ↓ob (hR.2.2.2.2.2.2.2.2.2.1), ↓ob (hR.2.2.2.2.2.2.2.2.2.2.1), ↓ob (hR.2.2.2.2.2.2.2.2.2.2.2.1), ↓ob (hR.2.2.2.2.2.2.2.2.2.2.2.2.1), ↓ob (hR.2.2.2.2.2.2.2.2.2.2.2.2.2.1), ↓ob (hR.2.2.2.2.2.2.2.2.2.2.2.2.2.2.1), ↓ob (hR.2.2.2.2.2.2.2.2.2.2.2.2.2.2.2.1), ↓ob (hR.2.2.2.2.2.2.2.2.2.2.2.2.2.2.2.2.1), ↓ob (hR.2.2.2.2.2.2.2.2.2.2.2.2.2.2.2.2.2.1), hR.2.2.2.2.2.2.2.2.2.2.2.2.2.2.2.2.2.2.1, hR.2.2.2.2.2.2.2.2.2.2.2.2.2.2.2.2.2.2.2.1, hR.2.2.2.2.2.2.2.2.2.2.2.2.2.2.2.2.2.2.2.2.1, hR.2.2.2.2.2.2.2.2.2.2.2.2.2.2.2.2.2.2.2.2.2.1, hR.2.2.2.2.2.2.2.2.2.2.2.2.2.2.2.2.2.2.2.2.2.2.1, hR.2.2.2.2.2.2.2.2.2.2.2.2.2.2.2.2.2.2.2.2.2.2.2.1, hR.2.2.2.2.2.2.2.2.2.2.2.2.2.2.2.2.2.2.2.2.2.2.2.2.1, hR.2.2.2.2.2.2.2.2.2.2.2.2.2.2.2.2.2.2.2.2.2.2.2.2.2.1, hR.2.2.2.2.2.2.2.2.2.2.2.2.2.2.2.2.2.2.2.2.2.2.2.2.2.2.1, hR.2.2.2.2.2.2.2.2.2.2.2.2.2.2.2.2.2.2.2.2.2.2.2.2.2.2.2.1, hR.2.2.2.2.2.2.2.2.2.2.2.2.2.2.2.2.2.2.2.2.2.2.2.2.2.2.2.2.1, hR.2.2.2.2.2.2.2.2.2.2.2.2.2.2.2.2.2.2.2.2.2.2.2.2.2.2.2.2.2.1, hR.2.2.2.2.2.2.2.2.2.2.2.2.2.2.2.2.2.2.2.2.2.2.2.2.2.2.2.2.2.2.1, hR.2.2.2.2.2.2.2.2.2.2.2.2.2.2.2.2.2.2.2.2.2.2.2.2.2.2.2.2.2.2.2.1, hR.2.2.2.2.2.2.2.2.2.2.2.2.2.2.2.2.2.2.2.2.2.2.2.2.2.2.2.2.2.2.2.2.1, hR.2.2.2.2.2.2.2.2.2.2.2.2.2.2.2.2.2.2.2.2.2.2.2.2.2.2.2.2.2.2.2.2.2.1, hR.2.2.2.2.2.2.2.2.2.2.2.2.2.2.2.2.2.2.2.2.2.2.2.2.2.2.2.2.2.2.2.2.2.2.1, hR.2.2.2.2.2.2.2.2.2.2.2.2.2.2.2.2.2.2.2.2.2.2.2.2.2.2.2.2.2.2.2.2.2.2.2, q, n3_shl, n3_or, Nat.one_mul, pt_w hj, c2, ↓lt_e, ↓gd_e, ↓Option.bind_some, ↓reduceIte, if_true, if_false, if_pT, if_nF, decide_true, Bool.not_true, Bool.not_false, not_true_eq_false, not_false_eq_true, Bool.false_eq_true, Bool.true_eq_false, eq_self, n3_eq_f, n3_eq_t, n3_lt_f, n3_le_f, n3_add, n3_inb, n3_tn]
          exact (e _).trans (r_bke _ _ (by omega))
    · refine LO.fail i hi (fun μ v t c => ⟨v, ?_⟩) (fun μ t c => ⟨re T n 2 (BT T n i), ?_⟩)
      · have c1 := c_tn_f hN (Or.inl rfl) hj hP hD t hi v (show 0 ≤ 9999 by omega) (show 23 ≤ 9999 by omega) hv
        rw [cw_s]
        simp (disch := omega) only [bd_X1_readBlocks_2, n3_lit, c1, ↓lt_e, ↓gd_e, ↓Option.bind_some, ↓reduceIte, if_true, if_false, if_pT, if_nF, decide_true, Bool.not_true, Bool.not_false, not_true_eq_false, not_false_eq_true, Bool.false_eq_true, Bool.true_eq_false, eq_self, n3_le_f, n3_eq_t]
      · have c1 := r_nm_f hN hj hR t hpe hpb b (show 0 ≤ 9999 by omega) (show 23 ≤ 9999 by omega) hv
        obtain ⟨M', rfl⟩ : ∃ Q, M' = Q + 1 := ⟨M' - 1, by omega⟩
        have e : ∀ K, bd_X12_readBlocks_6 N Λ (pt ad μ pe b) K (ad 181) (n3 h) (n3 1) (n3 1) = K (n3 (h + 1), n3 0, n3 0, pt ad μ (re T n 2 (BT T n i)) (BT T n i)) := fun K => by
          simp (disch := omega) only [bd_X12_readBlocks_6, jn_X12_readBlocks_34, jn_X12_readBlocks_35, jn_X12_readBlocks_54, jn_X12_readBlocks_72, jn_X12_readBlocks_73, n3_lit, c1, ↓lt_e, ↓gd_e, ↓Option.bind_some, ↓reduceIte, if_true, if_false, if_pT, if_nF, decide_true, Bool.not_true, Bool.not_false, not_true_eq_false, not_false_eq_true, Bool.false_eq_true, Bool.true_eq_false, eq_self, n3_lit, n3_add, n3_mul, n3_sub, n3_tn, n3_le_t, n3_le_f, n3_lt_t, n3_lt_f, n3_eq_f, n3_eq_t, n3_inb, n3_rem, n3_div, n3_zb, bb_0, bb_1, zb_bb, bb_T, bb_F, n3_dec, n3_m1, n3_eqm, n3_eqmt, n3_ltm, n3_mlt, n3_lem, n3_mle, n3_neg_lt, n3_nlt_neg, n3_nle_neg, n3_neg_le]
        exact (e _).trans (r_bke _ _ (by omega))

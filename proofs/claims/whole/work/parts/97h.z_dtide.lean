theorem LO.step {ad : Nat → Nat} {T : Nat → Int32} {n m : Nat} {G G' : Nat → Nat} {fc fc' : Mem → Nat → Option (Int32 × Mem)} {fr fr' : Mem → Option (Int32 × Mem)} (h : LO ad T n m G' fc' fr') (hG : LwE G G') (hG1 : G' 1 = G 1) (hc : ∀ μ v, TkC ad μ 48 T n m → CS ad μ 12 G → ∃ μ2 v2, fc μ v = fc' μ2 v2 ∧ TkC ad μ2 48 T n m ∧ CS ad μ2 12 G' ∧ Fr ad (fun j => (12 ≤ j ∧ j ≤ 20) ∨ j = 48) μ μ2) (hr : ∀ μ, TkR ad μ T n → Row μ (ad 182) 1222 G → ∃ μ2, fr μ = fr' μ2 ∧ TkR ad μ2 T n ∧ Row μ2 (ad 182) 1222 G' ∧ Fr ad (fun j => j = 181 ∨ j = 182) μ μ2 ∧ ∀ k, k ≠ 10 → k ≠ 12 → μ2.1 (ad 181) k = μ.1 (ad 181) k) : LO ad T n m G fc fr := by
  obtain ⟨ok, i', G2, h1, h2, h3, h4⟩ := h
  refine ⟨ok, i', G2, h1, fun ho => ⟨(h2 ho).1, hG.trans (h2 ho).2.1, (h2 ho).2.2.trans hG1⟩, fun μ v t c => ?_, fun μ t c => ?_⟩
  · obtain ⟨μ2, v2, e2, t2, c2, f2⟩ := hc μ v t c
    obtain ⟨μ3, v3, e3, t3, c3, f3⟩ := h3 μ2 v2 t2 c2
    exact ⟨μ3, v3, by rw [e2, e3], t3, c3, f2.trans f3⟩
  · obtain ⟨μ2, e2, t2, c2, f2, k2⟩ := hr μ t c
    obtain ⟨μ3, p3, b3, e3, t3, c3, d3, f3, k3⟩ := h4 μ2 t2 c2
    exact ⟨μ3, p3, b3, by rw [e2, e3], t3, c3, d3, f2.trans f3, fun k a b => (k3 k a b).trans (k2 k a b)⟩
theorem LO.of {ad : Nat → Nat} {T : Nat → Int32} {n m : Nat} {G : Nat → Nat} {fc fc' : Mem → Nat → Option (Int32 × Mem)} {fr fr' : Mem → Option (Int32 × Mem)} (h : LO ad T n m G fc' fr') (hc : ∀ μ v, TkC ad μ 48 T n m → CS ad μ 12 G → ∃ v2, fc μ v = fc' μ v2) (hr : ∀ μ, TkR ad μ T n → Row μ (ad 182) 1222 G → fr μ = fr' μ) : LO ad T n m G fc fr :=
  h.step (LwE.refl G) rfl (fun μ v t c => by obtain ⟨v2, e⟩ := hc μ v t c; exact ⟨μ, v2, e, t, c, Fr.refl μ⟩) (fun μ t c => ⟨μ, hr μ t c, t, c, Fr.refl μ, fun _ _ _ => rfl⟩)
theorem l_ship {N : Nat} (hN : 1099511627776 ≤ N) {Λ : Lay} {ad : Nat → Nat} (hj : Inj ad) (hP : LyP Λ ad) (hD : LyD Λ ad 48 12 8) (hR : LyR Λ ad) {T : Nat → Int32} {n m : Nat} (hm : Tm T n m) {G : Nat → Nat} (hw : WF G) (hS12 : LyS Λ ad 12) {i : Nat} (hi : i ≤ m) (hs : WT T n i 18 = true) : LO ad T n m G (fun μ v => m_X1_readShip N Λ (rd ad 48 μ (i + 1) v) (ad 48) (n3 i)) (fun μ => m_X12_readShip N Λ (pt ad μ (LE T n i) (BT T n i)) (ad 181)) := by
  have hb := hw.1; unfold WB at hb
  have hi1 := hm.w hi hs
  have q8 : ∀ μ v, CS ad μ 12 G → (rd ad 48 μ (i + 1) v).1 (ad 12) 8 = n3 (G 0) := fun μ v h => by rw [rd_o hj (by omega)]; exact h.2.2.2.2.2.2.2.2.1
  have sh : ∀ μ, Row μ (ad 182) 1222 G → m_X12_ships N Λ (pt ad μ (LE T n i) (BT T n i)) (ad 181) = some (n3 (G 0)) := fun μ h => r_ships (N := N) hR (h.off (pt_o hj (by omega) μ _ _))
  have pe1 := LE_le T n i
  have pb1 : nb T n (LE T n i) = BT T n (i + 1) := by rw [LE_1 (WT_K hs)]; rfl
  by_cases h8 : G 0 < 8
  · cases h11 : WT T n (i + 1) 11 with
    | false =>
      refine LO.fail (i + 1) hi1 (fun μ v t c => ⟨v, ?_⟩) (fun μ t c => ⟨LE T n (i + 1), ?_⟩)
      · have q := q8 μ v c
        have c1 := c_tw_f hN (Or.inl rfl) hj hP hD t hi1 v (show 11 < 23 by omega) h11
        simp (disch := omega) only [m_X1_readShip, jn_X1_readShip_38, ↓ob (hD.1), ↓ob (hD.2.1), ↓ob (hD.2.2.1), ↓ob (hD.2.2.2.1), ↓ob (hD.2.2.2.2.1), hD.2.2.2.2.2.1, hD.2.2.2.2.2.2.1, hD.2.2.2.2.2.2.2, q, c1, ↓lt_e, ↓gd_e, ↓Option.bind_some, ↓reduceIte, if_true, if_false, if_pT, if_nF, decide_true, Bool.not_true, Bool.not_false, not_true_eq_false, not_false_eq_true, Bool.false_eq_true, Bool.true_eq_false, eq_self, n3_lit, n3_add, n3_mul, n3_sub, n3_tn, n3_le_t, n3_le_f, n3_lt_t, n3_lt_f, n3_eq_f, n3_eq_t, n3_inb, n3_rem, n3_div, n3_zb, bb_0, bb_1, zb_bb, bb_T, bb_F, n3_dec, n3_m1, n3_eqm, n3_eqmt, n3_ltm, n3_mlt, n3_lem, n3_mle, n3_neg_lt, n3_nlt_neg, n3_nle_neg, n3_neg_le]
      · have s1 := sh μ c
        have c1 := r_bh_n hN hj hR t pe1 pb1 (BT T n i) (show 11 < 23 by omega) h11 (n3 1) (n3 12)
        simp (disch := omega) only [m_X12_readShip, r_rs40, s1, n3_lit, c1, n3_neg1, ↓lt_e, ↓gd_e, ↓Option.bind_some, ↓reduceIte, if_true, if_false, if_pT, if_nF, decide_true, Bool.not_true, Bool.not_false, not_true_eq_false, not_false_eq_true, Bool.false_eq_true, Bool.true_eq_false, eq_self, n3_lit, n3_add, n3_mul, n3_sub, n3_tn, n3_le_t, n3_le_f, n3_lt_t, n3_lt_f, n3_eq_f, n3_eq_t, n3_inb, n3_rem, n3_div, n3_zb, bb_0, bb_1, zb_bb, bb_T, bb_F, n3_dec, n3_m1, n3_eqm, n3_eqmt, n3_ltm, n3_mlt, n3_lem, n3_mle, n3_neg_lt, n3_nlt_neg, n3_nle_neg, n3_neg_le]
    | true =>
      have hi2 := hm.w hi1 h11
      by_cases v12 : NVp T n (i + 1 + 1) 1 12
      · have hi3 := hm.nv hi2 v12
        have lb : 1 ≤ NTv T n (i + 1 + 1) ∧ NTv T n (i + 1 + 1) ≤ 12 := v12.2.2
        have bt2 := BT_le T n (i + 1 + 1)
        cases h3 : WT T n (i + 1 + 1 + 1) 3 with
        | false =>
          refine LO.fail (i + 1 + 1 + 1) hi3 (fun μ v t c => ⟨NTv T n (i + 1 + 1), ?_⟩) (fun μ t c => ⟨LE T n (i + 1 + 1 + 1), ?_⟩)
          · have q := q8 μ v c
            have c1 := c_tw_t hN (Or.inl rfl) hj hP hD t hi1 v (show 11 < 23 by omega) h11
            have c2 := c_tn_t hN (Or.inl rfl) hj hP hD t hi2 v (show 1 ≤ 9999 by omega) (show 12 ≤ 9999 by omega) v12
            have c3 := c_tw_f hN (Or.inl rfl) hj hP hD t hi3 (NTv T n (i + 1 + 1)) (show 3 < 23 by omega) h3
            simp (disch := omega) only [m_X1_readShip, jn_X1_readShip_64, ↓ob (hD.1), ↓ob (hD.2.1), ↓ob (hD.2.2.1), ↓ob (hD.2.2.2.1), ↓ob (hD.2.2.2.2.1), hD.2.2.2.2.2.1, hD.2.2.2.2.2.2.1, hD.2.2.2.2.2.2.2, n3_lit, q, c1, c2, c3, ↓lt_e, ↓gd_e, ↓Option.bind_some, ↓reduceIte, if_true, if_false, if_pT, if_nF, decide_true, Bool.not_true, Bool.not_false, not_true_eq_false, not_false_eq_true, Bool.false_eq_true, Bool.true_eq_false, eq_self, n3_lt_t, n3_eq_f, n3_eq_t]
          · have s1 := sh μ c
            have c1 := r_bh_t hN hj hR t pe1 pb1 (BT T n i) (show 11 < 23 by omega) h11 (show 1 ≤ 9999 by omega) (show 12 ≤ 9999 by omega) v12
            have c2 := r_bh_n hN hj hR t (te_le T bt2) (BT_nx (T := T) (n := n) (i := i + 1 + 1)) (BT T n (i + 1 + 1)) (show 3 < 23 by omega) h3 (n3 1) (n3 20)
            simp (disch := omega) only [m_X12_readShip, r_rs40, s1, n3_lit, c1, c2, ↓lt_e, ↓gd_e, ↓Option.bind_some, ↓reduceIte, if_true, if_false, if_pT, if_nF, decide_true, Bool.not_true, Bool.not_false, not_true_eq_false, not_false_eq_true, Bool.false_eq_true, Bool.true_eq_false, eq_self, n3_lit, n3_add, n3_mul, n3_sub, n3_tn, n3_le_t, n3_le_f, n3_lt_t, n3_lt_f, n3_eq_f, n3_eq_t, n3_inb, n3_rem, n3_div, n3_zb, bb_0, bb_1, zb_bb, bb_T, bb_F, n3_dec, n3_m1, n3_eqm, n3_eqmt, n3_ltm, n3_mlt, n3_lem, n3_mle, n3_neg_lt, n3_nlt_neg, n3_nle_neg, n3_neg_le]
        | true =>
          have hi4 := hm.w hi3 h3
          by_cases v20 : NVp T n (i + 1 + 1 + 1 + 1) 1 20
          · have hi5 := hm.nv hi4 v20
            have db : 1 ≤ NTv T n (i + 1 + 1 + 1 + 1) ∧ NTv T n (i + 1 + 1 + 1 + 1) ≤ 20 := v20.2.2
            have bt4 := BT_le T n (i + 1 + 1 + 1 + 1)
            have bt5 := BT_le T n (i + 1 + 1 + 1 + 1 + 1)
            have bt6 := BT_le T n (i + 1 + 1 + 1 + 1 + 1 + 1)
            have cc : ∀ μ v, TkC ad μ 48 T n m → CS ad μ 12 G → m_X1_readShip N Λ (rd ad 48 μ (i + 1) v) (ad 48) (n3 i) = (m_X7_takeWord N Λ (rd ad 48 μ (i + 1 + 1 + 1 + 1 + 1) (NTv T n (i + 1 + 1 + 1 + 1))) (ad 48) 22).bind fun r20 => if r20.1 = n3 0 then jn_X1_readShip_101 N Λ r20.2 (ad 48) (n3 (NTv T n (i + 1 + 1))) (n3 (NTv T n (i + 1 + 1 + 1 + 1))) (n3 0) else (m_X7_takeNumber N Λ r20.2 (ad 48) (n3 0) (n3 99)).bind fun r23 => if r23.1 = n3 0 then some (n3 0, r23.2) else jn_X1_readShip_101 N Λ r23.2 (ad 48) (n3 (NTv T n (i + 1 + 1))) (n3 (NTv T n (i + 1 + 1 + 1 + 1))) (r23.2.1 (ad 48) 2) := fun μ v t c => by
              have q := q8 μ v c
              have c1 := c_tw_t hN (Or.inl rfl) hj hP hD t hi1 v (show 11 < 23 by omega) h11
              have c2 := c_tn_t hN (Or.inl rfl) hj hP hD t hi2 v (show 1 ≤ 9999 by omega) (show 12 ≤ 9999 by omega) v12
              have c3 := c_tw_t hN (Or.inl rfl) hj hP hD t hi3 (NTv T n (i + 1 + 1)) (show 3 < 23 by omega) h3
              have c4 := c_tn_t hN (Or.inl rfl) hj hP hD t hi4 (NTv T n (i + 1 + 1)) (show 1 ≤ 9999 by omega) (show 20 ≤ 9999 by omega) v20
              simp (disch := omega) only [m_X1_readShip, ↓ob (hD.1), ↓ob (hD.2.1), ↓ob (hD.2.2.1), ↓ob (hD.2.2.2.1), ↓ob (hD.2.2.2.2.1), hD.2.2.2.2.2.1, hD.2.2.2.2.2.2.1, hD.2.2.2.2.2.2.2, n3_lit, q, c1, c2, c3, c4, rd_2, ↓lt_e, ↓gd_e, ↓Option.bind_some, ↓reduceIte, if_true, if_false, if_pT, if_nF, decide_true, Bool.not_true, Bool.not_false, not_true_eq_false, not_false_eq_true, Bool.false_eq_true, Bool.true_eq_false, eq_self, n3_lt_t, n3_eq_f, n3_eq_t]
            have rc : ∀ μ, TkR ad μ T n → Row μ (ad 182) 1222 G → m_X12_readShip N Λ (pt ad μ (LE T n i) (BT T n i)) (ad 181) = (m_X12_told N Λ (pt ad μ (te T n (BT T n (i + 1 + 1 + 1 + 1))) (BT T n (i + 1 + 1 + 1 + 1))) (ad 181) 22 (n3 99) (n3 0)).bind fun r2 => if r2.1 = n3 100000000 then some (n3 0, r2.2) else shT N Λ r2.2 (ad 181) (n3 (G 0)) (n3 (NTv T n (i + 1 + 1))) (n3 (NTv T n (i + 1 + 1 + 1 + 1))) r2.1 := fun μ t c => by
              have s1 := sh μ c
              have c1 := r_bh_t hN hj hR t pe1 pb1 (BT T n i) (show 11 < 23 by omega) h11 (show 1 ≤ 9999 by omega) (show 12 ≤ 9999 by omega) v12
              have c2 := r_bh_t hN hj hR t (te_le T bt2) (BT_nx (T := T) (n := n) (i := i + 1 + 1)) (BT T n (i + 1 + 1)) (show 3 < 23 by omega) h3 (show 1 ≤ 9999 by omega) (show 20 ≤ 9999 by omega) v20
              simp (disch := omega) only [m_X12_readShip, r_rs40, s1, n3_lit, c1, c2, ↓lt_e, ↓gd_e, ↓Option.bind_some, ↓reduceIte, if_true, if_false, if_pT, if_nF, decide_true, Bool.not_true, Bool.not_false, not_true_eq_false, not_false_eq_true, Bool.false_eq_true, Bool.true_eq_false, eq_self, n3_le_t, n3_eq_f]
              rfl
            cases h22 : WT T n (i + 1 + 1 + 1 + 1 + 1) 22 with
            | false =>
              refine LO.of (l_at hN hj hP hD hR hm hw hS12 h8 hi5 lb db (show 0 ≤ 99 by omega) (BT T n (i + 1 + 1 + 1 + 1 + 1)) (BT T n (i + 1 + 1 + 1 + 1 + 1)) bt5 (BT_nb T n _)) (fun μ v t c => ⟨NTv T n (i + 1 + 1 + 1 + 1), ?_⟩) (fun μ t c => ?_)
              · have c5 := c_tw_f hN (Or.inl rfl) hj hP hD t hi5 (NTv T n (i + 1 + 1 + 1 + 1)) (show 22 < 23 by omega) h22
                rw [cc μ v t c, c5]
                simp (disch := omega) only [↓lt_e, ↓gd_e, ↓Option.bind_some, ↓reduceIte, if_true, if_false, if_pT, if_nF, decide_true, Bool.not_true, Bool.not_false, not_true_eq_false, not_false_eq_true, Bool.false_eq_true, Bool.true_eq_false, eq_self, n3_eq_t]
              · have c5 := r_tl_n hN hj hR t (te_le T bt4) (BT_nx (T := T) (n := n) (i := i + 1 + 1 + 1 + 1)) (BT T n (i + 1 + 1 + 1 + 1)) (show 22 < 23 by omega) h22 (n3 99) (n3 0)
                rw [rc μ t c, c5]
                simp (disch := omega) only [↓lt_e, ↓gd_e, ↓Option.bind_some, ↓reduceIte, if_true, if_false, if_pT, if_nF, decide_true, Bool.not_true, Bool.not_false, not_true_eq_false, not_false_eq_true, Bool.false_eq_true, Bool.true_eq_false, eq_self, n3_eq_f]
            | true =>
              have hi6 := hm.w hi5 h22
              by_cases v99 : NVp T n (i + 1 + 1 + 1 + 1 + 1 + 1) 0 99
              · have hi7 := hm.nv hi6 v99
                have wb : NTv T n (i + 1 + 1 + 1 + 1 + 1 + 1) ≤ 99 := v99.2.2.2
                refine LO.of (l_at hN hj hP hD hR hm hw hS12 h8 hi7 lb db wb (te T n (BT T n (i + 1 + 1 + 1 + 1 + 1 + 1))) (BT T n (i + 1 + 1 + 1 + 1 + 1 + 1)) (te_le T bt6) rfl) (fun μ v t c => ⟨NTv T n (i + 1 + 1 + 1 + 1 + 1 + 1), ?_⟩) (fun μ t c => ?_)
                · have c5 := c_tw_t hN (Or.inl rfl) hj hP hD t hi5 (NTv T n (i + 1 + 1 + 1 + 1)) (show 22 < 23 by omega) h22
                  have c6 := c_tn_t hN (Or.inl rfl) hj hP hD t hi6 (NTv T n (i + 1 + 1 + 1 + 1)) (show 0 ≤ 9999 by omega) (show 99 ≤ 9999 by omega) v99
                  rw [cc μ v t c, c5]
                  simp (disch := omega) only [c6, rd_2, ↓lt_e, ↓gd_e, ↓Option.bind_some, ↓reduceIte, if_true, if_false, if_pT, if_nF, decide_true, Bool.not_true, Bool.not_false, not_true_eq_false, not_false_eq_true, Bool.false_eq_true, Bool.true_eq_false, eq_self, n3_eq_f]
                · have c5 := r_tl_t hN hj hR t (te_le T bt4) (BT_nx (T := T) (n := n) (i := i + 1 + 1 + 1 + 1)) (BT T n (i + 1 + 1 + 1 + 1)) (show 22 < 23 by omega) h22 (show 99 ≤ 9999 by omega) v99 (n3 0)
                  rw [rc μ t c, c5]
                  simp (disch := omega) only [↓lt_e, ↓gd_e, ↓Option.bind_some, ↓reduceIte, if_true, if_false, if_pT, if_nF, decide_true, Bool.not_true, Bool.not_false, not_true_eq_false, not_false_eq_true, Bool.false_eq_true, Bool.true_eq_false, eq_self, n3_eq_f]
              · refine LO.fail (i + 1 + 1 + 1 + 1 + 1 + 1) hi6 (fun μ v t c => ⟨NTv T n (i + 1 + 1 + 1 + 1), ?_⟩) (fun μ t c => ⟨re T n 2 (BT T n (i + 1 + 1 + 1 + 1 + 1 + 1)), ?_⟩)
                · have c5 := c_tw_t hN (Or.inl rfl) hj hP hD t hi5 (NTv T n (i + 1 + 1 + 1 + 1)) (show 22 < 23 by omega) h22
                  have c6 := c_tn_f hN (Or.inl rfl) hj hP hD t hi6 (NTv T n (i + 1 + 1 + 1 + 1)) (show 0 ≤ 9999 by omega) (show 99 ≤ 9999 by omega) v99
                  rw [cc μ v t c, c5]
                  simp (disch := omega) only [c6, ↓lt_e, ↓gd_e, ↓Option.bind_some, ↓reduceIte, if_true, if_false, if_pT, if_nF, decide_true, Bool.not_true, Bool.not_false, not_true_eq_false, not_false_eq_true, Bool.false_eq_true, Bool.true_eq_false, eq_self, n3_eq_f, n3_eq_t]
                · have c5 := r_tl_f hN hj hR t (te_le T bt4) (BT_nx (T := T) (n := n) (i := i + 1 + 1 + 1 + 1)) (BT T n (i + 1 + 1 + 1 + 1)) (show 22 < 23 by omega) h22 (show 99 ≤ 9999 by omega) v99 (n3 0)
                  rw [rc μ t c, c5]
                  simp (disch := omega) only [↓lt_e, ↓gd_e, ↓Option.bind_some, ↓reduceIte, if_true, if_false, if_pT, if_nF, decide_true, Bool.not_true, Bool.not_false, not_true_eq_false, not_false_eq_true, Bool.false_eq_true, Bool.true_eq_false, eq_self, n3_eq_t]
          · refine LO.fail (i + 1 + 1 + 1 + 1) hi4 (fun μ v t c => ⟨NTv T n (i + 1 + 1), ?_⟩) (fun μ t c => ⟨re T n 2 (BT T n (i + 1 + 1 + 1 + 1)), ?_⟩)
            · have q := q8 μ v c
              have c1 := c_tw_t hN (Or.inl rfl) hj hP hD t hi1 v (show 11 < 23 by omega) h11
              have c2 := c_tn_t hN (Or.inl rfl) hj hP hD t hi2 v (show 1 ≤ 9999 by omega) (show 12 ≤ 9999 by omega) v12
              have c3 := c_tw_t hN (Or.inl rfl) hj hP hD t hi3 (NTv T n (i + 1 + 1)) (show 3 < 23 by omega) h3
              have c4 := c_tn_f hN (Or.inl rfl) hj hP hD t hi4 (NTv T n (i + 1 + 1)) (show 1 ≤ 9999 by omega) (show 20 ≤ 9999 by omega) v20
              simp (disch := omega) only [m_X1_readShip, jn_X1_readShip_64, ↓ob (hD.1), ↓ob (hD.2.1), ↓ob (hD.2.2.1), ↓ob (hD.2.2.2.1), ↓ob (hD.2.2.2.2.1), hD.2.2.2.2.2.1, hD.2.2.2.2.2.2.1, hD.2.2.2.2.2.2.2, n3_lit, q, c1, c2, c3, c4, ↓lt_e, ↓gd_e, ↓Option.bind_some, ↓reduceIte, if_true, if_false, if_pT, if_nF, decide_true, Bool.not_true, Bool.not_false, not_true_eq_false, not_false_eq_true, Bool.false_eq_true, Bool.true_eq_false, eq_self, n3_lt_t, n3_eq_f, n3_eq_t]
            · have s1 := sh μ c
              have c1 := r_bh_t hN hj hR t pe1 pb1 (BT T n i) (show 11 < 23 by omega) h11 (show 1 ≤ 9999 by omega) (show 12 ≤ 9999 by omega) v12
              have c2 := r_bh_f hN hj hR t (te_le T bt2) (BT_nx (T := T) (n := n) (i := i + 1 + 1)) (BT T n (i + 1 + 1)) (show 3 < 23 by omega) h3 (show 1 ≤ 9999 by omega) (show 20 ≤ 9999 by omega) v20
              simp (disch := omega) only [m_X12_readShip, r_rs40, s1, n3_lit, c1, c2, ↓lt_e, ↓gd_e, ↓Option.bind_some, ↓reduceIte, if_true, if_false, if_pT, if_nF, decide_true, Bool.not_true, Bool.not_false, not_true_eq_false, not_false_eq_true, Bool.false_eq_true, Bool.true_eq_false, eq_self, n3_lit, n3_add, n3_mul, n3_sub, n3_tn, n3_le_t, n3_le_f, n3_lt_t, n3_lt_f, n3_eq_f, n3_eq_t, n3_inb, n3_rem, n3_div, n3_zb, bb_0, bb_1, zb_bb, bb_T, bb_F, n3_dec, n3_m1, n3_eqm, n3_eqmt, n3_ltm, n3_mlt, n3_lem, n3_mle, n3_neg_lt, n3_nlt_neg, n3_nle_neg, n3_neg_le]
      · refine LO.fail (i + 1 + 1) hi2 (fun μ v t c => ⟨v, ?_⟩) (fun μ t c => ⟨re T n 2 (BT T n (i + 1 + 1)), ?_⟩)
        · have q := q8 μ v c
          have c1 := c_tw_t hN (Or.inl rfl) hj hP hD t hi1 v (show 11 < 23 by omega) h11
          have c2 := c_tn_f hN (Or.inl rfl) hj hP hD t hi2 v (show 1 ≤ 9999 by omega) (show 12 ≤ 9999 by omega) v12
          simp (disch := omega) only [m_X1_readShip, jn_X1_readShip_38, ↓ob (hD.1), ↓ob (hD.2.1), ↓ob (hD.2.2.1), ↓ob (hD.2.2.2.1), ↓ob (hD.2.2.2.2.1), hD.2.2.2.2.2.1, hD.2.2.2.2.2.2.1, hD.2.2.2.2.2.2.2, n3_lit, q, c1, c2, ↓lt_e, ↓gd_e, ↓Option.bind_some, ↓reduceIte, if_true, if_false, if_pT, if_nF, decide_true, Bool.not_true, Bool.not_false, not_true_eq_false, not_false_eq_true, Bool.false_eq_true, Bool.true_eq_false, eq_self, n3_lt_t, n3_eq_f, n3_eq_t]
        · have s1 := sh μ c
          have c1 := r_bh_f hN hj hR t pe1 pb1 (BT T n i) (show 11 < 23 by omega) h11 (show 1 ≤ 9999 by omega) (show 12 ≤ 9999 by omega) v12
          simp (disch := omega) only [m_X12_readShip, r_rs40, s1, n3_lit, c1, n3_neg1, ↓lt_e, ↓gd_e, ↓Option.bind_some, ↓reduceIte, if_true, if_false, if_pT, if_nF, decide_true, Bool.not_true, Bool.not_false, not_true_eq_false, not_false_eq_true, Bool.false_eq_true, Bool.true_eq_false, eq_self, n3_lit, n3_add, n3_mul, n3_sub, n3_tn, n3_le_t, n3_le_f, n3_lt_t, n3_lt_f, n3_eq_f, n3_eq_t, n3_inb, n3_rem, n3_div, n3_zb, bb_0, bb_1, zb_bb, bb_T, bb_F, n3_dec, n3_m1, n3_eqm, n3_eqmt, n3_ltm, n3_mlt, n3_lem, n3_mle, n3_neg_lt, n3_nlt_neg, n3_nle_neg, n3_neg_le]
  · have h8' : G 0 = 8 := by omega
    refine LO.fail i hi (fun μ v t c => ⟨v, ?_⟩) (fun μ t c => ⟨LE T n i, ?_⟩)
    · have q := q8 μ v c
      simp (disch := omega) only [m_X1_readShip, ↓ob (hD.1), ↓ob (hD.2.1), ↓ob (hD.2.2.1), ↓ob (hD.2.2.2.1), ↓ob (hD.2.2.2.2.1), hD.2.2.2.2.2.1, hD.2.2.2.2.2.2.1, hD.2.2.2.2.2.2.2, q, rd_s1, ↓lt_e, ↓gd_e, ↓Option.bind_some, ↓reduceIte, if_true, if_false, if_pT, if_nF, decide_true, Bool.not_true, Bool.not_false, not_true_eq_false, not_false_eq_true, Bool.false_eq_true, Bool.true_eq_false, eq_self, n3_lit, n3_add, n3_mul, n3_sub, n3_tn, n3_le_t, n3_le_f, n3_lt_t, n3_lt_f, n3_eq_f, n3_eq_t, n3_inb, n3_rem, n3_div, n3_zb, bb_0, bb_1, zb_bb, bb_T, bb_F, n3_dec, n3_m1, n3_eqm, n3_eqmt, n3_ltm, n3_mlt, n3_lem, n3_mle, n3_neg_lt, n3_nlt_neg, n3_nle_neg, n3_neg_le]
    · have s1 := sh μ c
      simp (disch := omega) only [m_X12_readShip, s1, h8', ↓lt_e, ↓gd_e, ↓Option.bind_some, ↓reduceIte, if_true, if_false, if_pT, if_nF, decide_true, Bool.not_true, Bool.not_false, not_true_eq_false, not_false_eq_true, Bool.false_eq_true, Bool.true_eq_false, eq_self, n3_lit, n3_add, n3_mul, n3_sub, n3_tn, n3_le_t, n3_le_f, n3_lt_t, n3_lt_f, n3_eq_f, n3_eq_t, n3_inb, n3_rem, n3_div, n3_zb, bb_0, bb_1, zb_bb, bb_T, bb_F, n3_dec, n3_m1, n3_eqm, n3_eqmt, n3_ltm, n3_mlt, n3_lem, n3_mle, n3_neg_lt, n3_nlt_neg, n3_nle_neg, n3_neg_le]

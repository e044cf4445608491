/-! all lines of a text of the dock -/
def DO (ad : Nat → Nat) (T : Nat → Int32) (n m : Nat) (G : Nat → Nat) (fc : Mem → Nat → Option (Int32 × Mem)) (fr : Mem → Option (Int32 × Mem)) : Prop := ∃ (ok : Bool) (i' : Nat) (G' : Nat → Nat), i' ≤ m ∧ (ok = true → WF G' ∧ LwE G G' ∧ G' 1 = G 1) ∧ (∀ μ v, TkC ad μ 48 T n m → CS ad μ 12 G → ∃ μ' v', fc μ v = some (n3 (if ok = true then 4294967295 else BT T n i'), rd ad 48 μ' i' v') ∧ TkC ad μ' 48 T n m ∧ (ok = true → CS ad μ' 12 G') ∧ Fr ad (fun j => (12 ≤ j ∧ j ≤ 20) ∨ j = 48) μ μ') ∧ (∀ μ, TkR ad μ T n → Row μ (ad 182) 1222 G → ∃ μ' p' b' c, fr μ = some (n3 (if ok = true then c else 4294967295), pt ad μ' p' b') ∧ c ≤ 14 ∧ TkR ad μ' T n ∧ (ok = true → Row μ' (ad 182) 1222 G') ∧ (ok = false → b' = BT T n i') ∧ Fr ad (fun j => j = 181 ∨ j = 182) μ μ' ∧ ∀ k, k ≠ 10 → k ≠ 12 → μ'.1 (ad 181) k = μ.1 (ad 181) k)
theorem c_beg {N : Nat} (hN : 1099511627776 ≤ N) {Λ : Lay} {ad : Nat → Nat} {r q kk : Nat} (hr : r = 48 ∨ r = 52) (hj : Inj ad) (hP : LyP Λ ad) (hD : LyD Λ ad r q kk) {T : Nat → Int32} {n m : Nat} {μ : Mem} (h : TkC ad μ r T n m) {i : Nat} (hi : i ≤ m) : μ.1 (ad (r + 2)) i = n3 (BT T n i) := h.2.2.2.2.2.2.2.2.1 i (by omega)
theorem l_lines {N : Nat} (hN : 1099511627776 ≤ N) {Λ : Lay} {ad : Nat → Nat} (hj : Inj ad) (hP : LyP Λ ad) (hD : LyD Λ ad 48 12 8) (hR : LyR Λ ad) {T : Nat → Int32} {n m : Nat} (hm : Tm T n m) (hS12 : LyS Λ ad 12) : ∀ (d h i pe b M M' : Nat) (G : Nat → Nat), WF G → h + d = 14 → d < M → d < M' → i ≤ m → pe ≤ n → nb T n pe = BT T n i → DO ad T n m G (fun μ v => cw (fun k s => bd_X7_readLines_1_15 N Λ (s.2) k (ad 48) (n3 14) s.1) M (n3 h, rd ad 48 μ i v)) (fun μ => cw (fun k s => bd_X12_readAll_28 N Λ (s.2) k (ad 181) (n3 1) s.1) M' (n3 h, pt ad μ pe b)) := by
  intro d
  induction d with
  | zero =>
    intro h i pe b M M' G hw hh hM hM' hi hpe hpb
    obtain ⟨M, rfl⟩ : ∃ Q, M = Q + 1 := ⟨M - 1, by omega⟩
    obtain ⟨M', rfl⟩ : ∃ Q, M' = Q + 1 := ⟨M' - 1, by omega⟩
    have h14 : h = 14 := by omega
    subst h14
    have hmn := hm.2.1
    have hm4 := hm.1
    refine ⟨false, i, G, hi, fun h => absurd h (by decide), fun μ v t c => ?_, fun μ t c => ?_⟩
    · refine ⟨μ, v, ?_, t, fun h => absurd h (by decide), Fr.refl μ⟩
      have e1 := c_beg hN (Or.inl rfl) hj hP hD t hi
      have o1 := rd_o hj (show 50 ≠ 48 by omega) μ i v
      show bd_X7_readLines_1_15 N Λ (rd ad 48 μ i v) _ (ad 48) (n3 14) (n3 14) = _
      rw [if_neg (by decide)]
      simp (disch := omega) only [bd_X7_readLines_1_15, ↓ob (hD.1), ↓ob (hD.2.1), ↓ob (hD.2.2.1), ↓ob (hD.2.2.2.1), ↓ob (hD.2.2.2.2.1), hD.2.2.2.2.2.1, hD.2.2.2.2.2.2.1, hD.2.2.2.2.2.2.2, rd_1, o1, e1, ↓lt_e, ↓gd_e, ↓Option.bind_some, ↓reduceIte, if_true, if_false, if_pT, if_nF, decide_true, Bool.not_true, Bool.not_false, not_true_eq_false, not_false_eq_true, Bool.false_eq_true, Bool.true_eq_false, eq_self, n3_lit, n3_add, n3_mul, n3_sub, n3_tn, n3_le_t, n3_le_f, n3_lt_t, n3_lt_f, n3_eq_f, n3_eq_t, n3_inb, n3_rem, n3_div, n3_zb, bb_0, bb_1, zb_bb, bb_T, bb_F, n3_dec, n3_m1, n3_eqm, n3_eqmt, n3_ltm, n3_mlt, n3_lem, n3_mle, n3_neg_lt, n3_nlt_neg, n3_nle_neg, n3_neg_le]
    · refine ⟨μ, LE T n i, BT T n i, 0, ?_, by omega, t, fun h => absurd h (by decide), fun _ => rfl, Fr.refl μ, fun _ _ _ => rfl⟩
      have c1 := r_let hN hj hR t hpe hpb b
      show bd_X12_readAll_28 N Λ (pt ad μ pe b) _ (ad 181) (n3 1) (n3 14) = _
      rw [if_neg (by decide)]
      simp (disch := omega) only [bd_X12_readAll_28, m_X12_readLine, jn_X12_readLine_16, jn_X12_readLine_45, jn_X12_readLine_46, c1, n3_neg1, ↓lt_e, ↓gd_e, ↓Option.bind_some, ↓reduceIte, if_true, if_false, if_pT, if_nF, decide_true, Bool.not_true, Bool.not_false, not_true_eq_false, not_false_eq_true, Bool.false_eq_true, Bool.true_eq_false, eq_self, n3_lit, n3_add, n3_mul, n3_sub, n3_tn, n3_le_t, n3_le_f, n3_lt_t, n3_lt_f, n3_eq_f, n3_eq_t, n3_inb, n3_rem, n3_div, n3_zb, bb_0, bb_1, zb_bb, bb_T, bb_F, n3_dec, n3_m1, n3_eqm, n3_eqmt, n3_ltm, n3_mlt, n3_lem, n3_mle, n3_neg_lt, n3_nlt_neg, n3_nle_neg, n3_neg_le]
  | succ d ih =>
    intro h i pe b M M' G hw hh hM hM' hi hpe hpb
    obtain ⟨M, rfl⟩ : ∃ Q, M = Q + 1 := ⟨M - 1, by omega⟩
    obtain ⟨M', rfl⟩ : ∃ Q, M' = Q + 1 := ⟨M' - 1, by omega⟩
    have hmn := hm.2.1
    have hm4 := hm.1
    obtain ⟨ok1, i1, G1, x1, x2, x3, x4⟩ := l_line hN hj hP hD hR hm hw hS12 hi
    have rl : ∀ μ, TkR ad μ T n → ∀ K, bd_X12_readAll_28 N Λ (pt ad μ pe b) K (ad 181) (n3 1) (n3 h) = (m_X12_readDockLine N Λ (pt ad μ (LE T n i) (BT T n i)) (ad 181)).bind fun r => ((if r.1 = 0 then jn_X12_readLine_45 N Λ r.2 else jn_X12_readLine_41 N Λ r.2).bind fun r1 => if r1.1 = 0 then (some ((-1), r1.2)) else ((m_X12_blanks N Λ r1.2 (ad 181)).bind fun r4 => if (r4.1 (ad 181) 10) = (r4.1 (ad 181) 11) then (some (n3 h + 1, r4)) else ((m_X12_isAt N Λ r4 (ad 181) 59 59).bind fun r7 => if r7 = 0 then (some ((-1), r4)) else K (n3 h + 1, mset r4 (ad 181) 10 ((r4.1 (ad 181) 10) + 1))))) := fun μ t K => by
      have c1 := r_let hN hj hR t hpe hpb b
      have e0 : ((n3 1 : Int32) = 0) = False := one_0
      have e1 : ((14 : Int32) ≤ n3 h) = False := n3_le_f (a := 14) (b := h) (by omega) (by omega)
      unfold bd_X12_readAll_28 m_X12_readLine
      rw [c1]
      simp only [Option.bind_some, e0, if_false, jn_X12_readLine_16, e1, lt_e]
      cases m_X12_readDockLine N Λ (pt ad μ (LE T n i) (BT T n i)) (ad 181) <;> rfl
    cases ok1 with
    | false =>
      refine ⟨false, i1, G, x1, fun h => absurd h (by decide), fun μ v t c => ?_, fun μ t c => ?_⟩
      · obtain ⟨μ2, v2, e2, t2, c2, f2⟩ := x3 μ v t c
        refine ⟨μ2, v2, ?_, t2, fun h => absurd h (by decide), f2⟩
        have e1 := c_beg hN (Or.inl rfl) hj hP hD t2 x1
        have o1 := rd_o hj (show 50 ≠ 48 by omega) μ2 i1 v2
        rw [if_neg (by decide)]
        show bd_X7_readLines_1_15 N Λ (rd ad 48 μ i v) _ (ad 48) (n3 14) (n3 h) = _
        generalize cw _ M = K
        rw [bbB_f rfl] at e2
        simp (disch := omega) only [bd_X7_readLines_1_15, e2, ↓ob (hD.1), ↓ob (hD.2.1), ↓ob (hD.2.2.1), ↓ob (hD.2.2.2.1), ↓ob (hD.2.2.2.2.1), hD.2.2.2.2.2.1, hD.2.2.2.2.2.2.1, hD.2.2.2.2.2.2.2, rd_1, o1, e1, ↓lt_e, ↓gd_e, ↓Option.bind_some, ↓reduceIte, if_true, if_false, if_pT, if_nF, decide_true, Bool.not_true, Bool.not_false, not_true_eq_false, not_false_eq_true, Bool.false_eq_true, Bool.true_eq_false, eq_self, n3_lit, n3_add, n3_mul, n3_sub, n3_tn, n3_le_t, n3_le_f, n3_lt_t, n3_lt_f, n3_eq_f, n3_eq_t, n3_inb, n3_rem, n3_div, n3_zb, bb_0, bb_1, zb_bb, bb_T, bb_F, n3_dec, n3_m1, n3_eqm, n3_eqmt, n3_ltm, n3_mlt, n3_lem, n3_mle, n3_neg_lt, n3_nlt_neg, n3_nle_neg, n3_neg_le]
      · obtain ⟨μ2, p2, b2, e2, t2, c2, d2, f2, k2⟩ := x4 μ t c
        change m_X12_readDockLine N Λ (pt ad μ (LE T n i) (BT T n i)) (ad 181) = _ at e2
        refine ⟨μ2, p2, b2, 0, ?_, by omega, t2, fun h => absurd h (by decide), d2, f2, k2⟩
        rw [bbB_f rfl] at e2
        rw [if_neg (by decide)]
        show bd_X12_readAll_28 N Λ (pt ad μ pe b) _ (ad 181) (n3 1) (n3 h) = _
        rw [rl μ t]
        rw [e2]
        generalize cw _ M' = K
        simp (disch := omega) only [jn_X12_readLine_45, jn_X12_readLine_46, n3_neg1, ↓lt_e, ↓gd_e, ↓Option.bind_some, ↓reduceIte, if_true, if_false, if_pT, if_nF, decide_true, Bool.not_true, Bool.not_false, not_true_eq_false, not_false_eq_true, Bool.false_eq_true, Bool.true_eq_false, eq_self, n3_lit, n3_add, n3_mul, n3_sub, n3_tn, n3_le_t, n3_le_f, n3_lt_t, n3_lt_f, n3_eq_f, n3_eq_t, n3_inb, n3_rem, n3_div, n3_zb, bb_0, bb_1, zb_bb, bb_T, bb_F, n3_dec, n3_m1, n3_eqm, n3_eqmt, n3_ltm, n3_mlt, n3_lem, n3_mle, n3_neg_lt, n3_nlt_neg, n3_nle_neg, n3_neg_le]
    | true =>
      obtain ⟨hw1, hl1, ht1⟩ := x2 rfl
      have b1 := BT_le T n i1
      by_cases hend : i1 = m
      · subst hend
        have hbn := hm.2.2.1
        refine ⟨true, i1, G1, x1, fun _ => ⟨hw1, hl1, ht1⟩, fun μ v t c => ?_, fun μ t c => ?_⟩
        · obtain ⟨μ2, v2, e2, t2, c2, f2⟩ := x3 μ v t c
          refine ⟨μ2, v2, ?_, t2, fun _ => c2 rfl, f2⟩
          have e3 := t2.2.2.2.2.2.2.1
          rw [if_pos rfl]
          show bd_X7_readLines_1_15 N Λ (rd ad 48 μ i v) _ (ad 48) (n3 14) (n3 h) = _
          generalize cw _ M = K
          rw [bbB_t rfl] at e2
          simp (disch := omega) only [bd_X7_readLines_1_15, e2, rd_1, rd_3, e3, n3_neg1, ↓lt_e, ↓gd_e, ↓Option.bind_some, ↓reduceIte, if_true, if_false, if_pT, if_nF, decide_true, Bool.not_true, Bool.not_false, not_true_eq_false, not_false_eq_true, Bool.false_eq_true, Bool.true_eq_false, eq_self, n3_lit, n3_add, n3_mul, n3_sub, n3_tn, n3_le_t, n3_le_f, n3_lt_t, n3_lt_f, n3_eq_f, n3_eq_t, n3_inb, n3_rem, n3_div, n3_zb, bb_0, bb_1, zb_bb, bb_T, bb_F, n3_dec, n3_m1, n3_eqm, n3_eqmt, n3_ltm, n3_mlt, n3_lem, n3_mle, n3_neg_lt, n3_nlt_neg, n3_nle_neg, n3_neg_le]
        · obtain ⟨μ2, p2, b2, e2, t2, c2, d2, f2, k2⟩ := x4 μ t c
          change m_X12_readDockLine N Λ (pt ad μ (LE T n i) (BT T n i)) (ad 181) = _ at e2
          obtain ⟨r2, pl2, pb2⟩ := c2 rfl
          have bl := r_blanks hN hj hR t2 pl2 b2
          rw [pb2, hbn] at bl
          have k11 : (pt ad μ2 n n).1 (ad 181) 11 = n3 n := by rw [pt_k ad μ2 n n (by omega)]; exact t2.2.1
          refine ⟨μ2, n, n, h + 1, ?_, by omega, t2, fun _ => r2, fun h => absurd h (by decide), f2, k2⟩
          rw [bbB_t rfl] at e2
          rw [if_pos rfl]
          show bd_X12_readAll_28 N Λ (pt ad μ pe b) _ (ad 181) (n3 1) (n3 h) = _
          rw [rl μ t]
          rw [e2]
          generalize cw _ M' = K
          simp (disch := omega) only [jn_X12_readLine_41, jn_X12_readLine_46, bl, pt_10, k11, ↓lt_e, ↓gd_e, ↓Option.bind_some, ↓reduceIte, if_true, if_false, if_pT, if_nF, decide_true, Bool.not_true, Bool.not_false, not_true_eq_false, not_false_eq_true, Bool.false_eq_true, Bool.true_eq_false, eq_self, n3_lit, n3_add, n3_mul, n3_sub, n3_tn, n3_le_t, n3_le_f, n3_lt_t, n3_lt_f, n3_eq_f, n3_eq_t, n3_inb, n3_rem, n3_div, n3_zb, bb_0, bb_1, zb_bb, bb_T, bb_F, n3_dec, n3_m1, n3_eqm, n3_eqmt, n3_ltm, n3_mlt, n3_lem, n3_mle, n3_neg_lt, n3_nlt_neg, n3_nle_neg, n3_neg_le]
      · have hlt : BT T n i1 < n := hm.2.2.2 i1 (by omega)
        have bl' : ∀ μ2 p2 b2, TkR ad μ2 T n → p2 ≤ n → nb T n p2 = BT T n i1 → m_X12_blanks N Λ (pt ad μ2 p2 b2) (ad 181) = some (pt ad μ2 (BT T n i1) (BT T n i1)) := fun μ2 p2 b2 t2 pl2 pb2 => by
          have bl := r_blanks hN hj hR t2 pl2 b2
          rw [pb2] at bl; exact bl
        cases hs : ST T n i1 59 with
        | false =>
          refine ⟨false, i1, G, x1, fun h => absurd h (by decide), fun μ v t c => ?_, fun μ t c => ?_⟩
          · obtain ⟨μ2, v2, e2, t2, c2, f2⟩ := x3 μ v t c
            refine ⟨μ2, v2, ?_, t2, fun h => absurd h (by decide), f2⟩
            have e1 := c_beg hN (Or.inl rfl) hj hP hD t2 x1
            have o1 := rd_o hj (show 50 ≠ 48 by omega) μ2 i1 v2
            have e3 := t2.2.2.2.2.2.2.1
            have e4 := c_ts_f hN (Or.inl rfl) hj hP hD t2 x1 v2 (show 59 = 40 ∨ 59 = 41 ∨ 59 = 43 ∨ 59 = 59 ∨ 59 = 60 ∨ 59 = 62 by omega) hs
            rw [if_neg (by decide)]
            show bd_X7_readLines_1_15 N Λ (rd ad 48 μ i v) _ (ad 48) (n3 14) (n3 h) = _
            generalize cw _ M = K
            rw [bbB_t rfl] at e2
            simp (disch := omega) only [bd_X7_readLines_1_15, e2, n3_lit, e4, ↓ob (hD.1), ↓ob (hD.2.1), ↓ob (hD.2.2.1), ↓ob (hD.2.2.2.1), ↓ob (hD.2.2.2.2.1), hD.2.2.2.2.2.1, hD.2.2.2.2.2.2.1, hD.2.2.2.2.2.2.2, rd_1, rd_3, e3, o1, e1, ↓lt_e, ↓gd_e, ↓Option.bind_some, ↓reduceIte, if_true, if_false, if_pT, if_nF, decide_true, Bool.not_true, Bool.not_false, not_true_eq_false, not_false_eq_true, Bool.false_eq_true, Bool.true_eq_false, eq_self, n3_le_f, n3_eq_f, n3_eq_t, n3_inb, n3_tn]
          · obtain ⟨μ2, p2, b2, e2, t2, c2, d2, f2, k2⟩ := x4 μ t c
            change m_X12_readDockLine N Λ (pt ad μ (LE T n i) (BT T n i)) (ad 181) = _ at e2
            obtain ⟨r2, pl2, pb2⟩ := c2 rfl
            have bl := bl' μ2 p2 b2 t2 pl2 pb2
            have k11 : (pt ad μ2 (BT T n i1) (BT T n i1)).1 (ad 181) 11 = n3 n := by rw [pt_k ad μ2 _ _ (by omega)]; exact t2.2.1
            have h1 := of_decide_eq_false hs
            have ia := r_isAt (N := N) hN hj hR t2 b1 (BT T n i1) (n3 59) (n3 59)
            rw [bb_f (fun hx => h1 ⟨hx.1, Int32.le_antisymm hx.2.2 hx.2.1⟩)] at ia
            refine ⟨μ2, BT T n i1, BT T n i1, 0, ?_, by omega, t2, fun h => absurd h (by decide), fun _ => rfl, f2, k2⟩
            rw [bbB_t rfl] at e2
            rw [if_neg (by decide)]
            show bd_X12_readAll_28 N Λ (pt ad μ pe b) _ (ad 181) (n3 1) (n3 h) = _
            rw [rl μ t]
            rw [e2]
            generalize cw _ M' = K
            simp (disch := omega) only [jn_X12_readLine_41, jn_X12_readLine_46, bl, pt_10, k11, n3_lit, ia, n3_neg1, ↓lt_e, ↓gd_e, ↓Option.bind_some, ↓reduceIte, if_true, if_false, if_pT, if_nF, decide_true, Bool.not_true, Bool.not_false, not_true_eq_false, not_false_eq_true, Bool.false_eq_true, Bool.true_eq_false, eq_self, n3_lit, n3_add, n3_mul, n3_sub, n3_tn, n3_le_t, n3_le_f, n3_lt_t, n3_lt_f, n3_eq_f, n3_eq_t, n3_inb, n3_rem, n3_div, n3_zb, bb_0, bb_1, zb_bb, bb_T, bb_F, n3_dec, n3_m1, n3_eqm, n3_eqmt, n3_ltm, n3_mlt, n3_lem, n3_mle, n3_neg_lt, n3_nlt_neg, n3_nle_neg, n3_neg_le]
        | true =>
          have hi2 : i1 + 1 ≤ m := by omega
          have h1 := of_decide_eq_true hs
          have hk3 : KT T n i1 = 3 := by rw [KT_t h1.1]; exact kd_s (by omega) h1.2
          have hte := te_3 hk3
          obtain ⟨ok2, i2, G2, y1, y2, y3, y4⟩ := ih (h + 1) (i1 + 1) (BT T n i1 + 1) (BT T n i1) M M' G1 hw1 (by omega) (by omega) (by omega) hi2 (by omega) (by rw [← hte]; rfl)
          refine ⟨ok2, i2, G2, y1, fun ho => ⟨(y2 ho).1, hl1.trans (y2 ho).2.1, (y2 ho).2.2.trans ht1⟩, fun μ v t c => ?_, fun μ t c => ?_⟩
          · obtain ⟨μ2, v2, e2, t2, c2, f2⟩ := x3 μ v t c
            obtain ⟨μ3, v3, e3, t3, c3, f3⟩ := y3 μ2 v2 t2 (c2 rfl)
            refine ⟨μ3, v3, ?_, t3, c3, f2.trans f3⟩
            have e5 := t2.2.2.2.2.2.2.1
            have e4 := c_ts_t hN (Or.inl rfl) hj hP hD t2 x1 v2 (show 59 = 40 ∨ 59 = 41 ∨ 59 = 43 ∨ 59 = 59 ∨ 59 = 60 ∨ 59 = 62 by omega) hs
            rw [bbB_t rfl] at e2
            have key : ∀ K, bd_X7_readLines_1_15 N Λ (rd ad 48 μ i v) K (ad 48) (n3 14) (n3 h) = K (n3 (h + 1), rd ad 48 μ2 (i1 + 1) v2) := fun K => by
              simp (disch := omega) only [bd_X7_readLines_1_15, e2, n3_lit, e4, rd_1, rd_3, e5, ↓lt_e, ↓gd_e, ↓Option.bind_some, ↓reduceIte, if_true, if_false, if_pT, if_nF, decide_true, Bool.not_true, Bool.not_false, not_true_eq_false, not_false_eq_true, Bool.false_eq_true, Bool.true_eq_false, eq_self, n3_le_f, n3_eq_f, n3_add]
            exact (key _).trans e3
          · obtain ⟨μ2, p2, b2, e2, t2, c2, d2, f2, k2⟩ := x4 μ t c
            change m_X12_readDockLine N Λ (pt ad μ (LE T n i) (BT T n i)) (ad 181) = _ at e2
            obtain ⟨r2, pl2, pb2⟩ := c2 rfl
            obtain ⟨μ3, p3, b3, cc, e3, z3, t3, c3, d3, f3, k3⟩ := y4 μ2 t2 r2
            have bl := bl' μ2 p2 b2 t2 pl2 pb2
            have k11 : (pt ad μ2 (BT T n i1) (BT T n i1)).1 (ad 181) 11 = n3 n := by rw [pt_k ad μ2 _ _ (by omega)]; exact t2.2.1
            have ia := r_isAt (N := N) hN hj hR t2 b1 (BT T n i1) (n3 59) (n3 59)
            rw [bb_t ⟨h1.1, by rw [h1.2]; exact ⟨Int32.le_refl _, Int32.le_refl _⟩⟩] at ia
            refine ⟨μ3, p3, b3, cc, ?_, z3, t3, c3, d3, f2.trans f3, fun k a b => (k3 k a b).trans (k2 k a b)⟩
            rw [bbB_t rfl] at e2
            have key : ∀ K, bd_X12_readAll_28 N Λ (pt ad μ pe b) K (ad 181) (n3 1) (n3 h) = K (n3 (h + 1), pt ad μ2 (BT T n i1 + 1) (BT T n i1)) := fun K => by
              rw [rl μ t, e2]
              simp (disch := omega) only [jn_X12_readLine_41, jn_X12_readLine_46, bl, pt_10, k11, n3_lit, ia, pt_s10, ↓lt_e, ↓gd_e, ↓Option.bind_some, ↓reduceIte, if_true, if_false, if_pT, if_nF, decide_true, Bool.not_true, Bool.not_false, not_true_eq_false, not_false_eq_true, Bool.false_eq_true, Bool.true_eq_false, eq_self, n3_lit, n3_add, n3_mul, n3_sub, n3_tn, n3_le_t, n3_le_f, n3_lt_t, n3_lt_f, n3_eq_f, n3_eq_t, n3_inb, n3_rem, n3_div, n3_zb, bb_0, bb_1, zb_bb, bb_T, bb_F, n3_dec, n3_m1, n3_eqm, n3_eqmt, n3_ltm, n3_mlt, n3_lem, n3_mle, n3_neg_lt, n3_nlt_neg, n3_nle_neg, n3_neg_le]
            exact (key _).trans e3

/-! the reference reads -/
def pt (ad : Nat → Nat) (μ : Mem) (p b : Nat) : Mem := mset (mset μ (ad 181) 10 (n3 p)) (ad 181) 12 (n3 b)
theorem pt_10 (ad : Nat → Nat) (μ : Mem) (p b : Nat) : (pt ad μ p b).1 (ad 181) 10 = n3 p := by unfold pt; rw [msn (by omega), mse]
theorem pt_12 (ad : Nat → Nat) (μ : Mem) (p b : Nat) : (pt ad μ p b).1 (ad 181) 12 = n3 b := mse _ _ _ _
theorem pt_k (ad : Nat → Nat) (μ : Mem) (p b : Nat) {k : Nat} (h : k ≠ 10 ∧ k ≠ 12) : (pt ad μ p b).1 (ad 181) k = μ.1 (ad 181) k := by unfold pt; rw [msn h.2, msn h.1]
theorem pt_o {ad : Nat → Nat} (hj : Inj ad) {j : Nat} (h : j ≠ 181) (μ : Mem) (p b : Nat) : (pt ad μ p b).1 (ad j) = μ.1 (ad j) := by unfold pt; rw [mso hj h, mso hj h]
theorem pt_s10 (ad : Nat → Nat) (μ : Mem) (p b p' : Nat) : mset (pt ad μ p b) (ad 181) 10 (n3 p') = pt ad μ p' b := by
  unfold pt; rw [mset_comm (Or.inr (by omega)), mset_two]
theorem pt_s12 (ad : Nat → Nat) (μ : Mem) (p b b' : Nat) : mset (pt ad μ p b) (ad 181) 12 (n3 b') = pt ad μ p b' := by
  unfold pt; rw [mset_two]
theorem pt_w {ad : Nat → Nat} (hj : Inj ad) {j : Nat} (h : j ≠ 181) (μ : Mem) (p b k : Nat) (x : Int32) : mset (pt ad μ p b) (ad j) k x = pt ad (mset μ (ad j) k x) p b := by
  have h' : ad 181 ≠ ad j := fun e => h (hj _ _ e.symm)
  unfold pt; rw [mset_comm (Or.inl h'), mset_comm (Or.inl h')]
theorem pt_wk (ad : Nat → Nat) (μ : Mem) (p b : Nat) {k : Nat} (h : k ≠ 10 ∧ k ≠ 12) (x : Int32) : mset (pt ad μ p b) (ad 181) k x = pt ad (mset μ (ad 181) k x) p b := by
  unfold pt; rw [mset_comm (Or.inr h.2.symm), mset_comm (Or.inr h.1.symm)]
theorem pt_self {ad : Nat → Nat} {μ : Mem} {p b : Nat} (h1 : μ.1 (ad 181) 10 = n3 p) (h2 : μ.1 (ad 181) 12 = n3 b) : pt ad μ p b = μ := by
  unfold pt; rw [mset_same μ (ad 181) 10 h1, mset_same μ (ad 181) 12 h2]
theorem pt_fr {ad : Nat → Nat} (hj : Inj ad) (μ : Mem) (p b : Nat) : Fr ad (fun j => j = 181) μ (pt ad μ p b) := ((Fr.refl μ).set hj (by rfl)).set hj (by rfl)
def TkR (ad : Nat → Nat) (μ : Mem) (T : Nat → Int32) (n : Nat) : Prop := n ≤ 400 ∧ μ.1 (ad 181) 11 = n3 n ∧ ∀ k, k < n → μ.1 (ad 187) k = T k
theorem r_isAt {N : Nat} (hN : 1099511627776 ≤ N) {Λ : Lay} {ad : Nat → Nat} (hj : Inj ad) (hR : LyR Λ ad) {T : Nat → Int32} {n : Nat} {μ : Mem} (h : TkR ad μ T n) {p : Nat} (hp : p ≤ n) (b : Nat) (lo hi : Int32) : m_X12_isAt N Λ (pt ad μ p b) (ad 181) lo hi = some (n3 (bb (p < n ∧ lo ≤ T p ∧ T p ≤ hi))) := by
  obtain ⟨h1, h2, h3⟩ := h
  have e1 : (pt ad μ p b).1 (ad 181) 11 = n3 n := by rw [pt_k ad μ p b (by omega)]; exact h2
  have o1 := pt_o hj (show 187 ≠ 181 by omega) μ p b
  by_cases hpn : p < n
  · have e3 := h3 p hpn
    by_cases c1 : lo ≤ T p
    · have c1' : ¬ T p < lo := Int32.not_lt.2 c1
      by_cases c2 : T p ≤ hi
      · have c2' : ¬ hi < T p := Int32.not_lt.2 c2
        rw [bb_t ⟨hpn, c1, c2⟩]
        simp (disch := omega) only [m_X12_isAt, jn_X12_isAt_42, e1, pt_10, ↓ob (hR.1), ↓ob (hR.2.1), ↓ob (hR.2.2.1), ↓ob (hR.2.2.2.1), ↓ob (hR.2.2.2.2.1), ↓ob (hR.2.2.2.2.2.1), ↓ob (hR.2.2.2.2.2.2.1), ↓ob (hR.2.2.2.2.2.2.2.1), ↓ob (hR.2.2.2.2.2.2.2.2.1), ↓ob (hR.2.2.2.2.2.2.2.2.2.1), ↓ob (hR.2.2.2.2.2.2.2.2.2.2.1), ↓ob (hR.2.2.2.2.2.2.2.2.2.2.2.1), ↓ob (hR.2.2.2.2.2.2.2.2.2.2.2.2.1), ↓ob (hR.2.2.2.2.2.2.2.2.2.2.2.2.2.1), ↓ob (hR.2.2.2.2.2.2.2.2.2.2.2.2.2.2.1), ↓ob (hR.2.2.2.2.2.2.2.2.2.2.2.2.2.2.2.1), ↓ob (hR.2.2.2.2.2.2.2.2.2.2.2.2.2.2.2.2.1), ↓ob (hR.2.2.2.2.2.2.2.2.2.2.2.2.2.2.2.2.2.1), hR.2.2.2.2.2.2.2.2.2.2.2.2.2.2.2.2.2.2.1, hR.2.2.2.2.2.2.2.2.2.2.2.2.2.2.2.2.2.2.2.1, hR.2.2.2.2.2.2.2.2.2.2.2.2.2.2.2.2.2.2.2.2.1, hR.2.2.2.2.2.2.2.2.2.2.2.2.2.2.2.2.2.2.2.2.2.1, hR.2.2.2.2.2.2.2.2.2.2.2.2.2.2.2.2.2.2.2.2.2.2.1, hR.2.2.2.2.2.2.2.2.2.2.2.2.2.2.2.2.2.2.2.2.2.2.2.1, hR.2.2.2.2.2.2.2.2.2.2.2.2.2.2.2.2.2.2.2.2.2.2.2.2.1, hR.2.2.2.2.2.2.2.2.2.2.2.2.2.2.2.2.2.2.2.2.2.2.2.2.2.1, hR.2.2.2.2.2.2.2.2.2.2.2.2.2.2.2.2.2.2.2.2.2.2.2.2.2.2.1, hR.2.2.2.2.2.2.2.2.2.2.2.2.2.2.2.2.2.2.2.2.2.2.2.2.2.2.2.1, hR.2.2.2.2.2.2.2.2.2.2.2.2.2.2.2.2.2.2.2.2.2.2.2.2.2.2.2.2.1, hR.2.2.2.2.2.2.2.2.2.2.2.2.2.2.2.2.2.2.2.2.2.2.2.2.2.2.2.2.2.1, hR.2.2.2.2.2.2.2.2.2.2.2.2.2.2.2.2.2.2.2.2.2.2.2.2.2.2.2.2.2.2.1, hR.2.2.2.2.2.2.2.2.2.2.2.2.2.2.2.2.2.2.2.2.2.2.2.2.2.2.2.2.2.2.2.1, hR.2.2.2.2.2.2.2.2.2.2.2.2.2.2.2.2.2.2.2.2.2.2.2.2.2.2.2.2.2.2.2.2.1, hR.2.2.2.2.2.2.2.2.2.2.2.2.2.2.2.2.2.2.2.2.2.2.2.2.2.2.2.2.2.2.2.2.2.1, hR.2.2.2.2.2.2.2.2.2.2.2.2.2.2.2.2.2.2.2.2.2.2.2.2.2.2.2.2.2.2.2.2.2.2.1, hR.2.2.2.2.2.2.2.2.2.2.2.2.2.2.2.2.2.2.2.2.2.2.2.2.2.2.2.2.2.2.2.2.2.2.2, o1, e3, c1', c2', ↓lt_e, ↓gd_e, ↓Option.bind_some, ↓reduceIte, if_true, if_false, if_pT, if_nF, decide_true, Bool.not_true, Bool.not_false, not_true_eq_false, not_false_eq_true, Bool.false_eq_true, Bool.true_eq_false, eq_self, n3_lit, n3_add, n3_mul, n3_sub, n3_tn, n3_le_t, n3_le_f, n3_lt_t, n3_lt_f, n3_eq_f, n3_eq_t, n3_inb, n3_rem, n3_div, n3_zb, bb_0, bb_1, zb_bb, bb_T, bb_F, n3_dec, n3_m1, n3_eqm, n3_eqmt, n3_ltm, n3_mlt, n3_lem, n3_mle, n3_neg_lt, n3_nlt_neg, n3_nle_neg, n3_neg_le]
      · have c2' : hi < T p := Int32.not_le.1 c2
        rw [bb_f (fun h => c2 h.2.2)]
        simp (disch := omega) only [m_X12_isAt, jn_X12_isAt_42, jn_X12_isAt_41, e1, pt_10, ↓ob (hR.1), ↓ob (hR.2.1), ↓ob (hR.2.2.1), ↓ob (hR.2.2.2.1), ↓ob (hR.2.2.2.2.1), ↓ob (hR.2.2.2.2.2.1), ↓ob (hR.2.2.2.2.2.2.1), ↓ob (hR.2.2.2.2.2.2.2.1), ↓ob (hR.2.2.2.2.2.2.2.2.1), ↓ob (hR.2.2.2.2.2.2.2.2.2.1), ↓ob (hR.2.2.2.2.2.2.2.2.2.2.1), ↓ob (hR.2.2.2.2.2.2.2.2.2.2.2.1), ↓ob (hR.2.2.2.2.2.2.2.2.2.2.2.2.1), ↓ob (hR.2.2.2.2.2.2.2.2.2.2.2.2.2.1), ↓ob (hR.2.2.2.2.2.2.2.2.2.2.2.2.2.2.1), ↓ob (hR.2.2.2.2.2.2.2.2.2.2.2.2.2.2.2.1), ↓ob (hR.2.2.2.2.2.2.2.2.2.2.2.2.2.2.2.2.1), ↓ob (hR.2.2.2.2.2.2.2.2.2.2.2.2.2.2.2.2.2.1), hR.2.2.2.2.2.2.2.2.2.2.2.2.2.2.2.2.2.2.1, hR.2.2.2.2.2.2.2.2.2.2.2.2.2.2.2.2.2.2.2.1, hR.2.2.2.2.2.2.2.2.2.2.2.2.2.2.2.2.2.2.2.2.1, hR.2.2.2.2.2.2.2.2.2.2.2.2.2.2.2.2.2.2.2.2.2.1, hR.2.2.2.2.2.2.2.2.2.2.2.2.2.2.2.2.2.2.2.2.2.2.1, hR.2.2.2.2.2.2.2.2.2.2.2.2.2.2.2.2.2.2.2.2.2.2.2.1, hR.2.2.2.2.2.2.2.2.2.2.2.2.2.2.2.2.2.2.2.2.2.2.2.2.1, hR.2.2.2.2.2.2.2.2.2.2.2.2.2.2.2.2.2.2.2.2.2.2.2.2.2.1, hR.2.2.2.2.2.2.2.2.2.2.2.2.2.2.2.2.2.2.2.2.2.2.2.2.2.2.1, hR.2.2.2.2.2.2.2.2.2.2.2.2.2.2.2.2.2.2.2.2.2.2.2.2.2.2.2.1, hR.2.2.2.2.2.2.2.2.2.2.2.2.2.2.2.2.2.2.2.2.2.2.2.2.2.2.2.2.1, hR.2.2.2.2.2.2.2.2.2.2.2.2.2.2.2.2.2.2.2.2.2.2.2.2.2.2.2.2.2.1, hR.2.2.2.2.2.2.2.2.2.2.2.2.2.2.2.2.2.2.2.2.2.2.2.2.2.2.2.2.2.2.1, hR.2.2.2.2.2.2.2.2.2.2.2.2.2.2.2.2.2.2.2.2.2.2.2.2.2.2.2.2.2.2.2.1, hR.2.2.2.2.2.2.2.2.2.2.2.2.2.2.2.2.2.2.2.2.2.2.2.2.2.2.2.2.2.2.2.2.1, hR.2.2.2.2.2.2.2.2.2.2.2.2.2.2.2.2.2.2.2.2.2.2.2.2.2.2.2.2.2.2.2.2.2.1, hR.2.2.2.2.2.2.2.2.2.2.2.2.2.2.2.2.2.2.2.2.2.2.2.2.2.2.2.2.2.2.2.2.2.2.1, hR.2.2.2.2.2.2.2.2.2.2.2.2.2.2.2.2.2.2.2.2.2.2.2.2.2.2.2.2.2.2.2.2.2.2.2, o1, e3, c1', c2', ↓lt_e, ↓gd_e, ↓Option.bind_some, ↓reduceIte, if_true, if_false, if_pT, if_nF, decide_true, Bool.not_true, Bool.not_false, not_true_eq_false, not_false_eq_true, Bool.false_eq_true, Bool.true_eq_false, eq_self, n3_lit, n3_add, n3_mul, n3_sub, n3_tn, n3_le_t, n3_le_f, n3_lt_t, n3_lt_f, n3_eq_f, n3_eq_t, n3_inb, n3_rem, n3_div, n3_zb, bb_0, bb_1, zb_bb, bb_T, bb_F, n3_dec, n3_m1, n3_eqm, n3_eqmt, n3_ltm, n3_mlt, n3_lem, n3_mle, n3_neg_lt, n3_nlt_neg, n3_nle_neg, n3_neg_le]
    · have c1' : T p < lo := Int32.not_le.1 c1
      rw [bb_f (fun h => c1 h.2.1)]
      simp (disch := omega) only [m_X12_isAt, jn_X12_isAt_42, jn_X12_isAt_41, e1, pt_10, ↓ob (hR.1), ↓ob (hR.2.1), ↓ob (hR.2.2.1), ↓ob (hR.2.2.2.1), ↓ob (hR.2.2.2.2.1), ↓ob (hR.2.2.2.2.2.1), ↓ob (hR.2.2.2.2.2.2.1), ↓ob (hR.2.2.2.2.2.2.2.1), ↓ob (hR.2.2.2.2.2.2.2.2.1), ↓ob (hR.2.2.2.2.2.2.2.2.2.1), ↓ob (hR.2.2.2.2.2.2.2.2.2.2.1), ↓ob (hR.2.2.2.2.2.2.2.2.2.2.2.1), ↓ob (hR.2.2.2.2.2.2.2.2.2.2.2.2.1), ↓ob (hR.2.2.2.2.2.2.2.2.2.2.2.2.2.1), ↓ob (hR.2.2.2.2.2.2.2.2.2.2.2.2.2.2.1), ↓ob (hR.2.2.2.2.2.2.2.2.2.2.2.2.2.2.2.1), ↓ob (hR.2.2.2.2.2.2.2.2.2.2.2.2.2.2.2.2.1), ↓ob (hR.2.2.2.2.2.2.2.2.2.2.2.2.2.2.2.2.2.1), hR.2.2.2.2.2.2.2.2.2.2.2.2.2.2.2.2.2.2.1, hR.2.2.2.2.2.2.2.2.2.2.2.2.2.2.2.2.2.2.2.1, hR.2.2.2.2.2.2.2.2.2.2.2.2.2.2.2.2.2.2.2.2.1, hR.2.2.2.2.2.2.2.2.2.2.2.2.2.2.2.2.2.2.2.2.2.1, hR.2.2.2.2.2.2.2.2.2.2.2.2.2.2.2.2.2.2.2.2.2.2.1, hR.2.2.2.2.2.2.2.2.2.2.2.2.2.2.2.2.2.2.2.2.2.2.2.1, hR.2.2.2.2.2.2.2.2.2.2.2.2.2.2.2.2.2.2.2.2.2.2.2.2.1, hR.2.2.2.2.2.2.2.2.2.2.2.2.2.2.2.2.2.2.2.2.2.2.2.2.2.1, hR.2.2.2.2.2.2.2.2.2.2.2.2.2.2.2.2.2.2.2.2.2.2.2.2.2.2.1, hR.2.2.2.2.2.2.2.2.2.2.2.2.2.2.2.2.2.2.2.2.2.2.2.2.2.2.2.1, hR.2.2.2.2.2.2.2.2.2.2.2.2.2.2.2.2.2.2.2.2.2.2.2.2.2.2.2.2.1, hR.2.2.2.2.2.2.2.2.2.2.2.2.2.2.2.2.2.2.2.2.2.2.2.2.2.2.2.2.2.1, hR.2.2.2.2.2.2.2.2.2.2.2.2.2.2.2.2.2.2.2.2.2.2.2.2.2.2.2.2.2.2.1, hR.2.2.2.2.2.2.2.2.2.2.2.2.2.2.2.2.2.2.2.2.2.2.2.2.2.2.2.2.2.2.2.1, hR.2.2.2.2.2.2.2.2.2.2.2.2.2.2.2.2.2.2.2.2.2.2.2.2.2.2.2.2.2.2.2.2.1, hR.2.2.2.2.2.2.2.2.2.2.2.2.2.2.2.2.2.2.2.2.2.2.2.2.2.2.2.2.2.2.2.2.2.1, hR.2.2.2.2.2.2.2.2.2.2.2.2.2.2.2.2.2.2.2.2.2.2.2.2.2.2.2.2.2.2.2.2.2.2.1, hR.2.2.2.2.2.2.2.2.2.2.2.2.2.2.2.2.2.2.2.2.2.2.2.2.2.2.2.2.2.2.2.2.2.2.2, o1, e3, c1', ↓lt_e, ↓gd_e, ↓Option.bind_some, ↓reduceIte, if_true, if_false, if_pT, if_nF, decide_true, Bool.not_true, Bool.not_false, not_true_eq_false, not_false_eq_true, Bool.false_eq_true, Bool.true_eq_false, eq_self, n3_lit, n3_add, n3_mul, n3_sub, n3_tn, n3_le_t, n3_le_f, n3_lt_t, n3_lt_f, n3_eq_f, n3_eq_t, n3_inb, n3_rem, n3_div, n3_zb, bb_0, bb_1, zb_bb, bb_T, bb_F, n3_dec, n3_m1, n3_eqm, n3_eqmt, n3_ltm, n3_mlt, n3_lem, n3_mle, n3_neg_lt, n3_nlt_neg, n3_nle_neg, n3_neg_le]
  · rw [bb_f (fun h => hpn h.1)]
    simp (disch := omega) only [m_X12_isAt, jn_X12_isAt_42, jn_X12_isAt_41, e1, pt_10, ↓lt_e, ↓gd_e, ↓Option.bind_some, ↓reduceIte, if_true, if_false, if_pT, if_nF, decide_true, Bool.not_true, Bool.not_false, not_true_eq_false, not_false_eq_true, Bool.false_eq_true, Bool.true_eq_false, eq_self, n3_lit, n3_add, n3_mul, n3_sub, n3_tn, n3_le_t, n3_le_f, n3_lt_t, n3_lt_f, n3_eq_f, n3_eq_t, n3_inb, n3_rem, n3_div, n3_zb, bb_0, bb_1, zb_bb, bb_T, bb_F, n3_dec, n3_m1, n3_eqm, n3_eqmt, n3_ltm, n3_mlt, n3_lem, n3_mle, n3_neg_lt, n3_nlt_neg, n3_nle_neg, n3_neg_le]
theorem r_blanks {N : Nat} (hN : 1099511627776 ≤ N) {Λ : Lay} {ad : Nat → Nat} (hj : Inj ad) (hR : LyR Λ ad) {T : Nat → Int32} {n : Nat} {μ : Mem} (h : TkR ad μ T n) {p : Nat} (hp : p ≤ n) (b : Nat) : m_X12_blanks N Λ (pt ad μ p b) (ad 181) = some (pt ad μ (nb T n p) (nb T n p)) := by
  have h4 := h.1
  have hle := re_2 T (k := 0) hp
  have hge := re_1 T n 0 p
  unfold m_X12_blanks lp_X12_blanks_0 nb
  refine cw_it (fun d => pt ad μ (p + d) b) (re T n 0 p - p) rfl (fun d hd k => ?_) (fun k => ?_) (by omega)
  · have hm := re_m T (show p ≤ p + d by omega) (show p + d < re T n 0 p by omega)
    have ia := r_isAt (N := N) hN hj hR h (show p + d ≤ n by omega) b (n3 32) (n3 32)
    rw [bb_t ⟨hm.1, (kd_0 _).1 hm.2⟩] at ia
    simp (disch := omega) only [bd_X12_blanks_0, n3_lit, ia, pt_10, pt_s10, ↓lt_e, ↓gd_e, ↓Option.bind_some, ↓reduceIte, if_true, if_false, if_pT, if_nF, decide_true, Bool.not_true, Bool.not_false, not_true_eq_false, not_false_eq_true, Bool.false_eq_true, Bool.true_eq_false, eq_self, n3_eq_f, n3_add, Nat.add_assoc]
  · rw [show p + (re T n 0 p - p) = re T n 0 p by omega]
    have ia := r_isAt (N := N) hN hj hR h (show re T n 0 p ≤ n by omega) b (n3 32) (n3 32)
    rw [bb_f (fun hc => re_x T hp ⟨hc.1, (kd_0 _).2 hc.2⟩)] at ia
    simp (disch := omega) only [bd_X12_blanks_0, n3_lit, ia, pt_10, pt_s12, ↓lt_e, ↓gd_e, ↓Option.bind_some, ↓reduceIte, if_true, if_false, if_pT, if_nF, decide_true, Bool.not_true, Bool.not_false, not_true_eq_false, not_false_eq_true, Bool.false_eq_true, Bool.true_eq_false, eq_self, n3_eq_t]
theorem r_letters {N : Nat} (hN : 1099511627776 ≤ N) {Λ : Lay} {ad : Nat → Nat} (hj : Inj ad) (hR : LyR Λ ad) {T : Nat → Int32} {n : Nat} {μ : Mem} (h : TkR ad μ T n) {p : Nat} (hp : p ≤ n) (b : Nat) : m_X12_letters N Λ (pt ad μ p b) (ad 181) = some (pt ad μ (re T n 1 (nb T n p)) (nb T n p)) := by
  have h4 := h.1
  unfold m_X12_letters
  rw [r_blanks hN hj hR h hp b]
  have hq : nb T n p ≤ n := re_2 T hp
  generalize nb T n p = q at hq
  have hle := re_2 T (k := 1) hq
  have hge := re_1 T n 1 q
  show lp_X12_letters_4 N Λ (ad 181) (pt ad μ q q) = _
  unfold lp_X12_letters_4
  refine cw_it (fun d => pt ad μ (q + d) q) (re T n 1 q - q) rfl (fun d hd k => ?_) (fun k => ?_) (by omega)
  · have hm := re_m T (show q ≤ q + d by omega) (show q + d < re T n 1 q by omega)
    have ia := r_isAt (N := N) hN hj hR h (show q + d ≤ n by omega) q (n3 97) (n3 122)
    rw [bb_t ⟨hm.1, (kd_1 _).1 hm.2⟩] at ia
    simp (disch := omega) only [bd_X12_letters_4, n3_lit, ia, pt_10, pt_s10, ↓lt_e, ↓gd_e, ↓Option.bind_some, ↓reduceIte, if_true, if_false, if_pT, if_nF, decide_true, Bool.not_true, Bool.not_false, not_true_eq_false, not_false_eq_true, Bool.false_eq_true, Bool.true_eq_false, eq_self, n3_eq_f, n3_add, Nat.add_assoc]
  · rw [show q + (re T n 1 q - q) = re T n 1 q by omega]
    have ia := r_isAt (N := N) hN hj hR h (show re T n 1 q ≤ n by omega) q (n3 97) (n3 122)
    rw [bb_f (fun hc => re_x T hq ⟨hc.1, (kd_1 _).2 hc.2⟩)] at ia
    simp (disch := omega) only [bd_X12_letters_4, n3_lit, ia, ↓lt_e, ↓gd_e, ↓Option.bind_some, ↓reduceIte, if_true, if_false, if_pT, if_nF, decide_true, Bool.not_true, Bool.not_false, not_true_eq_false, not_false_eq_true, Bool.false_eq_true, Bool.true_eq_false, eq_self, n3_eq_t]
/-- behind the letters of the thing i -/
def LE (T : Nat → Int32) (n i : Nat) : Nat := re T n 1 (BT T n i)
theorem LE_1 {T : Nat → Int32} {n i : Nat} (h : KT T n i = 1) : LE T n i = te T n (BT T n i) := (te_k h (Or.inl rfl)).symm
theorem LE_n {T : Nat → Int32} {n i : Nat} (h : KT T n i ≠ 1) : LE T n i = BT T n i := by
  unfold LE; exact re_f (fun hc => h (by rw [KT_t hc.1]; exact hc.2))
theorem r_let {N : Nat} (hN : 1099511627776 ≤ N) {Λ : Lay} {ad : Nat → Nat} (hj : Inj ad) (hR : LyR Λ ad) {T : Nat → Int32} {n : Nat} {μ : Mem} (h : TkR ad μ T n) {p i : Nat} (hp : p ≤ n) (hb : nb T n p = BT T n i) (b : Nat) : m_X12_letters N Λ (pt ad μ p b) (ad 181) = some (pt ad μ (LE T n i) (BT T n i)) := by
  rw [r_letters hN hj hR h hp b, hb]; rfl
theorem LE_le (T : Nat → Int32) (n i : Nat) : LE T n i ≤ n := re_2 T (BT_le T n i)
theorem LE_ge (T : Nat → Int32) (n i : Nat) : BT T n i ≤ LE T n i := re_1 T n 1 _
theorem r_isWord {N : Nat} (hN : 1099511627776 ≤ N) {Λ : Lay} {ad : Nat → Nat} (hj : Inj ad) (hR : LyR Λ ad) {T : Nat → Int32} {n : Nat} {μ : Mem} (h : TkR ad μ T n) (i w : Nat) (hw : w < 23) : m_X12_isWord N Λ (pt ad μ (LE T n i) (BT T n i)) (ad 181) w = some (n3 (bb (WT T n i w = true))) := by
  obtain ⟨h1, h2, h3⟩ := h
  have b1 := BT_le T n i
  have l1 := LE_le T n i
  have l2 := LE_ge T n i
  have hlw := lenWS_b w hw
  have hsl : slen w = n3 (lenWS.getD w 0) := rfl
  have o1 := pt_o hj (show 187 ≠ 181 by omega) μ (LE T n i) (BT T n i)
  have hz : lp_X12_isWord_24 N Λ (pt ad μ (LE T n i) (BT T n i)) (ad 181) w (n3 0, n3 0) = some (n3 0) := by
    unfold lp_X12_isWord_24
    refine cw_it (fun _ => (n3 0, n3 0)) 0 rfl (fun j hj' k => absurd hj' (Nat.not_lt_zero j)) (fun k => ?_) (by omega)
    simp (disch := omega) only [jn_X12_isWord_60, jn_X12_isWord_67, bd_X12_isWord_24, jn_X12_isWord_21, ↓lt_e, ↓gd_e, ↓Option.bind_some, ↓reduceIte, if_true, if_false, if_pT, if_nF, decide_true, Bool.not_true, Bool.not_false, not_true_eq_false, not_false_eq_true, Bool.false_eq_true, Bool.true_eq_false, eq_self, n3_lit, n3_add, n3_mul, n3_sub, n3_tn, n3_le_t, n3_le_f, n3_lt_t, n3_lt_f, n3_eq_f, n3_eq_t, n3_inb, n3_rem, n3_div, n3_zb, bb_0, bb_1, zb_bb, bb_T, bb_F, n3_dec, n3_m1, n3_eqm, n3_eqmt, n3_ltm, n3_mlt, n3_lem, n3_mle, n3_neg_lt, n3_nlt_neg, n3_nle_neg, n3_neg_le]
  by_cases hl : LE T n i - BT T n i = lenWS.getD w 0
  · have hk : KT T n i = 1 := by
      by_cases hk : KT T n i = 1
      · exact hk
      · rw [LE_n hk] at hl; omega
    have hl' : te T n (BT T n i) - BT T n i = lenWS.getD w 0 := by rw [← LE_1 hk]; exact hl
    rw [WT_e hk hl']
    have es : m_X12_isWord N Λ (pt ad μ (LE T n i) (BT T n i)) (ad 181) w = lp_X12_isWord_24 N Λ (pt ad μ (LE T n i) (BT T n i)) (ad 181) w (n3 1, n3 0) := by
      simp (disch := omega) only [m_X12_isWord, jn_X12_isWord_21, pt_10, pt_12, hsl, ↓lt_e, ↓gd_e, ↓Option.bind_some, ↓reduceIte, if_true, if_false, if_pT, if_nF, decide_true, Bool.not_true, Bool.not_false, not_true_eq_false, not_false_eq_true, Bool.false_eq_true, Bool.true_eq_false, eq_self, n3_lit, n3_add, n3_mul, n3_sub, n3_tn, n3_le_t, n3_le_f, n3_lt_t, n3_lt_f, n3_eq_f, n3_eq_t, n3_inb, n3_rem, n3_div, n3_zb, bb_0, bb_1, zb_bb, bb_T, bb_F, n3_dec, n3_m1, n3_eqm, n3_eqmt, n3_ltm, n3_mlt, n3_lem, n3_mle, n3_neg_lt, n3_nlt_neg, n3_nle_neg, n3_neg_le]
    rw [es]
    unfold lp_X12_isWord_24
    refine cw_iv (P := fun j s => s = (n3 (bb (wdB T (BT T n i) w j = true)), n3 j)) (Q := fun X => X = some (n3 (bb (wdB T (BT T n i) w (lenWS.getD w 0) = true)))) (lenWS.getD w 0) rfl (fun j hjl s hs => ?_) (fun s hs => ?_) (by omega)
    · subst hs
      cases hb : wdB T (BT T n i) w j with
      | false =>
        right
        have hx := wdB_m hb (lenWS.getD w 0 - j)
        rw [show j + (lenWS.getD w 0 - j) = lenWS.getD w 0 by omega] at hx
        refine ⟨some (n3 0), by rw [bbB_f hx], fun k => ?_⟩
        rw [bbB_f rfl]
        simp (disch := omega) only [jn_X12_isWord_60, jn_X12_isWord_67, bd_X12_isWord_24, jn_X12_isWord_21, ↓lt_e, ↓gd_e, ↓Option.bind_some, ↓reduceIte, if_true, if_false, if_pT, if_nF, decide_true, Bool.not_true, Bool.not_false, not_true_eq_false, not_false_eq_true, Bool.false_eq_true, Bool.true_eq_false, eq_self, n3_lit, n3_add, n3_mul, n3_sub, n3_tn, n3_le_t, n3_le_f, n3_lt_t, n3_lt_f, n3_eq_f, n3_eq_t, n3_inb, n3_rem, n3_div, n3_zb, bb_0, bb_1, zb_bb, bb_T, bb_F, n3_dec, n3_m1, n3_eqm, n3_eqmt, n3_ltm, n3_mlt, n3_lem, n3_mle, n3_neg_lt, n3_nlt_neg, n3_nle_neg, n3_neg_le]
      | true =>
        left
        refine ⟨_, rfl, fun k => ?_⟩
        rw [bbB_t rfl]
        have e6 := h3 (BT T n i + j) (by omega)
        by_cases e : T (BT T n i + j) = sch w j
        · have hx : wdB T (BT T n i) w (j + 1) = true := by unfold wdB; rw [hb, decide_eq_true e]; rfl
          rw [bbB_t hx]
          simp (disch := omega) only [jn_X12_isWord_60, jn_X12_isWord_67, bd_X12_isWord_24, jn_X12_isWord_21, hsl, pt_12, ↓ob (hR.1), ↓ob (hR.2.1), ↓ob (hR.2.2.1), ↓ob (hR.2.2.2.1), ↓ob (hR.2.2.2.2.1), ↓ob (hR.2.2.2.2.2.1), ↓ob (hR.2.2.2.2.2.2.1), ↓ob (hR.2.2.2.2.2.2.2.1), ↓ob (hR.2.2.2.2.2.2.2.2.1), ↓ob (hR.2.2.2.2.2.2.2.2.2.1), ↓ob (hR.2.2.2.2.2.2.2.2.2.2.1), ↓ob (hR.2.2.2.2.2.2.2.2.2.2.2.1), ↓ob (hR.2.2.2.2.2.2.2.2.2.2.2.2.1), ↓ob (hR.2.2.2.2.2.2.2.2.2.2.2.2.2.1), ↓ob (hR.2.2.2.2.2.2.2.2.2.2.2.2.2.2.1), ↓ob (hR.2.2.2.2.2.2.2.2.2.2.2.2.2.2.2.1), ↓ob (hR.2.2.2.2.2.2.2.2.2.2.2.2.2.2.2.2.1), ↓ob (hR.2.2.2.2.2.2.2.2.2.2.2.2.2.2.2.2.2.1), hR.2.2.2.2.2.2.2.2.2.2.2.2.2.2.2.2.2.2.1, hR.2.2.2.2.2.2.2.2.2.2.2.2.2.2.2.2.2.2.2.1, hR.2.2.2.2.2.2.2.2.2.2.2.2.2.2.2.2.2.2.2.2.1, hR.2.2.2.2.2.2.2.2.2.2.2.2.2.2.2.2.2.2.2.2.2.1, hR.2.2.2.2.2.2.2.2.2.2.2.2.2.2.2.2.2.2.2.2.2.2.1, hR.2.2.2.2.2.2.2.2.2.2.2.2.2.2.2.2.2.2.2.2.2.2.2.1, hR.2.2.2.2.2.2.2.2.2.2.2.2.2.2.2.2.2.2.2.2.2.2.2.2.1, hR.2.2.2.2.2.2.2.2.2.2.2.2.2.2.2.2.2.2.2.2.2.2.2.2.2.1, hR.2.2.2.2.2.2.2.2.2.2.2.2.2.2.2.2.2.2.2.2.2.2.2.2.2.2.1, hR.2.2.2.2.2.2.2.2.2.2.2.2.2.2.2.2.2.2.2.2.2.2.2.2.2.2.2.1, hR.2.2.2.2.2.2.2.2.2.2.2.2.2.2.2.2.2.2.2.2.2.2.2.2.2.2.2.2.1, hR.2.2.2.2.2.2.2.2.2.2.2.2.2.2.2.2.2.2.2.2.2.2.2.2.2.2.2.2.2.1, hR.2.2.2.2.2.2.2.2.2.2.2.2.2.2.2.2.2.2.2.2.2.2.2.2.2.2.2.2.2.2.1, hR.2.2.2.2.2.2.2.2.2.2.2.2.2.2.2.2.2.2.2.2.2.2.2.2.2.2.2.2.2.2.2.1, hR.2.2.2.2.2.2.2.2.2.2.2.2.2.2.2.2.2.2.2.2.2.2.2.2.2.2.2.2.2.2.2.2.1, hR.2.2.2.2.2.2.2.2.2.2.2.2.2.2.2.2.2.2.2.2.2.2.2.2.2.2.2.2.2.2.2.2.2.1, hR.2.2.2.2.2.2.2.2.2.2.2.2.2.2.2.2.2.2.2.2.2.2.2.2.2.2.2.2.2.2.2.2.2.2.1, hR.2.2.2.2.2.2.2.2.2.2.2.2.2.2.2.2.2.2.2.2.2.2.2.2.2.2.2.2.2.2.2.2.2.2.2, o1, e6, e, ↓lt_e, ↓gd_e, ↓Option.bind_some, ↓reduceIte, if_true, if_false, if_pT, if_nF, decide_true, Bool.not_true, Bool.not_false, not_true_eq_false, not_false_eq_true, Bool.false_eq_true, Bool.true_eq_false, eq_self, n3_lit, n3_add, n3_mul, n3_sub, n3_tn, n3_le_t, n3_le_f, n3_lt_t, n3_lt_f, n3_eq_f, n3_eq_t, n3_inb, n3_rem, n3_div, n3_zb, bb_0, bb_1, zb_bb, bb_T, bb_F, n3_dec, n3_m1, n3_eqm, n3_eqmt, n3_ltm, n3_mlt, n3_lem, n3_mle, n3_neg_lt, n3_nlt_neg, n3_nle_neg, n3_neg_le]
        · have hx : wdB T (BT T n i) w (j + 1) = false := by unfold wdB; rw [decide_eq_false e]; cases wdB T (BT T n i) w j <;> rfl
          rw [bbB_f hx]
          simp (disch := omega) only [jn_X12_isWord_60, jn_X12_isWord_67, bd_X12_isWord_24, jn_X12_isWord_21, hsl, pt_12, ↓ob (hR.1), ↓ob (hR.2.1), ↓ob (hR.2.2.1), ↓ob (hR.2.2.2.1), ↓ob (hR.2.2.2.2.1), ↓ob (hR.2.2.2.2.2.1), ↓ob (hR.2.2.2.2.2.2.1), ↓ob (hR.2.2.2.2.2.2.2.1), ↓ob (hR.2.2.2.2.2.2.2.2.1), ↓ob (hR.2.2.2.2.2.2.2.2.2.1), ↓ob (hR.2.2.2.2.2.2.2.2.2.2.1), ↓ob (hR.2.2.2.2.2.2.2.2.2.2.2.1), ↓ob (hR.2.2.2.2.2.2.2.2.2.2.2.2.1), ↓ob (hR.2.2.2.2.2.2.2.2.2.2.2.2.2.1), ↓ob (hR.2.2.2.2.2.2.2.2.2.2.2.2.2.2.1), ↓ob (hR.2.2.2.2.2.2.2.2.2.2.2.2.2.2.2.1), ↓ob (hR.2.2.2.2.2.2.2.2.2.2.2.2.2.2.2.2.1), ↓ob (hR.2.2.2.2.2.2.2.2.2.2.2.2.2.2.2.2.2.1), hR.2.2.2.2.2.2.2.2.2.2.2.2.2.2.2.2.2.2.1, hR.2.2.2.2.2.2.2.2.2.2.2.2.2.2.2.2.2.2.2.1, hR.2.2.2.2.2.2.2.2.2.2.2.2.2.2.2.2.2.2.2.2.1, hR.2.2.2.2.2.2.2.2.2.2.2.2.2.2.2.2.2.2.2.2.2.1, hR.2.2.2.2.2.2.2.2.2.2.2.2.2.2.2.2.2.2.2.2.2.2.1, hR.2.2.2.2.2.2.2.2.2.2.2.2.2.2.2.2.2.2.2.2.2.2.2.1, hR.2.2.2.2.2.2.2.2.2.2.2.2.2.2.2.2.2.2.2.2.2.2.2.2.1, hR.2.2.2.2.2.2.2.2.2.2.2.2.2.2.2.2.2.2.2.2.2.2.2.2.2.1, hR.2.2.2.2.2.2.2.2.2.2.2.2.2.2.2.2.2.2.2.2.2.2.2.2.2.2.1, hR.2.2.2.2.2.2.2.2.2.2.2.2.2.2.2.2.2.2.2.2.2.2.2.2.2.2.2.1, hR.2.2.2.2.2.2.2.2.2.2.2.2.2.2.2.2.2.2.2.2.2.2.2.2.2.2.2.2.1, hR.2.2.2.2.2.2.2.2.2.2.2.2.2.2.2.2.2.2.2.2.2.2.2.2.2.2.2.2.2.1, hR.2.2.2.2.2.2.2.2.2.2.2.2.2.2.2.2.2.2.2.2.2.2.2.2.2.2.2.2.2.2.1, hR.2.2.2.2.2.2.2.2.2.2.2.2.2.2.2.2.2.2.2.2.2.2.2.2.2.2.2.2.2.2.2.1, hR.2.2.2.2.2.2.2.2.2.2.2.2.2.2.2.2.2.2.2.2.2.2.2.2.2.2.2.2.2.2.2.2.1, hR.2.2.2.2.2.2.2.2.2.2.2.2.2.2.2.2.2.2.2.2.2.2.2.2.2.2.2.2.2.2.2.2.2.1, hR.2.2.2.2.2.2.2.2.2.2.2.2.2.2.2.2.2.2.2.2.2.2.2.2.2.2.2.2.2.2.2.2.2.2.1, hR.2.2.2.2.2.2.2.2.2.2.2.2.2.2.2.2.2.2.2.2.2.2.2.2.2.2.2.2.2.2.2.2.2.2.2, o1, e6, e, ↓lt_e, ↓gd_e, ↓Option.bind_some, ↓reduceIte, if_true, if_false, if_pT, if_nF, decide_true, Bool.not_true, Bool.not_false, not_true_eq_false, not_false_eq_true, Bool.false_eq_true, Bool.true_eq_false, eq_self, n3_lit, n3_add, n3_mul, n3_sub, n3_tn, n3_le_t, n3_le_f, n3_lt_t, n3_lt_f, n3_eq_f, n3_eq_t, n3_inb, n3_rem, n3_div, n3_zb, bb_0, bb_1, zb_bb, bb_T, bb_F, n3_dec, n3_m1, n3_eqm, n3_eqmt, n3_ltm, n3_mlt, n3_lem, n3_mle, n3_neg_lt, n3_nlt_neg, n3_nle_neg, n3_neg_le]
    · subst hs
      refine ⟨_, rfl, fun k => ?_⟩
      cases hb : wdB T (BT T n i) w (lenWS.getD w 0) with
      | false =>
        rw [bbB_f rfl]
        simp (disch := omega) only [jn_X12_isWord_60, jn_X12_isWord_67, bd_X12_isWord_24, jn_X12_isWord_21, ↓lt_e, ↓gd_e, ↓Option.bind_some, ↓reduceIte, if_true, if_false, if_pT, if_nF, decide_true, Bool.not_true, Bool.not_false, not_true_eq_false, not_false_eq_true, Bool.false_eq_true, Bool.true_eq_false, eq_self, n3_lit, n3_add, n3_mul, n3_sub, n3_tn, n3_le_t, n3_le_f, n3_lt_t, n3_lt_f, n3_eq_f, n3_eq_t, n3_inb, n3_rem, n3_div, n3_zb, bb_0, bb_1, zb_bb, bb_T, bb_F, n3_dec, n3_m1, n3_eqm, n3_eqmt, n3_ltm, n3_mlt, n3_lem, n3_mle, n3_neg_lt, n3_nlt_neg, n3_nle_neg, n3_neg_le]
      | true =>
        rw [bbB_t rfl]
        simp (disch := omega) only [jn_X12_isWord_60, jn_X12_isWord_67, bd_X12_isWord_24, jn_X12_isWord_21, hsl, ↓lt_e, ↓gd_e, ↓Option.bind_some, ↓reduceIte, if_true, if_false, if_pT, if_nF, decide_true, Bool.not_true, Bool.not_false, not_true_eq_false, not_false_eq_true, Bool.false_eq_true, Bool.true_eq_false, eq_self, n3_lit, n3_add, n3_mul, n3_sub, n3_tn, n3_le_t, n3_le_f, n3_lt_t, n3_lt_f, n3_eq_f, n3_eq_t, n3_inb, n3_rem, n3_div, n3_zb, bb_0, bb_1, zb_bb, bb_T, bb_F, n3_dec, n3_m1, n3_eqm, n3_eqmt, n3_ltm, n3_mlt, n3_lem, n3_mle, n3_neg_lt, n3_nlt_neg, n3_nle_neg, n3_neg_le]
  · have hwt : WT T n i w = false := by
      by_cases hk : KT T n i = 1
      · exact WT_l (by rw [← LE_1 hk]; exact hl)
      · exact WT_k hk
    rw [hwt, bbB_f rfl]
    have hl2 : LE T n i - BT T n i ≠ lenWS.getD w 0 := hl
    simp (disch := omega) only [m_X12_isWord, jn_X12_isWord_21, pt_10, pt_12, hsl, hz, ↓lt_e, ↓gd_e, ↓Option.bind_some, ↓reduceIte, if_true, if_false, if_pT, if_nF, decide_true, Bool.not_true, Bool.not_false, not_true_eq_false, not_false_eq_true, Bool.false_eq_true, Bool.true_eq_false, eq_self, n3_lit, n3_add, n3_mul, n3_sub, n3_tn, n3_le_t, n3_le_f, n3_lt_t, n3_lt_f, n3_eq_f, n3_eq_t, n3_inb, n3_rem, n3_div, n3_zb, bb_0, bb_1, zb_bb, bb_T, bb_F, n3_dec, n3_m1, n3_eqm, n3_eqmt, n3_ltm, n3_mlt, n3_lem, n3_mle, n3_neg_lt, n3_nlt_neg, n3_nle_neg, n3_neg_le]
theorem BT_nx {T : Nat → Int32} {n i : Nat} : nb T n (te T n (BT T n i)) = BT T n (i + 1) := rfl
theorem r_ps_t {N : Nat} (hN : 1099511627776 ≤ N) {Λ : Lay} {ad : Nat → Nat} (hj : Inj ad) (hR : LyR Λ ad) {T : Nat → Int32} {n : Nat} {μ : Mem} (h : TkR ad μ T n) {p i : Nat} (hp : p ≤ n) (hb : nb T n p = BT T n i) (b : Nat) {w : Nat} (hw : w < 23) (ht : WT T n i w = true) : m_X12_passes N Λ (pt ad μ p b) (ad 181) w = some (n3 1, pt ad μ (te T n (BT T n i)) (BT T n i)) := by
  have iw := r_isWord hN hj hR h i w hw
  rw [ht, bbB_t rfl] at iw
  unfold m_X12_passes
  rw [r_let hN hj hR h hp hb b, ← LE_1 (WT_K ht)]
  simp (disch := omega) only [iw, ↓lt_e, ↓gd_e, ↓Option.bind_some, ↓reduceIte, if_true, if_false, if_pT, if_nF, decide_true, Bool.not_true, Bool.not_false, not_true_eq_false, not_false_eq_true, Bool.false_eq_true, Bool.true_eq_false, eq_self, n3_lit, n3_add, n3_mul, n3_sub, n3_tn, n3_le_t, n3_le_f, n3_lt_t, n3_lt_f, n3_eq_f, n3_eq_t, n3_inb, n3_rem, n3_div, n3_zb, bb_0, bb_1, zb_bb, bb_T, bb_F, n3_dec, n3_m1, n3_eqm, n3_eqmt, n3_ltm, n3_mlt, n3_lem, n3_mle, n3_neg_lt, n3_nlt_neg, n3_nle_neg, n3_neg_le]
theorem r_ps_f {N : Nat} (hN : 1099511627776 ≤ N) {Λ : Lay} {ad : Nat → Nat} (hj : Inj ad) (hR : LyR Λ ad) {T : Nat → Int32} {n : Nat} {μ : Mem} (h : TkR ad μ T n) {p i : Nat} (hp : p ≤ n) (hb : nb T n p = BT T n i) (b : Nat) {w : Nat} (hw : w < 23) (ht : WT T n i w = false) : m_X12_passes N Λ (pt ad μ p b) (ad 181) w = some (n3 0, pt ad μ (BT T n i) (BT T n i)) := by
  have iw := r_isWord hN hj hR h i w hw
  rw [ht, bbB_f rfl] at iw
  unfold m_X12_passes
  rw [r_let hN hj hR h hp hb b]
  simp (disch := omega) only [iw, pt_12, pt_s10, ↓lt_e, ↓gd_e, ↓Option.bind_some, ↓reduceIte, if_true, if_false, if_pT, if_nF, decide_true, Bool.not_true, Bool.not_false, not_true_eq_false, not_false_eq_true, Bool.false_eq_true, Bool.true_eq_false, eq_self, n3_lit, n3_add, n3_mul, n3_sub, n3_tn, n3_le_t, n3_le_f, n3_lt_t, n3_lt_f, n3_eq_f, n3_eq_t, n3_inb, n3_rem, n3_div, n3_zb, bb_0, bb_1, zb_bb, bb_T, bb_F, n3_dec, n3_m1, n3_eqm, n3_eqmt, n3_ltm, n3_mlt, n3_lem, n3_mle, n3_neg_lt, n3_nlt_neg, n3_nle_neg, n3_neg_le]
theorem r_sg_t {N : Nat} (hN : 1099511627776 ≤ N) {Λ : Lay} {ad : Nat → Nat} (hj : Inj ad) (hR : LyR Λ ad) {T : Nat → Int32} {n : Nat} {μ : Mem} (h : TkR ad μ T n) {p i : Nat} (hp : p ≤ n) (hb : nb T n p = BT T n i) (b : Nat) {c : Nat} (hc : c = 40 ∨ c = 41 ∨ c = 43 ∨ c = 59 ∨ c = 60 ∨ c = 62) (ht : ST T n i c = true) : m_X12_sign N Λ (pt ad μ p b) (ad 181) (n3 c) = some (n3 1, pt ad μ (te T n (BT T n i)) (BT T n i)) := by
  have h1 := of_decide_eq_true ht
  have b1 := BT_le T n i
  have ia := r_isAt (N := N) hN hj hR h b1 (BT T n i) (n3 c) (n3 c)
  rw [bb_t ⟨h1.1, by rw [h1.2]; exact ⟨Int32.le_refl _, Int32.le_refl _⟩⟩] at ia
  have hk : KT T n i = 3 := by rw [KT_t h1.1]; exact kd_s hc h1.2
  unfold m_X12_sign
  rw [r_blanks hN hj hR h hp b, hb, te_3 hk]
  simp (disch := omega) only [ia, pt_10, pt_s10, ↓lt_e, ↓gd_e, ↓Option.bind_some, ↓reduceIte, if_true, if_false, if_pT, if_nF, decide_true, Bool.not_true, Bool.not_false, not_true_eq_false, not_false_eq_true, Bool.false_eq_true, Bool.true_eq_false, eq_self, n3_lit, n3_add, n3_mul, n3_sub, n3_tn, n3_le_t, n3_le_f, n3_lt_t, n3_lt_f, n3_eq_f, n3_eq_t, n3_inb, n3_rem, n3_div, n3_zb, bb_0, bb_1, zb_bb, bb_T, bb_F, n3_dec, n3_m1, n3_eqm, n3_eqmt, n3_ltm, n3_mlt, n3_lem, n3_mle, n3_neg_lt, n3_nlt_neg, n3_nle_neg, n3_neg_le]
theorem r_sg_f {N : Nat} (hN : 1099511627776 ≤ N) {Λ : Lay} {ad : Nat → Nat} (hj : Inj ad) (hR : LyR Λ ad) {T : Nat → Int32} {n : Nat} {μ : Mem} (h : TkR ad μ T n) {p i : Nat} (hp : p ≤ n) (hb : nb T n p = BT T n i) (b : Nat) {c : Nat} (ht : ST T n i c = false) : m_X12_sign N Λ (pt ad μ p b) (ad 181) (n3 c) = some (n3 0, pt ad μ (BT T n i) (BT T n i)) := by
  have h1 := of_decide_eq_false ht
  have b1 := BT_le T n i
  have ia := r_isAt (N := N) hN hj hR h b1 (BT T n i) (n3 c) (n3 c)
  rw [bb_f (fun hx => h1 ⟨hx.1, Int32.le_antisymm hx.2.2 hx.2.1⟩)] at ia
  unfold m_X12_sign
  rw [r_blanks hN hj hR h hp b, hb]
  simp (disch := omega) only [ia, ↓lt_e, ↓gd_e, ↓Option.bind_some, ↓reduceIte, if_true, if_false, if_pT, if_nF, decide_true, Bool.not_true, Bool.not_false, not_true_eq_false, not_false_eq_true, Bool.false_eq_true, Bool.true_eq_false, eq_self, n3_lit, n3_add, n3_mul, n3_sub, n3_tn, n3_le_t, n3_le_f, n3_lt_t, n3_lt_f, n3_eq_f, n3_eq_t, n3_inb, n3_rem, n3_div, n3_zb, bb_0, bb_1, zb_bb, bb_T, bb_F, n3_dec, n3_m1, n3_eqm, n3_eqmt, n3_ltm, n3_mlt, n3_lem, n3_mle, n3_neg_lt, n3_nlt_neg, n3_nle_neg, n3_neg_le]
theorem r_inn {N : Nat} (hN : 1099511627776 ≤ N) {Λ : Lay} {ad : Nat → Nat} (hj : Inj ad) (hR : LyR Λ ad) {T : Nat → Int32} {n : Nat} {μ : Mem} (h : TkR ad μ T n) {p i : Nat} (hp : p ≤ n) (hb : nb T n p = BT T n i) (b : Nat) : m_X12_isNumberNext N Λ (pt ad μ p b) (ad 181) = some (n3 (bb (KT T n i = 2)), pt ad μ (BT T n i) (BT T n i)) := by
  have b1 := BT_le T n i
  have ia := r_isAt (N := N) hN hj hR h b1 (BT T n i) (n3 48) (n3 57)
  have e : bb (BT T n i < n ∧ n3 48 ≤ T (BT T n i) ∧ T (BT T n i) ≤ n3 57) = bb (KT T n i = 2) := bb_c ⟨fun hx => by rw [KT_t hx.1]; exact (kd_2 _).2 hx.2, fun hx => by
    have h1 := KT_0 (T := T) (n := n) (i := i) (by omega)
    rw [KT_t h1] at hx
    exact ⟨h1, (kd_2 _).1 hx⟩⟩
  rw [e] at ia
  unfold m_X12_isNumberNext
  rw [r_blanks hN hj hR h hp b, hb]
  simp (disch := omega) only [ia, zb_bb, ↓lt_e, ↓gd_e, ↓Option.bind_some, ↓reduceIte, if_true, if_false, if_pT, if_nF, decide_true, Bool.not_true, Bool.not_false, not_true_eq_false, not_false_eq_true, Bool.false_eq_true, Bool.true_eq_false, eq_self, n3_lit, n3_add, n3_mul, n3_sub, n3_tn, n3_le_t, n3_le_f, n3_lt_t, n3_lt_f, n3_eq_f, n3_eq_t, n3_inb, n3_rem, n3_div, n3_zb, bb_0, bb_1, zb_bb, bb_T, bb_F, n3_dec, n3_m1, n3_eqm, n3_eqmt, n3_ltm, n3_mlt, n3_lem, n3_mle, n3_neg_lt, n3_nlt_neg, n3_nle_neg, n3_neg_le]
theorem r_number {N : Nat} (hN : 1099511627776 ≤ N) {Λ : Lay} {ad : Nat → Nat} (hj : Inj ad) (hR : LyR Λ ad) {T : Nat → Int32} {n : Nat} {μ : Mem} (h : TkR ad μ T n) {p i : Nat} (hp : p ≤ n) (hb : nb T n p = BT T n i) (b : Nat) {lo hg : Nat} (hlo : lo ≤ 9999) (hhi : hg ≤ 9999) : m_X12_number N Λ (pt ad μ p b) (ad 181) (n3 lo) (n3 hg) = some (if NVp T n i lo hg then n3 (NTv T n i) else n3 4294967295, pt ad μ (re T n 2 (BT T n i)) (BT T n i)) := by
  obtain ⟨h1, h2, h3⟩ := id h
  have b1 := BT_le T n i
  have hle := re_2 T (k := 2) b1
  have hge := re_1 T n 2 (BT T n i)
  have hdig : ∀ j, j < re T n 2 (BT T n i) - BT T n i → BT T n i + j < n ∧ kd (T (BT T n i + j)) = 2 := fun j hj' => re_m T (show BT T n i ≤ BT T n i + j by omega) (by omega)
  have dle : ∀ d, d ≤ re T n 2 (BT T n i) - BT T n i → dg T (BT T n i) (min d 3) < 1000 := fun d hd => by
    have h1 := dg_le (T := T) (p := BT T n i) (min d 3) (fun j hj' => (hdig j (by omega)).2)
    have h2 : 10 ^ (min d 3) ≤ 10 ^ 3 := Nat.pow_le_pow_right (by omega) (by omega)
    omega
  unfold m_X12_number
  rw [r_blanks hN hj hR h hp b, hb]
  show lp_X12_number_6 N Λ (ad 181) (n3 lo) (n3 hg) (n3 0, pt ad μ (BT T n i) (BT T n i)) = _
  unfold lp_X12_number_6
  refine cw_it (fun d => (n3 (dg T (BT T n i) (min d 3)), pt ad μ (BT T n i + d) (BT T n i))) (re T n 2 (BT T n i) - BT T n i) rfl (fun d hd k => ?_) (fun k => ?_) (by omega)
  · have hm := hdig d hd
    have o1 := pt_o hj (show 187 ≠ 181 by omega) μ (BT T n i + d) (BT T n i)
    have ia := r_isAt (N := N) hN hj hR h (show BT T n i + d ≤ n by omega) (BT T n i) (n3 48) (n3 57)
    rw [bb_t ⟨hm.1, (kd_2 _).1 hm.2⟩] at ia
    have e6 := h3 (BT T n i + d) hm.1
    rw [← n3_u3 (T (BT T n i + d))] at e6
    have d1 := dig_b hm.2
    have d2 := dle d (by omega)
    have es : BT T n i + d - BT T n i = d := by omega
    by_cases c : 3 ≤ d
    · rw [show min (d + 1) 3 = min d 3 by omega]
      simp (disch := omega) only [bd_X12_number_6, jn_X12_number_51, ia, pt_10, pt_12, es, pt_s10, ↓lt_e, ↓gd_e, ↓Option.bind_some, ↓reduceIte, if_true, if_false, if_pT, if_nF, decide_true, Bool.not_true, Bool.not_false, not_true_eq_false, not_false_eq_true, Bool.false_eq_true, Bool.true_eq_false, eq_self, n3_lit, n3_add, n3_mul, n3_sub, n3_tn, n3_le_t, n3_le_f, n3_lt_t, n3_lt_f, n3_eq_f, n3_eq_t, n3_inb, n3_rem, n3_div, n3_zb, bb_0, bb_1, zb_bb, bb_T, bb_F, n3_dec, n3_m1, n3_eqm, n3_eqmt, n3_ltm, n3_mlt, n3_lem, n3_mle, n3_neg_lt, n3_nlt_neg, n3_nle_neg, n3_neg_le, Nat.add_assoc]
    · rw [show min (d + 1) 3 = d + 1 by omega, show min d 3 = d by omega]
      rw [show min d 3 = d by omega] at d2
      have ed : dg T (BT T n i) (d + 1) = 10 * dg T (BT T n i) d + u3 (T (BT T n i + d)) - 48 := by
        show 10 * dg T (BT T n i) d + (u3 (T (BT T n i + d)) - 48) = _
        omega
      rw [ed]
      simp (disch := omega) only [bd_X12_number_6, jn_X12_number_51, ia, pt_10, pt_12, es, ↓ob (hR.1), ↓ob (hR.2.1), ↓ob (hR.2.2.1), ↓ob (hR.2.2.2.1), ↓ob (hR.2.2.2.2.1), ↓ob (hR.2.2.2.2.2.1), ↓ob (hR.2.2.2.2.2.2.1), ↓ob (hR.2.2.2.2.2.2.2.1), ↓ob (hR.2.2.2.2.2.2.2.2.1), ↓ob (hR.2.2.2.2.2.2.2.2.2.1), ↓ob (hR.2.2.2.2.2.2.2.2.2.2.1), ↓ob (hR.2.2.2.2.2.2.2.2.2.2.2.1), ↓ob (hR.2.2.2.2.2.2.2.2.2.2.2.2.1), ↓ob (hR.2.2.2.2.2.2.2.2.2.2.2.2.2.1), ↓ob (hR.2.2.2.2.2.2.2.2.2.2.2.2.2.2.1), ↓ob (hR.2.2.2.2.2.2.2.2.2.2.2.2.2.2.2.1), ↓ob (hR.2.2.2.2.2.2.2.2.2.2.2.2.2.2.2.2.1), ↓ob (hR.2.2.2.2.2.2.2.2.2.2.2.2.2.2.2.2.2.1), hR.2.2.2.2.2.2.2.2.2.2.2.2.2.2.2.2.2.2.1, hR.2.2.2.2.2.2.2.2.2.2.2.2.2.2.2.2.2.2.2.1, hR.2.2.2.2.2.2.2.2.2.2.2.2.2.2.2.2.2.2.2.2.1, hR.2.2.2.2.2.2.2.2.2.2.2.2.2.2.2.2.2.2.2.2.2.1, hR.2.2.2.2.2.2.2.2.2.2.2.2.2.2.2.2.2.2.2.2.2.2.1, hR.2.2.2.2.2.2.2.2.2.2.2.2.2.2.2.2.2.2.2.2.2.2.2.1, hR.2.2.2.2.2.2.2.2.2.2.2.2.2.2.2.2.2.2.2.2.2.2.2.2.1, hR.2.2.2.2.2.2.2.2.2.2.2.2.2.2.2.2.2.2.2.2.2.2.2.2.2.1, hR.2.2.2.2.2.2.2.2.2.2.2.2.2.2.2.2.2.2.2.2.2.2.2.2.2.2.1, hR.2.2.2.2.2.2.2.2.2.2.2.2.2.2.2.2.2.2.2.2.2.2.2.2.2.2.2.1, hR.2.2.2.2.2.2.2.2.2.2.2.2.2.2.2.2.2.2.2.2.2.2.2.2.2.2.2.2.1, hR.2.2.2.2.2.2.2.2.2.2.2.2.2.2.2.2.2.2.2.2.2.2.2.2.2.2.2.2.2.1, hR.2.2.2.2.2.2.2.2.2.2.2.2.2.2.2.2.2.2.2.2.2.2.2.2.2.2.2.2.2.2.1, hR.2.2.2.2.2.2.2.2.2.2.2.2.2.2.2.2.2.2.2.2.2.2.2.2.2.2.2.2.2.2.2.1, hR.2.2.2.2.2.2.2.2.2.2.2.2.2.2.2.2.2.2.2.2.2.2.2.2.2.2.2.2.2.2.2.2.1, hR.2.2.2.2.2.2.2.2.2.2.2.2.2.2.2.2.2.2.2.2.2.2.2.2.2.2.2.2.2.2.2.2.2.1, hR.2.2.2.2.2.2.2.2.2.2.2.2.2.2.2.2.2.2.2.2.2.2.2.2.2.2.2.2.2.2.2.2.2.2.1, hR.2.2.2.2.2.2.2.2.2.2.2.2.2.2.2.2.2.2.2.2.2.2.2.2.2.2.2.2.2.2.2.2.2.2.2, o1, e6, pt_s10, ↓lt_e, ↓gd_e, ↓Option.bind_some, ↓reduceIte, if_true, if_false, if_pT, if_nF, decide_true, Bool.not_true, Bool.not_false, not_true_eq_false, not_false_eq_true, Bool.false_eq_true, Bool.true_eq_false, eq_self, n3_lit, n3_add, n3_mul, n3_sub, n3_tn, n3_le_t, n3_le_f, n3_lt_t, n3_lt_f, n3_eq_f, n3_eq_t, n3_inb, n3_rem, n3_div, n3_zb, bb_0, bb_1, zb_bb, bb_T, bb_F, n3_dec, n3_m1, n3_eqm, n3_eqmt, n3_ltm, n3_mlt, n3_lem, n3_mle, n3_neg_lt, n3_nlt_neg, n3_nle_neg, n3_neg_le, Nat.add_assoc]
  · have eb : BT T n i + (re T n 2 (BT T n i) - BT T n i) = re T n 2 (BT T n i) := by omega
    rw [eb]
    have ia := r_isAt (N := N) hN hj hR h hle (BT T n i) (n3 48) (n3 57)
    rw [bb_f (fun hc => re_x T b1 ⟨hc.1, (kd_2 _).2 hc.2⟩)] at ia
    have d2 := dle _ (Nat.le_refl _)
    by_cases hk : KT T n i = 2
    · have hte := te_k hk (Or.inr rfl)
      have hlt := KT_0 (T := T) (n := n) (i := i) (by omega)
      have hgt := te_lt T hlt
      have hnt : NTv T n i = dg T (BT T n i) (re T n 2 (BT T n i) - BT T n i) := by unfold NTv; rw [hte]
      rw [hte] at hgt
      by_cases hl : re T n 2 (BT T n i) - BT T n i ≤ 3
      · rw [show min (re T n 2 (BT T n i) - BT T n i) 3 = re T n 2 (BT T n i) - BT T n i by omega, ← hnt] at d2 ⊢
        have hnv : NVp T n i lo hg ↔ lo ≤ NTv T n i ∧ NTv T n i ≤ hg := ⟨fun hx => hx.2.2, fun hx => ⟨hk, by rw [hte]; exact hl, hx⟩⟩
        by_cases c1 : NTv T n i < lo
        · rw [if_neg (fun hx => by have := hnv.1 hx; omega)]
          simp (disch := omega) only [bd_X12_number_6, jn_X12_number_99, jn_X12_number_104, ia, pt_10, pt_12, n3_neg1, ↓lt_e, ↓gd_e, ↓Option.bind_some, ↓reduceIte, if_true, if_false, if_pT, if_nF, decide_true, Bool.not_true, Bool.not_false, not_true_eq_false, not_false_eq_true, Bool.false_eq_true, Bool.true_eq_false, eq_self, n3_lit, n3_add, n3_mul, n3_sub, n3_tn, n3_le_t, n3_le_f, n3_lt_t, n3_lt_f, n3_eq_f, n3_eq_t, n3_inb, n3_rem, n3_div, n3_zb, bb_0, bb_1, zb_bb, bb_T, bb_F, n3_dec, n3_m1, n3_eqm, n3_eqmt, n3_ltm, n3_mlt, n3_lem, n3_mle, n3_neg_lt, n3_nlt_neg, n3_nle_neg, n3_neg_le]
        · by_cases c2 : NTv T n i ≤ hg
          · rw [if_pos (hnv.2 ⟨by omega, c2⟩)]
            simp (disch := omega) only [bd_X12_number_6, jn_X12_number_104, ia, pt_10, pt_12, ↓lt_e, ↓gd_e, ↓Option.bind_some, ↓reduceIte, if_true, if_false, if_pT, if_nF, decide_true, Bool.not_true, Bool.not_false, not_true_eq_false, not_false_eq_true, Bool.false_eq_true, Bool.true_eq_false, eq_self, n3_lit, n3_add, n3_mul, n3_sub, n3_tn, n3_le_t, n3_le_f, n3_lt_t, n3_lt_f, n3_eq_f, n3_eq_t, n3_inb, n3_rem, n3_div, n3_zb, bb_0, bb_1, zb_bb, bb_T, bb_F, n3_dec, n3_m1, n3_eqm, n3_eqmt, n3_ltm, n3_mlt, n3_lem, n3_mle, n3_neg_lt, n3_nlt_neg, n3_nle_neg, n3_neg_le]
          · rw [if_neg (fun hx => by have := hnv.1 hx; omega)]
            simp (disch := omega) only [bd_X12_number_6, jn_X12_number_99, jn_X12_number_104, ia, pt_10, pt_12, n3_neg1, ↓lt_e, ↓gd_e, ↓Option.bind_some, ↓reduceIte, if_true, if_false, if_pT, if_nF, decide_true, Bool.not_true, Bool.not_false, not_true_eq_false, not_false_eq_true, Bool.false_eq_true, Bool.true_eq_false, eq_self, n3_lit, n3_add, n3_mul, n3_sub, n3_tn, n3_le_t, n3_le_f, n3_lt_t, n3_lt_f, n3_eq_f, n3_eq_t, n3_inb, n3_rem, n3_div, n3_zb, bb_0, bb_1, zb_bb, bb_T, bb_F, n3_dec, n3_m1, n3_eqm, n3_eqmt, n3_ltm, n3_mlt, n3_lem, n3_mle, n3_neg_lt, n3_nlt_neg, n3_nle_neg, n3_neg_le]
      · rw [if_neg (fun hx => by have := hx.2.1; rw [hte] at this; omega)]
        simp (disch := omega) only [bd_X12_number_6, jn_X12_number_99, jn_X12_number_104, ia, pt_10, pt_12, n3_neg1, ↓lt_e, ↓gd_e, ↓Option.bind_some, ↓reduceIte, if_true, if_false, if_pT, if_nF, decide_true, Bool.not_true, Bool.not_false, not_true_eq_false, not_false_eq_true, Bool.false_eq_true, Bool.true_eq_false, eq_self, n3_lit, n3_add, n3_mul, n3_sub, n3_tn, n3_le_t, n3_le_f, n3_lt_t, n3_lt_f, n3_eq_f, n3_eq_t, n3_inb, n3_rem, n3_div, n3_zb, bb_0, bb_1, zb_bb, bb_T, bb_F, n3_dec, n3_m1, n3_eqm, n3_eqmt, n3_ltm, n3_mlt, n3_lem, n3_mle, n3_neg_lt, n3_nlt_neg, n3_nle_neg, n3_neg_le]
    · have hre : re T n 2 (BT T n i) = BT T n i := re_f (fun hc => hk (by rw [KT_t hc.1]; exact hc.2))
      rw [if_neg (fun hx => hk hx.1), hre]
      rw [hre] at ia
      simp (disch := omega) only [bd_X12_number_6, jn_X12_number_99, jn_X12_number_104, ia, pt_10, pt_12, n3_neg1, ↓lt_e, ↓gd_e, ↓Option.bind_some, ↓reduceIte, if_true, if_false, if_pT, if_nF, decide_true, Bool.not_true, Bool.not_false, not_true_eq_false, not_false_eq_true, Bool.false_eq_true, Bool.true_eq_false, eq_self, n3_lit, n3_add, n3_mul, n3_sub, n3_tn, n3_le_t, n3_le_f, n3_lt_t, n3_lt_f, n3_eq_f, n3_eq_t, n3_inb, n3_rem, n3_div, n3_zb, bb_0, bb_1, zb_bb, bb_T, bb_F, n3_dec, n3_m1, n3_eqm, n3_eqmt, n3_ltm, n3_mlt, n3_lem, n3_mle, n3_neg_lt, n3_nlt_neg, n3_nle_neg, n3_neg_le]
theorem r_nm_t {N : Nat} (hN : 1099511627776 ≤ N) {Λ : Lay} {ad : Nat → Nat} (hj : Inj ad) (hR : LyR Λ ad) {T : Nat → Int32} {n : Nat} {μ : Mem} (h : TkR ad μ T n) {p i : Nat} (hp : p ≤ n) (hb : nb T n p = BT T n i) (b : Nat) {lo hg : Nat} (hlo : lo ≤ 9999) (hhi : hg ≤ 9999) (ht : NVp T n i lo hg) : m_X12_number N Λ (pt ad μ p b) (ad 181) (n3 lo) (n3 hg) = some (n3 (NTv T n i), pt ad μ (te T n (BT T n i)) (BT T n i)) := by
  rw [r_number hN hj hR h hp hb b hlo hhi, if_pos ht, te_k ht.1 (Or.inr rfl)]
theorem r_nm_f {N : Nat} (hN : 1099511627776 ≤ N) {Λ : Lay} {ad : Nat → Nat} (hj : Inj ad) (hR : LyR Λ ad) {T : Nat → Int32} {n : Nat} {μ : Mem} (h : TkR ad μ T n) {p i : Nat} (hp : p ≤ n) (hb : nb T n p = BT T n i) (b : Nat) {lo hg : Nat} (hlo : lo ≤ 9999) (hhi : hg ≤ 9999) (ht : ¬ NVp T n i lo hg) : m_X12_number N Λ (pt ad μ p b) (ad 181) (n3 lo) (n3 hg) = some (n3 4294967295, pt ad μ (re T n 2 (BT T n i)) (BT T n i)) := by
  rw [r_number hN hj hR h hp hb b hlo hhi, if_neg ht]

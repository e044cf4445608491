/-! the class parts a text -/
theorem c_kindOf {N : Nat} {Λ : Lay} {μ : Mem} (x : Int32) : m_X7_kindOf N Λ μ x = some (n3 (kd x)) := by
  have l1 : x < n3 97 ↔ ¬ n3 97 ≤ x := Int32.not_le.symm
  have l2 : n3 122 < x ↔ ¬ x ≤ n3 122 := Int32.not_le.symm
  have l3 : x < n3 48 ↔ ¬ n3 48 ≤ x := Int32.not_le.symm
  have l4 : n3 57 < x ↔ ¬ x ≤ n3 57 := Int32.not_le.symm
  unfold m_X7_kindOf jn_X7_kindOf_14 jn_X7_kindOf_28 jn_X7_kindOf_39 kd
  simp only [n3_lit, l1, l2, l3, l4]
  by_cases h1 : n3 97 ≤ x <;> by_cases h2 : x ≤ n3 122 <;> by_cases h3 : n3 48 ≤ x <;> by_cases h4 : x ≤ n3 57 <;> by_cases h5 : x = n3 32 <;> simp only [h1, h2, h3, h4, h5, not_true_eq_false, not_false_eq_true, if_true, if_false, and_true, and_false, and_self, true_and, false_and, ↓reduceIte] <;> rfl
def rp (T : Nat → Int32) (n bf p : Nat) : Nat := if bf = 1 ∨ bf = 2 then re T n bf p else p
theorem rp_p {T : Nat → Int32} {n bf p : Nat} (h : ¬ (kd (T p) = bf ∧ (bf = 1 ∨ bf = 2))) : rp T n bf p = p := by
  unfold rp; split
  · next hb => exact re_f (fun hc => h ⟨hc.2, hb⟩)
  · rfl
def SPI (ad : Nat → Nat) (μ0 : Mem) (r : Nat) (T : Nat → Int32) (n p : Nat) (s : Int32 × Int32 × Mem) : Prop := ∃ bf t : Nat, ∃ μ : Mem, s = (n3 bf, n3 p, μ) ∧ μ.1 (ad r) 3 = n3 t ∧ t ≤ p ∧ bf ≤ 3 ∧ (t = 0 → bf = 0) ∧ BT T n t = nb T n (rp T n bf p) ∧ (∀ i, i < t → BT T n i < p ∧ μ.1 (ad (r + 1)) i = n3 (KT T n i) ∧ μ.1 (ad (r + 2)) i = n3 (BT T n i)) ∧ (∀ i, i < t → μ.1 (ad (r + 3)) i = n3 (if i + 1 = t ∧ (bf = 1 ∨ bf = 2) then p else te T n (BT T n i))) ∧ (bf = 1 ∨ bf = 2 → te T n (BT T n (t - 1)) = re T n bf p) ∧ μ.1 (ad r) 1 = n3 0 ∧ Fr ad (fun i => r ≤ i ∧ i ≤ r + 3) μ0 μ
theorem c_splitStep {N : Nat} (hN : 1099511627776 ≤ N) {Λ : Lay} {ad : Nat → Nat} {r q kk : Nat} (hr : r = 48 ∨ r = 52) (hj : Inj ad) (hP : LyP Λ ad) (hD : LyD Λ ad r q kk) {T : Nat → Int32} {n m : Nat} {μ0 : Mem} (hn : n ≤ 400) (h1 : μ0.1 (ad 1) 1 = n3 n) (h2 : ∀ k, k < n → μ0.1 (ad 2) k = T k) {p : Nat} (hp : p < n) {s : Int32 × Int32 × Mem} (hs : SPI ad μ0 r T n p s) : ∃ s', SPI ad μ0 r T n (p + 1) s' ∧ ∀ k, bd_X7_split_14 N Λ s.2.2 k (ad r) s.1 s.2.1 = k s' := by
  obtain ⟨bf, t, μ, rfl, g1, g2, g3, g4, g5, g6, g7, g8, g9, hf⟩ := hs
  have e1 : μ.1 (ad 1) 1 = n3 n := by rw [(hf 1 (by omega)).1]; exact h1
  have e2 : μ.1 (ad 2) p = T p := by rw [(hf 2 (by omega)).1]; exact h2 p hp
  have kl := kd_le (T p)
  by_cases hA : kd (T p) = bf ∧ (bf = 1 ∨ bf = 2)
  · obtain ⟨hk, hb⟩ := hA
    have ht : 0 < t := by
      rcases Nat.eq_zero_or_pos t with h | h
      · have := g4 h; omega
      · exact h
    have hre := re_t (T := T) hp hk
    refine ⟨_, ⟨bf, t, mset μ (ad (r + 3)) (t - 1) (n3 (p + 1)), rfl, by rw [mso hj (by omega)]; exact g1, by omega, g3, g4, ?_, fun i hi => ?_, fun i hi => ?_, fun _ => by rw [g8 hb, hre], by rw [mso hj (by omega)]; exact g9, hf.set hj (by omega)⟩, fun k => ?_⟩
    · rw [g5]; unfold rp; rw [if_pos hb, if_pos hb, hre]
    · have := g6 i hi
      rw [mso hj (by omega), mso hj (by omega)]
      exact ⟨by omega, this.2⟩
    · by_cases e : i = t - 1
      · subst e; rw [mse, if_pos ⟨by omega, hb⟩]
      · rw [msn e, g7 i hi, if_neg (by omega), if_neg (by omega)]
    · rcases hb with hb | hb
      · subst hb
        simp (disch := omega) only [bd_X7_split_14, jn_X7_split_60, jn_X7_split_123, ↓ob (hD.1), ↓ob (hD.2.1), ↓ob (hD.2.2.1), ↓ob (hD.2.2.2.1), ↓ob (hD.2.2.2.2.1), hD.2.2.2.2.2.1, hD.2.2.2.2.2.2.1, hD.2.2.2.2.2.2.2, ↓ob (hP.1), ↓ob (hP.2.1), ↓ob (hP.2.2.1), ↓ob (hP.2.2.2.1), ↓ob (hP.2.2.2.2.1), ↓ob (hP.2.2.2.2.2.1), ↓ob (hP.2.2.2.2.2.2.1), ↓ob (hP.2.2.2.2.2.2.2.1), ↓ob (hP.2.2.2.2.2.2.2.2.1), ↓ob (hP.2.2.2.2.2.2.2.2.2.1), ↓ob (hP.2.2.2.2.2.2.2.2.2.2.1), ↓ob (hP.2.2.2.2.2.2.2.2.2.2.2.1), ↓ob (hP.2.2.2.2.2.2.2.2.2.2.2.2.1), ↓ob (hP.2.2.2.2.2.2.2.2.2.2.2.2.2.1), hP.2.2.2.2.2.2.2.2.2.2.2.2.2.2, e1, e2, c_kindOf, hk, g1, ↓lt_e, ↓gd_e, ↓Option.bind_some, ↓reduceIte, if_true, if_false, if_pT, if_nF, decide_true, Bool.not_true, Bool.not_false, not_true_eq_false, not_false_eq_true, Bool.false_eq_true, Bool.true_eq_false, eq_self, n3_lit, n3_add, n3_mul, n3_sub, n3_tn, n3_le_t, n3_le_f, n3_lt_t, n3_lt_f, n3_eq_f, n3_eq_t, n3_inb, n3_rem, n3_div, n3_zb, bb_0, bb_1, zb_bb, bb_T, bb_F, n3_dec, n3_m1, n3_eqm, n3_eqmt, n3_ltm, n3_mlt, n3_lem, n3_mle, n3_neg_lt, n3_nlt_neg, n3_nle_neg, n3_neg_le]
      · subst hb
        simp (disch := omega) only [bd_X7_split_14, jn_X7_split_60, jn_X7_split_123, ↓ob (hD.1), ↓ob (hD.2.1), ↓ob (hD.2.2.1), ↓ob (hD.2.2.2.1), ↓ob (hD.2.2.2.2.1), hD.2.2.2.2.2.1, hD.2.2.2.2.2.2.1, hD.2.2.2.2.2.2.2, ↓ob (hP.1), ↓ob (hP.2.1), ↓ob (hP.2.2.1), ↓ob (hP.2.2.2.1), ↓ob (hP.2.2.2.2.1), ↓ob (hP.2.2.2.2.2.1), ↓ob (hP.2.2.2.2.2.2.1), ↓ob (hP.2.2.2.2.2.2.2.1), ↓ob (hP.2.2.2.2.2.2.2.2.1), ↓ob (hP.2.2.2.2.2.2.2.2.2.1), ↓ob (hP.2.2.2.2.2.2.2.2.2.2.1), ↓ob (hP.2.2.2.2.2.2.2.2.2.2.2.1), ↓ob (hP.2.2.2.2.2.2.2.2.2.2.2.2.1), ↓ob (hP.2.2.2.2.2.2.2.2.2.2.2.2.2.1), hP.2.2.2.2.2.2.2.2.2.2.2.2.2.2, e1, e2, c_kindOf, hk, g1, ↓lt_e, ↓gd_e, ↓Option.bind_some, ↓reduceIte, if_true, if_false, if_pT, if_nF, decide_true, Bool.not_true, Bool.not_false, not_true_eq_false, not_false_eq_true, Bool.false_eq_true, Bool.true_eq_false, eq_self, n3_lit, n3_add, n3_mul, n3_sub, n3_tn, n3_le_t, n3_le_f, n3_lt_t, n3_lt_f, n3_eq_f, n3_eq_t, n3_inb, n3_rem, n3_div, n3_zb, bb_0, bb_1, zb_bb, bb_T, bb_F, n3_dec, n3_m1, n3_eqm, n3_eqmt, n3_ltm, n3_mlt, n3_lem, n3_mle, n3_neg_lt, n3_nlt_neg, n3_nle_neg, n3_neg_le]
  · have hrp := rp_p (n := n) hA
    rw [hrp] at g5
    have e77 : ∀ k, bd_X7_split_14 N Λ μ k (ad r) (n3 bf) (n3 p) = jn_X7_split_77 N Λ μ k (ad r) (n3 p) (n3 (kd (T p))) := fun k => by
      by_cases h0 : t = 0
      · rw [h0] at g1
        simp (disch := omega) only [bd_X7_split_14, ↓ob (hD.1), ↓ob (hD.2.1), ↓ob (hD.2.2.1), ↓ob (hD.2.2.2.1), ↓ob (hD.2.2.2.2.1), hD.2.2.2.2.2.1, hD.2.2.2.2.2.2.1, hD.2.2.2.2.2.2.2, ↓ob (hP.1), ↓ob (hP.2.1), ↓ob (hP.2.2.1), ↓ob (hP.2.2.2.1), ↓ob (hP.2.2.2.2.1), ↓ob (hP.2.2.2.2.2.1), ↓ob (hP.2.2.2.2.2.2.1), ↓ob (hP.2.2.2.2.2.2.2.1), ↓ob (hP.2.2.2.2.2.2.2.2.1), ↓ob (hP.2.2.2.2.2.2.2.2.2.1), ↓ob (hP.2.2.2.2.2.2.2.2.2.2.1), ↓ob (hP.2.2.2.2.2.2.2.2.2.2.2.1), ↓ob (hP.2.2.2.2.2.2.2.2.2.2.2.2.1), ↓ob (hP.2.2.2.2.2.2.2.2.2.2.2.2.2.1), hP.2.2.2.2.2.2.2.2.2.2.2.2.2.2, e1, e2, c_kindOf, g1, ↓lt_e, ↓gd_e, ↓Option.bind_some, ↓reduceIte, if_true, if_false, if_pT, if_nF, decide_true, Bool.not_true, Bool.not_false, not_true_eq_false, not_false_eq_true, Bool.false_eq_true, Bool.true_eq_false, eq_self, n3_lit, n3_add, n3_mul, n3_sub, n3_tn, n3_le_t, n3_le_f, n3_lt_t, n3_lt_f, n3_eq_f, n3_eq_t, n3_inb, n3_rem, n3_div, n3_zb, bb_0, bb_1, zb_bb, bb_T, bb_F, n3_dec, n3_m1, n3_eqm, n3_eqmt, n3_ltm, n3_mlt, n3_lem, n3_mle, n3_neg_lt, n3_nlt_neg, n3_nle_neg, n3_neg_le]
      · by_cases hk : kd (T p) = bf
        · simp (disch := omega) only [bd_X7_split_14, ↓ob (hD.1), ↓ob (hD.2.1), ↓ob (hD.2.2.1), ↓ob (hD.2.2.2.1), ↓ob (hD.2.2.2.2.1), hD.2.2.2.2.2.1, hD.2.2.2.2.2.2.1, hD.2.2.2.2.2.2.2, ↓ob (hP.1), ↓ob (hP.2.1), ↓ob (hP.2.2.1), ↓ob (hP.2.2.2.1), ↓ob (hP.2.2.2.2.1), ↓ob (hP.2.2.2.2.2.1), ↓ob (hP.2.2.2.2.2.2.1), ↓ob (hP.2.2.2.2.2.2.2.1), ↓ob (hP.2.2.2.2.2.2.2.2.1), ↓ob (hP.2.2.2.2.2.2.2.2.2.1), ↓ob (hP.2.2.2.2.2.2.2.2.2.2.1), ↓ob (hP.2.2.2.2.2.2.2.2.2.2.2.1), ↓ob (hP.2.2.2.2.2.2.2.2.2.2.2.2.1), ↓ob (hP.2.2.2.2.2.2.2.2.2.2.2.2.2.1), hP.2.2.2.2.2.2.2.2.2.2.2.2.2.2, e1, e2, c_kindOf, g1, hk, ↓lt_e, ↓gd_e, ↓Option.bind_some, ↓reduceIte, if_true, if_false, if_pT, if_nF, decide_true, Bool.not_true, Bool.not_false, not_true_eq_false, not_false_eq_true, Bool.false_eq_true, Bool.true_eq_false, eq_self, n3_lit, n3_add, n3_mul, n3_sub, n3_tn, n3_le_t, n3_le_f, n3_lt_t, n3_lt_f, n3_eq_f, n3_eq_t, n3_inb, n3_rem, n3_div, n3_zb, bb_0, bb_1, zb_bb, bb_T, bb_F, n3_dec, n3_m1, n3_eqm, n3_eqmt, n3_ltm, n3_mlt, n3_lem, n3_mle, n3_neg_lt, n3_nlt_neg, n3_nle_neg, n3_neg_le]
        · simp (disch := omega) only [bd_X7_split_14, ↓ob (hD.1), ↓ob (hD.2.1), ↓ob (hD.2.2.1), ↓ob (hD.2.2.2.1), ↓ob (hD.2.2.2.2.1), hD.2.2.2.2.2.1, hD.2.2.2.2.2.2.1, hD.2.2.2.2.2.2.2, ↓ob (hP.1), ↓ob (hP.2.1), ↓ob (hP.2.2.1), ↓ob (hP.2.2.2.1), ↓ob (hP.2.2.2.2.1), ↓ob (hP.2.2.2.2.2.1), ↓ob (hP.2.2.2.2.2.2.1), ↓ob (hP.2.2.2.2.2.2.2.1), ↓ob (hP.2.2.2.2.2.2.2.2.1), ↓ob (hP.2.2.2.2.2.2.2.2.2.1), ↓ob (hP.2.2.2.2.2.2.2.2.2.2.1), ↓ob (hP.2.2.2.2.2.2.2.2.2.2.2.1), ↓ob (hP.2.2.2.2.2.2.2.2.2.2.2.2.1), ↓ob (hP.2.2.2.2.2.2.2.2.2.2.2.2.2.1), hP.2.2.2.2.2.2.2.2.2.2.2.2.2.2, e1, e2, c_kindOf, g1, hk, ↓lt_e, ↓gd_e, ↓Option.bind_some, ↓reduceIte, if_true, if_false, if_pT, if_nF, decide_true, Bool.not_true, Bool.not_false, not_true_eq_false, not_false_eq_true, Bool.false_eq_true, Bool.true_eq_false, eq_self, n3_lit, n3_add, n3_mul, n3_sub, n3_tn, n3_le_t, n3_le_f, n3_lt_t, n3_lt_f, n3_eq_f, n3_eq_t, n3_inb, n3_rem, n3_div, n3_zb, bb_0, bb_1, zb_bb, bb_T, bb_F, n3_dec, n3_m1, n3_eqm, n3_eqmt, n3_ltm, n3_mlt, n3_lem, n3_mle, n3_neg_lt, n3_nlt_neg, n3_nle_neg, n3_neg_le]
    have hend : ∀ i, i < t → μ.1 (ad (r + 3)) i = n3 (te T n (BT T n i)) := fun i hi => by
      rw [g7 i hi]
      by_cases e : i + 1 = t ∧ (bf = 1 ∨ bf = 2)
      · rw [if_pos e]
        have h8 := g8 e.2
        unfold rp at hrp
        rw [if_pos e.2] at hrp
        rw [show i = t - 1 by omega, h8, hrp]
      · rw [if_neg e]
    by_cases hk0 : kd (T p) = 0
    · refine ⟨_, ⟨0, t, μ, rfl, g1, by omega, by omega, fun _ => rfl, ?_, fun i hi => ⟨by have := (g6 i hi).1; omega, (g6 i hi).2⟩, fun i hi => ?_, fun h => by omega, g9, hf⟩, fun k => ?_⟩
      · rw [g5]; unfold rp; rw [if_neg (by omega)]; unfold nb; exact re_t hp hk0
      · rw [hend i hi, if_neg (by omega)]
      · rw [e77, hk0]
        simp (disch := omega) only [jn_X7_split_77, jn_X7_split_123, ↓lt_e, ↓gd_e, ↓Option.bind_some, ↓reduceIte, if_true, if_false, if_pT, if_nF, decide_true, Bool.not_true, Bool.not_false, not_true_eq_false, not_false_eq_true, Bool.false_eq_true, Bool.true_eq_false, eq_self, n3_lit, n3_add, n3_mul, n3_sub, n3_tn, n3_le_t, n3_le_f, n3_lt_t, n3_lt_f, n3_eq_f, n3_eq_t, n3_inb, n3_rem, n3_div, n3_zb, bb_0, bb_1, zb_bb, bb_T, bb_F, n3_dec, n3_m1, n3_eqm, n3_eqmt, n3_ltm, n3_mlt, n3_lem, n3_mle, n3_neg_lt, n3_nlt_neg, n3_nle_neg, n3_neg_le]
    · have hbt : BT T n t = p := by rw [g5]; unfold nb; exact re_f (fun h => hk0 h.2)
      have hkt : KT T n t = kd (T p) := by rw [KT_t (by omega), hbt]
      have hte : te T n p = rp T n (kd (T p)) (p + 1) := by
        unfold te rp
        rw [if_pos hp]
        by_cases h3 : kd (T p) = 3
        · rw [if_pos h3, if_neg (by omega)]
        · rw [if_neg h3, if_pos (by omega), re_t hp rfl]
      refine ⟨_, ⟨kd (T p), t + 1, mset (mset (mset (mset μ (ad (r + 1)) t (n3 (kd (T p)))) (ad (r + 2)) t (n3 p)) (ad (r + 3)) t (n3 (p + 1))) (ad r) 3 (n3 (t + 1)), rfl, mse _ _ _ _, by omega, kl, fun h => by omega, ?_, fun i hi => ?_, fun i hi => ?_, fun h => ?_, ?_, (((hf.set hj (by omega)).set hj (by omega)).set hj (by omega)).set hj (by omega)⟩, fun k => ?_⟩
      · rw [BT_s, hbt, hte]
      · by_cases e : i = t
        · subst e
          refine ⟨by omega, ?_, ?_⟩
          · simp (disch := omega) only [mso hj, mse, hkt]
          · simp (disch := omega) only [mso hj, mse, hbt]
        · have := g6 i (by omega)
          refine ⟨by omega, ?_, ?_⟩
          · simp (disch := omega) only [mso hj, msn]; exact this.2.1
          · simp (disch := omega) only [mso hj, msn]; exact this.2.2
      · by_cases e : i = t
        · subst e
          rw [mso hj (by omega), mse, hbt]
          by_cases hb : kd (T p) = 1 ∨ kd (T p) = 2
          · rw [if_pos ⟨rfl, hb⟩]
          · rw [if_neg (fun h => hb h.2), hte]; unfold rp; rw [if_neg hb]
        · rw [mso hj (by omega), msn e, mso hj (by omega), mso hj (by omega), hend i (by omega), if_neg (by omega)]
      · rw [Nat.add_sub_cancel, hbt, hte]; unfold rp; rw [if_pos h]
      · rw [msn (by omega), mso hj (by omega), mso hj (by omega), mso hj (by omega)]; exact g9
      · rw [e77]
        simp (disch := omega) only [jn_X7_split_77, jn_X7_split_123, ↓ob (hD.1), ↓ob (hD.2.1), ↓ob (hD.2.2.1), ↓ob (hD.2.2.2.1), ↓ob (hD.2.2.2.2.1), hD.2.2.2.2.2.1, hD.2.2.2.2.2.2.1, hD.2.2.2.2.2.2.2, g1, mso hj, ↓lt_e, ↓gd_e, ↓Option.bind_some, ↓reduceIte, if_true, if_false, if_pT, if_nF, decide_true, Bool.not_true, Bool.not_false, not_true_eq_false, not_false_eq_true, Bool.false_eq_true, Bool.true_eq_false, eq_self, n3_lit, n3_add, n3_mul, n3_sub, n3_tn, n3_le_t, n3_le_f, n3_lt_t, n3_lt_f, n3_eq_f, n3_eq_t, n3_inb, n3_rem, n3_div, n3_zb, bb_0, bb_1, zb_bb, bb_T, bb_F, n3_dec, n3_m1, n3_eqm, n3_eqmt, n3_ltm, n3_mlt, n3_lem, n3_mle, n3_neg_lt, n3_nlt_neg, n3_nle_neg, n3_neg_le]
theorem mset_same (μ : Mem) (a i : Nat) {v : Int32} (h : μ.1 a i = v) : mset μ a i v = μ := mset_ext (fun b j => by
  rw [mset_fun]; split
  · next e => rw [e.1, e.2, h]
  · rfl) rfl
theorem rd_self {ad : Nat → Nat} {r : Nat} {μ : Mem} {i v : Nat} (h1 : μ.1 (ad r) 1 = n3 i) (h2 : μ.1 (ad r) 2 = n3 v) : rd ad r μ i v = μ := by
  unfold rd; rw [mset_same μ (ad r) 1 h1, mset_same μ (ad r) 2 h2]
theorem c_split {N : Nat} (hN : 1099511627776 ≤ N) {Λ : Lay} {ad : Nat → Nat} {r q kk : Nat} (hr : r = 48 ∨ r = 52) (hj : Inj ad) (hP : LyP Λ ad) (hD : LyD Λ ad r q kk) {T : Nat → Int32} {n m : Nat} {μ : Mem} (hn : n ≤ 400) (h1 : μ.1 (ad 1) 1 = n3 n) (h2 : ∀ k, k < n → μ.1 (ad 2) k = T k) : ∃ m μ' v, m_X7_split N Λ μ (ad r) = some (rd ad r μ' 0 v) ∧ TkC ad μ' r T n m ∧ Fr ad (fun i => r ≤ i ∧ i ≤ r + 3) μ μ' := by
  have f0 : Fr ad (fun i => r ≤ i ∧ i ≤ r + 3) μ (mset (mset μ (ad r) 1 (n3 0)) (ad r) 3 (n3 0)) := ((Fr.refl μ).set hj (by omega)).set hj (by omega)
  unfold m_X7_split lp_X7_split_14
  refine cw_iv (P := fun p s => SPI ad μ r T n p s) (Q := fun X => ∃ m μ' v, X = some (rd ad r μ' 0 v) ∧ TkC ad μ' r T n m ∧ Fr ad (fun i => r ≤ i ∧ i ≤ r + 3) μ μ') n ⟨0, 0, mset (mset μ (ad r) 1 (n3 0)) (ad r) 3 (n3 0), rfl, mse _ _ _ _, Nat.le_refl 0, by omega, fun _ => rfl, by unfold rp; rw [if_neg (by omega)]; rfl, fun i hi => absurd hi (Nat.not_lt_zero i), fun i hi => absurd hi (Nat.not_lt_zero i), fun h => by omega, by rw [msn (by omega), mse], f0⟩ (fun p hp s hs => Or.inl (c_splitStep hN hr hj hP hD (m := 0) hn h1 h2 hp hs)) (fun s hs => ?_) (show n < N by omega)
  obtain ⟨bf, t, μ1, rfl, g1, g2, g3, g4, g5, g6, g7, g8, g9, hf⟩ := hs
  have e1 : μ1.1 (ad 1) 1 = n3 n := by rw [(hf 1 (by omega)).1]; exact h1
  have hrp : rp T n bf n = n := by
    unfold rp; split
    · exact re_n T n bf
    · rfl
  have hbt : BT T n t = n := by rw [g5, hrp]; exact re_n T n 0
  have hend : ∀ i, i < t → μ1.1 (ad (r + 3)) i = n3 (te T n (BT T n i)) := fun i hi => by
    rw [g7 i hi]
    by_cases e : i + 1 = t ∧ (bf = 1 ∨ bf = 2)
    · rw [if_pos e, show i = t - 1 by omega, g8 e.2, re_n]
    · rw [if_neg e]
  have hff : Fr ad (fun i => r ≤ i ∧ i ≤ r + 3) μ (mset (mset (mset μ1 (ad (r + 1)) t (n3 0)) (ad (r + 2)) t (n3 n)) (ad (r + 3)) t (n3 n)) := ((hf.set hj (by omega)).set hj (by omega)).set hj (by omega)
  have q9 : (mset (mset (mset μ1 (ad (r + 1)) t (n3 0)) (ad (r + 2)) t (n3 n)) (ad (r + 3)) t (n3 n)).1 (ad r) 1 = n3 0 := by
    rw [mso hj (by omega), mso hj (by omega), mso hj (by omega)]; exact g9
  refine ⟨_, ⟨t, mset (mset (mset μ1 (ad (r + 1)) t (n3 0)) (ad (r + 2)) t (n3 n)) (ad (r + 3)) t (n3 n), u3 ((mset (mset (mset μ1 (ad (r + 1)) t (n3 0)) (ad (r + 2)) t (n3 n)) (ad (r + 3)) t (n3 n)).1 (ad r) 2), rfl, ⟨hn, g2, hbt, fun i hi => (g6 i hi).1, ?_, ?_, ?_, fun i hi => ?_, fun i hi => ?_, fun i hi => ?_⟩, hff⟩, fun k => ?_⟩
  · rw [(hff 1 (by omega)).1]; exact h1
  · rw [(hff 2 (by omega)).1]; exact h2
  · rw [mso hj (by omega), mso hj (by omega), mso hj (by omega)]; exact g1
  · rw [mso hj (by omega), mso hj (by omega)]
    by_cases e : i = t
    · subst e; rw [mse, KT_n hbt]
    · rw [msn e]; exact (g6 i (by omega)).2.1
  · rw [mso hj (by omega)]
    by_cases e : i = t
    · subst e; rw [mse, hbt]
    · rw [msn e, mso hj (by omega)]; exact (g6 i (by omega)).2.2
  · by_cases e : i = t
    · subst e
      show _ = n3 (te T n (BT T n i))
      rw [mse, hbt, te_n]
    · rw [msn e, mso hj (by omega), mso hj (by omega)]; exact hend i (by omega)
  · rw [rd_self q9 (n3_u3 _).symm]
    simp (disch := omega) only [bd_X7_split_14, ↓ob (hD.1), ↓ob (hD.2.1), ↓ob (hD.2.2.1), ↓ob (hD.2.2.2.1), ↓ob (hD.2.2.2.2.1), hD.2.2.2.2.2.1, hD.2.2.2.2.2.2.1, hD.2.2.2.2.2.2.2, ↓ob (hP.1), ↓ob (hP.2.1), ↓ob (hP.2.2.1), ↓ob (hP.2.2.2.1), ↓ob (hP.2.2.2.2.1), ↓ob (hP.2.2.2.2.2.1), ↓ob (hP.2.2.2.2.2.2.1), ↓ob (hP.2.2.2.2.2.2.2.1), ↓ob (hP.2.2.2.2.2.2.2.2.1), ↓ob (hP.2.2.2.2.2.2.2.2.2.1), ↓ob (hP.2.2.2.2.2.2.2.2.2.2.1), ↓ob (hP.2.2.2.2.2.2.2.2.2.2.2.1), ↓ob (hP.2.2.2.2.2.2.2.2.2.2.2.2.1), ↓ob (hP.2.2.2.2.2.2.2.2.2.2.2.2.2.1), hP.2.2.2.2.2.2.2.2.2.2.2.2.2.2, e1, g1, mso hj, ↓lt_e, ↓gd_e, ↓Option.bind_some, ↓reduceIte, if_true, if_false, if_pT, if_nF, decide_true, Bool.not_true, Bool.not_false, not_true_eq_false, not_false_eq_true, Bool.false_eq_true, Bool.true_eq_false, eq_self, n3_lit, n3_add, n3_mul, n3_sub, n3_tn, n3_le_t, n3_le_f, n3_lt_t, n3_lt_f, n3_eq_f, n3_eq_t, n3_inb, n3_rem, n3_div, n3_zb, bb_0, bb_1, zb_bb, bb_T, bb_F, n3_dec, n3_m1, n3_eqm, n3_eqmt, n3_ltm, n3_mlt, n3_lem, n3_mle, n3_neg_lt, n3_nlt_neg, n3_nle_neg, n3_neg_le]

/-! curves: the class -/
def CQ (ad : Nat → Nat) (μ : Mem) (T : Nat → Int32) (r p c : Nat) : Prop := μ.1 (ad 166) 0 = n3 (ctP (fun c => ftc T c r) c) ∧ μ.1 (ad 166) 1 = n3 (fsu (fun c => ftc T c r) 0 c) ∧ CQ0 ad μ T r ∧ (p = 1 → ∀ w v, w < 12 → v < 31 → μ.1 (ad 170) (w * 31 + v) = n3 (ctP (prP T r w v) c))
def bsR (ad : Nat → Nat) (μ : Mem) (lo hi : Nat) : Prop := Row μ (ad 169) 7 (fun s => lo + (hi - lo) * s / 6)
theorem c_heightAt {N : Nat} {Λ : Lay} {ad : Nat → Nat} {μ : Mem} (hQ : LyQ Λ ad) {lo hi la x : Nat} (h1 : lo ≤ hi) (h2 : hi ≤ 30) (h3 : la < 12) (hx : x ≤ 1000) (hb : bsR ad μ lo hi) : m_X0_heightAt N Λ μ (ad 166) (n3 x) (n3 la) = some (n3 (hB (372 * lo + 12 * hi + la) x)) := by
  have e1 : (372 * lo + 12 * hi + la) / 372 = lo := by omega
  have e2 : (372 * lo + 12 * hi + la) / 12 % 31 = hi := by omega
  have e3 : (372 * lo + 12 * hi + la) % 12 = la := by omega
  unfold hB
  rw [e1, e2, e3]
  have e4 := swT_n ((x + la) % 12) (by omega)
  have e5 := sw_le (show (x + la) % 12 < 12 by omega)
  have e6 := hb (sw ((x + la) % 12)) (by omega)
  simp (disch := omega) only [m_X0_heightAt, ↓ob (hQ.1), ↓ob (hQ.2.1), ↓ob (hQ.2.2.1), ↓ob (hQ.2.2.2.1), hQ.2.2.2.2.1, hQ.2.2.2.2.2.1, hQ.2.2.2.2.2.2.1, hQ.2.2.2.2.2.2.2.1, ↓ob (hQ.2.2.2.2.2.2.2.2.1), ↓ob (hQ.2.2.2.2.2.2.2.2.2.1), ↓ob (hQ.2.2.2.2.2.2.2.2.2.2.1), hQ.2.2.2.2.2.2.2.2.2.2.2.1, hQ.2.2.2.2.2.2.2.2.2.2.2.2.1, hQ.2.2.2.2.2.2.2.2.2.2.2.2.2.1, ↓ob (hQ.2.2.2.2.2.2.2.2.2.2.2.2.2.2.1), ↓ob (hQ.2.2.2.2.2.2.2.2.2.2.2.2.2.2.2.1), ↓ob (hQ.2.2.2.2.2.2.2.2.2.2.2.2.2.2.2.2.1), ↓ob (hQ.2.2.2.2.2.2.2.2.2.2.2.2.2.2.2.2.2.1), ↓ob (hQ.2.2.2.2.2.2.2.2.2.2.2.2.2.2.2.2.2.2.1), hQ.2.2.2.2.2.2.2.2.2.2.2.2.2.2.2.2.2.2.2.1, hQ.2.2.2.2.2.2.2.2.2.2.2.2.2.2.2.2.2.2.2.2.1, hQ.2.2.2.2.2.2.2.2.2.2.2.2.2.2.2.2.2.2.2.2.2.1, hQ.2.2.2.2.2.2.2.2.2.2.2.2.2.2.2.2.2.2.2.2.2.2.1, hQ.2.2.2.2.2.2.2.2.2.2.2.2.2.2.2.2.2.2.2.2.2.2.2, e4, e6, ↓lt_e, ↓gd_e, ↓Option.bind_some, ↓reduceIte, if_true, if_false, if_pT, if_nF, decide_true, Bool.not_true, Bool.not_false, not_true_eq_false, not_false_eq_true, Bool.false_eq_true, Bool.true_eq_false, eq_self, n3_lit, n3_add, n3_mul, n3_sub, n3_tn, n3_le_t, n3_le_f, n3_lt_t, n3_lt_f, n3_eq_f, n3_eq_t, n3_inb, n3_rem, n3_div, n3_zb, bb_0, bb_1, zb_bb, bb_T, bb_F, n3_dec, n3_m1, n3_eqm, n3_eqmt, n3_ltm, n3_mlt, n3_lem, n3_mle, n3_neg_lt, n3_nlt_neg, n3_nle_neg, n3_neg_le]
theorem c_fits {N : Nat} (hN : 1099511627776 ≤ N) {Λ : Lay} {ad : Nat → Nat} {μ : Mem} (hQ : LyQ Λ ad) {lo hi la : Nat} (h1 : lo ≤ hi) (h2 : hi ≤ 30) (h3 : la < 12) (hb : bsR ad μ lo hi) {T : Nat → Int32} {r : Nat} (hr : r ≤ 20) (hT : ∀ k, k < r → u3 (T (2 * k)) < 100 ∧ u3 (T (2 * k + 1)) < 31) (hq : CQ0 ad μ T r) : m_X0_fits N Λ μ (ad 166) (n3 la) = some (n3 (bb (ftc T (372 * lo + 12 * hi + la) r = true))) := by
  obtain ⟨q1, q2, q3⟩ := hq
  have h0 : ftc T (372 * lo + 12 * hi + la) 0 = true := decide_eq_true (by omega)
  unfold m_X0_fits lp_X0_fits_2
  refine cw_iv (P := fun i s => s = n3 i ∧ ftc T (372 * lo + 12 * hi + la) i = true) (Q := fun X => X = some (n3 (bb (ftc T (372 * lo + 12 * hi + la) r = true)))) r ⟨rfl, h0⟩ (fun i hi' s hs => ?_) (fun s hs => ?_) (by omega)
  · obtain ⟨rfl, hb1⟩ := hs
    have a1 := c_heightAt (N := N) hQ h1 h2 h3 (show u3 (T (2 * i)) % 12 ≤ 1000 by omega) hb
    rw [hB_mod] at a1
    have a2 := q2 i hi'
    have a3 := q3 i hi'
    have a4 := hT i hi'
    have a5 := hB_le (x := u3 (T (2 * i))) (ftc_0 h0)
    by_cases e : hB (372 * lo + 12 * hi + la) (u3 (T (2 * i))) = u3 (T (2 * i + 1))
    · left
      refine ⟨_, ⟨rfl, ftc_st hb1 e⟩, fun k => ?_⟩
      simp (disch := omega) only [bd_X0_fits_2, q1, ↓ob (hQ.1), ↓ob (hQ.2.1), ↓ob (hQ.2.2.1), ↓ob (hQ.2.2.2.1), hQ.2.2.2.2.1, hQ.2.2.2.2.2.1, hQ.2.2.2.2.2.2.1, hQ.2.2.2.2.2.2.2.1, ↓ob (hQ.2.2.2.2.2.2.2.2.1), ↓ob (hQ.2.2.2.2.2.2.2.2.2.1), ↓ob (hQ.2.2.2.2.2.2.2.2.2.2.1), hQ.2.2.2.2.2.2.2.2.2.2.2.1, hQ.2.2.2.2.2.2.2.2.2.2.2.2.1, hQ.2.2.2.2.2.2.2.2.2.2.2.2.2.1, ↓ob (hQ.2.2.2.2.2.2.2.2.2.2.2.2.2.2.1), ↓ob (hQ.2.2.2.2.2.2.2.2.2.2.2.2.2.2.2.1), ↓ob (hQ.2.2.2.2.2.2.2.2.2.2.2.2.2.2.2.2.1), ↓ob (hQ.2.2.2.2.2.2.2.2.2.2.2.2.2.2.2.2.2.1), ↓ob (hQ.2.2.2.2.2.2.2.2.2.2.2.2.2.2.2.2.2.2.1), hQ.2.2.2.2.2.2.2.2.2.2.2.2.2.2.2.2.2.2.2.1, hQ.2.2.2.2.2.2.2.2.2.2.2.2.2.2.2.2.2.2.2.2.1, hQ.2.2.2.2.2.2.2.2.2.2.2.2.2.2.2.2.2.2.2.2.2.1, hQ.2.2.2.2.2.2.2.2.2.2.2.2.2.2.2.2.2.2.2.2.2.2.1, hQ.2.2.2.2.2.2.2.2.2.2.2.2.2.2.2.2.2.2.2.2.2.2.2, a2, a1, a3, ↓lt_e, ↓gd_e, ↓Option.bind_some, ↓reduceIte, if_true, if_false, if_pT, if_nF, decide_true, Bool.not_true, Bool.not_false, not_true_eq_false, not_false_eq_true, Bool.false_eq_true, Bool.true_eq_false, eq_self, n3_lit, n3_add, n3_mul, n3_sub, n3_tn, n3_le_t, n3_le_f, n3_lt_t, n3_lt_f, n3_eq_f, n3_eq_t, n3_inb, n3_rem, n3_div, n3_zb, bb_0, bb_1, zb_bb, bb_T, bb_F, n3_dec, n3_m1, n3_eqm, n3_eqmt, n3_ltm, n3_mlt, n3_lem, n3_mle, n3_neg_lt, n3_nlt_neg, n3_nle_neg, n3_neg_le]
    · right
      refine ⟨some (n3 0), ?_, fun k => ?_⟩
      · have hx := ftc_m (ftc_sf e) (r - (i + 1))
        rw [show i + 1 + (r - (i + 1)) = r by omega] at hx
        rw [bbB_f hx]
      · simp (disch := omega) only [bd_X0_fits_2, q1, ↓ob (hQ.1), ↓ob (hQ.2.1), ↓ob (hQ.2.2.1), ↓ob (hQ.2.2.2.1), hQ.2.2.2.2.1, hQ.2.2.2.2.2.1, hQ.2.2.2.2.2.2.1, hQ.2.2.2.2.2.2.2.1, ↓ob (hQ.2.2.2.2.2.2.2.2.1), ↓ob (hQ.2.2.2.2.2.2.2.2.2.1), ↓ob (hQ.2.2.2.2.2.2.2.2.2.2.1), hQ.2.2.2.2.2.2.2.2.2.2.2.1, hQ.2.2.2.2.2.2.2.2.2.2.2.2.1, hQ.2.2.2.2.2.2.2.2.2.2.2.2.2.1, ↓ob (hQ.2.2.2.2.2.2.2.2.2.2.2.2.2.2.1), ↓ob (hQ.2.2.2.2.2.2.2.2.2.2.2.2.2.2.2.1), ↓ob (hQ.2.2.2.2.2.2.2.2.2.2.2.2.2.2.2.2.1), ↓ob (hQ.2.2.2.2.2.2.2.2.2.2.2.2.2.2.2.2.2.1), ↓ob (hQ.2.2.2.2.2.2.2.2.2.2.2.2.2.2.2.2.2.2.1), hQ.2.2.2.2.2.2.2.2.2.2.2.2.2.2.2.2.2.2.2.1, hQ.2.2.2.2.2.2.2.2.2.2.2.2.2.2.2.2.2.2.2.2.1, hQ.2.2.2.2.2.2.2.2.2.2.2.2.2.2.2.2.2.2.2.2.2.1, hQ.2.2.2.2.2.2.2.2.2.2.2.2.2.2.2.2.2.2.2.2.2.2.1, hQ.2.2.2.2.2.2.2.2.2.2.2.2.2.2.2.2.2.2.2.2.2.2.2, a2, a1, a3, ↓lt_e, ↓gd_e, ↓Option.bind_some, ↓reduceIte, if_true, if_false, if_pT, if_nF, decide_true, Bool.not_true, Bool.not_false, not_true_eq_false, not_false_eq_true, Bool.false_eq_true, Bool.true_eq_false, eq_self, n3_lit, n3_add, n3_mul, n3_sub, n3_tn, n3_le_t, n3_le_f, n3_lt_t, n3_lt_f, n3_eq_f, n3_eq_t, n3_inb, n3_rem, n3_div, n3_zb, bb_0, bb_1, zb_bb, bb_T, bb_F, n3_dec, n3_m1, n3_eqm, n3_eqmt, n3_ltm, n3_mlt, n3_lem, n3_mle, n3_neg_lt, n3_nlt_neg, n3_nle_neg, n3_neg_le]
  · obtain ⟨rfl, hb1⟩ := hs
    refine ⟨_, rfl, fun k => ?_⟩
    rw [bbB_t hb1]
    simp (disch := omega) only [bd_X0_fits_2, q1, ↓lt_e, ↓gd_e, ↓Option.bind_some, ↓reduceIte, if_true, if_false, if_pT, if_nF, decide_true, Bool.not_true, Bool.not_false, not_true_eq_false, not_false_eq_true, Bool.false_eq_true, Bool.true_eq_false, eq_self, n3_lit, n3_add, n3_mul, n3_sub, n3_tn, n3_le_t, n3_le_f, n3_lt_t, n3_lt_f, n3_eq_f, n3_eq_t, n3_inb, n3_rem, n3_div, n3_zb, bb_0, bb_1, zb_bb, bb_T, bb_F, n3_dec, n3_m1, n3_eqm, n3_eqmt, n3_ltm, n3_mlt, n3_lem, n3_mle, n3_neg_lt, n3_nlt_neg, n3_nle_neg, n3_neg_le]
theorem c_part {N : Nat} (hN : 1099511627776 ≤ N) {Λ : Lay} {ad : Nat → Nat} {μ : Mem} (hj : Inj ad) (hQ : LyQ Λ ad) {lo hi la : Nat} (h1 : lo ≤ hi) (h2 : hi ≤ 30) (h3 : la < 12) (hb : bsR ad μ lo hi) {cn : Nat → Nat → Nat} (hc : ∀ w v, w < 12 → v < 31 → μ.1 (ad 170) (w * 31 + v) = n3 (cn w v)) : ∃ μ', m_X0_part N Λ μ (ad 166) (n3 la) = some μ' ∧ (∀ w v, w < 12 → v < 31 → μ'.1 (ad 170) (w * 31 + v) = n3 (cn w v + if hB (372 * lo + 12 * hi + la) w = v then 1 else 0)) ∧ Fr ad (fun i => i = 170) μ μ' := by
  unfold m_X0_part lp_X0_part_2
  refine cw_iv (P := fun i s => ∃ μ1 : Mem, s = (n3 i, μ1) ∧ (∀ w v, w < 12 → v < 31 → μ1.1 (ad 170) (w * 31 + v) = n3 (cn w v + if w < i ∧ hB (372 * lo + 12 * hi + la) w = v then 1 else 0)) ∧ Fr ad (fun i => i = 170) μ μ1) (Q := fun X => ∃ μ', X = some μ' ∧ (∀ w v, w < 12 → v < 31 → μ'.1 (ad 170) (w * 31 + v) = n3 (cn w v + if hB (372 * lo + 12 * hi + la) w = v then 1 else 0)) ∧ Fr ad (fun i => i = 170) μ μ') 12 ⟨μ, rfl, fun w v hw hv => by rw [if_neg (fun h => Nat.not_lt_zero _ h.1), Nat.add_zero]; exact hc w v hw hv, Fr.refl μ⟩ (fun i hi' s hs => ?_) (fun s hs => ?_) (show 12 < N by omega)
  · obtain ⟨μ1, rfl, hr, hf⟩ := hs
    left
    have hb1 : bsR ad μ1 lo hi := Row.fr hb hf (by omega)
    have a1 := c_heightAt (N := N) hQ h1 h2 h3 (show i ≤ 1000 by omega) hb1
    have a5 := hB_le (c := 372 * lo + 12 * hi + la) (x := i) (by omega)
    have a6 := hr i (hB (372 * lo + 12 * hi + la) i) hi' (by omega)
    rw [if_neg (by omega), Nat.add_zero] at a6
    refine ⟨_, ⟨mset μ1 (ad 170) (i * 31 + hB (372 * lo + 12 * hi + la) i) (n3 (cn i (hB (372 * lo + 12 * hi + la) i) + 1)), rfl, fun w v hw hv => ?_, hf.set hj (by rfl)⟩, fun k => ?_⟩
    · by_cases e : w = i
      · subst e
        by_cases e2 : hB (372 * lo + 12 * hi + la) w = v
        · rw [e2, mse, if_pos ⟨by omega, rfl⟩]
        · rw [msn (by omega), hr w v hw hv, if_neg (by omega), if_neg (fun h => e2 h.2)]
      · rw [msn (by omega), hr w v hw hv]
        by_cases e2 : w < i ∧ hB (372 * lo + 12 * hi + la) w = v
        · rw [if_pos e2, if_pos ⟨by omega, e2.2⟩]
        · rw [if_neg e2, if_neg (fun h => e2 ⟨by omega, h.2⟩)]
    · simp (disch := omega) only [bd_X0_part_2, ↓ob (hQ.1), ↓ob (hQ.2.1), ↓ob (hQ.2.2.1), ↓ob (hQ.2.2.2.1), hQ.2.2.2.2.1, hQ.2.2.2.2.2.1, hQ.2.2.2.2.2.2.1, hQ.2.2.2.2.2.2.2.1, ↓ob (hQ.2.2.2.2.2.2.2.2.1), ↓ob (hQ.2.2.2.2.2.2.2.2.2.1), ↓ob (hQ.2.2.2.2.2.2.2.2.2.2.1), hQ.2.2.2.2.2.2.2.2.2.2.2.1, hQ.2.2.2.2.2.2.2.2.2.2.2.2.1, hQ.2.2.2.2.2.2.2.2.2.2.2.2.2.1, ↓ob (hQ.2.2.2.2.2.2.2.2.2.2.2.2.2.2.1), ↓ob (hQ.2.2.2.2.2.2.2.2.2.2.2.2.2.2.2.1), ↓ob (hQ.2.2.2.2.2.2.2.2.2.2.2.2.2.2.2.2.1), ↓ob (hQ.2.2.2.2.2.2.2.2.2.2.2.2.2.2.2.2.2.1), ↓ob (hQ.2.2.2.2.2.2.2.2.2.2.2.2.2.2.2.2.2.2.1), hQ.2.2.2.2.2.2.2.2.2.2.2.2.2.2.2.2.2.2.2.1, hQ.2.2.2.2.2.2.2.2.2.2.2.2.2.2.2.2.2.2.2.2.1, hQ.2.2.2.2.2.2.2.2.2.2.2.2.2.2.2.2.2.2.2.2.2.1, hQ.2.2.2.2.2.2.2.2.2.2.2.2.2.2.2.2.2.2.2.2.2.2.1, hQ.2.2.2.2.2.2.2.2.2.2.2.2.2.2.2.2.2.2.2.2.2.2.2, a1, a6, ↓lt_e, ↓gd_e, ↓Option.bind_some, ↓reduceIte, if_true, if_false, if_pT, if_nF, decide_true, Bool.not_true, Bool.not_false, not_true_eq_false, not_false_eq_true, Bool.false_eq_true, Bool.true_eq_false, eq_self, n3_lit, n3_add, n3_mul, n3_sub, n3_tn, n3_le_t, n3_le_f, n3_lt_t, n3_lt_f, n3_eq_f, n3_eq_t, n3_inb, n3_rem, n3_div, n3_zb, bb_0, bb_1, zb_bb, bb_T, bb_F, n3_dec, n3_m1, n3_eqm, n3_eqmt, n3_ltm, n3_mlt, n3_lem, n3_mle, n3_neg_lt, n3_nlt_neg, n3_nle_neg, n3_neg_le]
  · obtain ⟨μ1, rfl, hr, hf⟩ := hs
    refine ⟨_, ⟨μ1, rfl, fun w v hw hv => ?_, hf⟩, fun k => ?_⟩
    · rw [hr w v hw hv]
      by_cases e2 : hB (372 * lo + 12 * hi + la) w = v
      · rw [if_pos e2, if_pos ⟨hw, e2⟩]
      · rw [if_neg e2, if_neg (fun h => e2 h.2)]
    · simp (disch := omega) only [bd_X0_part_2, ↓lt_e, ↓gd_e, ↓Option.bind_some, ↓reduceIte, if_true, if_false, if_pT, if_nF, decide_true, Bool.not_true, Bool.not_false, not_true_eq_false, not_false_eq_true, Bool.false_eq_true, Bool.true_eq_false, eq_self, n3_lit, n3_add, n3_mul, n3_sub, n3_tn, n3_le_t, n3_le_f, n3_lt_t, n3_lt_f, n3_eq_f, n3_eq_t, n3_inb, n3_rem, n3_div, n3_zb, bb_0, bb_1, zb_bb, bb_T, bb_F, n3_dec, n3_m1, n3_eqm, n3_eqmt, n3_ltm, n3_mlt, n3_lem, n3_mle, n3_neg_lt, n3_nlt_neg, n3_nle_neg, n3_neg_le]
theorem CQ0.fr {ad : Nat → Nat} {μ μ' : Mem} {T : Nat → Int32} {r : Nat} (h : CQ0 ad μ T r) {I : Nat → Prop} (hf : Fr ad I μ μ') (h2 : μ'.1 (ad 166) 2 = μ.1 (ad 166) 2) (h7 : ¬ I 167) (h8 : ¬ I 168) : CQ0 ad μ' T r := ⟨by rw [h2]; exact h.1, Row.fr h.2.1 hf h7, Row.fr h.2.2 hf h8⟩
theorem c_searchLate {N : Nat} (hN : 1099511627776 ≤ N) {Λ : Lay} {ad : Nat → Nat} {μ : Mem} (hj : Inj ad) (hQ : LyQ Λ ad) {lo hi : Nat} (h1 : lo ≤ hi) (h2 : hi ≤ 30) {T : Nat → Int32} {r p : Nat} (hr : r ≤ 20) (hp : p ≤ 1) (hT : ∀ k, k < r → u3 (T (2 * k)) < 100 ∧ u3 (T (2 * k + 1)) < 31) (hq : CQ ad μ T r p (372 * lo + 12 * hi)) : ∃ μ', m_X0_searchLate N Λ μ (ad 166) (n3 lo) (n3 hi) (n3 p) = some μ' ∧ CQ ad μ' T r p (372 * lo + 12 * hi + 12) ∧ Fr ad (fun i => i = 166 ∨ i = 169 ∨ i = 170) μ μ' := by
  unfold m_X0_searchLate lp_X0_searchLate_3
  refine cw_iv (P := fun i s => ∃ μ1 : Mem, s = (n3 i, μ1) ∧ Row μ1 (ad 169) i (fun s => lo + (hi - lo) * s / 6) ∧ Fr ad (fun i => i = 169) μ μ1) (Q := fun X => ∃ μ', X = some μ' ∧ CQ ad μ' T r p (372 * lo + 12 * hi + 12) ∧ Fr ad (fun i => i = 166 ∨ i = 169 ∨ i = 170) μ μ') 7 ⟨μ, rfl, fun k hk => absurd hk (Nat.not_lt_zero k), Fr.refl μ⟩ (fun i hi' s hs => ?_) (fun s hs => ?_) (by omega)
  · obtain ⟨μ1, rfl, hb, hf⟩ := hs
    left
    have hm : (hi - lo) * i ≤ 30 * 6 := Nat.mul_le_mul (by omega) (by omega)
    refine ⟨_, ⟨mset μ1 (ad 169) i (n3 (lo + (hi - lo) * i / 6)), rfl, hb.ad1 rfl, hf.set hj (by rfl)⟩, fun k => ?_⟩
    simp (disch := omega) only [bd_X0_searchLate_3, ↓ob (hQ.1), ↓ob (hQ.2.1), ↓ob (hQ.2.2.1), ↓ob (hQ.2.2.2.1), hQ.2.2.2.2.1, hQ.2.2.2.2.2.1, hQ.2.2.2.2.2.2.1, hQ.2.2.2.2.2.2.2.1, ↓ob (hQ.2.2.2.2.2.2.2.2.1), ↓ob (hQ.2.2.2.2.2.2.2.2.2.1), ↓ob (hQ.2.2.2.2.2.2.2.2.2.2.1), hQ.2.2.2.2.2.2.2.2.2.2.2.1, hQ.2.2.2.2.2.2.2.2.2.2.2.2.1, hQ.2.2.2.2.2.2.2.2.2.2.2.2.2.1, ↓ob (hQ.2.2.2.2.2.2.2.2.2.2.2.2.2.2.1), ↓ob (hQ.2.2.2.2.2.2.2.2.2.2.2.2.2.2.2.1), ↓ob (hQ.2.2.2.2.2.2.2.2.2.2.2.2.2.2.2.2.1), ↓ob (hQ.2.2.2.2.2.2.2.2.2.2.2.2.2.2.2.2.2.1), ↓ob (hQ.2.2.2.2.2.2.2.2.2.2.2.2.2.2.2.2.2.2.1), hQ.2.2.2.2.2.2.2.2.2.2.2.2.2.2.2.2.2.2.2.1, hQ.2.2.2.2.2.2.2.2.2.2.2.2.2.2.2.2.2.2.2.2.1, hQ.2.2.2.2.2.2.2.2.2.2.2.2.2.2.2.2.2.2.2.2.2.1, hQ.2.2.2.2.2.2.2.2.2.2.2.2.2.2.2.2.2.2.2.2.2.2.1, hQ.2.2.2.2.2.2.2.2.2.2.2.2.2.2.2.2.2.2.2.2.2.2.2, ↓lt_e, ↓gd_e, ↓Option.bind_some, ↓reduceIte, if_true, if_false, if_pT, if_nF, decide_true, Bool.not_true, Bool.not_false, not_true_eq_false, not_false_eq_true, Bool.false_eq_true, Bool.true_eq_false, eq_self, n3_lit, n3_add, n3_mul, n3_sub, n3_tn, n3_le_t, n3_le_f, n3_lt_t, n3_lt_f, n3_eq_f, n3_eq_t, n3_inb, n3_rem, n3_div, n3_zb, bb_0, bb_1, zb_bb, bb_T, bb_F, n3_dec, n3_m1, n3_eqm, n3_eqmt, n3_ltm, n3_mlt, n3_lem, n3_mle, n3_neg_lt, n3_nlt_neg, n3_nle_neg, n3_neg_le]
  · obtain ⟨μ1, rfl, hb, hf⟩ := hs
    have es : ∀ k, bd_X0_searchLate_3 N Λ μ1 k (ad 166) (n3 lo) (n3 hi) (n3 p) (n3 7) = lp_X0_searchLate_37 N Λ (ad 166) (n3 lo) (n3 hi) (n3 p) (n3 0, μ1) := fun k => by
      simp (disch := omega) only [bd_X0_searchLate_3, ↓lt_e, ↓gd_e, ↓Option.bind_some, ↓reduceIte, if_true, if_false, if_pT, if_nF, decide_true, Bool.not_true, Bool.not_false, not_true_eq_false, not_false_eq_true, Bool.false_eq_true, Bool.true_eq_false, eq_self, n3_lit, n3_add, n3_mul, n3_sub, n3_tn, n3_le_t, n3_le_f, n3_lt_t, n3_lt_f, n3_eq_f, n3_eq_t, n3_inb, n3_rem, n3_div, n3_zb, bb_0, bb_1, zb_bb, bb_T, bb_F, n3_dec, n3_m1, n3_eqm, n3_eqmt, n3_ltm, n3_mlt, n3_lem, n3_mle, n3_neg_lt, n3_nlt_neg, n3_nle_neg, n3_neg_le]
    refine ⟨_, ?_, es⟩
    unfold lp_X0_searchLate_37
    have hq1 : CQ ad μ1 T r p (372 * lo + 12 * hi) := by
      obtain ⟨a1, a2, a3, a4⟩ := hq
      have q6 := (hf 166 (by omega)).1
      exact ⟨by rw [q6]; exact a1, by rw [q6]; exact a2, a3.fr hf (by rw [q6]) (by omega) (by omega), fun h => by rw [(hf 170 (by omega)).1]; exact a4 h⟩
    refine cw_iv (P := fun la s => ∃ μ2 : Mem, s = (n3 la, μ2) ∧ CQ ad μ2 T r p (372 * lo + 12 * hi + la) ∧ bsR ad μ2 lo hi ∧ Fr ad (fun i => i = 166 ∨ i = 169 ∨ i = 170) μ μ2) (Q := fun X => ∃ μ', X = some μ' ∧ CQ ad μ' T r p (372 * lo + 12 * hi + 12) ∧ Fr ad (fun i => i = 166 ∨ i = 169 ∨ i = 170) μ μ') 12 ⟨μ1, rfl, hq1, hb, hf.mono (fun i hi => by omega)⟩ (fun la hla s hs => ?_) (fun s hs => ?_) (by omega)
    · obtain ⟨μ2, rfl, ⟨a1, a2, a3, a4⟩, hb2, hf2⟩ := hs
      left
      have cf := c_fits hN hQ h1 h2 hla hb2 hr hT a3
      have hle := ctP_le (fun c => ftc T c r) (372 * lo + 12 * hi + la)
      show ∃ s', _ ∧ ∀ k, bd_X0_searchLate_37 N Λ μ2 k (ad 166) (n3 lo) (n3 hi) (n3 p) (n3 la) = k s'
      rw [← Nat.add_assoc]
      generalize hcc : 372 * lo + 12 * hi + la = c at *
      cases hft : ftc T c r with
      | false =>
        rw [bbB_f hft] at cf
        refine ⟨_, ⟨μ2, rfl, ⟨?_, ?_, a3, fun h w v hw hv => ?_⟩, hb2, hf2⟩, fun k => ?_⟩
        · rw [a1, ctP_f (p := fun c => ftc T c r) hft]
        · rw [a2, fsu_f (p := fun c => ftc T c r) hft (by omega)]
        · rw [a4 h w v hw hv, ctP_f (prP_f hft)]
        · simp (disch := omega) only [bd_X0_searchLate_37, jn_X0_searchLate_97, cf, ↓lt_e, ↓gd_e, ↓Option.bind_some, ↓reduceIte, if_true, if_false, if_pT, if_nF, decide_true, Bool.not_true, Bool.not_false, not_true_eq_false, not_false_eq_true, Bool.false_eq_true, Bool.true_eq_false, eq_self, n3_lit, n3_add, n3_mul, n3_sub, n3_tn, n3_le_t, n3_le_f, n3_lt_t, n3_lt_f, n3_eq_f, n3_eq_t, n3_inb, n3_rem, n3_div, n3_zb, bb_0, bb_1, zb_bb, bb_T, bb_F, n3_dec, n3_m1, n3_eqm, n3_eqmt, n3_ltm, n3_mlt, n3_lem, n3_mle, n3_neg_lt, n3_nlt_neg, n3_nle_neg, n3_neg_le]
      | true =>
        rw [bbB_t hft] at cf
        -- the first is kept
        have hfirst : ∃ μ3, (∀ k, bd_X0_searchLate_37 N Λ μ2 k (ad 166) (n3 lo) (n3 hi) (n3 p) (n3 la) = jn_X0_searchLate_77 N Λ μ3 k (ad 166) (n3 lo) (n3 hi) (n3 p) (n3 la)) ∧ μ3.1 (ad 166) 0 = μ2.1 (ad 166) 0 ∧ μ3.1 (ad 166) 2 = μ2.1 (ad 166) 2 ∧ μ3.1 (ad 166) 1 = n3 (fsu (fun c => ftc T c r) 0 (c + 1)) ∧ Fr ad (fun i => i = 166) μ2 μ3 := by
          by_cases h0 : ctP (fun c => ftc T c r) c = 0
          · refine ⟨mset μ2 (ad 166) 1 (n3 c), fun k => ?_, msn (by omega), msn (by omega), by rw [mse, fsu_t0 (p := fun c => ftc T c r) hft h0 (by omega)], (Fr.refl μ2).set hj (by rfl)⟩
            rw [h0] at a1
            simp (disch := omega) only [bd_X0_searchLate_37, cf, a1, hcc, ↓lt_e, ↓gd_e, ↓Option.bind_some, ↓reduceIte, if_true, if_false, if_pT, if_nF, decide_true, Bool.not_true, Bool.not_false, not_true_eq_false, not_false_eq_true, Bool.false_eq_true, Bool.true_eq_false, eq_self, n3_lit, n3_add, n3_mul, n3_sub, n3_tn, n3_le_t, n3_le_f, n3_lt_t, n3_lt_f, n3_eq_f, n3_eq_t, n3_inb, n3_rem, n3_div, n3_zb, bb_0, bb_1, zb_bb, bb_T, bb_F, n3_dec, n3_m1, n3_eqm, n3_eqmt, n3_ltm, n3_mlt, n3_lem, n3_mle, n3_neg_lt, n3_nlt_neg, n3_nle_neg, n3_neg_le]
          · refine ⟨μ2, fun k => ?_, rfl, rfl, by rw [a2, fsu_t1 h0 (by omega)], Fr.refl μ2⟩
            simp (disch := omega) only [bd_X0_searchLate_37, cf, a1, ↓lt_e, ↓gd_e, ↓Option.bind_some, ↓reduceIte, if_true, if_false, if_pT, if_nF, decide_true, Bool.not_true, Bool.not_false, not_true_eq_false, not_false_eq_true, Bool.false_eq_true, Bool.true_eq_false, eq_self, n3_lit, n3_add, n3_mul, n3_sub, n3_tn, n3_le_t, n3_le_f, n3_lt_t, n3_lt_f, n3_eq_f, n3_eq_t, n3_inb, n3_rem, n3_div, n3_zb, bb_0, bb_1, zb_bb, bb_T, bb_F, n3_dec, n3_m1, n3_eqm, n3_eqmt, n3_ltm, n3_mlt, n3_lem, n3_mle, n3_neg_lt, n3_nlt_neg, n3_nle_neg, n3_neg_le]
        obtain ⟨μ3, e3, g1, g2, g3, f3⟩ := hfirst
        have f4 : Fr ad (fun i => i = 166) μ2 (mset μ3 (ad 166) 0 (n3 (ctP (fun c => ftc T c r) c + 1))) := f3.set hj (by rfl)
        have hb4 : bsR ad (mset μ3 (ad 166) 0 (n3 (ctP (fun c => ftc T c r) c + 1))) lo hi := Row.fr hb2 f4 (by omega)
        have a34 : CQ0 ad (mset μ3 (ad 166) 0 (n3 (ctP (fun c => ftc T c r) c + 1))) T r := a3.fr f4 (by rw [msn (by omega), g2]) (by omega) (by omega)
        have p34 : ∀ w v, (mset μ3 (ad 166) 0 (n3 (ctP (fun c => ftc T c r) c + 1))).1 (ad 170) (w * 31 + v) = μ2.1 (ad 170) (w * 31 + v) := fun w v => by rw [(f4 170 (by omega)).1]
        by_cases hp0 : p = 0
        · refine ⟨_, ⟨_, rfl, ⟨?_, ?_, a34, fun h => by omega⟩, hb4, hf2.trans (f4.mono (fun i hi => by omega))⟩, fun k => ?_⟩
          · rw [mse, ctP_t (p := fun c => ftc T c r) hft]
          · rw [msn (by omega), g3]
          · rw [e3]
            simp (disch := omega) only [jn_X0_searchLate_77, jn_X0_searchLate_97, g1, a1, hp0, ↓lt_e, ↓gd_e, ↓Option.bind_some, ↓reduceIte, if_true, if_false, if_pT, if_nF, decide_true, Bool.not_true, Bool.not_false, not_true_eq_false, not_false_eq_true, Bool.false_eq_true, Bool.true_eq_false, eq_self, n3_lit, n3_add, n3_mul, n3_sub, n3_tn, n3_le_t, n3_le_f, n3_lt_t, n3_lt_f, n3_eq_f, n3_eq_t, n3_inb, n3_rem, n3_div, n3_zb, bb_0, bb_1, zb_bb, bb_T, bb_F, n3_dec, n3_m1, n3_eqm, n3_eqmt, n3_ltm, n3_mlt, n3_lem, n3_mle, n3_neg_lt, n3_nlt_neg, n3_nle_neg, n3_neg_le]
        · have hp1 : p = 1 := by omega
          have cp := c_part hN hj hQ h1 h2 hla hb4 (cn := fun w v => ctP (prP T r w v) c) (fun w v hw hv => by rw [p34]; exact a4 hp1 w v hw hv)
          rw [hcc] at cp
          obtain ⟨μ5, e5, g5', f5⟩ := cp
          have q66 := (f5 166 (by omega)).1
          refine ⟨_, ⟨μ5, rfl, ⟨?_, ?_, a34.fr f5 (by rw [q66]) (by omega) (by omega), fun h w v hw hv => ?_⟩, Row.fr hb4 f5 (by omega), hf2.trans ((f4.mono (fun i hi => by omega)).trans (f5.mono (fun i hi => by omega)))⟩, fun k => ?_⟩
          · rw [q66, mse, ctP_t (p := fun c => ftc T c r) hft]
          · rw [q66, msn (by omega), g3]
          · rw [g5' w v hw hv]
            by_cases e : hB c w = v
            · rw [if_pos e, ctP_t (prP_t hft e)]
            · rw [if_neg e, ctP_f (prP_n e)]; rfl
          · rw [e3]
            simp (disch := omega) only [jn_X0_searchLate_77, jn_X0_searchLate_97, g1, a1, hp1, e5, ↓lt_e, ↓gd_e, ↓Option.bind_some, ↓reduceIte, if_true, if_false, if_pT, if_nF, decide_true, Bool.not_true, Bool.not_false, not_true_eq_false, not_false_eq_true, Bool.false_eq_true, Bool.true_eq_false, eq_self, n3_lit, n3_add, n3_mul, n3_sub, n3_tn, n3_le_t, n3_le_f, n3_lt_t, n3_lt_f, n3_eq_f, n3_eq_t, n3_inb, n3_rem, n3_div, n3_zb, bb_0, bb_1, zb_bb, bb_T, bb_F, n3_dec, n3_m1, n3_eqm, n3_eqmt, n3_ltm, n3_mlt, n3_lem, n3_mle, n3_neg_lt, n3_nlt_neg, n3_nle_neg, n3_neg_le]
    · obtain ⟨μ2, rfl, hq2, hb2, hf2⟩ := hs
      refine ⟨_, ⟨μ2, rfl, hq2, hf2⟩, fun k => ?_⟩
      simp (disch := omega) only [bd_X0_searchLate_37, ↓lt_e, ↓gd_e, ↓Option.bind_some, ↓reduceIte, if_true, if_false, if_pT, if_nF, decide_true, Bool.not_true, Bool.not_false, not_true_eq_false, not_false_eq_true, Bool.false_eq_true, Bool.true_eq_false, eq_self, n3_lit, n3_add, n3_mul, n3_sub, n3_tn, n3_le_t, n3_le_f, n3_lt_t, n3_lt_f, n3_eq_f, n3_eq_t, n3_inb, n3_rem, n3_div, n3_zb, bb_0, bb_1, zb_bb, bb_T, bb_F, n3_dec, n3_m1, n3_eqm, n3_eqmt, n3_ltm, n3_mlt, n3_lem, n3_mle, n3_neg_lt, n3_nlt_neg, n3_nle_neg, n3_neg_le]

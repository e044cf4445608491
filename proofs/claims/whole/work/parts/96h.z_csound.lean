/-! soundings -/
def wiN (l p : Nat) : Nat := bb (l / 12 ≤ p ∧ p < l / 12 + (l % 12 + 1))
def wrg (T : Nat → Int32) (l : Nat) : Nat → Nat
  | 0 => 0
  | i + 1 => wrg T l i + (if wiN l (u3 (T (2 * i))) = u3 (T (2 * i + 1)) then 0 else 1)
theorem wrg_le (T : Nat → Int32) (l : Nat) : ∀ i, wrg T l i ≤ i
  | 0 => Nat.le_refl 0
  | i + 1 => by have := wrg_le T l i; unfold wrg; split <;> omega
theorem wrg_t {T : Nat → Int32} {l i : Nat} (h : wiN l (u3 (T (2 * i))) = u3 (T (2 * i + 1))) : wrg T l (i + 1) = wrg T l i := by
  show wrg T l i + (if _ then 0 else 1) = _
  rw [if_pos h]; rfl
theorem wrg_f {T : Nat → Int32} {l i : Nat} (h : ¬ wiN l (u3 (T (2 * i))) = u3 (T (2 * i + 1))) : wrg T l (i + 1) = wrg T l i + 1 := by
  show wrg T l i + (if _ then 0 else 1) = _
  rw [if_neg h]
def vlL (l : Nat) : Prop := l / 12 + l % 12 + 1 ≤ 24
def slP (T : Nat → Int32) (r l : Nat) : Bool := decide (l / 12 + l % 12 + 1 ≤ 24 ∧ wrg T l r < 2)
theorem slP_t {T : Nat → Int32} {r l : Nat} (h : l / 12 + l % 12 + 1 ≤ 24) (h' : wrg T l r < 2) : slP T r l = true := decide_eq_true ⟨h, h'⟩
theorem slP_f {T : Nat → Int32} {r l : Nat} (h' : ¬ wrg T l r < 2) : slP T r l = false := decide_eq_false (fun h => h' h.2)
theorem slP_n {T : Nat → Int32} {r l : Nat} (h : 24 < l / 12 + l % 12 + 1) : slP T r l = false := decide_eq_false (fun h' => by omega)
def cvP (T : Nat → Int32) (r i l : Nat) : Bool := slP T r l && decide (l / 12 ≤ i ∧ i < l / 12 + (l % 12 + 1))
theorem cvP_f {T : Nat → Int32} {r i l : Nat} (h : slP T r l = false) : cvP T r i l = false := by unfold cvP; rw [h]; rfl
theorem cvP_t {T : Nat → Int32} {r i l : Nat} (h : slP T r l = true) (h' : l / 12 ≤ i ∧ i < l / 12 + (l % 12 + 1)) : cvP T r i l = true := by unfold cvP; rw [h, decide_eq_true h']; rfl
theorem cvP_n {T : Nat → Int32} {r i l : Nat} (h' : ¬ (l / 12 ≤ i ∧ i < l / 12 + (l % 12 + 1))) : cvP T r i l = false := by unfold cvP; rw [decide_eq_false h']; cases slP T r l <;> rfl
def lkl (T : Nat → Int32) (r : Nat) : Nat → Nat × Nat
  | 0 => (4294967295, 2)
  | l + 1 => if l / 12 + l % 12 + 1 ≤ 24 ∧ wrg T l r < (lkl T r l).2 then (l, wrg T l r) else lkl T r l
theorem lkl_le (T : Nat → Int32) (r : Nat) : ∀ l, (lkl T r l).2 ≤ 2
  | 0 => Nat.le_refl 2
  | l + 1 => by
    have := lkl_le T r l
    unfold lkl; split
    · next h => show wrg T l r ≤ 2; omega
    · exact this
theorem lkl_t {T : Nat → Int32} {r l : Nat} (h : l / 12 + l % 12 + 1 ≤ 24) (h' : wrg T l r < (lkl T r l).2) : lkl T r (l + 1) = (l, wrg T l r) := if_pos ⟨h, h'⟩
theorem lkl_f {T : Nat → Int32} {r l : Nat} (h' : ¬ wrg T l r < (lkl T r l).2) : lkl T r (l + 1) = lkl T r l := if_neg (fun h => h' h.2)
theorem lkl_n {T : Nat → Int32} {r l : Nat} (h : 24 < l / 12 + l % 12 + 1) : lkl T r (l + 1) = lkl T r l := if_neg (fun h' => by omega)
theorem lkl_gap {T : Nat → Int32} {r c : Nat} : ∀ d, (∀ k, k < d → 24 < (c + k) / 12 + (c + k) % 12 + 1) → lkl T r (c + d) = lkl T r c
  | 0, _ => rfl
  | d + 1, h => by
    show lkl T r ((c + d) + 1) = _
    rw [lkl_n (h d (by omega)), lkl_gap d (fun k hk => h k (by omega))]
/-- what the class has found among those below l -/
def SQ (ad : Nat → Nat) (μ : Mem) (T : Nat → Int32) (r l : Nat) : Prop := μ.1 (ad 171) 0 = n3 (ctP (slP T r) l) ∧ μ.1 (ad 171) 1 = n3 (lkl T r l).1 ∧ μ.1 (ad 171) 2 = n3 (lkl T r l).2 ∧ SQ0 ad μ T r ∧ (∀ i, i < 24 → μ.1 (ad 174) i = n3 (ctP (cvP T r i) l))
theorem SQ0.fr {ad : Nat → Nat} {μ μ' : Mem} {T : Nat → Int32} {r : Nat} (h : SQ0 ad μ T r) {I : Nat → Prop} (hf : Fr ad I μ μ') (h2 : μ'.1 (ad 171) 3 = μ.1 (ad 171) 3) (h7 : ¬ I 172) (h8 : ¬ I 173) : SQ0 ad μ' T r := ⟨by rw [h2]; exact h.1, Row.fr h.2.1 hf h7, Row.fr h.2.2 hf h8⟩
theorem SQ.gap {ad : Nat → Nat} {μ : Mem} {T : Nat → Int32} {r c d : Nat} (h : SQ ad μ T r c) (hg : ∀ k, k < d → 24 < (c + k) / 12 + (c + k) % 12 + 1) : SQ ad μ T r (c + d) := by
  obtain ⟨a1, a2, a3, a4, a5⟩ := h
  refine ⟨?_, ?_, ?_, a4, fun i hi => ?_⟩
  · rw [a1, ctP_gap d (fun k hk => slP_n (hg k hk))]
  · rw [a2, lkl_gap d hg]
  · rw [a3, lkl_gap d hg]
  · rw [a5 i hi, ctP_gap d (fun k hk => cvP_f (slP_n (hg k hk)))]
theorem c_wrongRows {N : Nat} (hN : 1099511627776 ≤ N) {Λ : Lay} {ad : Nat → Nat} {μ : Mem} (hQ : LyQ Λ ad) {T : Nat → Int32} {r b e : Nat} (hb : b + (e + 1) ≤ 24) (he : e < 12) (hr : r ≤ 20) (hT : ∀ k, k < r → u3 (T (2 * k)) < 24 ∧ u3 (T (2 * k + 1)) < 2) (hq : SQ0 ad μ T r) : m_X8_wrongRows N Λ μ (ad 171) (n3 b) (n3 (e + 1)) = some (n3 (wrg T (12 * b + e) r)) := by
  obtain ⟨q1, q2, q3⟩ := hq
  unfold m_X8_wrongRows lp_X8_wrongRows_5
  refine cw_it (fun i => (n3 (wrg T (12 * b + e) i), n3 i)) r rfl (fun i hi k => ?_) (fun k => ?_) (by omega)
  · have a2 := q2 i hi
    have a3 := q3 i hi
    have a4 := hT i hi
    have w1 := wrg_le T (12 * b + e) i
    have x1 : (12 * b + e) / 12 = b := by omega
    have x2 : (12 * b + e) % 12 = e := by omega
    have hc : ∀ w, w = wiN (12 * b + e) (u3 (T (2 * i))) → jn_X8_wrongRows_43 N Λ μ k (ad 171) (n3 b) (n3 (e + 1)) (n3 (wrg T (12 * b + e) i)) (n3 i) (n3 w) = k (n3 (wrg T (12 * b + e) (i + 1)), n3 (i + 1)) := fun w hw => by
      have hw1 : w ≤ 1 := by rw [hw]; exact bb_le _
      by_cases hm : wiN (12 * b + e) (u3 (T (2 * i))) = u3 (T (2 * i + 1))
      · rw [wrg_t hm]
        rw [← hw] at hm
        simp (disch := omega) only [jn_X8_wrongRows_43, jn_X8_wrongRows_60, ↓ob (hQ.1), ↓ob (hQ.2.1), ↓ob (hQ.2.2.1), ↓ob (hQ.2.2.2.1), hQ.2.2.2.2.1, hQ.2.2.2.2.2.1, hQ.2.2.2.2.2.2.1, hQ.2.2.2.2.2.2.2.1, ↓ob (hQ.2.2.2.2.2.2.2.2.1), ↓ob (hQ.2.2.2.2.2.2.2.2.2.1), ↓ob (hQ.2.2.2.2.2.2.2.2.2.2.1), hQ.2.2.2.2.2.2.2.2.2.2.2.1, hQ.2.2.2.2.2.2.2.2.2.2.2.2.1, hQ.2.2.2.2.2.2.2.2.2.2.2.2.2.1, ↓ob (hQ.2.2.2.2.2.2.2.2.2.2.2.2.2.2.1), ↓ob (hQ.2.2.2.2.2.2.2.2.2.2.2.2.2.2.2.1), ↓ob (hQ.2.2.2.2.2.2.2.2.2.2.2.2.2.2.2.2.1), ↓ob (hQ.2.2.2.2.2.2.2.2.2.2.2.2.2.2.2.2.2.1), ↓ob (hQ.2.2.2.2.2.2.2.2.2.2.2.2.2.2.2.2.2.2.1), hQ.2.2.2.2.2.2.2.2.2.2.2.2.2.2.2.2.2.2.2.1, hQ.2.2.2.2.2.2.2.2.2.2.2.2.2.2.2.2.2.2.2.2.1, hQ.2.2.2.2.2.2.2.2.2.2.2.2.2.2.2.2.2.2.2.2.2.1, hQ.2.2.2.2.2.2.2.2.2.2.2.2.2.2.2.2.2.2.2.2.2.2.1, hQ.2.2.2.2.2.2.2.2.2.2.2.2.2.2.2.2.2.2.2.2.2.2.2, a3, hm, ↓lt_e, ↓gd_e, ↓Option.bind_some, ↓reduceIte, if_true, if_false, if_pT, if_nF, decide_true, Bool.not_true, Bool.not_false, not_true_eq_false, not_false_eq_true, Bool.false_eq_true, Bool.true_eq_false, eq_self, n3_lit, n3_add, n3_mul, n3_sub, n3_tn, n3_le_t, n3_le_f, n3_lt_t, n3_lt_f, n3_eq_f, n3_eq_t, n3_inb, n3_rem, n3_div, n3_zb, bb_0, bb_1, zb_bb, bb_T, bb_F, n3_dec, n3_m1, n3_eqm, n3_eqmt, n3_ltm, n3_mlt, n3_lem, n3_mle, n3_neg_lt, n3_nlt_neg, n3_nle_neg, n3_neg_le]
      · rw [wrg_f hm]
        rw [← hw] at hm
        simp (disch := omega) only [jn_X8_wrongRows_43, jn_X8_wrongRows_60, ↓ob (hQ.1), ↓ob (hQ.2.1), ↓ob (hQ.2.2.1), ↓ob (hQ.2.2.2.1), hQ.2.2.2.2.1, hQ.2.2.2.2.2.1, hQ.2.2.2.2.2.2.1, hQ.2.2.2.2.2.2.2.1, ↓ob (hQ.2.2.2.2.2.2.2.2.1), ↓ob (hQ.2.2.2.2.2.2.2.2.2.1), ↓ob (hQ.2.2.2.2.2.2.2.2.2.2.1), hQ.2.2.2.2.2.2.2.2.2.2.2.1, hQ.2.2.2.2.2.2.2.2.2.2.2.2.1, hQ.2.2.2.2.2.2.2.2.2.2.2.2.2.1, ↓ob (hQ.2.2.2.2.2.2.2.2.2.2.2.2.2.2.1), ↓ob (hQ.2.2.2.2.2.2.2.2.2.2.2.2.2.2.2.1), ↓ob (hQ.2.2.2.2.2.2.2.2.2.2.2.2.2.2.2.2.1), ↓ob (hQ.2.2.2.2.2.2.2.2.2.2.2.2.2.2.2.2.2.1), ↓ob (hQ.2.2.2.2.2.2.2.2.2.2.2.2.2.2.2.2.2.2.1), hQ.2.2.2.2.2.2.2.2.2.2.2.2.2.2.2.2.2.2.2.1, hQ.2.2.2.2.2.2.2.2.2.2.2.2.2.2.2.2.2.2.2.2.1, hQ.2.2.2.2.2.2.2.2.2.2.2.2.2.2.2.2.2.2.2.2.2.1, hQ.2.2.2.2.2.2.2.2.2.2.2.2.2.2.2.2.2.2.2.2.2.2.1, hQ.2.2.2.2.2.2.2.2.2.2.2.2.2.2.2.2.2.2.2.2.2.2.2, a3, hm, ↓lt_e, ↓gd_e, ↓Option.bind_some, ↓reduceIte, if_true, if_false, if_pT, if_nF, decide_true, Bool.not_true, Bool.not_false, not_true_eq_false, not_false_eq_true, Bool.false_eq_true, Bool.true_eq_false, eq_self, n3_lit, n3_add, n3_mul, n3_sub, n3_tn, n3_le_t, n3_le_f, n3_lt_t, n3_lt_f, n3_eq_f, n3_eq_t, n3_inb, n3_rem, n3_div, n3_zb, bb_0, bb_1, zb_bb, bb_T, bb_F, n3_dec, n3_m1, n3_eqm, n3_eqmt, n3_ltm, n3_mlt, n3_lem, n3_mle, n3_neg_lt, n3_nlt_neg, n3_nle_neg, n3_neg_le]
    show bd_X8_wrongRows_5 N Λ μ k (ad 171) (n3 b) (n3 (e + 1)) (n3 (wrg T (12 * b + e) i)) (n3 i) = _
    by_cases c1 : u3 (T (2 * i)) < b
    · have hw : 0 = wiN (12 * b + e) (u3 (T (2 * i))) := by unfold wiN; rw [x1, x2, bb_f (by omega)]
      rw [← hc 0 hw]
      simp (disch := omega) only [bd_X8_wrongRows_5, jn_X8_wrongRows_42, q1, ↓ob (hQ.1), ↓ob (hQ.2.1), ↓ob (hQ.2.2.1), ↓ob (hQ.2.2.2.1), hQ.2.2.2.2.1, hQ.2.2.2.2.2.1, hQ.2.2.2.2.2.2.1, hQ.2.2.2.2.2.2.2.1, ↓ob (hQ.2.2.2.2.2.2.2.2.1), ↓ob (hQ.2.2.2.2.2.2.2.2.2.1), ↓ob (hQ.2.2.2.2.2.2.2.2.2.2.1), hQ.2.2.2.2.2.2.2.2.2.2.2.1, hQ.2.2.2.2.2.2.2.2.2.2.2.2.1, hQ.2.2.2.2.2.2.2.2.2.2.2.2.2.1, ↓ob (hQ.2.2.2.2.2.2.2.2.2.2.2.2.2.2.1), ↓ob (hQ.2.2.2.2.2.2.2.2.2.2.2.2.2.2.2.1), ↓ob (hQ.2.2.2.2.2.2.2.2.2.2.2.2.2.2.2.2.1), ↓ob (hQ.2.2.2.2.2.2.2.2.2.2.2.2.2.2.2.2.2.1), ↓ob (hQ.2.2.2.2.2.2.2.2.2.2.2.2.2.2.2.2.2.2.1), hQ.2.2.2.2.2.2.2.2.2.2.2.2.2.2.2.2.2.2.2.1, hQ.2.2.2.2.2.2.2.2.2.2.2.2.2.2.2.2.2.2.2.2.1, hQ.2.2.2.2.2.2.2.2.2.2.2.2.2.2.2.2.2.2.2.2.2.1, hQ.2.2.2.2.2.2.2.2.2.2.2.2.2.2.2.2.2.2.2.2.2.2.1, hQ.2.2.2.2.2.2.2.2.2.2.2.2.2.2.2.2.2.2.2.2.2.2.2, a2, ↓lt_e, ↓gd_e, ↓Option.bind_some, ↓reduceIte, if_true, if_false, if_pT, if_nF, decide_true, Bool.not_true, Bool.not_false, not_true_eq_false, not_false_eq_true, Bool.false_eq_true, Bool.true_eq_false, eq_self, n3_lit, n3_add, n3_mul, n3_sub, n3_tn, n3_le_t, n3_le_f, n3_lt_t, n3_lt_f, n3_eq_f, n3_eq_t, n3_inb, n3_rem, n3_div, n3_zb, bb_0, bb_1, zb_bb, bb_T, bb_F, n3_dec, n3_m1, n3_eqm, n3_eqmt, n3_ltm, n3_mlt, n3_lem, n3_mle, n3_neg_lt, n3_nlt_neg, n3_nle_neg, n3_neg_le]
    · by_cases c2 : b + (e + 1) ≤ u3 (T (2 * i))
      · have hw : 0 = wiN (12 * b + e) (u3 (T (2 * i))) := by unfold wiN; rw [x1, x2, bb_f (by omega)]
        rw [← hc 0 hw]
        simp (disch := omega) only [bd_X8_wrongRows_5, jn_X8_wrongRows_42, q1, ↓ob (hQ.1), ↓ob (hQ.2.1), ↓ob (hQ.2.2.1), ↓ob (hQ.2.2.2.1), hQ.2.2.2.2.1, hQ.2.2.2.2.2.1, hQ.2.2.2.2.2.2.1, hQ.2.2.2.2.2.2.2.1, ↓ob (hQ.2.2.2.2.2.2.2.2.1), ↓ob (hQ.2.2.2.2.2.2.2.2.2.1), ↓ob (hQ.2.2.2.2.2.2.2.2.2.2.1), hQ.2.2.2.2.2.2.2.2.2.2.2.1, hQ.2.2.2.2.2.2.2.2.2.2.2.2.1, hQ.2.2.2.2.2.2.2.2.2.2.2.2.2.1, ↓ob (hQ.2.2.2.2.2.2.2.2.2.2.2.2.2.2.1), ↓ob (hQ.2.2.2.2.2.2.2.2.2.2.2.2.2.2.2.1), ↓ob (hQ.2.2.2.2.2.2.2.2.2.2.2.2.2.2.2.2.1), ↓ob (hQ.2.2.2.2.2.2.2.2.2.2.2.2.2.2.2.2.2.1), ↓ob (hQ.2.2.2.2.2.2.2.2.2.2.2.2.2.2.2.2.2.2.1), hQ.2.2.2.2.2.2.2.2.2.2.2.2.2.2.2.2.2.2.2.1, hQ.2.2.2.2.2.2.2.2.2.2.2.2.2.2.2.2.2.2.2.2.1, hQ.2.2.2.2.2.2.2.2.2.2.2.2.2.2.2.2.2.2.2.2.2.1, hQ.2.2.2.2.2.2.2.2.2.2.2.2.2.2.2.2.2.2.2.2.2.2.1, hQ.2.2.2.2.2.2.2.2.2.2.2.2.2.2.2.2.2.2.2.2.2.2.2, a2, ↓lt_e, ↓gd_e, ↓Option.bind_some, ↓reduceIte, if_true, if_false, if_pT, if_nF, decide_true, Bool.not_true, Bool.not_false, not_true_eq_false, not_false_eq_true, Bool.false_eq_true, Bool.true_eq_false, eq_self, n3_lit, n3_add, n3_mul, n3_sub, n3_tn, n3_le_t, n3_le_f, n3_lt_t, n3_lt_f, n3_eq_f, n3_eq_t, n3_inb, n3_rem, n3_div, n3_zb, bb_0, bb_1, zb_bb, bb_T, bb_F, n3_dec, n3_m1, n3_eqm, n3_eqmt, n3_ltm, n3_mlt, n3_lem, n3_mle, n3_neg_lt, n3_nlt_neg, n3_nle_neg, n3_neg_le]
      · have hw : 1 = wiN (12 * b + e) (u3 (T (2 * i))) := by unfold wiN; rw [x1, x2, bb_t (by omega)]
        rw [← hc 1 hw]
        simp (disch := omega) only [bd_X8_wrongRows_5, q1, ↓ob (hQ.1), ↓ob (hQ.2.1), ↓ob (hQ.2.2.1), ↓ob (hQ.2.2.2.1), hQ.2.2.2.2.1, hQ.2.2.2.2.2.1, hQ.2.2.2.2.2.2.1, hQ.2.2.2.2.2.2.2.1, ↓ob (hQ.2.2.2.2.2.2.2.2.1), ↓ob (hQ.2.2.2.2.2.2.2.2.2.1), ↓ob (hQ.2.2.2.2.2.2.2.2.2.2.1), hQ.2.2.2.2.2.2.2.2.2.2.2.1, hQ.2.2.2.2.2.2.2.2.2.2.2.2.1, hQ.2.2.2.2.2.2.2.2.2.2.2.2.2.1, ↓ob (hQ.2.2.2.2.2.2.2.2.2.2.2.2.2.2.1), ↓ob (hQ.2.2.2.2.2.2.2.2.2.2.2.2.2.2.2.1), ↓ob (hQ.2.2.2.2.2.2.2.2.2.2.2.2.2.2.2.2.1), ↓ob (hQ.2.2.2.2.2.2.2.2.2.2.2.2.2.2.2.2.2.1), ↓ob (hQ.2.2.2.2.2.2.2.2.2.2.2.2.2.2.2.2.2.2.1), hQ.2.2.2.2.2.2.2.2.2.2.2.2.2.2.2.2.2.2.2.1, hQ.2.2.2.2.2.2.2.2.2.2.2.2.2.2.2.2.2.2.2.2.1, hQ.2.2.2.2.2.2.2.2.2.2.2.2.2.2.2.2.2.2.2.2.2.1, hQ.2.2.2.2.2.2.2.2.2.2.2.2.2.2.2.2.2.2.2.2.2.2.1, hQ.2.2.2.2.2.2.2.2.2.2.2.2.2.2.2.2.2.2.2.2.2.2.2, a2, ↓lt_e, ↓gd_e, ↓Option.bind_some, ↓reduceIte, if_true, if_false, if_pT, if_nF, decide_true, Bool.not_true, Bool.not_false, not_true_eq_false, not_false_eq_true, Bool.false_eq_true, Bool.true_eq_false, eq_self, n3_lit, n3_add, n3_mul, n3_sub, n3_tn, n3_le_t, n3_le_f, n3_lt_t, n3_lt_f, n3_eq_f, n3_eq_t, n3_inb, n3_rem, n3_div, n3_zb, bb_0, bb_1, zb_bb, bb_T, bb_F, n3_dec, n3_m1, n3_eqm, n3_eqmt, n3_ltm, n3_mlt, n3_lem, n3_mle, n3_neg_lt, n3_nlt_neg, n3_nle_neg, n3_neg_le]
  · simp (disch := omega) only [bd_X8_wrongRows_5, q1, ↓lt_e, ↓gd_e, ↓Option.bind_some, ↓reduceIte, if_true, if_false, if_pT, if_nF, decide_true, Bool.not_true, Bool.not_false, not_true_eq_false, not_false_eq_true, Bool.false_eq_true, Bool.true_eq_false, eq_self, n3_lit, n3_add, n3_mul, n3_sub, n3_tn, n3_le_t, n3_le_f, n3_lt_t, n3_lt_f, n3_eq_f, n3_eq_t, n3_inb, n3_rem, n3_div, n3_zb, bb_0, bb_1, zb_bb, bb_T, bb_F, n3_dec, n3_m1, n3_eqm, n3_eqmt, n3_ltm, n3_mlt, n3_lem, n3_mle, n3_neg_lt, n3_nlt_neg, n3_nle_neg, n3_neg_le]
theorem c_cover {N : Nat} (hN : 1099511627776 ≤ N) {Λ : Lay} {ad : Nat → Nat} {μ : Mem} (hj : Inj ad) (hQ : LyQ Λ ad) {b e : Nat} (hb : b + (e + 1) ≤ 24) {cn : Nat → Nat} (hc : ∀ i, i < 24 → μ.1 (ad 174) i = n3 (cn i)) : ∃ μ', jn_X8_weigh_48 N Λ μ (ad 171) (n3 b) (n3 (e + 1)) = some μ' ∧ (∀ i, i < 24 → μ'.1 (ad 174) i = n3 (cn i + if b ≤ i ∧ i < b + (e + 1) then 1 else 0)) ∧ Fr ad (fun i => i = 174) μ μ' := by
  unfold jn_X8_weigh_48 lp_X8_weigh_51
  refine cw_iv (P := fun d s => ∃ μ1 : Mem, s = (n3 (b + d), μ1) ∧ (∀ i, i < 24 → μ1.1 (ad 174) i = n3 (cn i + if b ≤ i ∧ i < b + d then 1 else 0)) ∧ Fr ad (fun i => i = 174) μ μ1) (Q := fun X => ∃ μ', X = some μ' ∧ (∀ i, i < 24 → μ'.1 (ad 174) i = n3 (cn i + if b ≤ i ∧ i < b + (e + 1) then 1 else 0)) ∧ Fr ad (fun i => i = 174) μ μ') (e + 1) ⟨μ, rfl, fun i hi => by rw [if_neg (fun h => by omega), Nat.add_zero]; exact hc i hi, Fr.refl μ⟩ (fun d hd s hs => ?_) (fun s hs => ?_) (show e + 1 < N by omega)
  · obtain ⟨μ1, rfl, hr, hf⟩ := hs
    left
    have a1 := hr (b + d) (by omega)
    rw [if_neg (by omega), Nat.add_zero] at a1
    refine ⟨_, ⟨mset μ1 (ad 174) (b + d) (n3 (cn (b + d) + 1)), rfl, fun i hi => ?_, hf.set hj (by rfl)⟩, fun k => ?_⟩
    · by_cases e1 : i = b + d
      · rw [e1, mse, if_pos (by omega)]
      · rw [msn e1, hr i hi]
        by_cases e2 : b ≤ i ∧ i < b + d
        · rw [if_pos e2, if_pos (by omega)]
        · rw [if_neg e2, if_neg (by omega)]
    · simp (disch := omega) only [bd_X8_weigh_51, ↓ob (hQ.1), ↓ob (hQ.2.1), ↓ob (hQ.2.2.1), ↓ob (hQ.2.2.2.1), hQ.2.2.2.2.1, hQ.2.2.2.2.2.1, hQ.2.2.2.2.2.2.1, hQ.2.2.2.2.2.2.2.1, ↓ob (hQ.2.2.2.2.2.2.2.2.1), ↓ob (hQ.2.2.2.2.2.2.2.2.2.1), ↓ob (hQ.2.2.2.2.2.2.2.2.2.2.1), hQ.2.2.2.2.2.2.2.2.2.2.2.1, hQ.2.2.2.2.2.2.2.2.2.2.2.2.1, hQ.2.2.2.2.2.2.2.2.2.2.2.2.2.1, ↓ob (hQ.2.2.2.2.2.2.2.2.2.2.2.2.2.2.1), ↓ob (hQ.2.2.2.2.2.2.2.2.2.2.2.2.2.2.2.1), ↓ob (hQ.2.2.2.2.2.2.2.2.2.2.2.2.2.2.2.2.1), ↓ob (hQ.2.2.2.2.2.2.2.2.2.2.2.2.2.2.2.2.2.1), ↓ob (hQ.2.2.2.2.2.2.2.2.2.2.2.2.2.2.2.2.2.2.1), hQ.2.2.2.2.2.2.2.2.2.2.2.2.2.2.2.2.2.2.2.1, hQ.2.2.2.2.2.2.2.2.2.2.2.2.2.2.2.2.2.2.2.2.1, hQ.2.2.2.2.2.2.2.2.2.2.2.2.2.2.2.2.2.2.2.2.2.1, hQ.2.2.2.2.2.2.2.2.2.2.2.2.2.2.2.2.2.2.2.2.2.2.1, hQ.2.2.2.2.2.2.2.2.2.2.2.2.2.2.2.2.2.2.2.2.2.2.2, a1, ↓lt_e, ↓gd_e, ↓Option.bind_some, ↓reduceIte, if_true, if_false, if_pT, if_nF, decide_true, Bool.not_true, Bool.not_false, not_true_eq_false, not_false_eq_true, Bool.false_eq_true, Bool.true_eq_false, eq_self, n3_lit, n3_add, n3_mul, n3_sub, n3_tn, n3_le_t, n3_le_f, n3_lt_t, n3_lt_f, n3_eq_f, n3_eq_t, n3_inb, n3_rem, n3_div, n3_zb, bb_0, bb_1, zb_bb, bb_T, bb_F, n3_dec, n3_m1, n3_eqm, n3_eqmt, n3_ltm, n3_mlt, n3_lem, n3_mle, n3_neg_lt, n3_nlt_neg, n3_nle_neg, n3_neg_le, Nat.add_assoc]
  · obtain ⟨μ1, rfl, hr, hf⟩ := hs
    refine ⟨_, ⟨μ1, rfl, hr, hf⟩, fun k => ?_⟩
    simp (disch := omega) only [bd_X8_weigh_51, jn_X8_weigh_83, ↓lt_e, ↓gd_e, ↓Option.bind_some, ↓reduceIte, if_true, if_false, if_pT, if_nF, decide_true, Bool.not_true, Bool.not_false, not_true_eq_false, not_false_eq_true, Bool.false_eq_true, Bool.true_eq_false, eq_self, n3_lit, n3_add, n3_mul, n3_sub, n3_tn, n3_le_t, n3_le_f, n3_lt_t, n3_lt_f, n3_eq_f, n3_eq_t, n3_inb, n3_rem, n3_div, n3_zb, bb_0, bb_1, zb_bb, bb_T, bb_F, n3_dec, n3_m1, n3_eqm, n3_eqmt, n3_ltm, n3_mlt, n3_lem, n3_mle, n3_neg_lt, n3_nlt_neg, n3_nle_neg, n3_neg_le]
theorem c_weigh {N : Nat} (hN : 1099511627776 ≤ N) {Λ : Lay} {ad : Nat → Nat} {μ : Mem} (hj : Inj ad) (hQ : LyQ Λ ad) {T : Nat → Int32} {r b e : Nat} (hb : b + (e + 1) ≤ 24) (he : e < 12) (hr : r ≤ 20) (hT : ∀ k, k < r → u3 (T (2 * k)) < 24 ∧ u3 (T (2 * k + 1)) < 2) (hq : SQ ad μ T r (12 * b + e)) : ∃ μ', m_X8_weigh N Λ μ (ad 171) (n3 b) (n3 (e + 1)) = some μ' ∧ SQ ad μ' T r (12 * b + e + 1) ∧ Fr ad (fun i => i = 171 ∨ i = 174) μ μ' := by
  obtain ⟨a1, a2, a3, a4, a5⟩ := hq
  have cw' := c_wrongRows hN hQ hb he hr hT a4
  have x1 : (12 * b + e) / 12 = b := by omega
  have x2 : (12 * b + e) % 12 = e := by omega
  have hle := ctP_le (slP T r) (12 * b + e)
  have hwl := wrg_le T (12 * b + e) r
  have hl2 := lkl_le T r (12 * b + e)
  have hv : (12 * b + e) / 12 + (12 * b + e) % 12 + 1 ≤ 24 := by omega
  by_cases hw : wrg T (12 * b + e) r < 2
  · have hs := slP_t hv hw
    have hfirst : ∃ μ3, m_X8_weigh N Λ μ (ad 171) (n3 b) (n3 (e + 1)) = jn_X8_weigh_48 N Λ μ3 (ad 171) (n3 b) (n3 (e + 1)) ∧ μ3.1 (ad 171) 0 = n3 (ctP (slP T r) (12 * b + e + 1)) ∧ μ3.1 (ad 171) 1 = n3 (lkl T r (12 * b + e + 1)).1 ∧ μ3.1 (ad 171) 2 = n3 (lkl T r (12 * b + e + 1)).2 ∧ μ3.1 (ad 171) 3 = μ.1 (ad 171) 3 ∧ Fr ad (fun i => i = 171) μ μ3 := by
      have y2 : (mset μ (ad 171) 0 (n3 (ctP (slP T r) (12 * b + e) + 1))).1 (ad 171) 2 = n3 (lkl T r (12 * b + e)).2 := by rw [msn (by omega)]; exact a3
      by_cases hl : wrg T (12 * b + e) r < (lkl T r (12 * b + e)).2
      · rw [lkl_t hv hl, ctP_t hs]
        refine ⟨mset (mset (mset μ (ad 171) 0 (n3 (ctP (slP T r) (12 * b + e) + 1))) (ad 171) 2 (n3 (wrg T (12 * b + e) r))) (ad 171) 1 (n3 (12 * b + e)), ?_, by rw [msn (by omega), msn (by omega), mse], mse _ _ _ _, by rw [msn (by omega), mse], by rw [msn (by omega), msn (by omega), msn (by omega)], (((Fr.refl μ).set hj (by rfl)).set hj (by rfl)).set hj (by rfl)⟩
        have x3 : 12 * b + (e + 1) - 1 = 12 * b + e := by omega
        simp (disch := omega) only [m_X8_weigh, cw', a1, y2, x3, ↓lt_e, ↓gd_e, ↓Option.bind_some, ↓reduceIte, if_true, if_false, if_pT, if_nF, decide_true, Bool.not_true, Bool.not_false, not_true_eq_false, not_false_eq_true, Bool.false_eq_true, Bool.true_eq_false, eq_self, n3_lit, n3_add, n3_mul, n3_sub, n3_tn, n3_le_t, n3_le_f, n3_lt_t, n3_lt_f, n3_eq_f, n3_eq_t, n3_inb, n3_rem, n3_div, n3_zb, bb_0, bb_1, zb_bb, bb_T, bb_F, n3_dec, n3_m1, n3_eqm, n3_eqmt, n3_ltm, n3_mlt, n3_lem, n3_mle, n3_neg_lt, n3_nlt_neg, n3_nle_neg, n3_neg_le]
      · rw [lkl_f hl, ctP_t hs]
        refine ⟨mset μ (ad 171) 0 (n3 (ctP (slP T r) (12 * b + e) + 1)), ?_, mse _ _ _ _, by rw [msn (by omega)]; exact a2, y2, msn (by omega), (Fr.refl μ).set hj (by rfl)⟩
        simp (disch := omega) only [m_X8_weigh, cw', a1, y2, ↓lt_e, ↓gd_e, ↓Option.bind_some, ↓reduceIte, if_true, if_false, if_pT, if_nF, decide_true, Bool.not_true, Bool.not_false, not_true_eq_false, not_false_eq_true, Bool.false_eq_true, Bool.true_eq_false, eq_self, n3_lit, n3_add, n3_mul, n3_sub, n3_tn, n3_le_t, n3_le_f, n3_lt_t, n3_lt_f, n3_eq_f, n3_eq_t, n3_inb, n3_rem, n3_div, n3_zb, bb_0, bb_1, zb_bb, bb_T, bb_F, n3_dec, n3_m1, n3_eqm, n3_eqmt, n3_ltm, n3_mlt, n3_lem, n3_mle, n3_neg_lt, n3_nlt_neg, n3_nle_neg, n3_neg_le]
    obtain ⟨μ3, e3, g0, g1, g2, g3, f3⟩ := hfirst
    obtain ⟨μ4, e4, g4, f4⟩ := c_cover hN hj hQ (μ := μ3) hb (cn := fun i => ctP (cvP T r i) (12 * b + e)) (fun i hi => by rw [(f3 174 (by omega)).1]; exact a5 i hi)
    have q1 := (f4 171 (by omega)).1
    refine ⟨μ4, by rw [e3, e4], ⟨by rw [q1]; exact g0, by rw [q1]; exact g1, by rw [q1]; exact g2, (a4.fr f3 g3 (by omega) (by omega)).fr f4 (by rw [q1]) (by omega) (by omega), fun i hi => ?_⟩, (f3.mono (fun i hi => by omega)).trans (f4.mono (fun i hi => by omega))⟩
    rw [g4 i hi]
    by_cases hc : b ≤ i ∧ i < b + (e + 1)
    · rw [if_pos hc, ctP_t (cvP_t hs (by rw [x1, x2]; exact hc))]
    · rw [if_neg hc, ctP_f (cvP_n (by rw [x1, x2]; exact hc))]; rfl
  · have hs := slP_f (l := 12 * b + e) hw
    refine ⟨μ, ?_, ⟨by rw [a1, ctP_f hs], by rw [a2, lkl_f (by omega)], by rw [a3, lkl_f (by omega)], a4, fun i hi => by rw [a5 i hi, ctP_f (cvP_f hs)]⟩, Fr.refl μ⟩
    simp (disch := omega) only [m_X8_weigh, cw', ↓lt_e, ↓gd_e, ↓Option.bind_some, ↓reduceIte, if_true, if_false, if_pT, if_nF, decide_true, Bool.not_true, Bool.not_false, not_true_eq_false, not_false_eq_true, Bool.false_eq_true, Bool.true_eq_false, eq_self, n3_lit, n3_add, n3_mul, n3_sub, n3_tn, n3_le_t, n3_le_f, n3_lt_t, n3_lt_f, n3_eq_f, n3_eq_t, n3_inb, n3_rem, n3_div, n3_zb, bb_0, bb_1, zb_bb, bb_T, bb_F, n3_dec, n3_m1, n3_eqm, n3_eqmt, n3_ltm, n3_mlt, n3_lem, n3_mle, n3_neg_lt, n3_nlt_neg, n3_nle_neg, n3_neg_le]

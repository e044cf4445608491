/-! acts: figures, hours, gate, blocks -/
theorem thn_T {α : Type} [Decidable True] {e t : Option α} : thn True e t = t := if_pos trivial
theorem thn_0 {α : Type} {e t : Option α} : thn ((0 : Nat) = 0) e t = t := rfl
theorem thn_1 {α : Type} {e t : Option α} : thn ((1 : Nat) = 0) e t = e := rfl
theorem thn_2 {α : Type} {e t : Option α} : thn ((2 : Nat) = 0) e t = e := rfl
theorem thn_3 {α : Type} {e t : Option α} : thn ((3 : Nat) = 0) e t = e := rfl
theorem thn_4 {α : Type} {e t : Option α} : thn ((4 : Nat) = 0) e t = e := rfl
theorem thn_5 {α : Type} {e t : Option α} : thn ((5 : Nat) = 0) e t = e := rfl
theorem r_isNow {N : Nat} (hN : 1099511627776 ≤ N) {Λ : Lay} {ad : Nat → Nat} {μ : Mem} {F : Nat → Nat} {m : Nat} {A : Nat → Nat → Nat} {b : Nat} {J : Nat → Nat} {T : Nat → Int32} {n : Nat} {f : Int32} (hY : Ly Λ ad) (h : RR ad μ F m A b J T n f) (ho : Ok F m A b J T n)  (k v : Nat) (hk : k < 1222) : ∃ μ', m_X12_isNow N Λ μ (ad 181) (n3 k) (n3 v) = some (n3 (F k), μ') ∧ RR ad μ' (up F k v) (min (m + 1) 12) (rmA F A) b J T n f ∧ μ'.1 (ad 181) 0 = μ.1 (ad 181) 0 ∧ Fr ad (fun i => 181 ≤ i ∧ i < 200) μ μ' := by
  have hR := hY.2.1
  obtain ⟨μ1, e1, h1, t1, f1⟩ := r_rem hN hY h ho
  have hW1 := h1.1
  refine ⟨mset μ1 (ad 182) k (n3 v), ?_, h1.up hY.1 k v, by rw [mso hY.1 (by omega)]; exact t1, f1.set hY.1 (by omega)⟩
  simp (disch := omega) only [m_X12_isNow, e1, ↓ob (hR.1), ↓ob (hR.2.1), ↓ob (hR.2.2.1), ↓ob (hR.2.2.2.1), ↓ob (hR.2.2.2.2.1), ↓ob (hR.2.2.2.2.2.1), ↓ob (hR.2.2.2.2.2.2.1), ↓ob (hR.2.2.2.2.2.2.2.1), ↓ob (hR.2.2.2.2.2.2.2.2.1), ↓ob (hR.2.2.2.2.2.2.2.2.2.1), ↓ob (hR.2.2.2.2.2.2.2.2.2.2.1), ↓ob (hR.2.2.2.2.2.2.2.2.2.2.2.1), ↓ob (hR.2.2.2.2.2.2.2.2.2.2.2.2.1), ↓ob (hR.2.2.2.2.2.2.2.2.2.2.2.2.2.1), ↓ob (hR.2.2.2.2.2.2.2.2.2.2.2.2.2.2.1), ↓ob (hR.2.2.2.2.2.2.2.2.2.2.2.2.2.2.2.1), ↓ob (hR.2.2.2.2.2.2.2.2.2.2.2.2.2.2.2.2.1), ↓ob (hR.2.2.2.2.2.2.2.2.2.2.2.2.2.2.2.2.2.1), hR.2.2.2.2.2.2.2.2.2.2.2.2.2.2.2.2.2.2.1, hR.2.2.2.2.2.2.2.2.2.2.2.2.2.2.2.2.2.2.2.1, hR.2.2.2.2.2.2.2.2.2.2.2.2.2.2.2.2.2.2.2.2.1, hR.2.2.2.2.2.2.2.2.2.2.2.2.2.2.2.2.2.2.2.2.2.1, hR.2.2.2.2.2.2.2.2.2.2.2.2.2.2.2.2.2.2.2.2.2.2.1, hR.2.2.2.2.2.2.2.2.2.2.2.2.2.2.2.2.2.2.2.2.2.2.2.1, hR.2.2.2.2.2.2.2.2.2.2.2.2.2.2.2.2.2.2.2.2.2.2.2.2.1, hR.2.2.2.2.2.2.2.2.2.2.2.2.2.2.2.2.2.2.2.2.2.2.2.2.2.1, hR.2.2.2.2.2.2.2.2.2.2.2.2.2.2.2.2.2.2.2.2.2.2.2.2.2.2.1, hR.2.2.2.2.2.2.2.2.2.2.2.2.2.2.2.2.2.2.2.2.2.2.2.2.2.2.2.1, hR.2.2.2.2.2.2.2.2.2.2.2.2.2.2.2.2.2.2.2.2.2.2.2.2.2.2.2.2.1, hR.2.2.2.2.2.2.2.2.2.2.2.2.2.2.2.2.2.2.2.2.2.2.2.2.2.2.2.2.2.1, hR.2.2.2.2.2.2.2.2.2.2.2.2.2.2.2.2.2.2.2.2.2.2.2.2.2.2.2.2.2.2.1, hR.2.2.2.2.2.2.2.2.2.2.2.2.2.2.2.2.2.2.2.2.2.2.2.2.2.2.2.2.2.2.2.1, hR.2.2.2.2.2.2.2.2.2.2.2.2.2.2.2.2.2.2.2.2.2.2.2.2.2.2.2.2.2.2.2.2.1, hR.2.2.2.2.2.2.2.2.2.2.2.2.2.2.2.2.2.2.2.2.2.2.2.2.2.2.2.2.2.2.2.2.2.1, hR.2.2.2.2.2.2.2.2.2.2.2.2.2.2.2.2.2.2.2.2.2.2.2.2.2.2.2.2.2.2.2.2.2.2.1, hR.2.2.2.2.2.2.2.2.2.2.2.2.2.2.2.2.2.2.2.2.2.2.2.2.2.2.2.2.2.2.2.2.2.2.2, hW1, ↓lt_e, ↓gd_e, ↓Option.bind_some, ↓reduceIte, if_true, if_false, if_pT, if_nF, decide_true, Bool.not_true, Bool.not_false, not_true_eq_false, not_false_eq_true, Bool.false_eq_true, Bool.true_eq_false, eq_self, n3_lit, n3_add, n3_mul, n3_sub, n3_tn, n3_le_t, n3_le_f, n3_lt_t, n3_lt_f, n3_eq_f, n3_eq_t, n3_inb, n3_rem, n3_div, n3_zb, bb_0, bb_1, zb_bb, bb_T, bb_F, n3_dec, n3_m1, n3_eqm, n3_eqmt, n3_ltm, n3_mlt, n3_lem, n3_mle, n3_neg_lt, n3_nlt_neg, n3_nle_neg, n3_neg_le]
theorem C_pumps_t {N : Nat} (hN : 1099511627776 ≤ N) {Λ : Lay} {ad : Nat → Nat} {μ : Mem} {F : Nat → Nat} {m : Nat} {A : Nat → Nat → Nat} {b : Nat} {J : Nat → Nat} {T : Nat → Int32} {n : Nat} {f : Int32} (hY : Ly Λ ad) (h : RC ad μ F m A b J T n f) (ho : Ok F m A b J T n)  (a : Nat) (ha : a ≤ 9) : CT ad μ (m_X11_pumps N Λ μ (ad 0) (n3 a)) 0 (n3 (F 5)) (up F 5 a) (min (m + 1) 12) (rmA F A) b J T n f := by
  have hj := hY.1
  have hP := hY.2.2.1
  have hS := hY.2.2.2.1 3 (Or.inl rfl)
  have hL := hY.2.2.2.2.1 30 (Or.inl rfl)
  have hC := h.1
  have hw := ho.1
  have hl := ho.2.1
  have hb := hw.1; unfold WB at hb
  obtain ⟨μ1, e1, h1, f1⟩ := c_remember (N := N) hY h ho
  have q : μ1.1 (ad 3) 2 = n3 (F 5) := h1.1.2.2.1
  obtain ⟨h2, _⟩ := h1.wr hj hw 5 a (by omega) ⟨by omega, by omega⟩ (by omega) (by omega) 3 2 rfl rfl
  refine ⟨_, ?_, h2, f1.set hj (by omega)⟩
  simp (disch := omega) only [m_X11_pumps, ↓ob (hP.1), ↓ob (hP.2.1), ↓ob (hP.2.2.1), ↓ob (hP.2.2.2.1), ↓ob (hP.2.2.2.2.1), ↓ob (hP.2.2.2.2.2.1), ↓ob (hP.2.2.2.2.2.2.1), ↓ob (hP.2.2.2.2.2.2.2.1), ↓ob (hP.2.2.2.2.2.2.2.2.1), ↓ob (hP.2.2.2.2.2.2.2.2.2.1), ↓ob (hP.2.2.2.2.2.2.2.2.2.2.1), ↓ob (hP.2.2.2.2.2.2.2.2.2.2.2.1), ↓ob (hP.2.2.2.2.2.2.2.2.2.2.2.2.1), ↓ob (hP.2.2.2.2.2.2.2.2.2.2.2.2.2.1), hP.2.2.2.2.2.2.2.2.2.2.2.2.2.2, c_need4, inr_n3, thn_T, thn_0, thn_1, thn_2, thn_3, thn_4, thn_5, e1, q, ↓lt_e, ↓gd_e, ↓Option.bind_some, ↓reduceIte, if_true, if_false, if_pT, if_nF, decide_true, Bool.not_true, Bool.not_false, not_true_eq_false, not_false_eq_true, Bool.false_eq_true, Bool.true_eq_false, eq_self, n3_lit, n3_add, n3_mul, n3_sub, n3_tn, n3_le_t, n3_le_f, n3_lt_t, n3_lt_f, n3_eq_f, n3_eq_t, n3_inb, n3_rem, n3_div, n3_zb, bb_0, bb_1, zb_bb, bb_T, bb_F, n3_dec, n3_m1, n3_eqm, n3_eqmt, n3_ltm, n3_mlt, n3_lem, n3_mle, n3_neg_lt, n3_nlt_neg, n3_nle_neg, n3_neg_le]
theorem C_hands_t {N : Nat} (hN : 1099511627776 ≤ N) {Λ : Lay} {ad : Nat → Nat} {μ : Mem} {F : Nat → Nat} {m : Nat} {A : Nat → Nat → Nat} {b : Nat} {J : Nat → Nat} {T : Nat → Int32} {n : Nat} {f : Int32} (hY : Ly Λ ad) (h : RC ad μ F m A b J T n f) (ho : Ok F m A b J T n)  (a : Nat) (ha : a ≤ 9) : CT ad μ (m_X11_hands N Λ μ (ad 0) (n3 a)) 0 (n3 (F 6)) (up F 6 a) (min (m + 1) 12) (rmA F A) b J T n f := by
  have hj := hY.1
  have hP := hY.2.2.1
  have hS := hY.2.2.2.1 3 (Or.inl rfl)
  have hL := hY.2.2.2.2.1 30 (Or.inl rfl)
  have hC := h.1
  have hw := ho.1
  have hl := ho.2.1
  have hb := hw.1; unfold WB at hb
  obtain ⟨μ1, e1, h1, f1⟩ := c_remember (N := N) hY h ho
  have q : μ1.1 (ad 3) 3 = n3 (F 6) := h1.1.2.2.2.1
  obtain ⟨h2, _⟩ := h1.wr hj hw 6 a (by omega) ⟨by omega, by omega⟩ (by omega) (by omega) 3 3 rfl rfl
  refine ⟨_, ?_, h2, f1.set hj (by omega)⟩
  simp (disch := omega) only [m_X11_hands, ↓ob (hP.1), ↓ob (hP.2.1), ↓ob (hP.2.2.1), ↓ob (hP.2.2.2.1), ↓ob (hP.2.2.2.2.1), ↓ob (hP.2.2.2.2.2.1), ↓ob (hP.2.2.2.2.2.2.1), ↓ob (hP.2.2.2.2.2.2.2.1), ↓ob (hP.2.2.2.2.2.2.2.2.1), ↓ob (hP.2.2.2.2.2.2.2.2.2.1), ↓ob (hP.2.2.2.2.2.2.2.2.2.2.1), ↓ob (hP.2.2.2.2.2.2.2.2.2.2.2.1), ↓ob (hP.2.2.2.2.2.2.2.2.2.2.2.2.1), ↓ob (hP.2.2.2.2.2.2.2.2.2.2.2.2.2.1), hP.2.2.2.2.2.2.2.2.2.2.2.2.2.2, c_need4, inr_n3, thn_T, thn_0, thn_1, thn_2, thn_3, thn_4, thn_5, e1, q, ↓lt_e, ↓gd_e, ↓Option.bind_some, ↓reduceIte, if_true, if_false, if_pT, if_nF, decide_true, Bool.not_true, Bool.not_false, not_true_eq_false, not_false_eq_true, Bool.false_eq_true, Bool.true_eq_false, eq_self, n3_lit, n3_add, n3_mul, n3_sub, n3_tn, n3_le_t, n3_le_f, n3_lt_t, n3_lt_f, n3_eq_f, n3_eq_t, n3_inb, n3_rem, n3_div, n3_zb, bb_0, bb_1, zb_bb, bb_T, bb_F, n3_dec, n3_m1, n3_eqm, n3_eqmt, n3_ltm, n3_mlt, n3_lem, n3_mle, n3_neg_lt, n3_nlt_neg, n3_nle_neg, n3_neg_le]
theorem C_pumps_f {N : Nat} (hN : 1099511627776 ≤ N) {Λ : Lay} {ad : Nat → Nat} {μ : Mem} {F : Nat → Nat} {m : Nat} {A : Nat → Nat → Nat} {b : Nat} {J : Nat → Nat} {T : Nat → Int32} {n : Nat} {f : Int32} (hY : Ly Λ ad) (h : RC ad μ F m A b J T n f) (ho : Ok F m A b J T n)  (x : Int32) (hx : inr x 10 = false) : CT ad μ (m_X11_pumps N Λ μ (ad 0) x) 1 0 F m A b J T n f := by
  refine CT.same h ?_
  simp (disch := omega) only [m_X11_pumps, c_need4, hx, thn_T, thn_0, thn_1, thn_2, thn_3, thn_4, thn_5, ↓lt_e, ↓gd_e, ↓Option.bind_some, ↓reduceIte, if_true, if_false, if_pT, if_nF, decide_true, Bool.not_true, Bool.not_false, not_true_eq_false, not_false_eq_true, Bool.false_eq_true, Bool.true_eq_false, eq_self, n3_lit]
theorem C_hands_f {N : Nat} (hN : 1099511627776 ≤ N) {Λ : Lay} {ad : Nat → Nat} {μ : Mem} {F : Nat → Nat} {m : Nat} {A : Nat → Nat → Nat} {b : Nat} {J : Nat → Nat} {T : Nat → Int32} {n : Nat} {f : Int32} (hY : Ly Λ ad) (h : RC ad μ F m A b J T n f) (ho : Ok F m A b J T n)  (x : Int32) (hx : inr x 10 = false) : CT ad μ (m_X11_hands N Λ μ (ad 0) x) 1 0 F m A b J T n f := by
  refine CT.same h ?_
  simp (disch := omega) only [m_X11_hands, c_need4, hx, thn_T, thn_0, thn_1, thn_2, thn_3, thn_4, thn_5, ↓lt_e, ↓gd_e, ↓Option.bind_some, ↓reduceIte, if_true, if_false, if_pT, if_nF, decide_true, Bool.not_true, Bool.not_false, not_true_eq_false, not_false_eq_true, Bool.false_eq_true, Bool.true_eq_false, eq_self, n3_lit]
theorem R_fig_t {N : Nat} (hN : 1099511627776 ≤ N) {Λ : Lay} {ad : Nat → Nat} {μ : Mem} {F : Nat → Nat} {m : Nat} {A : Nat → Nat → Nat} {b : Nat} {J : Nat → Nat} {T : Nat → Int32} {n : Nat} {f : Int32} (hY : Ly Λ ad) (h : RR ad μ F m A b J T n f) (ho : Ok F m A b J T n)  (k a : Nat) (hk : k < 13) (ha : a ≤ 9) : RV ad μ (m_X12_isFigure N Λ μ (ad 181) (n3 k) (n3 a)) 0 (n3 (F k)) (up F k a) (min (m + 1) 12) (rmA F A) b J T n f := by
  unfold m_X12_isFigure
  refine RV.start hY.1 h (fun μ0 h0 t0 => ?_)
  obtain ⟨μ1, e1, h1, t1, f1⟩ := r_isNow hN hY h0 ho k a (by omega)
  refine ⟨μ1, ?_, t1.trans t0, h1, f1⟩
  simp (disch := omega) only [jn_X12_isFigure_38, jn_X12_isFigure_21, r_in0, inr_n3, r_thr0, e1, ↓lt_e, ↓gd_e, ↓Option.bind_some, ↓reduceIte, if_true, if_false, if_pT, if_nF, decide_true, Bool.not_true, Bool.not_false, not_true_eq_false, not_false_eq_true, Bool.false_eq_true, Bool.true_eq_false, eq_self, n3_lit, n3_add, n3_mul, n3_sub, n3_tn, n3_le_t, n3_le_f, n3_lt_t, n3_lt_f, n3_eq_f, n3_eq_t, n3_inb, n3_rem, n3_div, n3_zb, bb_0, bb_1, zb_bb, bb_T, bb_F, n3_dec, n3_m1, n3_eqm, n3_eqmt, n3_ltm, n3_mlt, n3_lem, n3_mle, n3_neg_lt, n3_nlt_neg, n3_nle_neg, n3_neg_le]
theorem R_fig_f {N : Nat} (hN : 1099511627776 ≤ N) {Λ : Lay} {ad : Nat → Nat} {μ : Mem} {F : Nat → Nat} {m : Nat} {A : Nat → Nat → Nat} {b : Nat} {J : Nat → Nat} {T : Nat → Int32} {n : Nat} {f : Int32} (hY : Ly Λ ad) (h : RR ad μ F m A b J T n f) (ho : Ok F m A b J T n)  (k : Int32) (x : Int32) (hx : inr x 10 = false) : RV ad μ (m_X12_isFigure N Λ μ (ad 181) k x) 1 0 F m A b J T n f := by
  unfold m_X12_isFigure
  refine RV.start hY.1 h (fun μ0 h0 t0 => RV.thrown hY.1 h0 ?_)
  simp (disch := omega) only [jn_X12_isFigure_38, jn_X12_isFigure_21, r_in0, hx, r_thr1, ↓lt_e, ↓gd_e, ↓Option.bind_some, ↓reduceIte, if_true, if_false, if_pT, if_nF, decide_true, Bool.not_true, Bool.not_false, not_true_eq_false, not_false_eq_true, Bool.false_eq_true, Bool.true_eq_false, eq_self, n3_lit, n3_add, n3_mul, n3_sub, n3_tn, n3_le_t, n3_le_f, n3_lt_t, n3_lt_f, n3_eq_f, n3_eq_t, n3_inb, n3_rem, n3_div, n3_zb, bb_0, bb_1, zb_bb, bb_T, bb_F, n3_dec, n3_m1, n3_eqm, n3_eqmt, n3_ltm, n3_mlt, n3_lem, n3_mle, n3_neg_lt, n3_nlt_neg, n3_nle_neg, n3_neg_le]
theorem RV.bind {ad : Nat → Nat} {μ : Mem} {F : Nat → Nat} {m : Nat} {A : Nat → Nat → Nat} {b : Nat} {J : Nat → Nat} {T : Nat → Int32} {n : Nat} {f : Int32} {r : Option (Int32 × Mem)} {t : Nat} {v : Int32} (h : RV ad μ r t v F m A b J T n f) : RV ad μ (r.bind fun r1 => some (r1.1, r1.2)) t v F m A b J T n f := by
  obtain ⟨μ', e, h1⟩ := h
  exact ⟨μ', by rw [e]; rfl, h1⟩
theorem CT.bind {ad : Nat → Nat} {μ : Mem} {F : Nat → Nat} {m : Nat} {A : Nat → Nat → Nat} {b : Nat} {J : Nat → Nat} {T : Nat → Int32} {n : Nat} {f : Int32} {r : Option RX_} {c : Nat} {v : Int32} (h : CT ad μ r c v F m A b J T n f) : CT ad μ (r.bind fun r1 => some r1) c v F m A b J T n f := by
  obtain ⟨μ', e, h1⟩ := h
  exact ⟨μ', by rw [e]; rfl, h1⟩
theorem R_pumps_t {N : Nat} (hN : 1099511627776 ≤ N) {Λ : Lay} {ad : Nat → Nat} {μ : Mem} {F : Nat → Nat} {m : Nat} {A : Nat → Nat → Nat} {b : Nat} {J : Nat → Nat} {T : Nat → Int32} {n : Nat} {f : Int32} (hY : Ly Λ ad) (h : RR ad μ F m A b J T n f) (ho : Ok F m A b J T n)  (a : Nat) (ha : a ≤ 9) : RV ad μ (m_X12_pumps N Λ μ (ad 181) (n3 a)) 0 (n3 (F 5)) (up F 5 a) (min (m + 1) 12) (rmA F A) b J T n f := (R_fig_t hN hY h ho 5 a (by omega) ha).bind
theorem R_hands_t {N : Nat} (hN : 1099511627776 ≤ N) {Λ : Lay} {ad : Nat → Nat} {μ : Mem} {F : Nat → Nat} {m : Nat} {A : Nat → Nat → Nat} {b : Nat} {J : Nat → Nat} {T : Nat → Int32} {n : Nat} {f : Int32} (hY : Ly Λ ad) (h : RR ad μ F m A b J T n f) (ho : Ok F m A b J T n)  (a : Nat) (ha : a ≤ 9) : RV ad μ (m_X12_hands N Λ μ (ad 181) (n3 a)) 0 (n3 (F 6)) (up F 6 a) (min (m + 1) 12) (rmA F A) b J T n f := (R_fig_t hN hY h ho 6 a (by omega) ha).bind
theorem R_pumps_f {N : Nat} (hN : 1099511627776 ≤ N) {Λ : Lay} {ad : Nat → Nat} {μ : Mem} {F : Nat → Nat} {m : Nat} {A : Nat → Nat → Nat} {b : Nat} {J : Nat → Nat} {T : Nat → Int32} {n : Nat} {f : Int32} (hY : Ly Λ ad) (h : RR ad μ F m A b J T n f) (ho : Ok F m A b J T n)  (x : Int32) (hx : inr x 10 = false) : RV ad μ (m_X12_pumps N Λ μ (ad 181) x) 1 0 F m A b J T n f := (R_fig_f hN hY h ho 5 x hx).bind
theorem R_hands_f {N : Nat} (hN : 1099511627776 ≤ N) {Λ : Lay} {ad : Nat → Nat} {μ : Mem} {F : Nat → Nat} {m : Nat} {A : Nat → Nat → Nat} {b : Nat} {J : Nat → Nat} {T : Nat → Int32} {n : Nat} {f : Int32} (hY : Ly Λ ad) (h : RR ad μ F m A b J T n f) (ho : Ok F m A b J T n)  (x : Int32) (hx : inr x 10 = false) : RV ad μ (m_X12_hands N Λ μ (ad 181) x) 1 0 F m A b J T n f := (R_fig_f hN hY h ho 6 x hx).bind
/-! flow -/
theorem C_flow_t {N : Nat} (hN : 1099511627776 ≤ N) {Λ : Lay} {ad : Nat → Nat} {μ : Mem} {F : Nat → Nat} {m : Nat} {A : Nat → Nat → Nat} {b : Nat} {J : Nat → Nat} {T : Nat → Int32} {n : Nat} {f : Int32} (hY : Ly Λ ad) (h : RC ad μ F m A b J T n f) (ho : Ok F m A b J T n)  (k a : Nat) (hk : k < 12) (ha : a ≤ 30) : CT ad μ (m_X11_flow N Λ μ (ad 0) (n3 k) (n3 a)) 0 (n3 (F (13 + k))) (up F (13 + k) a) (min (m + 1) 12) (rmA F A) b J T n f := by
  have hj := hY.1
  have hP := hY.2.2.1
  have hS := hY.2.2.2.1 3 (Or.inl rfl)
  have hL := hY.2.2.2.2.1 30 (Or.inl rfl)
  have hC := h.1
  have hw := ho.1
  have hl := ho.2.1
  have hb := hw.1; unfold WB at hb
  obtain ⟨μ1, e1, h1, f1⟩ := c_remember (N := N) hY h ho
  have q : μ1.1 (ad (3 + 1)) k = n3 (F (13 + k)) := h1.1.2.2.2.2.2.2.2.2.2.2.2.1 k hk
  obtain ⟨h2, _⟩ := h1.wr hj hw (13 + k) a (by omega) (lc_t hk).2.2 (by omega) (by omega) (3 + 1) k (by rw [(lc_t hk).1]) (by rw [(lc_t hk).2.1])
  refine ⟨_, ?_, h2, f1.set hj (by omega)⟩
  simp (disch := omega) only [m_X11_flow, ↓ob (hP.1), ↓ob (hP.2.1), ↓ob (hP.2.2.1), ↓ob (hP.2.2.2.1), ↓ob (hP.2.2.2.2.1), ↓ob (hP.2.2.2.2.2.1), ↓ob (hP.2.2.2.2.2.2.1), ↓ob (hP.2.2.2.2.2.2.2.1), ↓ob (hP.2.2.2.2.2.2.2.2.1), ↓ob (hP.2.2.2.2.2.2.2.2.2.1), ↓ob (hP.2.2.2.2.2.2.2.2.2.2.1), ↓ob (hP.2.2.2.2.2.2.2.2.2.2.2.1), ↓ob (hP.2.2.2.2.2.2.2.2.2.2.2.2.1), ↓ob (hP.2.2.2.2.2.2.2.2.2.2.2.2.2.1), hP.2.2.2.2.2.2.2.2.2.2.2.2.2.2, ↓ob (hS.1), ↓ob (hS.2.1), ↓ob (hS.2.2.1), ↓ob (hS.2.2.2.1), ↓ob (hS.2.2.2.2.1), ↓ob (hS.2.2.2.2.2.1), ↓ob (hS.2.2.2.2.2.2.1), ↓ob (hS.2.2.2.2.2.2.2.1), hS.2.2.2.2.2.2.2.2.1, hS.2.2.2.2.2.2.2.2.2.1, hS.2.2.2.2.2.2.2.2.2.2.1, hS.2.2.2.2.2.2.2.2.2.2.2.1, hS.2.2.2.2.2.2.2.2.2.2.2.2.1, hS.2.2.2.2.2.2.2.2.2.2.2.2.2.1, hS.2.2.2.2.2.2.2.2.2.2.2.2.2.2, c_need3, c_need4, inr_n3, thn_T, thn_0, thn_1, thn_2, thn_3, thn_4, thn_5, e1, q, ↓lt_e, ↓gd_e, ↓Option.bind_some, ↓reduceIte, if_true, if_false, if_pT, if_nF, decide_true, Bool.not_true, Bool.not_false, not_true_eq_false, not_false_eq_true, Bool.false_eq_true, Bool.true_eq_false, eq_self, n3_lit, n3_add, n3_mul, n3_sub, n3_tn, n3_le_t, n3_le_f, n3_lt_t, n3_lt_f, n3_eq_f, n3_eq_t, n3_inb, n3_rem, n3_div, n3_zb, bb_0, bb_1, zb_bb, bb_T, bb_F, n3_dec, n3_m1, n3_eqm, n3_eqmt, n3_ltm, n3_mlt, n3_lem, n3_mle, n3_neg_lt, n3_nlt_neg, n3_nle_neg, n3_neg_le]
theorem C_flow_f1 {N : Nat} (hN : 1099511627776 ≤ N) {Λ : Lay} {ad : Nat → Nat} {μ : Mem} {F : Nat → Nat} {m : Nat} {A : Nat → Nat → Nat} {b : Nat} {J : Nat → Nat} {T : Nat → Int32} {n : Nat} {f : Int32} (hY : Ly Λ ad) (h : RC ad μ F m A b J T n f) (ho : Ok F m A b J T n)  (x y : Int32) (hx : inr x 12 = false) : CT ad μ (m_X11_flow N Λ μ (ad 0) x y) 3 0 F m A b J T n f := by
  refine CT.same h ?_
  simp (disch := omega) only [m_X11_flow, c_need3, hx, thn_T, thn_0, thn_1, thn_2, thn_3, thn_4, thn_5, ↓lt_e, ↓gd_e, ↓Option.bind_some, ↓reduceIte, if_true, if_false, if_pT, if_nF, decide_true, Bool.not_true, Bool.not_false, not_true_eq_false, not_false_eq_true, Bool.false_eq_true, Bool.true_eq_false, eq_self, n3_lit]
theorem C_flow_f2 {N : Nat} (hN : 1099511627776 ≤ N) {Λ : Lay} {ad : Nat → Nat} {μ : Mem} {F : Nat → Nat} {m : Nat} {A : Nat → Nat → Nat} {b : Nat} {J : Nat → Nat} {T : Nat → Int32} {n : Nat} {f : Int32} (hY : Ly Λ ad) (h : RC ad μ F m A b J T n f) (ho : Ok F m A b J T n)  (x y : Int32) (hx : inr x 12 = true) (hy : inr y 31 = false) : CT ad μ (m_X11_flow N Λ μ (ad 0) x y) 1 0 F m A b J T n f := by
  refine CT.same h ?_
  simp (disch := omega) only [m_X11_flow, c_need3, c_need4, hx, hy, thn_T, thn_0, thn_1, thn_2, thn_3, thn_4, thn_5, ↓lt_e, ↓gd_e, ↓Option.bind_some, ↓reduceIte, if_true, if_false, if_pT, if_nF, decide_true, Bool.not_true, Bool.not_false, not_true_eq_false, not_false_eq_true, Bool.false_eq_true, Bool.true_eq_false, eq_self, n3_lit]
theorem R_flow_t {N : Nat} (hN : 1099511627776 ≤ N) {Λ : Lay} {ad : Nat → Nat} {μ : Mem} {F : Nat → Nat} {m : Nat} {A : Nat → Nat → Nat} {b : Nat} {J : Nat → Nat} {T : Nat → Int32} {n : Nat} {f : Int32} (hY : Ly Λ ad) (h : RR ad μ F m A b J T n f) (ho : Ok F m A b J T n)  (k a : Nat) (hk : k < 12) (ha : a ≤ 30) : RV ad μ (m_X12_flow N Λ μ (ad 181) (n3 k) (n3 a)) 0 (n3 (F (13 + k))) (up F (13 + k) a) (min (m + 1) 12) (rmA F A) b J T n f := by
  unfold m_X12_flow
  refine RV.start hY.1 h (fun μ0 h0 t0 => ?_)
  obtain ⟨μ1, e1, h1, t1, f1⟩ := r_isNow hN hY h0 ho (13 + k) a (by omega)
  refine ⟨μ1, ?_, t1.trans t0, h1, f1⟩
  simp (disch := omega) only [jn_X12_flow_64, jn_X12_flow_51, jn_X12_flow_44, jn_X12_flow_21, r_in0, inr_n3, r_thr0, e1, ↓lt_e, ↓gd_e, ↓Option.bind_some, ↓reduceIte, if_true, if_false, if_pT, if_nF, decide_true, Bool.not_true, Bool.not_false, not_true_eq_false, not_false_eq_true, Bool.false_eq_true, Bool.true_eq_false, eq_self, n3_lit, n3_add, n3_mul, n3_sub, n3_tn, n3_le_t, n3_le_f, n3_lt_t, n3_lt_f, n3_eq_f, n3_eq_t, n3_inb, n3_rem, n3_div, n3_zb, bb_0, bb_1, zb_bb, bb_T, bb_F, n3_dec, n3_m1, n3_eqm, n3_eqmt, n3_ltm, n3_mlt, n3_lem, n3_mle, n3_neg_lt, n3_nlt_neg, n3_nle_neg, n3_neg_le]
theorem R_flow_f1 {N : Nat} (hN : 1099511627776 ≤ N) {Λ : Lay} {ad : Nat → Nat} {μ : Mem} {F : Nat → Nat} {m : Nat} {A : Nat → Nat → Nat} {b : Nat} {J : Nat → Nat} {T : Nat → Int32} {n : Nat} {f : Int32} (hY : Ly Λ ad) (h : RR ad μ F m A b J T n f) (ho : Ok F m A b J T n)  (x y : Int32) (hx : inr x 12 = false) : RV ad μ (m_X12_flow N Λ μ (ad 181) x y) 1 0 F m A b J T n f := by
  unfold m_X12_flow
  refine RV.start hY.1 h (fun μ0 h0 t0 => RV.thrown hY.1 h0 ?_)
  simp (disch := omega) only [jn_X12_flow_64, jn_X12_flow_51, jn_X12_flow_44, jn_X12_flow_21, r_in0, hx, r_thr1, ↓lt_e, ↓gd_e, ↓Option.bind_some, ↓reduceIte, if_true, if_false, if_pT, if_nF, decide_true, Bool.not_true, Bool.not_false, not_true_eq_false, not_false_eq_true, Bool.false_eq_true, Bool.true_eq_false, eq_self, n3_lit, n3_add, n3_mul, n3_sub, n3_tn, n3_le_t, n3_le_f, n3_lt_t, n3_lt_f, n3_eq_f, n3_eq_t, n3_inb, n3_rem, n3_div, n3_zb, bb_0, bb_1, zb_bb, bb_T, bb_F, n3_dec, n3_m1, n3_eqm, n3_eqmt, n3_ltm, n3_mlt, n3_lem, n3_mle, n3_neg_lt, n3_nlt_neg, n3_nle_neg, n3_neg_le]
theorem R_flow_f2 {N : Nat} (hN : 1099511627776 ≤ N) {Λ : Lay} {ad : Nat → Nat} {μ : Mem} {F : Nat → Nat} {m : Nat} {A : Nat → Nat → Nat} {b : Nat} {J : Nat → Nat} {T : Nat → Int32} {n : Nat} {f : Int32} (hY : Ly Λ ad) (h : RR ad μ F m A b J T n f) (ho : Ok F m A b J T n)  (x y : Int32) (hx : inr x 12 = true) (hy : inr y 31 = false) : RV ad μ (m_X12_flow N Λ μ (ad 181) x y) 2 0 F m A b J T n f := by
  unfold m_X12_flow
  refine RV.start hY.1 h (fun μ0 h0 t0 => RV.thrown hY.1 h0 ?_)
  simp (disch := omega) only [jn_X12_flow_64, jn_X12_flow_51, jn_X12_flow_44, jn_X12_flow_21, r_in0, hx, hy, r_thr0, r_thr1, ↓lt_e, ↓gd_e, ↓Option.bind_some, ↓reduceIte, if_true, if_false, if_pT, if_nF, decide_true, Bool.not_true, Bool.not_false, not_true_eq_false, not_false_eq_true, Bool.false_eq_true, Bool.true_eq_false, eq_self, n3_lit, n3_add, n3_mul, n3_sub, n3_tn, n3_le_t, n3_le_f, n3_lt_t, n3_lt_f, n3_eq_f, n3_eq_t, n3_inb, n3_rem, n3_div, n3_zb, bb_0, bb_1, zb_bb, bb_T, bb_F, n3_dec, n3_m1, n3_eqm, n3_eqmt, n3_ltm, n3_mlt, n3_lem, n3_mle, n3_neg_lt, n3_nlt_neg, n3_nle_neg, n3_neg_le]
/-! hours -/
theorem C_hours_t {N : Nat} (hN : 1099511627776 ≤ N) {Λ : Lay} {ad : Nat → Nat} {μ : Mem} {F : Nat → Nat} {m : Nat} {A : Nat → Nat → Nat} {b : Nat} {J : Nat → Nat} {T : Nat → Int32} {n : Nat} {f : Int32} (hY : Ly Λ ad) (h : RC ad μ F m A b J T n f) (ho : Ok F m A b J T n)  (a : Nat) (h1 : 1 ≤ a) (ha : a ≤ 60) : CT ad μ (m_X11_hours N Λ μ (ad 0) (n3 a)) 0 (n3 (dnsF false F a)) (hrsF false F a) (min (m + 1) 12) (rmA F A) b J T n f := by
  have hj := hY.1
  have hP := hY.2.2.1
  have hS := hY.2.2.2.1 3 (Or.inl rfl)
  have hL := hY.2.2.2.2.1 30 (Or.inl rfl)
  have hC := h.1
  have hw := ho.1
  have hl := ho.2.1
  have hb := hw.1; unfold WB at hb
  obtain ⟨μ1, e1, h1, f1⟩ := c_remember (N := N) hY h ho
  obtain ⟨μ2, e2, hC2, f2⟩ := c_pass hN hS h1.1 hL hj hw hl (by omega) h1.2.1 false (n3 1) rfl a (by omega)
  refine ⟨μ2, ?_, h1.to hC2 (hrsF_Kp hw false a).2.2.2.2.2.2.2.2 (f2.mono (fun i hi => by unfold ScC; omega)), f1.trans (f2.mono (fun i hi => by omega))⟩
  simp (disch := omega) only [jn_X11_hours_11, m_X11_hours, ↓ob (hP.1), ↓ob (hP.2.1), ↓ob (hP.2.2.1), ↓ob (hP.2.2.2.1), ↓ob (hP.2.2.2.2.1), ↓ob (hP.2.2.2.2.2.1), ↓ob (hP.2.2.2.2.2.2.1), ↓ob (hP.2.2.2.2.2.2.2.1), ↓ob (hP.2.2.2.2.2.2.2.2.1), ↓ob (hP.2.2.2.2.2.2.2.2.2.1), ↓ob (hP.2.2.2.2.2.2.2.2.2.2.1), ↓ob (hP.2.2.2.2.2.2.2.2.2.2.2.1), ↓ob (hP.2.2.2.2.2.2.2.2.2.2.2.2.1), ↓ob (hP.2.2.2.2.2.2.2.2.2.2.2.2.2.1), hP.2.2.2.2.2.2.2.2.2.2.2.2.2.2, e1, e2, ↓lt_e, ↓gd_e, ↓Option.bind_some, ↓reduceIte, if_true, if_false, if_pT, if_nF, decide_true, Bool.not_true, Bool.not_false, not_true_eq_false, not_false_eq_true, Bool.false_eq_true, Bool.true_eq_false, eq_self, n3_lit, n3_add, n3_mul, n3_sub, n3_tn, n3_le_t, n3_le_f, n3_lt_t, n3_lt_f, n3_eq_f, n3_eq_t, n3_inb, n3_rem, n3_div, n3_zb, bb_0, bb_1, zb_bb, bb_T, bb_F, n3_dec, n3_m1, n3_eqm, n3_eqmt, n3_ltm, n3_mlt, n3_lem, n3_mle, n3_neg_lt, n3_nlt_neg, n3_nle_neg, n3_neg_le]
theorem C_hours_f {N : Nat} (hN : 1099511627776 ≤ N) {Λ : Lay} {ad : Nat → Nat} {μ : Mem} {F : Nat → Nat} {m : Nat} {A : Nat → Nat → Nat} {b : Nat} {J : Nat → Nat} {T : Nat → Int32} {n : Nat} {f : Int32} (hY : Ly Λ ad) (h : RC ad μ F m A b J T n f) (ho : Ok F m A b J T n)  (x : Int32) (hx : x < n3 1 ∨ n3 60 < x) : CT ad μ (m_X11_hours N Λ μ (ad 0) x) 1 0 F m A b J T n f := by
  refine CT.same h ?_
  by_cases h1 : x < n3 1
  · simp (disch := omega) only [m_X11_hours, jn_X11_hours_11, h1, ↓lt_e, ↓gd_e, ↓Option.bind_some, ↓reduceIte, if_true, if_false, if_pT, if_nF, decide_true, Bool.not_true, Bool.not_false, not_true_eq_false, not_false_eq_true, Bool.false_eq_true, Bool.true_eq_false, eq_self, n3_lit]
  · have h2 : ¬ x ≤ n3 60 := Int32.not_le.2 (hx.resolve_left h1)
    simp (disch := omega) only [m_X11_hours, jn_X11_hours_11, h1, h2, ↓lt_e, ↓gd_e, ↓Option.bind_some, ↓reduceIte, if_true, if_false, if_pT, if_nF, decide_true, Bool.not_true, Bool.not_false, not_true_eq_false, not_false_eq_true, Bool.false_eq_true, Bool.true_eq_false, eq_self, n3_lit]
theorem R_hours_t {N : Nat} (hN : 1099511627776 ≤ N) {Λ : Lay} {ad : Nat → Nat} {μ : Mem} {F : Nat → Nat} {m : Nat} {A : Nat → Nat → Nat} {b : Nat} {J : Nat → Nat} {T : Nat → Int32} {n : Nat} {f : Int32} (hY : Ly Λ ad) (h : RR ad μ F m A b J T n f) (ho : Ok F m A b J T n)  (a : Nat) (h1 : 1 ≤ a) (ha : a ≤ 60) : RV ad μ (m_X12_hours N Λ μ (ad 181) (n3 a)) 0 (n3 (dnsF false F a)) (hrsF false F a) (min (m + 1) 12) (rmA F A) b J T n f := by
  have hj := hY.1
  have hR := hY.2.1
  have hW := h.1
  have hw := ho.1
  have hl := ho.2.1
  have hb := hw.1; unfold WB at hb
  unfold m_X12_hours
  refine RV.start hY.1 h (fun μ0 h0 t0 => ?_)
  obtain ⟨μ1, e1, h2, t1, f1⟩ := r_rem hN hY h0 ho
  obtain ⟨μ2, e2, hW2, f2⟩ := r_goesOn hN hR h2.1 hj hw hl false (n3 0) rfl a (by omega)
  have q : n3 1 ≤ n3 a ∧ n3 a ≤ n3 60 := ⟨by rw [n3_le_c (by omega) (by omega)]; omega, by rw [n3_le_c (by omega) (by omega)]; omega⟩
  refine ⟨μ2, ?_, by rw [(f2 181 (by omega)).1]; exact t1.trans t0, h2.to hW2 (f2.mono (fun i hi => by unfold ScX; omega)), f1.trans (f2.mono (fun i hi => by omega))⟩
  simp (disch := omega) only [jn_X12_hours_21, r_in, q, and_self, r_thr0, e1, e2, ↓lt_e, ↓gd_e, ↓Option.bind_some, ↓reduceIte, if_true, if_false, if_pT, if_nF, decide_true, Bool.not_true, Bool.not_false, not_true_eq_false, not_false_eq_true, Bool.false_eq_true, Bool.true_eq_false, eq_self, n3_lit, n3_add, n3_mul, n3_sub, n3_tn, n3_le_t, n3_le_f, n3_lt_t, n3_lt_f, n3_eq_f, n3_eq_t, n3_inb, n3_rem, n3_div, n3_zb, bb_0, bb_1, zb_bb, bb_T, bb_F, n3_dec, n3_m1, n3_eqm, n3_eqmt, n3_ltm, n3_mlt, n3_lem, n3_mle, n3_neg_lt, n3_nlt_neg, n3_nle_neg, n3_neg_le]
theorem R_hours_f {N : Nat} (hN : 1099511627776 ≤ N) {Λ : Lay} {ad : Nat → Nat} {μ : Mem} {F : Nat → Nat} {m : Nat} {A : Nat → Nat → Nat} {b : Nat} {J : Nat → Nat} {T : Nat → Int32} {n : Nat} {f : Int32} (hY : Ly Λ ad) (h : RR ad μ F m A b J T n f) (ho : Ok F m A b J T n)  (x : Int32) (hx : x < n3 1 ∨ n3 60 < x) : RV ad μ (m_X12_hours N Λ μ (ad 181) x) 1 0 F m A b J T n f := by
  unfold m_X12_hours
  have q : ¬ (n3 1 ≤ x ∧ x ≤ n3 60) := fun hc => by rcases hx with h1 | h1; exact Int32.not_le.2 h1 hc.1; exact Int32.not_le.2 h1 hc.2
  refine RV.start hY.1 h (fun μ0 h0 t0 => RV.thrown hY.1 h0 ?_)
  simp (disch := omega) only [jn_X12_hours_21, r_in, q, r_thr1, ↓lt_e, ↓gd_e, ↓Option.bind_some, ↓reduceIte, if_true, if_false, if_pT, if_nF, decide_true, Bool.not_true, Bool.not_false, not_true_eq_false, not_false_eq_true, Bool.false_eq_true, Bool.true_eq_false, eq_self, n3_lit, n3_add, n3_mul, n3_sub, n3_tn, n3_le_t, n3_le_f, n3_lt_t, n3_lt_f, n3_eq_f, n3_eq_t, n3_inb, n3_rem, n3_div, n3_zb, bb_0, bb_1, zb_bb, bb_T, bb_F, n3_dec, n3_m1, n3_eqm, n3_eqmt, n3_ltm, n3_mlt, n3_lem, n3_mle, n3_neg_lt, n3_nlt_neg, n3_nle_neg, n3_neg_le]
/-! gate -/
theorem C_gate_t {N : Nat} (hN : 1099511627776 ≤ N) {Λ : Lay} {ad : Nat → Nat} {μ : Mem} {F : Nat → Nat} {m : Nat} {A : Nat → Nat → Nat} {b : Nat} {J : Nat → Nat} {T : Nat → Int32} {n : Nat} {f : Int32} (hY : Ly Λ ad) (h : RC ad μ F m A b J T n f) (ho : Ok F m A b J T n)  (d : Nat) (hd : d ≤ 1) (hg : d = 0 ∨ F 4 = 1 ∨ evnb F = true) : CT ad μ (m_X11_gate N Λ μ (ad 0) (n3 d)) 0 (n3 (bb (¬ F 4 = d))) (up F 4 d) (min (m + 1) 12) (rmA F A) b J T n f := by
  have hj := hY.1
  have hP := hY.2.2.1
  have hS := hY.2.2.2.1 3 (Or.inl rfl)
  have hL := hY.2.2.2.2.1 30 (Or.inl rfl)
  have hC := h.1
  have hw := ho.1
  have hl := ho.2.1
  have hb := hw.1; unfold WB at hb
  obtain ⟨μ1, e1, h1, f1⟩ := c_remember (N := N) hY h ho
  have q0 : μ.1 (ad 3) 11 = n3 (F 4) := h.1.2.2.2.2.2.2.2.2.2.2.1
  have q : μ1.1 (ad 3) 11 = n3 (F 4) := h1.1.2.2.2.2.2.2.2.2.2.2.1
  have ev := c_isEven (N := N) hS hC hw
  obtain ⟨h2, _⟩ := h1.wr hj hw 4 d (by omega) ⟨by omega, by omega⟩ (by omega) (by omega) 3 11 rfl rfl
  refine ⟨_, ?_, h2, f1.set hj (by omega)⟩
  have e34 : jn_X11_gate_34 N Λ μ (ad 0) (n3 d) = some (0, n3 (bb (¬ F 4 = d)), mset μ1 (ad 3) 11 (n3 d)) := by
    by_cases e : F 4 = d
    · simp (disch := omega) only [jn_X11_gate_61, jn_X11_gate_34, ↓ob (hP.1), ↓ob (hP.2.1), ↓ob (hP.2.2.1), ↓ob (hP.2.2.2.1), ↓ob (hP.2.2.2.2.1), ↓ob (hP.2.2.2.2.2.1), ↓ob (hP.2.2.2.2.2.2.1), ↓ob (hP.2.2.2.2.2.2.2.1), ↓ob (hP.2.2.2.2.2.2.2.2.1), ↓ob (hP.2.2.2.2.2.2.2.2.2.1), ↓ob (hP.2.2.2.2.2.2.2.2.2.2.1), ↓ob (hP.2.2.2.2.2.2.2.2.2.2.2.1), ↓ob (hP.2.2.2.2.2.2.2.2.2.2.2.2.1), ↓ob (hP.2.2.2.2.2.2.2.2.2.2.2.2.2.1), hP.2.2.2.2.2.2.2.2.2.2.2.2.2.2, e1, q, e, ↓lt_e, ↓gd_e, ↓Option.bind_some, ↓reduceIte, if_true, if_false, if_pT, if_nF, decide_true, Bool.not_true, Bool.not_false, not_true_eq_false, not_false_eq_true, Bool.false_eq_true, Bool.true_eq_false, eq_self, n3_lit, n3_add, n3_mul, n3_sub, n3_tn, n3_le_t, n3_le_f, n3_lt_t, n3_lt_f, n3_eq_f, n3_eq_t, n3_inb, n3_rem, n3_div, n3_zb, bb_0, bb_1, zb_bb, bb_T, bb_F, n3_dec, n3_m1, n3_eqm, n3_eqmt, n3_ltm, n3_mlt, n3_lem, n3_mle, n3_neg_lt, n3_nlt_neg, n3_nle_neg, n3_neg_le]
    · simp (disch := omega) only [jn_X11_gate_61, jn_X11_gate_34, ↓ob (hP.1), ↓ob (hP.2.1), ↓ob (hP.2.2.1), ↓ob (hP.2.2.2.1), ↓ob (hP.2.2.2.2.1), ↓ob (hP.2.2.2.2.2.1), ↓ob (hP.2.2.2.2.2.2.1), ↓ob (hP.2.2.2.2.2.2.2.1), ↓ob (hP.2.2.2.2.2.2.2.2.1), ↓ob (hP.2.2.2.2.2.2.2.2.2.1), ↓ob (hP.2.2.2.2.2.2.2.2.2.2.1), ↓ob (hP.2.2.2.2.2.2.2.2.2.2.2.1), ↓ob (hP.2.2.2.2.2.2.2.2.2.2.2.2.1), ↓ob (hP.2.2.2.2.2.2.2.2.2.2.2.2.2.1), hP.2.2.2.2.2.2.2.2.2.2.2.2.2.2, e1, q, e, ↓lt_e, ↓gd_e, ↓Option.bind_some, ↓reduceIte, if_true, if_false, if_pT, if_nF, decide_true, Bool.not_true, Bool.not_false, not_true_eq_false, not_false_eq_true, Bool.false_eq_true, Bool.true_eq_false, eq_self, n3_lit, n3_add, n3_mul, n3_sub, n3_tn, n3_le_t, n3_le_f, n3_lt_t, n3_lt_f, n3_eq_f, n3_eq_t, n3_inb, n3_rem, n3_div, n3_zb, bb_0, bb_1, zb_bb, bb_T, bb_F, n3_dec, n3_m1, n3_eqm, n3_eqmt, n3_ltm, n3_mlt, n3_lem, n3_mle, n3_neg_lt, n3_nlt_neg, n3_nle_neg, n3_neg_le]
  by_cases hd0 : d = 0
  · simp (disch := omega) only [m_X11_gate, e34, ↓lt_e, ↓gd_e, ↓Option.bind_some, ↓reduceIte, if_true, if_false, if_pT, if_nF, decide_true, Bool.not_true, Bool.not_false, not_true_eq_false, not_false_eq_true, Bool.false_eq_true, Bool.true_eq_false, eq_self, n3_lit, n3_add, n3_mul, n3_sub, n3_tn, n3_le_t, n3_le_f, n3_lt_t, n3_lt_f, n3_eq_f, n3_eq_t, n3_inb, n3_rem, n3_div, n3_zb, bb_0, bb_1, zb_bb, bb_T, bb_F, n3_dec, n3_m1, n3_eqm, n3_eqmt, n3_ltm, n3_mlt, n3_lem, n3_mle, n3_neg_lt, n3_nlt_neg, n3_nle_neg, n3_neg_le]
  · by_cases h4 : F 4 = 0
    · have hev : evnb F = true := by
        rcases hg with g | g | g
        · omega
        · omega
        · exact g
      simp (disch := omega) only [m_X11_gate, ↓ob (hP.1), ↓ob (hP.2.1), ↓ob (hP.2.2.1), ↓ob (hP.2.2.2.1), ↓ob (hP.2.2.2.2.1), ↓ob (hP.2.2.2.2.2.1), ↓ob (hP.2.2.2.2.2.2.1), ↓ob (hP.2.2.2.2.2.2.2.1), ↓ob (hP.2.2.2.2.2.2.2.2.1), ↓ob (hP.2.2.2.2.2.2.2.2.2.1), ↓ob (hP.2.2.2.2.2.2.2.2.2.2.1), ↓ob (hP.2.2.2.2.2.2.2.2.2.2.2.1), ↓ob (hP.2.2.2.2.2.2.2.2.2.2.2.2.1), ↓ob (hP.2.2.2.2.2.2.2.2.2.2.2.2.2.1), hP.2.2.2.2.2.2.2.2.2.2.2.2.2.2, q0, e34, ev, hev, ↓lt_e, ↓gd_e, ↓Option.bind_some, ↓reduceIte, if_true, if_false, if_pT, if_nF, decide_true, Bool.not_true, Bool.not_false, not_true_eq_false, not_false_eq_true, Bool.false_eq_true, Bool.true_eq_false, eq_self, n3_lit, n3_add, n3_mul, n3_sub, n3_tn, n3_le_t, n3_le_f, n3_lt_t, n3_lt_f, n3_eq_f, n3_eq_t, n3_inb, n3_rem, n3_div, n3_zb, bb_0, bb_1, zb_bb, bb_T, bb_F, n3_dec, n3_m1, n3_eqm, n3_eqmt, n3_ltm, n3_mlt, n3_lem, n3_mle, n3_neg_lt, n3_nlt_neg, n3_nle_neg, n3_neg_le]
    · simp (disch := omega) only [m_X11_gate, ↓ob (hP.1), ↓ob (hP.2.1), ↓ob (hP.2.2.1), ↓ob (hP.2.2.2.1), ↓ob (hP.2.2.2.2.1), ↓ob (hP.2.2.2.2.2.1), ↓ob (hP.2.2.2.2.2.2.1), ↓ob (hP.2.2.2.2.2.2.2.1), ↓ob (hP.2.2.2.2.2.2.2.2.1), ↓ob (hP.2.2.2.2.2.2.2.2.2.1), ↓ob (hP.2.2.2.2.2.2.2.2.2.2.1), ↓ob (hP.2.2.2.2.2.2.2.2.2.2.2.1), ↓ob (hP.2.2.2.2.2.2.2.2.2.2.2.2.1), ↓ob (hP.2.2.2.2.2.2.2.2.2.2.2.2.2.1), hP.2.2.2.2.2.2.2.2.2.2.2.2.2.2, q0, e34, ↓lt_e, ↓gd_e, ↓Option.bind_some, ↓reduceIte, if_true, if_false, if_pT, if_nF, decide_true, Bool.not_true, Bool.not_false, not_true_eq_false, not_false_eq_true, Bool.false_eq_true, Bool.true_eq_false, eq_self, n3_lit, n3_add, n3_mul, n3_sub, n3_tn, n3_le_t, n3_le_f, n3_lt_t, n3_lt_f, n3_eq_f, n3_eq_t, n3_inb, n3_rem, n3_div, n3_zb, bb_0, bb_1, zb_bb, bb_T, bb_F, n3_dec, n3_m1, n3_eqm, n3_eqmt, n3_ltm, n3_mlt, n3_lem, n3_mle, n3_neg_lt, n3_nlt_neg, n3_nle_neg, n3_neg_le]
theorem C_gate_f {N : Nat} (hN : 1099511627776 ≤ N) {Λ : Lay} {ad : Nat → Nat} {μ : Mem} {F : Nat → Nat} {m : Nat} {A : Nat → Nat → Nat} {b : Nat} {J : Nat → Nat} {T : Nat → Int32} {n : Nat} {f : Int32} (hY : Ly Λ ad) (h : RC ad μ F m A b J T n f) (ho : Ok F m A b J T n)  (h4 : F 4 = 0) (he : evnb F = false) : CT ad μ (m_X11_gate N Λ μ (ad 0) (n3 1)) 5 0 F m A b J T n f := by
  have hj := hY.1
  have hP := hY.2.2.1
  have hS := hY.2.2.2.1 3 (Or.inl rfl)
  have hL := hY.2.2.2.2.1 30 (Or.inl rfl)
  have hC := h.1
  have hw := ho.1
  have hl := ho.2.1
  have hb := hw.1; unfold WB at hb
  refine CT.same h ?_
  have q0 : μ.1 (ad 3) 11 = n3 (F 4) := h.1.2.2.2.2.2.2.2.2.2.2.1
  have ev := c_isEven (N := N) hS hC hw
  simp (disch := omega) only [m_X11_gate, ↓ob (hP.1), ↓ob (hP.2.1), ↓ob (hP.2.2.1), ↓ob (hP.2.2.2.1), ↓ob (hP.2.2.2.2.1), ↓ob (hP.2.2.2.2.2.1), ↓ob (hP.2.2.2.2.2.2.1), ↓ob (hP.2.2.2.2.2.2.2.1), ↓ob (hP.2.2.2.2.2.2.2.2.1), ↓ob (hP.2.2.2.2.2.2.2.2.2.1), ↓ob (hP.2.2.2.2.2.2.2.2.2.2.1), ↓ob (hP.2.2.2.2.2.2.2.2.2.2.2.1), ↓ob (hP.2.2.2.2.2.2.2.2.2.2.2.2.1), ↓ob (hP.2.2.2.2.2.2.2.2.2.2.2.2.2.1), hP.2.2.2.2.2.2.2.2.2.2.2.2.2.2, q0, ev, he, ↓lt_e, ↓gd_e, ↓Option.bind_some, ↓reduceIte, if_true, if_false, if_pT, if_nF, decide_true, Bool.not_true, Bool.not_false, not_true_eq_false, not_false_eq_true, Bool.false_eq_true, Bool.true_eq_false, eq_self, n3_lit, n3_add, n3_mul, n3_sub, n3_tn, n3_le_t, n3_le_f, n3_lt_t, n3_lt_f, n3_eq_f, n3_eq_t, n3_inb, n3_rem, n3_div, n3_zb, bb_0, bb_1, zb_bb, bb_T, bb_F, n3_dec, n3_m1, n3_eqm, n3_eqmt, n3_ltm, n3_mlt, n3_lem, n3_mle, n3_neg_lt, n3_nlt_neg, n3_nle_neg, n3_neg_le]
theorem R_gate_t {N : Nat} (hN : 1099511627776 ≤ N) {Λ : Lay} {ad : Nat → Nat} {μ : Mem} {F : Nat → Nat} {m : Nat} {A : Nat → Nat → Nat} {b : Nat} {J : Nat → Nat} {T : Nat → Int32} {n : Nat} {f : Int32} (hY : Ly Λ ad) (h : RR ad μ F m A b J T n f) (ho : Ok F m A b J T n)  (d : Nat) (hd : d ≤ 1) (hg : d = 0 ∨ F 4 = 1 ∨ evnb F = true) : RV ad μ (m_X12_gate N Λ μ (ad 181) (n3 d)) 0 (n3 (bb (¬ F 4 = d))) (up F 4 d) (min (m + 1) 12) (rmA F A) b J T n f := by
  have hj := hY.1
  have hR := hY.2.1
  have hW := h.1
  have hw := ho.1
  have hl := ho.2.1
  have hb := hw.1; unfold WB at hb
  unfold m_X12_gate
  refine RV.start hY.1 h (fun μ0 h0 t0 => ?_)
  obtain ⟨μ1, e1, h1, t1, f1⟩ := r_isNow hN hY h0 ho 4 d (by omega)
  have hW0 := h0.1
  have ev := r_isEven (N := N) hR hW0 hw
  refine ⟨μ1, ?_, t1.trans t0, h1, f1⟩
  have e49 : jn_X12_gate_49 N Λ μ0 (ad 181) (n3 d) = some (n3 (bb (¬ F 4 = d)), μ1) := by
    by_cases e : F 4 = d
    · simp (disch := omega) only [jn_X12_gate_49, jn_X12_gate_65, n3_lit, e1, e, ↓lt_e, ↓gd_e, ↓Option.bind_some, ↓reduceIte, if_true, if_false, if_pT, if_nF, decide_true, Bool.not_true, Bool.not_false, not_true_eq_false, not_false_eq_true, Bool.false_eq_true, Bool.true_eq_false, eq_self, n3_lit, n3_add, n3_mul, n3_sub, n3_tn, n3_le_t, n3_le_f, n3_lt_t, n3_lt_f, n3_eq_f, n3_eq_t, n3_inb, n3_rem, n3_div, n3_zb, bb_0, bb_1, zb_bb, bb_T, bb_F, n3_dec, n3_m1, n3_eqm, n3_eqmt, n3_ltm, n3_mlt, n3_lem, n3_mle, n3_neg_lt, n3_nlt_neg, n3_nle_neg, n3_neg_le]
    · simp (disch := omega) only [jn_X12_gate_49, jn_X12_gate_65, n3_lit, e1, e, ↓lt_e, ↓gd_e, ↓Option.bind_some, ↓reduceIte, if_true, if_false, if_pT, if_nF, decide_true, Bool.not_true, Bool.not_false, not_true_eq_false, not_false_eq_true, Bool.false_eq_true, Bool.true_eq_false, eq_self, n3_lit, n3_add, n3_mul, n3_sub, n3_tn, n3_le_t, n3_le_f, n3_lt_t, n3_lt_f, n3_eq_f, n3_eq_t, n3_inb, n3_rem, n3_div, n3_zb, bb_0, bb_1, zb_bb, bb_T, bb_F, n3_dec, n3_m1, n3_eqm, n3_eqmt, n3_ltm, n3_mlt, n3_lem, n3_mle, n3_neg_lt, n3_nlt_neg, n3_nle_neg, n3_neg_le]
  have e30 : jn_X12_gate_30 N Λ μ0 (ad 181) (n3 d) (ad 181) = some (n3 (bb (¬ F 4 = d)), μ1) := by
    have hd' : d = 0 ∨ d = 1 := by omega
    rcases hd' with rfl | rfl
    · simp (disch := omega) only [jn_X12_gate_30, jn_X12_gate_31, r_thr0, e49, ↓lt_e, ↓gd_e, ↓Option.bind_some, ↓reduceIte, if_true, if_false, if_pT, if_nF, decide_true, Bool.not_true, Bool.not_false, not_true_eq_false, not_false_eq_true, Bool.false_eq_true, Bool.true_eq_false, eq_self, n3_lit, n3_add, n3_mul, n3_sub, n3_tn, n3_le_t, n3_le_f, n3_lt_t, n3_lt_f, n3_eq_f, n3_eq_t, n3_inb, n3_rem, n3_div, n3_zb, bb_0, bb_1, zb_bb, bb_T, bb_F, n3_dec, n3_m1, n3_eqm, n3_eqmt, n3_ltm, n3_mlt, n3_lem, n3_mle, n3_neg_lt, n3_nlt_neg, n3_nle_neg, n3_neg_le]
    · simp (disch := omega) only [jn_X12_gate_30, jn_X12_gate_31, r_thr0, e49, ↓lt_e, ↓gd_e, ↓Option.bind_some, ↓reduceIte, if_true, if_false, if_pT, if_nF, decide_true, Bool.not_true, Bool.not_false, not_true_eq_false, not_false_eq_true, Bool.false_eq_true, Bool.true_eq_false, eq_self, n3_lit, n3_add, n3_mul, n3_sub, n3_tn, n3_le_t, n3_le_f, n3_lt_t, n3_lt_f, n3_eq_f, n3_eq_t, n3_inb, n3_rem, n3_div, n3_zb, bb_0, bb_1, zb_bb, bb_T, bb_F, n3_dec, n3_m1, n3_eqm, n3_eqmt, n3_ltm, n3_mlt, n3_lem, n3_mle, n3_neg_lt, n3_nlt_neg, n3_nle_neg, n3_neg_le]
  by_cases hd0 : d = 0
  · simp (disch := omega) only [e30, ↓lt_e, ↓gd_e, ↓Option.bind_some, ↓reduceIte, if_true, if_false, if_pT, if_nF, decide_true, Bool.not_true, Bool.not_false, not_true_eq_false, not_false_eq_true, Bool.false_eq_true, Bool.true_eq_false, eq_self, n3_lit, n3_add, n3_mul, n3_sub, n3_tn, n3_le_t, n3_le_f, n3_lt_t, n3_lt_f, n3_eq_f, n3_eq_t, n3_inb, n3_rem, n3_div, n3_zb, bb_0, bb_1, zb_bb, bb_T, bb_F, n3_dec, n3_m1, n3_eqm, n3_eqmt, n3_ltm, n3_mlt, n3_lem, n3_mle, n3_neg_lt, n3_nlt_neg, n3_nle_neg, n3_neg_le]
  · by_cases h4 : F 4 = 0
    · have hev : evnb F = true := by
        rcases hg with g | g | g
        · omega
        · omega
        · exact g
      simp (disch := omega) only [↓ob (hR.1), ↓ob (hR.2.1), ↓ob (hR.2.2.1), ↓ob (hR.2.2.2.1), ↓ob (hR.2.2.2.2.1), ↓ob (hR.2.2.2.2.2.1), ↓ob (hR.2.2.2.2.2.2.1), ↓ob (hR.2.2.2.2.2.2.2.1), ↓ob (hR.2.2.2.2.2.2.2.2.1), ↓ob (hR.2.2.2.2.2.2.2.2.2.1), ↓ob (hR.2.2.2.2.2.2.2.2.2.2.1), ↓ob (hR.2.2.2.2.2.2.2.2.2.2.2.1), ↓ob (hR.2.2.2.2.2.2.2.2.2.2.2.2.1), ↓ob (hR.2.2.2.2.2.2.2.2.2.2.2.2.2.1), ↓ob (hR.2.2.2.2.2.2.2.2.2.2.2.2.2.2.1), ↓ob (hR.2.2.2.2.2.2.2.2.2.2.2.2.2.2.2.1), ↓ob (hR.2.2.2.2.2.2.2.2.2.2.2.2.2.2.2.2.1), ↓ob (hR.2.2.2.2.2.2.2.2.2.2.2.2.2.2.2.2.2.1), hR.2.2.2.2.2.2.2.2.2.2.2.2.2.2.2.2.2.2.1, hR.2.2.2.2.2.2.2.2.2.2.2.2.2.2.2.2.2.2.2.1, hR.2.2.2.2.2.2.2.2.2.2.2.2.2.2.2.2.2.2.2.2.1, hR.2.2.2.2.2.2.2.2.2.2.2.2.2.2.2.2.2.2.2.2.2.1, hR.2.2.2.2.2.2.2.2.2.2.2.2.2.2.2.2.2.2.2.2.2.2.1, hR.2.2.2.2.2.2.2.2.2.2.2.2.2.2.2.2.2.2.2.2.2.2.2.1, hR.2.2.2.2.2.2.2.2.2.2.2.2.2.2.2.2.2.2.2.2.2.2.2.2.1, hR.2.2.2.2.2.2.2.2.2.2.2.2.2.2.2.2.2.2.2.2.2.2.2.2.2.1, hR.2.2.2.2.2.2.2.2.2.2.2.2.2.2.2.2.2.2.2.2.2.2.2.2.2.2.1, hR.2.2.2.2.2.2.2.2.2.2.2.2.2.2.2.2.2.2.2.2.2.2.2.2.2.2.2.1, hR.2.2.2.2.2.2.2.2.2.2.2.2.2.2.2.2.2.2.2.2.2.2.2.2.2.2.2.2.1, hR.2.2.2.2.2.2.2.2.2.2.2.2.2.2.2.2.2.2.2.2.2.2.2.2.2.2.2.2.2.1, hR.2.2.2.2.2.2.2.2.2.2.2.2.2.2.2.2.2.2.2.2.2.2.2.2.2.2.2.2.2.2.1, hR.2.2.2.2.2.2.2.2.2.2.2.2.2.2.2.2.2.2.2.2.2.2.2.2.2.2.2.2.2.2.2.1, hR.2.2.2.2.2.2.2.2.2.2.2.2.2.2.2.2.2.2.2.2.2.2.2.2.2.2.2.2.2.2.2.2.1, hR.2.2.2.2.2.2.2.2.2.2.2.2.2.2.2.2.2.2.2.2.2.2.2.2.2.2.2.2.2.2.2.2.2.1, hR.2.2.2.2.2.2.2.2.2.2.2.2.2.2.2.2.2.2.2.2.2.2.2.2.2.2.2.2.2.2.2.2.2.2.1, hR.2.2.2.2.2.2.2.2.2.2.2.2.2.2.2.2.2.2.2.2.2.2.2.2.2.2.2.2.2.2.2.2.2.2.2, hW0, e30, ev, hev, ↓lt_e, ↓gd_e, ↓Option.bind_some, ↓reduceIte, if_true, if_false, if_pT, if_nF, decide_true, Bool.not_true, Bool.not_false, not_true_eq_false, not_false_eq_true, Bool.false_eq_true, Bool.true_eq_false, eq_self, n3_lit, n3_add, n3_mul, n3_sub, n3_tn, n3_le_t, n3_le_f, n3_lt_t, n3_lt_f, n3_eq_f, n3_eq_t, n3_inb, n3_rem, n3_div, n3_zb, bb_0, bb_1, zb_bb, bb_T, bb_F, n3_dec, n3_m1, n3_eqm, n3_eqmt, n3_ltm, n3_mlt, n3_lem, n3_mle, n3_neg_lt, n3_nlt_neg, n3_nle_neg, n3_neg_le]
    · simp (disch := omega) only [↓ob (hR.1), ↓ob (hR.2.1), ↓ob (hR.2.2.1), ↓ob (hR.2.2.2.1), ↓ob (hR.2.2.2.2.1), ↓ob (hR.2.2.2.2.2.1), ↓ob (hR.2.2.2.2.2.2.1), ↓ob (hR.2.2.2.2.2.2.2.1), ↓ob (hR.2.2.2.2.2.2.2.2.1), ↓ob (hR.2.2.2.2.2.2.2.2.2.1), ↓ob (hR.2.2.2.2.2.2.2.2.2.2.1), ↓ob (hR.2.2.2.2.2.2.2.2.2.2.2.1), ↓ob (hR.2.2.2.2.2.2.2.2.2.2.2.2.1), ↓ob (hR.2.2.2.2.2.2.2.2.2.2.2.2.2.1), ↓ob (hR.2.2.2.2.2.2.2.2.2.2.2.2.2.2.1), ↓ob (hR.2.2.2.2.2.2.2.2.2.2.2.2.2.2.2.1), ↓ob (hR.2.2.2.2.2.2.2.2.2.2.2.2.2.2.2.2.1), ↓ob (hR.2.2.2.2.2.2.2.2.2.2.2.2.2.2.2.2.2.1), hR.2.2.2.2.2.2.2.2.2.2.2.2.2.2.2.2.2.2.1, hR.2.2.2.2.2.2.2.2.2.2.2.2.2.2.2.2.2.2.2.1, hR.2.2.2.2.2.2.2.2.2.2.2.2.2.2.2.2.2.2.2.2.1, hR.2.2.2.2.2.2.2.2.2.2.2.2.2.2.2.2.2.2.2.2.2.1, hR.2.2.2.2.2.2.2.2.2.2.2.2.2.2.2.2.2.2.2.2.2.2.1, hR.2.2.2.2.2.2.2.2.2.2.2.2.2.2.2.2.2.2.2.2.2.2.2.1, hR.2.2.2.2.2.2.2.2.2.2.2.2.2.2.2.2.2.2.2.2.2.2.2.2.1, hR.2.2.2.2.2.2.2.2.2.2.2.2.2.2.2.2.2.2.2.2.2.2.2.2.2.1, hR.2.2.2.2.2.2.2.2.2.2.2.2.2.2.2.2.2.2.2.2.2.2.2.2.2.2.1, hR.2.2.2.2.2.2.2.2.2.2.2.2.2.2.2.2.2.2.2.2.2.2.2.2.2.2.2.1, hR.2.2.2.2.2.2.2.2.2.2.2.2.2.2.2.2.2.2.2.2.2.2.2.2.2.2.2.2.1, hR.2.2.2.2.2.2.2.2.2.2.2.2.2.2.2.2.2.2.2.2.2.2.2.2.2.2.2.2.2.1, hR.2.2.2.2.2.2.2.2.2.2.2.2.2.2.2.2.2.2.2.2.2.2.2.2.2.2.2.2.2.2.1, hR.2.2.2.2.2.2.2.2.2.2.2.2.2.2.2.2.2.2.2.2.2.2.2.2.2.2.2.2.2.2.2.1, hR.2.2.2.2.2.2.2.2.2.2.2.2.2.2.2.2.2.2.2.2.2.2.2.2.2.2.2.2.2.2.2.2.1, hR.2.2.2.2.2.2.2.2.2.2.2.2.2.2.2.2.2.2.2.2.2.2.2.2.2.2.2.2.2.2.2.2.2.1, hR.2.2.2.2.2.2.2.2.2.2.2.2.2.2.2.2.2.2.2.2.2.2.2.2.2.2.2.2.2.2.2.2.2.2.1, hR.2.2.2.2.2.2.2.2.2.2.2.2.2.2.2.2.2.2.2.2.2.2.2.2.2.2.2.2.2.2.2.2.2.2.2, hW0, e30, ↓lt_e, ↓gd_e, ↓Option.bind_some, ↓reduceIte, if_true, if_false, if_pT, if_nF, decide_true, Bool.not_true, Bool.not_false, not_true_eq_false, not_false_eq_true, Bool.false_eq_true, Bool.true_eq_false, eq_self, n3_lit, n3_add, n3_mul, n3_sub, n3_tn, n3_le_t, n3_le_f, n3_lt_t, n3_lt_f, n3_eq_f, n3_eq_t, n3_inb, n3_rem, n3_div, n3_zb, bb_0, bb_1, zb_bb, bb_T, bb_F, n3_dec, n3_m1, n3_eqm, n3_eqmt, n3_ltm, n3_mlt, n3_lem, n3_mle, n3_neg_lt, n3_nlt_neg, n3_nle_neg, n3_neg_le]
theorem R_gate_f {N : Nat} (hN : 1099511627776 ≤ N) {Λ : Lay} {ad : Nat → Nat} {μ : Mem} {F : Nat → Nat} {m : Nat} {A : Nat → Nat → Nat} {b : Nat} {J : Nat → Nat} {T : Nat → Int32} {n : Nat} {f : Int32} (hY : Ly Λ ad) (h : RR ad μ F m A b J T n f) (ho : Ok F m A b J T n)  (h4 : F 4 = 0) (he : evnb F = false) : RV ad μ (m_X12_gate N Λ μ (ad 181) (n3 1)) 1 0 F m A b J T n f := by
  have hj := hY.1
  have hR := hY.2.1
  have hW := h.1
  have hw := ho.1
  have hl := ho.2.1
  have hb := hw.1; unfold WB at hb
  unfold m_X12_gate
  refine RV.start hY.1 h (fun μ0 h0 t0 => RV.thrown hY.1 h0 ?_)
  have hW0 := h0.1
  have ev := r_isEven (N := N) hR hW0 hw
  simp (disch := omega) only [jn_X12_gate_65, jn_X12_gate_49, jn_X12_gate_31, jn_X12_gate_30, ↓ob (hR.1), ↓ob (hR.2.1), ↓ob (hR.2.2.1), ↓ob (hR.2.2.2.1), ↓ob (hR.2.2.2.2.1), ↓ob (hR.2.2.2.2.2.1), ↓ob (hR.2.2.2.2.2.2.1), ↓ob (hR.2.2.2.2.2.2.2.1), ↓ob (hR.2.2.2.2.2.2.2.2.1), ↓ob (hR.2.2.2.2.2.2.2.2.2.1), ↓ob (hR.2.2.2.2.2.2.2.2.2.2.1), ↓ob (hR.2.2.2.2.2.2.2.2.2.2.2.1), ↓ob (hR.2.2.2.2.2.2.2.2.2.2.2.2.1), ↓ob (hR.2.2.2.2.2.2.2.2.2.2.2.2.2.1), ↓ob (hR.2.2.2.2.2.2.2.2.2.2.2.2.2.2.1), ↓ob (hR.2.2.2.2.2.2.2.2.2.2.2.2.2.2.2.1), ↓ob (hR.2.2.2.2.2.2.2.2.2.2.2.2.2.2.2.2.1), ↓ob (hR.2.2.2.2.2.2.2.2.2.2.2.2.2.2.2.2.2.1), hR.2.2.2.2.2.2.2.2.2.2.2.2.2.2.2.2.2.2.1, hR.2.2.2.2.2.2.2.2.2.2.2.2.2.2.2.2.2.2.2.1, hR.2.2.2.2.2.2.2.2.2.2.2.2.2.2.2.2.2.2.2.2.1, hR.2.2.2.2.2.2.2.2.2.2.2.2.2.2.2.2.2.2.2.2.2.1, hR.2.2.2.2.2.2.2.2.2.2.2.2.2.2.2.2.2.2.2.2.2.2.1, hR.2.2.2.2.2.2.2.2.2.2.2.2.2.2.2.2.2.2.2.2.2.2.2.1, hR.2.2.2.2.2.2.2.2.2.2.2.2.2.2.2.2.2.2.2.2.2.2.2.2.1, hR.2.2.2.2.2.2.2.2.2.2.2.2.2.2.2.2.2.2.2.2.2.2.2.2.2.1, hR.2.2.2.2.2.2.2.2.2.2.2.2.2.2.2.2.2.2.2.2.2.2.2.2.2.2.1, hR.2.2.2.2.2.2.2.2.2.2.2.2.2.2.2.2.2.2.2.2.2.2.2.2.2.2.2.1, hR.2.2.2.2.2.2.2.2.2.2.2.2.2.2.2.2.2.2.2.2.2.2.2.2.2.2.2.2.1, hR.2.2.2.2.2.2.2.2.2.2.2.2.2.2.2.2.2.2.2.2.2.2.2.2.2.2.2.2.2.1, hR.2.2.2.2.2.2.2.2.2.2.2.2.2.2.2.2.2.2.2.2.2.2.2.2.2.2.2.2.2.2.1, hR.2.2.2.2.2.2.2.2.2.2.2.2.2.2.2.2.2.2.2.2.2.2.2.2.2.2.2.2.2.2.2.1, hR.2.2.2.2.2.2.2.2.2.2.2.2.2.2.2.2.2.2.2.2.2.2.2.2.2.2.2.2.2.2.2.2.1, hR.2.2.2.2.2.2.2.2.2.2.2.2.2.2.2.2.2.2.2.2.2.2.2.2.2.2.2.2.2.2.2.2.2.1, hR.2.2.2.2.2.2.2.2.2.2.2.2.2.2.2.2.2.2.2.2.2.2.2.2.2.2.2.2.2.2.2.2.2.2.1, hR.2.2.2.2.2.2.2.2.2.2.2.2.2.2.2.2.2.2.2.2.2.2.2.2.2.2.2.2.2.2.2.2.2.2.2, hW0, ev, he, r_thr1, ↓lt_e, ↓gd_e, ↓Option.bind_some, ↓reduceIte, if_true, if_false, if_pT, if_nF, decide_true, Bool.not_true, Bool.not_false, not_true_eq_false, not_false_eq_true, Bool.false_eq_true, Bool.true_eq_false, eq_self, n3_lit, n3_add, n3_mul, n3_sub, n3_tn, n3_le_t, n3_le_f, n3_lt_t, n3_lt_f, n3_eq_f, n3_eq_t, n3_inb, n3_rem, n3_div, n3_zb, bb_0, bb_1, zb_bb, bb_T, bb_F, n3_dec, n3_m1, n3_eqm, n3_eqmt, n3_ltm, n3_mlt, n3_lem, n3_mle, n3_neg_lt, n3_nlt_neg, n3_nle_neg, n3_neg_le]
/-! blocks -/
def clr (B p : Nat) : Nat := B &&& (2 ^ p ^^^ 4294967295)
theorem n3_clr {B p : Nat} (hp : p < 32) : n3 B &&& (ishl (n3 1) (n3 p) ^^^ -n3 1) = n3 (clr B p) := by
  rw [n3_shl hp, n3_neg1, n3_xor, n3_and, Nat.one_mul]; rfl
theorem n3_clr2 {B p : Nat} : n3 B &&& (n3 (2 ^ p) ^^^ -n3 1) = n3 (clr B p) := by
  rw [n3_neg1, n3_xor, n3_and]; rfl
theorem clr_bit (B p k : Nat) : (clr B p).testBit k = (B.testBit k && (decide (p = k) ^^ decide (k < 32))) := by
  unfold clr
  rw [Nat.testBit_and, Nat.testBit_xor, Nat.testBit_two_pow, show (4294967295 : Nat) = 2 ^ 32 - 1 from rfl, Nat.testBit_two_pow_sub_one]
theorem clr_or {B p : Nat} (hB : B < 16777216) : clr B p ||| 2 ^ p = B ||| 2 ^ p := by
  apply Nat.eq_of_testBit_eq
  intro k
  rw [Nat.testBit_or, Nat.testBit_or, clr_bit, Nat.testBit_two_pow]
  by_cases e : p = k
  · simp [e]
  · by_cases hk : k < 32
    · simp [e, hk]
    · have : B.testBit k = false := Nat.testBit_lt_two_pow (Nat.lt_of_lt_of_le hB (Nat.pow_le_pow_right (n := 2) (by decide) (show 24 ≤ k by omega)))
      simp [e, this]
theorem clr_le (B p : Nat) : clr B p ≤ B := Nat.and_le_left
def blk (B p d : Nat) : Nat := if d = 0 then clr B p else B ||| 2 ^ p
theorem blk_lt {B p d : Nat} (hB : B < 16777216) (hp : p < 24) : blk B p d < 16777216 := by
  unfold blk; split
  · have := clr_le B p; omega
  · exact Nat.or_lt_two_pow (n := 24) hB (Nat.pow_lt_pow_right (by decide) hp)
theorem C_block_t {N : Nat} (hN : 1099511627776 ≤ N) {Λ : Lay} {ad : Nat → Nat} {μ : Mem} {F : Nat → Nat} {m : Nat} {A : Nat → Nat → Nat} {b : Nat} {J : Nat → Nat} {T : Nat → Int32} {n : Nat} {f : Int32} (hY : Ly Λ ad) (h : RC ad μ F m A b J T n f) (ho : Ok F m A b J T n)  (p d : Nat) (hp : p < 24) (hd : d ≤ 1) : CT ad μ (m_X11_block N Λ μ (ad 0) (n3 p) (n3 d)) 0 (n3 (bb (¬ F 10 = blk (F 10) p d))) (up F 10 (blk (F 10) p d)) (min (m + 1) 12) (rmA F A) b J T n f := by
  have hj := hY.1
  have hP := hY.2.2.1
  have hS := hY.2.2.2.1 3 (Or.inl rfl)
  have hL := hY.2.2.2.2.1 30 (Or.inl rfl)
  have hC := h.1
  have hw := ho.1
  have hl := ho.2.1
  have hb := hw.1; unfold WB at hb
  obtain ⟨μ1, e1, h1, f1⟩ := c_remember (N := N) hY h ho
  have q : μ1.1 (ad 3) 9 = n3 (F 10) := h1.1.2.2.2.2.2.2.2.2.2.1
  have hbl := blk_lt (d := d) hb.2.2.2.2.2.2.2.2.2.2.1 hp
  obtain ⟨h2, _⟩ := h1.wr hj hw 10 (blk (F 10) p d) (by omega) ⟨by omega, by omega⟩ (by omega) (by omega) 3 9 rfl rfl
  refine ⟨_, ?_, h2, f1.set hj (by omega)⟩
  have e50 : ∀ X, X < 16777216 → jn_X11_block_50 N Λ μ1 (ad 0) (n3 (F 10)) (ad 3) (n3 X) = some (0, n3 (bb (¬ F 10 = X)), mset μ1 (ad 3) 9 (n3 X)) := by
    intro X hX
    by_cases e : X = F 10
    · simp (disch := omega) only [jn_X11_block_69, jn_X11_block_50, ↓ob (hP.1), ↓ob (hP.2.1), ↓ob (hP.2.2.1), ↓ob (hP.2.2.2.1), ↓ob (hP.2.2.2.2.1), ↓ob (hP.2.2.2.2.2.1), ↓ob (hP.2.2.2.2.2.2.1), ↓ob (hP.2.2.2.2.2.2.2.1), ↓ob (hP.2.2.2.2.2.2.2.2.1), ↓ob (hP.2.2.2.2.2.2.2.2.2.1), ↓ob (hP.2.2.2.2.2.2.2.2.2.2.1), ↓ob (hP.2.2.2.2.2.2.2.2.2.2.2.1), ↓ob (hP.2.2.2.2.2.2.2.2.2.2.2.2.1), ↓ob (hP.2.2.2.2.2.2.2.2.2.2.2.2.2.1), hP.2.2.2.2.2.2.2.2.2.2.2.2.2.2, mse, e, ↓lt_e, ↓gd_e, ↓Option.bind_some, ↓reduceIte, if_true, if_false, if_pT, if_nF, decide_true, Bool.not_true, Bool.not_false, not_true_eq_false, not_false_eq_true, Bool.false_eq_true, Bool.true_eq_false, eq_self, n3_lit, n3_add, n3_mul, n3_sub, n3_tn, n3_le_t, n3_le_f, n3_lt_t, n3_lt_f, n3_eq_f, n3_eq_t, n3_inb, n3_rem, n3_div, n3_zb, bb_0, bb_1, zb_bb, bb_T, bb_F, n3_dec, n3_m1, n3_eqm, n3_eqmt, n3_ltm, n3_mlt, n3_lem, n3_mle, n3_neg_lt, n3_nlt_neg, n3_nle_neg, n3_neg_le]
    · rw [bb_t (Ne.symm e)]
      simp (disch := omega) only [jn_X11_block_69, jn_X11_block_50, ↓ob (hP.1), ↓ob (hP.2.1), ↓ob (hP.2.2.1), ↓ob (hP.2.2.2.1), ↓ob (hP.2.2.2.2.1), ↓ob (hP.2.2.2.2.2.1), ↓ob (hP.2.2.2.2.2.2.1), ↓ob (hP.2.2.2.2.2.2.2.1), ↓ob (hP.2.2.2.2.2.2.2.2.1), ↓ob (hP.2.2.2.2.2.2.2.2.2.1), ↓ob (hP.2.2.2.2.2.2.2.2.2.2.1), ↓ob (hP.2.2.2.2.2.2.2.2.2.2.2.1), ↓ob (hP.2.2.2.2.2.2.2.2.2.2.2.2.1), ↓ob (hP.2.2.2.2.2.2.2.2.2.2.2.2.2.1), hP.2.2.2.2.2.2.2.2.2.2.2.2.2.2, mse, ↓lt_e, ↓gd_e, ↓Option.bind_some, ↓reduceIte, if_true, if_false, if_pT, if_nF, decide_true, Bool.not_true, Bool.not_false, not_true_eq_false, not_false_eq_true, Bool.false_eq_true, Bool.true_eq_false, eq_self, n3_lit, n3_add, n3_mul, n3_sub, n3_tn, n3_le_t, n3_le_f, n3_lt_t, n3_lt_f, n3_eq_f, n3_eq_t, n3_inb, n3_rem, n3_div, n3_zb, bb_0, bb_1, zb_bb, bb_T, bb_F, n3_dec, n3_m1, n3_eqm, n3_eqmt, n3_ltm, n3_mlt, n3_lem, n3_mle, n3_neg_lt, n3_nlt_neg, n3_nle_neg, n3_neg_le]
  have hd' : d = 0 ∨ d = 1 := by omega
  rcases hd' with rfl | rfl
  · have eb : blk (F 10) p 0 = clr (F 10) p := rfl
    rw [eb] at hbl ⊢
    simp (disch := omega) only [m_X11_block, ↓ob (hP.1), ↓ob (hP.2.1), ↓ob (hP.2.2.1), ↓ob (hP.2.2.2.1), ↓ob (hP.2.2.2.2.1), ↓ob (hP.2.2.2.2.2.1), ↓ob (hP.2.2.2.2.2.2.1), ↓ob (hP.2.2.2.2.2.2.2.1), ↓ob (hP.2.2.2.2.2.2.2.2.1), ↓ob (hP.2.2.2.2.2.2.2.2.2.1), ↓ob (hP.2.2.2.2.2.2.2.2.2.2.1), ↓ob (hP.2.2.2.2.2.2.2.2.2.2.2.1), ↓ob (hP.2.2.2.2.2.2.2.2.2.2.2.2.1), ↓ob (hP.2.2.2.2.2.2.2.2.2.2.2.2.2.1), hP.2.2.2.2.2.2.2.2.2.2.2.2.2.2, c_need2, inr_n3, thn_T, thn_0, thn_1, thn_2, thn_3, thn_4, thn_5, e1, q, n3_shl, Nat.one_mul, n3_clr2, ↓lt_e, ↓gd_e, ↓Option.bind_some, ↓reduceIte, if_true, if_false, if_pT, if_nF, decide_true, Bool.not_true, Bool.not_false, not_true_eq_false, not_false_eq_true, Bool.false_eq_true, Bool.true_eq_false, eq_self, n3_lit, n3_add, n3_mul, n3_sub, n3_tn, n3_le_t, n3_le_f, n3_lt_t, n3_lt_f, n3_eq_f, n3_eq_t, n3_inb, n3_rem, n3_div, n3_zb, bb_0, bb_1, zb_bb, bb_T, bb_F, n3_dec, n3_m1, n3_eqm, n3_eqmt, n3_ltm, n3_mlt, n3_lem, n3_mle, n3_neg_lt, n3_nlt_neg, n3_nle_neg, n3_neg_le]
    exact e50 _ hbl
  · have eb : blk (F 10) p 1 = F 10 ||| 2 ^ p := rfl
    rw [eb] at hbl ⊢
    simp (disch := omega) only [m_X11_block, ↓ob (hP.1), ↓ob (hP.2.1), ↓ob (hP.2.2.1), ↓ob (hP.2.2.2.1), ↓ob (hP.2.2.2.2.1), ↓ob (hP.2.2.2.2.2.1), ↓ob (hP.2.2.2.2.2.2.1), ↓ob (hP.2.2.2.2.2.2.2.1), ↓ob (hP.2.2.2.2.2.2.2.2.1), ↓ob (hP.2.2.2.2.2.2.2.2.2.1), ↓ob (hP.2.2.2.2.2.2.2.2.2.2.1), ↓ob (hP.2.2.2.2.2.2.2.2.2.2.2.1), ↓ob (hP.2.2.2.2.2.2.2.2.2.2.2.2.1), ↓ob (hP.2.2.2.2.2.2.2.2.2.2.2.2.2.1), hP.2.2.2.2.2.2.2.2.2.2.2.2.2.2, c_need2, inr_n3, thn_T, thn_0, thn_1, thn_2, thn_3, thn_4, thn_5, e1, q, n3_shl, n3_or, Nat.one_mul, ↓lt_e, ↓gd_e, ↓Option.bind_some, ↓reduceIte, if_true, if_false, if_pT, if_nF, decide_true, Bool.not_true, Bool.not_false, not_true_eq_false, not_false_eq_true, Bool.false_eq_true, Bool.true_eq_false, eq_self, n3_lit, n3_add, n3_mul, n3_sub, n3_tn, n3_le_t, n3_le_f, n3_lt_t, n3_lt_f, n3_eq_f, n3_eq_t, n3_inb, n3_rem, n3_div, n3_zb, bb_0, bb_1, zb_bb, bb_T, bb_F, n3_dec, n3_m1, n3_eqm, n3_eqmt, n3_ltm, n3_mlt, n3_lem, n3_mle, n3_neg_lt, n3_nlt_neg, n3_nle_neg, n3_neg_le]
    exact e50 _ hbl
theorem C_block_f {N : Nat} (hN : 1099511627776 ≤ N) {Λ : Lay} {ad : Nat → Nat} {μ : Mem} {F : Nat → Nat} {m : Nat} {A : Nat → Nat → Nat} {b : Nat} {J : Nat → Nat} {T : Nat → Int32} {n : Nat} {f : Int32} (hY : Ly Λ ad) (h : RC ad μ F m A b J T n f) (ho : Ok F m A b J T n)  (x y : Int32) (hx : inr x 24 = false) : CT ad μ (m_X11_block N Λ μ (ad 0) x y) 3 0 F m A b J T n f := by
  refine CT.same h ?_
  simp (disch := omega) only [m_X11_block, c_need2, hx, thn_T, thn_0, thn_1, thn_2, thn_3, thn_4, thn_5, ↓lt_e, ↓gd_e, ↓Option.bind_some, ↓reduceIte, if_true, if_false, if_pT, if_nF, decide_true, Bool.not_true, Bool.not_false, not_true_eq_false, not_false_eq_true, Bool.false_eq_true, Bool.true_eq_false, eq_self, n3_lit]
theorem R_block_t {N : Nat} (hN : 1099511627776 ≤ N) {Λ : Lay} {ad : Nat → Nat} {μ : Mem} {F : Nat → Nat} {m : Nat} {A : Nat → Nat → Nat} {b : Nat} {J : Nat → Nat} {T : Nat → Int32} {n : Nat} {f : Int32} (hY : Ly Λ ad) (h : RR ad μ F m A b J T n f) (ho : Ok F m A b J T n)  (p d : Nat) (hp : p < 24) (hd : d ≤ 1) : RV ad μ (m_X12_block N Λ μ (ad 181) (n3 p) (n3 d)) 0 (n3 (bb (¬ F 10 = blk (F 10) p d))) (up F 10 (blk (F 10) p d)) (min (m + 1) 12) (rmA F A) b J T n f := by
  have hj := hY.1
  have hR := hY.2.1
  have hW := h.1
  have hw := ho.1
  have hl := ho.2.1
  have hb := hw.1; unfold WB at hb
  unfold m_X12_block
  refine RV.start hY.1 h (fun μ0 h0 t0 => ?_)
  obtain ⟨μ1, e1, h1, t1, f1⟩ := r_isNow hN hY h0 ho 10 (blk (F 10) p d) (by omega)
  have hW0 := h0.1
  have hB : F 10 < 16777216 := hb.2.2.2.2.2.2.2.2.2.2.1
  have hbl := blk_lt (d := d) hB hp
  refine ⟨μ1, ?_, t1.trans t0, h1, f1⟩
  have hd' : d = 0 ∨ d = 1 := by omega
  have ez : clr (F 10) p ||| 0 = clr (F 10) p := Nat.or_zero _
  have e43 : ∀ X Y, X ||| Y < 16777216 → m_X12_isNow N Λ μ0 (ad 181) (n3 10) (n3 (X ||| Y)) = some (n3 (F 10), μ1) → jn_X12_block_43 N Λ μ0 (ad 181) (n3 X) (n3 Y) = some (n3 (bb (¬ F 10 = X ||| Y)), μ1) := by
    intro X Y hX he
    by_cases e : F 10 = X ||| Y
    · rw [← e] at he
      simp (disch := omega) only [jn_X12_block_61, jn_X12_block_43, n3_or, ← e, he, ↓lt_e, ↓gd_e, ↓Option.bind_some, ↓reduceIte, if_true, if_false, if_pT, if_nF, decide_true, Bool.not_true, Bool.not_false, not_true_eq_false, not_false_eq_true, Bool.false_eq_true, Bool.true_eq_false, eq_self, n3_lit, n3_add, n3_mul, n3_sub, n3_tn, n3_le_t, n3_le_f, n3_lt_t, n3_lt_f, n3_eq_f, n3_eq_t, n3_inb, n3_rem, n3_div, n3_zb, bb_0, bb_1, zb_bb, bb_T, bb_F, n3_dec, n3_m1, n3_eqm, n3_eqmt, n3_ltm, n3_mlt, n3_lem, n3_mle, n3_neg_lt, n3_nlt_neg, n3_nle_neg, n3_neg_le]
    · rw [bb_t e]
      simp (disch := omega) only [jn_X12_block_61, jn_X12_block_43, n3_or, he, ↓lt_e, ↓gd_e, ↓Option.bind_some, ↓reduceIte, if_true, if_false, if_pT, if_nF, decide_true, Bool.not_true, Bool.not_false, not_true_eq_false, not_false_eq_true, Bool.false_eq_true, Bool.true_eq_false, eq_self, n3_lit, n3_add, n3_mul, n3_sub, n3_tn, n3_le_t, n3_le_f, n3_lt_t, n3_lt_f, n3_eq_f, n3_eq_t, n3_inb, n3_rem, n3_div, n3_zb, bb_0, bb_1, zb_bb, bb_T, bb_F, n3_dec, n3_m1, n3_eqm, n3_eqmt, n3_ltm, n3_mlt, n3_lem, n3_mle, n3_neg_lt, n3_nlt_neg, n3_nle_neg, n3_neg_le]
  rcases hd' with rfl | rfl
  · have eb : blk (F 10) p 0 = clr (F 10) p ||| 0 := by rw [ez]; rfl
    rw [eb] at hbl e1 ⊢
    have e9 := e43 (clr (F 10) p) 0 hbl e1
    simp (disch := omega) only [↓ob (hR.1), ↓ob (hR.2.1), ↓ob (hR.2.2.1), ↓ob (hR.2.2.2.1), ↓ob (hR.2.2.2.2.1), ↓ob (hR.2.2.2.2.2.1), ↓ob (hR.2.2.2.2.2.2.1), ↓ob (hR.2.2.2.2.2.2.2.1), ↓ob (hR.2.2.2.2.2.2.2.2.1), ↓ob (hR.2.2.2.2.2.2.2.2.2.1), ↓ob (hR.2.2.2.2.2.2.2.2.2.2.1), ↓ob (hR.2.2.2.2.2.2.2.2.2.2.2.1), ↓ob (hR.2.2.2.2.2.2.2.2.2.2.2.2.1), ↓ob (hR.2.2.2.2.2.2.2.2.2.2.2.2.2.1), ↓ob (hR.2.2.2.2.2.2.2.2.2.2.2.2.2.2.1), ↓ob (hR.2.2.2.2.2.2.2.2.2.2.2.2.2.2.2.1), ↓ob (hR.2.2.2.2.2.2.2.2.2.2.2.2.2.2.2.2.1), ↓ob (hR.2.2.2.2.2.2.2.2.2.2.2.2.2.2.2.2.2.1), hR.2.2.2.2.2.2.2.2.2.2.2.2.2.2.2.2.2.2.1, hR.2.2.2.2.2.2.2.2.2.2.2.2.2.2.2.2.2.2.2.1, hR.2.2.2.2.2.2.2.2.2.2.2.2.2.2.2.2.2.2.2.2.1, hR.2.2.2.2.2.2.2.2.2.2.2.2.2.2.2.2.2.2.2.2.2.1, hR.2.2.2.2.2.2.2.2.2.2.2.2.2.2.2.2.2.2.2.2.2.2.1, hR.2.2.2.2.2.2.2.2.2.2.2.2.2.2.2.2.2.2.2.2.2.2.2.1, hR.2.2.2.2.2.2.2.2.2.2.2.2.2.2.2.2.2.2.2.2.2.2.2.2.1, hR.2.2.2.2.2.2.2.2.2.2.2.2.2.2.2.2.2.2.2.2.2.2.2.2.2.1, hR.2.2.2.2.2.2.2.2.2.2.2.2.2.2.2.2.2.2.2.2.2.2.2.2.2.2.1, hR.2.2.2.2.2.2.2.2.2.2.2.2.2.2.2.2.2.2.2.2.2.2.2.2.2.2.2.1, hR.2.2.2.2.2.2.2.2.2.2.2.2.2.2.2.2.2.2.2.2.2.2.2.2.2.2.2.2.1, hR.2.2.2.2.2.2.2.2.2.2.2.2.2.2.2.2.2.2.2.2.2.2.2.2.2.2.2.2.2.1, hR.2.2.2.2.2.2.2.2.2.2.2.2.2.2.2.2.2.2.2.2.2.2.2.2.2.2.2.2.2.2.1, hR.2.2.2.2.2.2.2.2.2.2.2.2.2.2.2.2.2.2.2.2.2.2.2.2.2.2.2.2.2.2.2.1, hR.2.2.2.2.2.2.2.2.2.2.2.2.2.2.2.2.2.2.2.2.2.2.2.2.2.2.2.2.2.2.2.2.1, hR.2.2.2.2.2.2.2.2.2.2.2.2.2.2.2.2.2.2.2.2.2.2.2.2.2.2.2.2.2.2.2.2.2.1, hR.2.2.2.2.2.2.2.2.2.2.2.2.2.2.2.2.2.2.2.2.2.2.2.2.2.2.2.2.2.2.2.2.2.2.1, hR.2.2.2.2.2.2.2.2.2.2.2.2.2.2.2.2.2.2.2.2.2.2.2.2.2.2.2.2.2.2.2.2.2.2.2, hW0, r_noPl, inr_n3, r_thr0, n3_shl, Nat.one_mul, n3_clr2, e9, ↓lt_e, ↓gd_e, ↓Option.bind_some, ↓reduceIte, if_true, if_false, if_pT, if_nF, decide_true, Bool.not_true, Bool.not_false, not_true_eq_false, not_false_eq_true, Bool.false_eq_true, Bool.true_eq_false, eq_self, n3_lit, n3_add, n3_mul, n3_sub, n3_tn, n3_le_t, n3_le_f, n3_lt_t, n3_lt_f, n3_eq_f, n3_eq_t, n3_inb, n3_rem, n3_div, n3_zb, bb_0, bb_1, zb_bb, bb_T, bb_F, n3_dec, n3_m1, n3_eqm, n3_eqmt, n3_ltm, n3_mlt, n3_lem, n3_mle, n3_neg_lt, n3_nlt_neg, n3_nle_neg, n3_neg_le]
  · have eb : blk (F 10) p 1 = clr (F 10) p ||| 2 ^ p := by rw [clr_or hB]; rfl
    rw [eb] at hbl e1 ⊢
    have e9 := e43 (clr (F 10) p) (2 ^ p) hbl e1
    simp (disch := omega) only [↓ob (hR.1), ↓ob (hR.2.1), ↓ob (hR.2.2.1), ↓ob (hR.2.2.2.1), ↓ob (hR.2.2.2.2.1), ↓ob (hR.2.2.2.2.2.1), ↓ob (hR.2.2.2.2.2.2.1), ↓ob (hR.2.2.2.2.2.2.2.1), ↓ob (hR.2.2.2.2.2.2.2.2.1), ↓ob (hR.2.2.2.2.2.2.2.2.2.1), ↓ob (hR.2.2.2.2.2.2.2.2.2.2.1), ↓ob (hR.2.2.2.2.2.2.2.2.2.2.2.1), ↓ob (hR.2.2.2.2.2.2.2.2.2.2.2.2.1), ↓ob (hR.2.2.2.2.2.2.2.2.2.2.2.2.2.1), ↓ob (hR.2.2.2.2.2.2.2.2.2.2.2.2.2.2.1), ↓ob (hR.2.2.2.2.2.2.2.2.2.2.2.2.2.2.2.1), ↓ob (hR.2.2.2.2.2.2.2.2.2.2.2.2.2.2.2.2.1), ↓ob (hR.2.2.2.2.2.2.2.2.2.2.2.2.2.2.2.2.2.1), hR.2.2.2.2.2.2.2.2.2.2.2.2.2.2.2.2.2.2.1, hR.2.2.2.2.2.2.2.2.2.2.2.2.2.2.2.2.2.2.2.1, hR.2.2.2.2.2.2.2.2.2.2.2.2.2.2.2.2.2.2.2.2.1, hR.2.2.2.2.2.2.2.2.2.2.2.2.2.2.2.2.2.2.2.2.2.1, hR.2.2.2.2.2.2.2.2.2.2.2.2.2.2.2.2.2.2.2.2.2.2.1, hR.2.2.2.2.2.2.2.2.2.2.2.2.2.2.2.2.2.2.2.2.2.2.2.1, hR.2.2.2.2.2.2.2.2.2.2.2.2.2.2.2.2.2.2.2.2.2.2.2.2.1, hR.2.2.2.2.2.2.2.2.2.2.2.2.2.2.2.2.2.2.2.2.2.2.2.2.2.1, hR.2.2.2.2.2.2.2.2.2.2.2.2.2.2.2.2.2.2.2.2.2.2.2.2.2.2.1, hR.2.2.2.2.2.2.2.2.2.2.2.2.2.2.2.2.2.2.2.2.2.2.2.2.2.2.2.1, hR.2.2.2.2.2.2.2.2.2.2.2.2.2.2.2.2.2.2.2.2.2.2.2.2.2.2.2.2.1, hR.2.2.2.2.2.2.2.2.2.2.2.2.2.2.2.2.2.2.2.2.2.2.2.2.2.2.2.2.2.1, hR.2.2.2.2.2.2.2.2.2.2.2.2.2.2.2.2.2.2.2.2.2.2.2.2.2.2.2.2.2.2.1, hR.2.2.2.2.2.2.2.2.2.2.2.2.2.2.2.2.2.2.2.2.2.2.2.2.2.2.2.2.2.2.2.1, hR.2.2.2.2.2.2.2.2.2.2.2.2.2.2.2.2.2.2.2.2.2.2.2.2.2.2.2.2.2.2.2.2.1, hR.2.2.2.2.2.2.2.2.2.2.2.2.2.2.2.2.2.2.2.2.2.2.2.2.2.2.2.2.2.2.2.2.2.1, hR.2.2.2.2.2.2.2.2.2.2.2.2.2.2.2.2.2.2.2.2.2.2.2.2.2.2.2.2.2.2.2.2.2.2.1, hR.2.2.2.2.2.2.2.2.2.2.2.2.2.2.2.2.2.2.2.2.2.2.2.2.2.2.2.2.2.2.2.2.2.2.2, hW0, r_noPl, inr_n3, r_thr0, n3_shl, Nat.one_mul, n3_clr2, e9, ↓lt_e, ↓gd_e, ↓Option.bind_some, ↓reduceIte, if_true, if_false, if_pT, if_nF, decide_true, Bool.not_true, Bool.not_false, not_true_eq_false, not_false_eq_true, Bool.false_eq_true, Bool.true_eq_false, eq_self, n3_lit, n3_add, n3_mul, n3_sub, n3_tn, n3_le_t, n3_le_f, n3_lt_t, n3_lt_f, n3_eq_f, n3_eq_t, n3_inb, n3_rem, n3_div, n3_zb, bb_0, bb_1, zb_bb, bb_T, bb_F, n3_dec, n3_m1, n3_eqm, n3_eqmt, n3_ltm, n3_mlt, n3_lem, n3_mle, n3_neg_lt, n3_nlt_neg, n3_nle_neg, n3_neg_le]
theorem R_block_f {N : Nat} (hN : 1099511627776 ≤ N) {Λ : Lay} {ad : Nat → Nat} {μ : Mem} {F : Nat → Nat} {m : Nat} {A : Nat → Nat → Nat} {b : Nat} {J : Nat → Nat} {T : Nat → Int32} {n : Nat} {f : Int32} (hY : Ly Λ ad) (h : RR ad μ F m A b J T n f) (ho : Ok F m A b J T n)  (x y : Int32) (hx : inr x 24 = false) : RV ad μ (m_X12_block N Λ μ (ad 181) x y) 1 0 F m A b J T n f := by
  unfold m_X12_block
  refine RV.start hY.1 h (fun μ0 h0 t0 => RV.thrown hY.1 h0 ?_)
  simp (disch := omega) only [r_noPl, hx, r_thr1, ↓lt_e, ↓gd_e, ↓Option.bind_some, ↓reduceIte, if_true, if_false, if_pT, if_nF, decide_true, Bool.not_true, Bool.not_false, not_true_eq_false, not_false_eq_true, Bool.false_eq_true, Bool.true_eq_false, eq_self, n3_lit, n3_add, n3_mul, n3_sub, n3_tn, n3_le_t, n3_le_f, n3_lt_t, n3_lt_f, n3_eq_f, n3_eq_t, n3_inb, n3_rem, n3_div, n3_zb, bb_0, bb_1, zb_bb, bb_T, bb_F, n3_dec, n3_m1, n3_eqm, n3_eqmt, n3_ltm, n3_mlt, n3_lem, n3_mle, n3_neg_lt, n3_nlt_neg, n3_nle_neg, n3_neg_le]
/-! ships let in and out, ships that come -/
theorem tkn_and {F : Nat → Nat} {X : Nat} : ∀ {n : Nat}, tkn F n &&& X = 0 → ∀ s, s < n → pl F s &&& X = 0
  | n + 1, h, s, hs => by
    have e : tkn F (n + 1) = tkn F n ||| pl F n := rfl
    rw [e, Nat.and_or_distrib_right, Nat.or_eq_zero_iff] at h
    by_cases e1 : s = n
    · rw [e1]; exact h.2
    · exact tkn_and h.1 s (by omega)
theorem WF.pl1 {F G : Nat → Nat} (h : WF F) (hb : WB G) (s : Nat) (h0 : G 0 = F 0) (ht : ∀ k, k < 12 → G (13 + k) ≤ 30) (hs : ∀ t, t < F 0 → ShOk G t) (hp : ∀ t, t < F 0 → t ≠ s → pl G t = pl F t) (hd : ∀ t, t < F 0 → t ≠ s → pl F t &&& pl G s = 0) : WF G := by
  refine ⟨hb, ht, fun t h1 => hs t (by omega), fun t u h1 h2 => ?_⟩
  by_cases e1 : t = s
  · subst e1; rw [hp u (by omega) (by omega), Nat.and_comm]; exact hd u (by omega) (by omega)
  · by_cases e2 : u = s
    · subst e2; rw [hp t (by omega) e1]; exact hd t (by omega) e1
    · rw [hp t (by omega) e1, hp u (by omega) e2]; exact h.2.2.2 t u h1 (by omega)
def entF (F : Nat → Nat) (s p : Nat) : Nat → Nat := logF (up (up F (25 + 6 * s + 3) 1) (25 + 6 * s + 4) p) s 0 p
def outF (F : Nat → Nat) (s e : Nat) : Nat → Nat := up (up (up (logF F s 1 (F (25 + 6 * s + 4))) 8 (min 9999 (F 8 + e))) (25 + 6 * s + 3) 2) (25 + 6 * s + 4) 4294967295
theorem ent_WF {F : Nat → Nat} (h : WF F) {s p : Nat} (hs : s < F 0) (hf : fitb (tkn F (F 0)) p (F (25 + 6 * s)) = true) : WF (entF F s p) := by
  have hb := h.1
  have h8 : F 0 ≤ 8 := hb.1
  have hf' := fitb_iff.1 hf
  unfold entF
  have hlog : ∀ k, k < 73 → k ≠ 11 → logF (up (up F (25 + 6 * s + 3) 1) (25 + 6 * s + 4) p) s 0 p k = up (up F (25 + 6 * s + 3) 1) (25 + 6 * s + 4) p k := fun k h1 h2 => log_lo h1 h2
  have e11 : logF (up (up F (25 + 6 * s + 3) 1) (25 + 6 * s + 4) p) s 0 p 11 = min 60 (F 11 + 1) := by show min 60 (up (up F (25 + 6 * s + 3) 1) (25 + 6 * s + 4) p 11 + 1) = _; simp (disch := omega) only [up_n]
  have eps : pl (logF (up (up F (25 + 6 * s + 3) 1) (25 + 6 * s + 4) p) s 0 p) s = rn p (F (25 + 6 * s)) := by
    unfold pl
    simp (disch := omega) only [hlog, up_n, up_e, if_true]
  refine h.pl1 ?_ s ?_ (fun k hk => ?_) (fun t ht => ?_) (fun t ht hne => ?_) (fun t ht hne => ?_)
  · unfold WB at *
    simp (disch := omega) only [hlog, e11, up_n]
    omega
  · simp (disch := omega) only [hlog, up_n]
  · simp (disch := omega) only [hlog, up_n]; exact h.2.1 k hk
  · have := h.2.2.1 t ht
    by_cases e : t = s
    · subst e; unfold ShOk at *; simp (disch := omega) only [hlog, up_n, up_e]; omega
    · exact this.congr (fun w hw => by simp (disch := omega) only [hlog, up_n])
  · exact pl_congr (by simp (disch := omega) only [hlog, up_n]) (by simp (disch := omega) only [hlog, up_n]) (by simp (disch := omega) only [hlog, up_n])
  · rw [eps]; exact tkn_and hf'.2 t ht
theorem out_WF {F : Nat → Nat} (h : WF F) {s e : Nat} (hs : s < F 0) : WF (outF F s e) := by
  have hb := h.1
  have h8 : F 0 ≤ 8 := hb.1
  unfold outF
  have hlog : ∀ k, k < 73 → k ≠ 11 → logF F s 1 (F (25 + 6 * s + 4)) k = F k := fun k h1 h2 => log_lo h1 h2
  have e11 : logF F s 1 (F (25 + 6 * s + 4)) 11 = min 60 (F 11 + 1) := rfl
  have eps : pl (up (up (up (logF F s 1 (F (25 + 6 * s + 4))) 8 (min 9999 (F 8 + e))) (25 + 6 * s + 3) 2) (25 + 6 * s + 4) 4294967295) s = 0 := by
    unfold pl
    rw [up_n (by omega), up_e]; rfl
  refine h.pl1 ?_ s ?_ (fun k hk => ?_) (fun t ht => ?_) (fun t ht hne => ?_) (fun t ht hne => ?_)
  · unfold WB at *
    simp (disch := omega) only [hlog, e11, up_n, up_e]
    omega
  · simp (disch := omega) only [hlog, up_n]
  · simp (disch := omega) only [hlog, up_n]; exact h.2.1 k hk
  · have := h.2.2.1 t ht
    by_cases e : t = s
    · subst e; unfold ShOk at *; simp (disch := omega) only [hlog, up_n, up_e]; exact ⟨by omega, by omega, by omega, by omega, by omega, by omega, fun h => absurd h (by decide), fun _ => trivial, by omega⟩
    · exact this.congr (fun w hw => by simp (disch := omega) only [hlog, up_n])
  · exact pl_congr (by simp (disch := omega) only [hlog, up_n]) (by simp (disch := omega) only [hlog, up_n]) (by simp (disch := omega) only [hlog, up_n])
  · rw [eps]; exact Nat.and_zero _
theorem ent_Lw {F : Nat → Nat} {s p : Nat} (hs : s < 8) : LwE F (entF F s p) := (((LwE.refl F).up (by omega) (by omega)).up (by omega) (by omega)).log
theorem out_Lw {F : Nat → Nat} {s e : Nat} (hs : s < 8) : LwE F (outF F s e) := (((LwE.refl F).log.up (by omega) (by omega)).up (by omega) (by omega)).up (by omega) (by omega)
def canE (F : Nat → Nat) (s p : Nat) : Bool := decide (F 4 = 1) && (decide (F (25 + 6 * s + 3) = 0) && (decide (F (25 + 6 * s + 1) ≤ F 3) && fitb (tkn F (F 0)) p (F (25 + 6 * s))))
theorem canE_iff {F : Nat → Nat} {s p : Nat} : canE F s p = true ↔ F 4 = 1 ∧ F (25 + 6 * s + 3) = 0 ∧ F (25 + 6 * s + 1) ≤ F 3 ∧ fitb (tkn F (F 0)) p (F (25 + 6 * s)) = true := by simp [canE]
theorem C_enter_f1 {N : Nat} (hN : 1099511627776 ≤ N) {Λ : Lay} {ad : Nat → Nat} {μ : Mem} {F : Nat → Nat} {m : Nat} {A : Nat → Nat → Nat} {b : Nat} {J : Nat → Nat} {T : Nat → Int32} {n : Nat} {f : Int32} (hY : Ly Λ ad) (h : RC ad μ F m A b J T n f) (ho : Ok F m A b J T n)  (x y : Int32) (hx : inr x (F 0) = false ∨ inr y 24 = false) : CT ad μ (m_X11_enter N Λ μ (ad 0) x y) 3 0 F m A b J T n f := by
  have hj := hY.1
  have hP := hY.2.2.1
  have hS := hY.2.2.2.1 3 (Or.inl rfl)
  have hL := hY.2.2.2.2.1 30 (Or.inl rfl)
  have hC := h.1
  have hw := ho.1
  have hl := ho.2.1
  have hb := hw.1; unfold WB at hb
  refine CT.same h ?_
  by_cases h1 : inr x (F 0) = true
  · have h2 := hx.resolve_left (by rw [h1]; decide)
    simp (disch := omega) only [m_X11_enter, c_need1 hP hC, c_need2, h1, h2, thn_T, thn_0, thn_1, thn_2, thn_3, thn_4, thn_5, ↓lt_e, ↓gd_e, ↓Option.bind_some, ↓reduceIte, if_true, if_false, if_pT, if_nF, decide_true, Bool.not_true, Bool.not_false, not_true_eq_false, not_false_eq_true, Bool.false_eq_true, Bool.true_eq_false, eq_self, n3_lit]
  · simp (disch := omega) only [m_X11_enter, c_need1 hP hC, h1, thn_T, thn_0, thn_1, thn_2, thn_3, thn_4, thn_5, ↓lt_e, ↓gd_e, ↓Option.bind_some, ↓reduceIte, if_true, if_false, if_pT, if_nF, decide_true, Bool.not_true, Bool.not_false, not_true_eq_false, not_false_eq_true, Bool.false_eq_true, Bool.true_eq_false, eq_self, n3_lit]
theorem C_enter_f2 {N : Nat} (hN : 1099511627776 ≤ N) {Λ : Lay} {ad : Nat → Nat} {μ : Mem} {F : Nat → Nat} {m : Nat} {A : Nat → Nat → Nat} {b : Nat} {J : Nat → Nat} {T : Nat → Int32} {n : Nat} {f : Int32} (hY : Ly Λ ad) (h : RC ad μ F m A b J T n f) (ho : Ok F m A b J T n)  (s p : Nat) (hs : s < F 0) (hp : p < 24) (hc : canE F s p = false) : CT ad μ (m_X11_enter N Λ μ (ad 0) (n3 s) (n3 p)) 5 0 F m A b J T n f := by
  have hj := hY.1
  have hP := hY.2.2.1
  have hS := hY.2.2.2.1 3 (Or.inl rfl)
  have hL := hY.2.2.2.2.1 30 (Or.inl rfl)
  have hC := h.1
  have hw := ho.1
  have hl := ho.2.1
  have hb := hw.1; unfold WB at hb
  have hso := hw.2.2.1 s hs; unfold ShOk at hso
  refine CT.same h ?_
  have hc' := mt canE_iff.2 (Bool.eq_false_iff.1 hc)
  have tk := c_taken hN hS hC hw.2.2.1 hb.1
  have tl := tkn_lt (F 0) hw.2.2.1
  by_cases h4 : F 4 = 1
  · by_cases h3 : F (25 + 6 * s + 3) = 0
    · by_cases h1 : F (25 + 6 * s + 1) ≤ F 3
      · have hfit : ¬ fitb (tkn F (F 0)) p (F (25 + 6 * s)) = true := fun hh => hc' ⟨h4, h3, h1, hh⟩
        simp (disch := omega) only [jn_X11_enter_74, m_X11_enter, ↓ob (hP.1), ↓ob (hP.2.1), ↓ob (hP.2.2.1), ↓ob (hP.2.2.2.1), ↓ob (hP.2.2.2.2.1), ↓ob (hP.2.2.2.2.2.1), ↓ob (hP.2.2.2.2.2.2.1), ↓ob (hP.2.2.2.2.2.2.2.1), ↓ob (hP.2.2.2.2.2.2.2.2.1), ↓ob (hP.2.2.2.2.2.2.2.2.2.1), ↓ob (hP.2.2.2.2.2.2.2.2.2.2.1), ↓ob (hP.2.2.2.2.2.2.2.2.2.2.2.1), ↓ob (hP.2.2.2.2.2.2.2.2.2.2.2.2.1), ↓ob (hP.2.2.2.2.2.2.2.2.2.2.2.2.2.1), hP.2.2.2.2.2.2.2.2.2.2.2.2.2.2, ↓ob (hS.1), ↓ob (hS.2.1), ↓ob (hS.2.2.1), ↓ob (hS.2.2.2.1), ↓ob (hS.2.2.2.2.1), ↓ob (hS.2.2.2.2.2.1), ↓ob (hS.2.2.2.2.2.2.1), ↓ob (hS.2.2.2.2.2.2.2.1), hS.2.2.2.2.2.2.2.2.1, hS.2.2.2.2.2.2.2.2.2.1, hS.2.2.2.2.2.2.2.2.2.2.1, hS.2.2.2.2.2.2.2.2.2.2.2.1, hS.2.2.2.2.2.2.2.2.2.2.2.2.1, hS.2.2.2.2.2.2.2.2.2.2.2.2.2.1, hS.2.2.2.2.2.2.2.2.2.2.2.2.2.2, hC.1, hC.2.1, hC.2.2.1, hC.2.2.2.1, hC.2.2.2.2.1, hC.2.2.2.2.2.1, hC.2.2.2.2.2.2.1, hC.2.2.2.2.2.2.2.1, hC.2.2.2.2.2.2.2.2.1, hC.2.2.2.2.2.2.2.2.2.1, hC.2.2.2.2.2.2.2.2.2.2.1, hC.2.2.2.2.2.2.2.2.2.2.2.1, hC.2.2.2.2.2.2.2.2.2.2.2.2.1, hC.2.2.2.2.2.2.2.2.2.2.2.2.2.1, hC.2.2.2.2.2.2.2.2.2.2.2.2.2.2.1, hC.2.2.2.2.2.2.2.2.2.2.2.2.2.2.2.1, hC.2.2.2.2.2.2.2.2.2.2.2.2.2.2.2.2.1, c_need1 hP hC, c_need2, inr_n3, thn_T, thn_0, thn_1, thn_2, thn_3, thn_4, thn_5, h4, h3, tk, c_isRoom, hfit, ↓lt_e, ↓gd_e, ↓Option.bind_some, ↓reduceIte, if_true, if_false, if_pT, if_nF, decide_true, Bool.not_true, Bool.not_false, not_true_eq_false, not_false_eq_true, Bool.false_eq_true, Bool.true_eq_false, eq_self, n3_lit, n3_add, n3_mul, n3_sub, n3_tn, n3_le_t, n3_le_f, n3_lt_t, n3_lt_f, n3_eq_f, n3_eq_t, n3_inb, n3_rem, n3_div, n3_zb, bb_0, bb_1, zb_bb, bb_T, bb_F, n3_dec, n3_m1, n3_eqm, n3_eqmt, n3_ltm, n3_mlt, n3_lem, n3_mle, n3_neg_lt, n3_nlt_neg, n3_nle_neg, n3_neg_le]
      · simp (disch := omega) only [jn_X11_enter_74, m_X11_enter, ↓ob (hP.1), ↓ob (hP.2.1), ↓ob (hP.2.2.1), ↓ob (hP.2.2.2.1), ↓ob (hP.2.2.2.2.1), ↓ob (hP.2.2.2.2.2.1), ↓ob (hP.2.2.2.2.2.2.1), ↓ob (hP.2.2.2.2.2.2.2.1), ↓ob (hP.2.2.2.2.2.2.2.2.1), ↓ob (hP.2.2.2.2.2.2.2.2.2.1), ↓ob (hP.2.2.2.2.2.2.2.2.2.2.1), ↓ob (hP.2.2.2.2.2.2.2.2.2.2.2.1), ↓ob (hP.2.2.2.2.2.2.2.2.2.2.2.2.1), ↓ob (hP.2.2.2.2.2.2.2.2.2.2.2.2.2.1), hP.2.2.2.2.2.2.2.2.2.2.2.2.2.2, ↓ob (hS.1), ↓ob (hS.2.1), ↓ob (hS.2.2.1), ↓ob (hS.2.2.2.1), ↓ob (hS.2.2.2.2.1), ↓ob (hS.2.2.2.2.2.1), ↓ob (hS.2.2.2.2.2.2.1), ↓ob (hS.2.2.2.2.2.2.2.1), hS.2.2.2.2.2.2.2.2.1, hS.2.2.2.2.2.2.2.2.2.1, hS.2.2.2.2.2.2.2.2.2.2.1, hS.2.2.2.2.2.2.2.2.2.2.2.1, hS.2.2.2.2.2.2.2.2.2.2.2.2.1, hS.2.2.2.2.2.2.2.2.2.2.2.2.2.1, hS.2.2.2.2.2.2.2.2.2.2.2.2.2.2, hC.1, hC.2.1, hC.2.2.1, hC.2.2.2.1, hC.2.2.2.2.1, hC.2.2.2.2.2.1, hC.2.2.2.2.2.2.1, hC.2.2.2.2.2.2.2.1, hC.2.2.2.2.2.2.2.2.1, hC.2.2.2.2.2.2.2.2.2.1, hC.2.2.2.2.2.2.2.2.2.2.1, hC.2.2.2.2.2.2.2.2.2.2.2.1, hC.2.2.2.2.2.2.2.2.2.2.2.2.1, hC.2.2.2.2.2.2.2.2.2.2.2.2.2.1, hC.2.2.2.2.2.2.2.2.2.2.2.2.2.2.1, hC.2.2.2.2.2.2.2.2.2.2.2.2.2.2.2.1, hC.2.2.2.2.2.2.2.2.2.2.2.2.2.2.2.2.1, c_need1 hP hC, c_need2, inr_n3, thn_T, thn_0, thn_1, thn_2, thn_3, thn_4, thn_5, h4, h3, ↓lt_e, ↓gd_e, ↓Option.bind_some, ↓reduceIte, if_true, if_false, if_pT, if_nF, decide_true, Bool.not_true, Bool.not_false, not_true_eq_false, not_false_eq_true, Bool.false_eq_true, Bool.true_eq_false, eq_self, n3_lit, n3_add, n3_mul, n3_sub, n3_tn, n3_le_t, n3_le_f, n3_lt_t, n3_lt_f, n3_eq_f, n3_eq_t, n3_inb, n3_rem, n3_div, n3_zb, bb_0, bb_1, zb_bb, bb_T, bb_F, n3_dec, n3_m1, n3_eqm, n3_eqmt, n3_ltm, n3_mlt, n3_lem, n3_mle, n3_neg_lt, n3_nlt_neg, n3_nle_neg, n3_neg_le]
    · simp (disch := omega) only [jn_X11_enter_74, m_X11_enter, ↓ob (hP.1), ↓ob (hP.2.1), ↓ob (hP.2.2.1), ↓ob (hP.2.2.2.1), ↓ob (hP.2.2.2.2.1), ↓ob (hP.2.2.2.2.2.1), ↓ob (hP.2.2.2.2.2.2.1), ↓ob (hP.2.2.2.2.2.2.2.1), ↓ob (hP.2.2.2.2.2.2.2.2.1), ↓ob (hP.2.2.2.2.2.2.2.2.2.1), ↓ob (hP.2.2.2.2.2.2.2.2.2.2.1), ↓ob (hP.2.2.2.2.2.2.2.2.2.2.2.1), ↓ob (hP.2.2.2.2.2.2.2.2.2.2.2.2.1), ↓ob (hP.2.2.2.2.2.2.2.2.2.2.2.2.2.1), hP.2.2.2.2.2.2.2.2.2.2.2.2.2.2, ↓ob (hS.1), ↓ob (hS.2.1), ↓ob (hS.2.2.1), ↓ob (hS.2.2.2.1), ↓ob (hS.2.2.2.2.1), ↓ob (hS.2.2.2.2.2.1), ↓ob (hS.2.2.2.2.2.2.1), ↓ob (hS.2.2.2.2.2.2.2.1), hS.2.2.2.2.2.2.2.2.1, hS.2.2.2.2.2.2.2.2.2.1, hS.2.2.2.2.2.2.2.2.2.2.1, hS.2.2.2.2.2.2.2.2.2.2.2.1, hS.2.2.2.2.2.2.2.2.2.2.2.2.1, hS.2.2.2.2.2.2.2.2.2.2.2.2.2.1, hS.2.2.2.2.2.2.2.2.2.2.2.2.2.2, hC.1, hC.2.1, hC.2.2.1, hC.2.2.2.1, hC.2.2.2.2.1, hC.2.2.2.2.2.1, hC.2.2.2.2.2.2.1, hC.2.2.2.2.2.2.2.1, hC.2.2.2.2.2.2.2.2.1, hC.2.2.2.2.2.2.2.2.2.1, hC.2.2.2.2.2.2.2.2.2.2.1, hC.2.2.2.2.2.2.2.2.2.2.2.1, hC.2.2.2.2.2.2.2.2.2.2.2.2.1, hC.2.2.2.2.2.2.2.2.2.2.2.2.2.1, hC.2.2.2.2.2.2.2.2.2.2.2.2.2.2.1, hC.2.2.2.2.2.2.2.2.2.2.2.2.2.2.2.1, hC.2.2.2.2.2.2.2.2.2.2.2.2.2.2.2.2.1, c_need1 hP hC, c_need2, inr_n3, thn_T, thn_0, thn_1, thn_2, thn_3, thn_4, thn_5, h4, ↓lt_e, ↓gd_e, ↓Option.bind_some, ↓reduceIte, if_true, if_false, if_pT, if_nF, decide_true, Bool.not_true, Bool.not_false, not_true_eq_false, not_false_eq_true, Bool.false_eq_true, Bool.true_eq_false, eq_self, n3_lit, n3_add, n3_mul, n3_sub, n3_tn, n3_le_t, n3_le_f, n3_lt_t, n3_lt_f, n3_eq_f, n3_eq_t, n3_inb, n3_rem, n3_div, n3_zb, bb_0, bb_1, zb_bb, bb_T, bb_F, n3_dec, n3_m1, n3_eqm, n3_eqmt, n3_ltm, n3_mlt, n3_lem, n3_mle, n3_neg_lt, n3_nlt_neg, n3_nle_neg, n3_neg_le]
  · have h40 : F 4 = 0 := by omega
    simp (disch := omega) only [jn_X11_enter_74, m_X11_enter, ↓ob (hP.1), ↓ob (hP.2.1), ↓ob (hP.2.2.1), ↓ob (hP.2.2.2.1), ↓ob (hP.2.2.2.2.1), ↓ob (hP.2.2.2.2.2.1), ↓ob (hP.2.2.2.2.2.2.1), ↓ob (hP.2.2.2.2.2.2.2.1), ↓ob (hP.2.2.2.2.2.2.2.2.1), ↓ob (hP.2.2.2.2.2.2.2.2.2.1), ↓ob (hP.2.2.2.2.2.2.2.2.2.2.1), ↓ob (hP.2.2.2.2.2.2.2.2.2.2.2.1), ↓ob (hP.2.2.2.2.2.2.2.2.2.2.2.2.1), ↓ob (hP.2.2.2.2.2.2.2.2.2.2.2.2.2.1), hP.2.2.2.2.2.2.2.2.2.2.2.2.2.2, ↓ob (hS.1), ↓ob (hS.2.1), ↓ob (hS.2.2.1), ↓ob (hS.2.2.2.1), ↓ob (hS.2.2.2.2.1), ↓ob (hS.2.2.2.2.2.1), ↓ob (hS.2.2.2.2.2.2.1), ↓ob (hS.2.2.2.2.2.2.2.1), hS.2.2.2.2.2.2.2.2.1, hS.2.2.2.2.2.2.2.2.2.1, hS.2.2.2.2.2.2.2.2.2.2.1, hS.2.2.2.2.2.2.2.2.2.2.2.1, hS.2.2.2.2.2.2.2.2.2.2.2.2.1, hS.2.2.2.2.2.2.2.2.2.2.2.2.2.1, hS.2.2.2.2.2.2.2.2.2.2.2.2.2.2, hC.1, hC.2.1, hC.2.2.1, hC.2.2.2.1, hC.2.2.2.2.1, hC.2.2.2.2.2.1, hC.2.2.2.2.2.2.1, hC.2.2.2.2.2.2.2.1, hC.2.2.2.2.2.2.2.2.1, hC.2.2.2.2.2.2.2.2.2.1, hC.2.2.2.2.2.2.2.2.2.2.1, hC.2.2.2.2.2.2.2.2.2.2.2.1, hC.2.2.2.2.2.2.2.2.2.2.2.2.1, hC.2.2.2.2.2.2.2.2.2.2.2.2.2.1, hC.2.2.2.2.2.2.2.2.2.2.2.2.2.2.1, hC.2.2.2.2.2.2.2.2.2.2.2.2.2.2.2.1, hC.2.2.2.2.2.2.2.2.2.2.2.2.2.2.2.2.1, c_need1 hP hC, c_need2, inr_n3, thn_T, thn_0, thn_1, thn_2, thn_3, thn_4, thn_5, h40, ↓lt_e, ↓gd_e, ↓Option.bind_some, ↓reduceIte, if_true, if_false, if_pT, if_nF, decide_true, Bool.not_true, Bool.not_false, not_true_eq_false, not_false_eq_true, Bool.false_eq_true, Bool.true_eq_false, eq_self, n3_lit, n3_add, n3_mul, n3_sub, n3_tn, n3_le_t, n3_le_f, n3_lt_t, n3_lt_f, n3_eq_f, n3_eq_t, n3_inb, n3_rem, n3_div, n3_zb, bb_0, bb_1, zb_bb, bb_T, bb_F, n3_dec, n3_m1, n3_eqm, n3_eqmt, n3_ltm, n3_mlt, n3_lem, n3_mle, n3_neg_lt, n3_nlt_neg, n3_nle_neg, n3_neg_le]
theorem C_enter_t {N : Nat} (hN : 1099511627776 ≤ N) {Λ : Lay} {ad : Nat → Nat} {μ : Mem} {F : Nat → Nat} {m : Nat} {A : Nat → Nat → Nat} {b : Nat} {J : Nat → Nat} {T : Nat → Int32} {n : Nat} {f : Int32} (hY : Ly Λ ad) (h : RC ad μ F m A b J T n f) (ho : Ok F m A b J T n)  (s p : Nat) (hs : s < F 0) (hp : p < 24) (hc : canE F s p = true) : CT ad μ (m_X11_enter N Λ μ (ad 0) (n3 s) (n3 p)) 0 (n3 24 - bc (n3 (tkn (entF F s p) (entF F s p 0)))) (entF F s p) (min (m + 1) 12) (rmA F A) b J T n f := by
  have hj := hY.1
  have hP := hY.2.2.1
  have hS := hY.2.2.2.1 3 (Or.inl rfl)
  have hL := hY.2.2.2.2.1 30 (Or.inl rfl)
  have hC := h.1
  have hw := ho.1
  have hl := ho.2.1
  have hb := hw.1; unfold WB at hb
  have hso := hw.2.2.1 s hs; unfold ShOk at hso
  have hc' := canE_iff.1 hc
  have tk := c_taken hN hS hC hw.2.2.1 hb.1
  have tl := tkn_lt (F 0) hw.2.2.1
  obtain ⟨μ1, e1, h1, f1⟩ := c_remember (N := N) hY h ho
  have h60 : F 11 ≤ 60 := hb.2.2.2.2.2.2.2.2.2.2.2.1
  have hC2 := h1.1.wr hj hb.1 h60 (25 + 6 * s + 3) 1 (by omega) (lc_s (by omega)).2.2 (by omega) (by omega) (3 + 5) s (by rw [(lc_s (by omega)).1]) (by rw [(lc_s (by omega)).2.1])
  have hC3 := hC2.wr hj (by simp (disch := omega) only [up_n]; omega) (by simp (disch := omega) only [up_n]; omega) (25 + 6 * s + 4) p (by simp (disch := omega) only [up_n]; omega) (lc_s (by omega)).2.2 (by omega) (by omega) (3 + 6) s (by rw [(lc_s (by omega)).1]) (by rw [(lc_s (by omega)).2.1])
  obtain ⟨μ4, e4, hC4, f4⟩ := c_logadd (N := N) hS hC3 hj (by simp (disch := omega) only [up_n]; omega) (by simp (disch := omega) only [up_n]; omega) s 0 p
  change CS ad μ4 3 (entF F s p) at hC4
  have hw4 := ent_WF hw hs hc'.2.2.2
  have q3 : μ1.1 (ad 3) 1 = n3 (F 9) := h1.1.2.1
  have q4 : μ1.1 (ad 3) 0 = n3 (F 3) := h1.1.1
  have fp := c_freePlaces hN hS hC4 hw4
  have f5 : Fr ad (fun i => 3 ≤ i ∧ i ≤ 11) μ1 μ4 := (((Fr.refl μ1).set hj (by omega)).set hj (by omega)).trans (f4.mono (fun i hi => by omega))
  refine ⟨μ4, ?_, h1.to hC4 (ent_Lw (by omega)) (f5.mono (fun i hi => Or.inl hi)), f1.trans (f5.mono (fun i hi => by omega))⟩
  simp (disch := omega) only [up_n] at e4
  simp (disch := omega) only [m_X11_enter, m_X9_letIn, ↓ob (hP.1), ↓ob (hP.2.1), ↓ob (hP.2.2.1), ↓ob (hP.2.2.2.1), ↓ob (hP.2.2.2.2.1), ↓ob (hP.2.2.2.2.2.1), ↓ob (hP.2.2.2.2.2.2.1), ↓ob (hP.2.2.2.2.2.2.2.1), ↓ob (hP.2.2.2.2.2.2.2.2.1), ↓ob (hP.2.2.2.2.2.2.2.2.2.1), ↓ob (hP.2.2.2.2.2.2.2.2.2.2.1), ↓ob (hP.2.2.2.2.2.2.2.2.2.2.2.1), ↓ob (hP.2.2.2.2.2.2.2.2.2.2.2.2.1), ↓ob (hP.2.2.2.2.2.2.2.2.2.2.2.2.2.1), hP.2.2.2.2.2.2.2.2.2.2.2.2.2.2, ↓ob (hS.1), ↓ob (hS.2.1), ↓ob (hS.2.2.1), ↓ob (hS.2.2.2.1), ↓ob (hS.2.2.2.2.1), ↓ob (hS.2.2.2.2.2.1), ↓ob (hS.2.2.2.2.2.2.1), ↓ob (hS.2.2.2.2.2.2.2.1), hS.2.2.2.2.2.2.2.2.1, hS.2.2.2.2.2.2.2.2.2.1, hS.2.2.2.2.2.2.2.2.2.2.1, hS.2.2.2.2.2.2.2.2.2.2.2.1, hS.2.2.2.2.2.2.2.2.2.2.2.2.1, hS.2.2.2.2.2.2.2.2.2.2.2.2.2.1, hS.2.2.2.2.2.2.2.2.2.2.2.2.2.2, hC.1, hC.2.1, hC.2.2.1, hC.2.2.2.1, hC.2.2.2.2.1, hC.2.2.2.2.2.1, hC.2.2.2.2.2.2.1, hC.2.2.2.2.2.2.2.1, hC.2.2.2.2.2.2.2.2.1, hC.2.2.2.2.2.2.2.2.2.1, hC.2.2.2.2.2.2.2.2.2.2.1, hC.2.2.2.2.2.2.2.2.2.2.2.1, hC.2.2.2.2.2.2.2.2.2.2.2.2.1, hC.2.2.2.2.2.2.2.2.2.2.2.2.2.1, hC.2.2.2.2.2.2.2.2.2.2.2.2.2.2.1, hC.2.2.2.2.2.2.2.2.2.2.2.2.2.2.2.1, hC.2.2.2.2.2.2.2.2.2.2.2.2.2.2.2.2.1, c_need1 hP hC, c_need2, inr_n3, thn_T, thn_0, thn_1, thn_2, thn_3, thn_4, thn_5, hc'.1, hc'.2.1, hc'.2.2.2, tk, c_isRoom, e1, q3, q4, e4, fp, mso hj, ↓lt_e, ↓gd_e, ↓Option.bind_some, ↓reduceIte, if_true, if_false, if_pT, if_nF, decide_true, Bool.not_true, Bool.not_false, not_true_eq_false, not_false_eq_true, Bool.false_eq_true, Bool.true_eq_false, eq_self, n3_lit, n3_add, n3_mul, n3_sub, n3_tn, n3_le_t, n3_le_f, n3_lt_t, n3_lt_f, n3_eq_f, n3_eq_t, n3_inb, n3_rem, n3_div, n3_zb, bb_0, bb_1, zb_bb, bb_T, bb_F, n3_dec, n3_m1, n3_eqm, n3_eqmt, n3_ltm, n3_mlt, n3_lem, n3_mle, n3_neg_lt, n3_nlt_neg, n3_nle_neg, n3_neg_le]
theorem R_enter_f1 {N : Nat} (hN : 1099511627776 ≤ N) {Λ : Lay} {ad : Nat → Nat} {μ : Mem} {F : Nat → Nat} {m : Nat} {A : Nat → Nat → Nat} {b : Nat} {J : Nat → Nat} {T : Nat → Int32} {n : Nat} {f : Int32} (hY : Ly Λ ad) (h : RR ad μ F m A b J T n f) (ho : Ok F m A b J T n)  (x y : Int32) (hx : inr x (F 0) = false ∨ inr y 24 = false) : RV ad μ (m_X12_enter N Λ μ (ad 181) x y) 1 0 F m A b J T n f := by
  have hj := hY.1
  have hR := hY.2.1
  have hW := h.1
  have hw := ho.1
  have hl := ho.2.1
  have hb := hw.1; unfold WB at hb
  unfold m_X12_enter
  refine RV.start hY.1 h (fun μ0 h0 t0 => RV.thrown hY.1 h0 ?_)
  have ns := r_noSh (N := N) hR h0.1 hb.1 x
  by_cases h1 : inr x (F 0) = true
  · have h2 := hx.resolve_left (by rw [h1]; decide)
    simp (disch := omega) only [jn_X12_enter_55, jn_X12_enter_48, jn_X12_enter_26, jn_X12_enter_21, ns, r_noPl, h1, h2, r_thr1, ↓lt_e, ↓gd_e, ↓Option.bind_some, ↓reduceIte, if_true, if_false, if_pT, if_nF, decide_true, Bool.not_true, Bool.not_false, not_true_eq_false, not_false_eq_true, Bool.false_eq_true, Bool.true_eq_false, eq_self, n3_lit, n3_add, n3_mul, n3_sub, n3_tn, n3_le_t, n3_le_f, n3_lt_t, n3_lt_f, n3_eq_f, n3_eq_t, n3_inb, n3_rem, n3_div, n3_zb, bb_0, bb_1, zb_bb, bb_T, bb_F, n3_dec, n3_m1, n3_eqm, n3_eqmt, n3_ltm, n3_mlt, n3_lem, n3_mle, n3_neg_lt, n3_nlt_neg, n3_nle_neg, n3_neg_le]
  · have h1' : inr x (F 0) = false := Bool.eq_false_iff.2 h1
    simp (disch := omega) only [jn_X12_enter_55, jn_X12_enter_48, jn_X12_enter_26, jn_X12_enter_21, ns, h1', r_thr1, ↓lt_e, ↓gd_e, ↓Option.bind_some, ↓reduceIte, if_true, if_false, if_pT, if_nF, decide_true, Bool.not_true, Bool.not_false, not_true_eq_false, not_false_eq_true, Bool.false_eq_true, Bool.true_eq_false, eq_self, n3_lit, n3_add, n3_mul, n3_sub, n3_tn, n3_le_t, n3_le_f, n3_lt_t, n3_lt_f, n3_eq_f, n3_eq_t, n3_inb, n3_rem, n3_div, n3_zb, bb_0, bb_1, zb_bb, bb_T, bb_F, n3_dec, n3_m1, n3_eqm, n3_eqmt, n3_ltm, n3_mlt, n3_lem, n3_mle, n3_neg_lt, n3_nlt_neg, n3_nle_neg, n3_neg_le]
theorem r_canEnter {N : Nat} (hN : 1099511627776 ≤ N) {Λ : Lay} {ad : Nat → Nat} {μ : Mem} {F : Nat → Nat} (hR : LyR Λ ad) (hW : Row μ (ad 182) 1222 F)  (hw : WF F) (s p : Nat) (hs : s < F 0) (hp : p < 24) : m_X12_canEnter N Λ μ (ad 181) (n3 s) (n3 p) = some (n3 (bb (canE F s p = true))) := by
  have hb := hw.1; unfold WB at hb
  have hso := hw.2.2.1 s hs; unfold ShOk at hso
  have tk := r_taken hN hR hW hw.2.2.1 hb.1
  have tl := tkn_lt (F 0) hw.2.2.1
  rw [bb_c canE_iff]
  by_cases h4 : F 4 = 1
  · by_cases h3 : F (25 + 6 * s + 3) = 0
    · by_cases h1 : F (25 + 6 * s + 1) ≤ F 3
      · by_cases hf : fitb (tkn F (F 0)) p (F (25 + 6 * s)) = true
        · simp (disch := omega) only [jn_X12_canEnter_56, jn_X12_canEnter_55, m_X12_canEnter, ↓ob (hR.1), ↓ob (hR.2.1), ↓ob (hR.2.2.1), ↓ob (hR.2.2.2.1), ↓ob (hR.2.2.2.2.1), ↓ob (hR.2.2.2.2.2.1), ↓ob (hR.2.2.2.2.2.2.1), ↓ob (hR.2.2.2.2.2.2.2.1), ↓ob (hR.2.2.2.2.2.2.2.2.1), ↓ob (hR.2.2.2.2.2.2.2.2.2.1), ↓ob (hR.2.2.2.2.2.2.2.2.2.2.1), ↓ob (hR.2.2.2.2.2.2.2.2.2.2.2.1), ↓ob (hR.2.2.2.2.2.2.2.2.2.2.2.2.1), ↓ob (hR.2.2.2.2.2.2.2.2.2.2.2.2.2.1), ↓ob (hR.2.2.2.2.2.2.2.2.2.2.2.2.2.2.1), ↓ob (hR.2.2.2.2.2.2.2.2.2.2.2.2.2.2.2.1), ↓ob (hR.2.2.2.2.2.2.2.2.2.2.2.2.2.2.2.2.1), ↓ob (hR.2.2.2.2.2.2.2.2.2.2.2.2.2.2.2.2.2.1), hR.2.2.2.2.2.2.2.2.2.2.2.2.2.2.2.2.2.2.1, hR.2.2.2.2.2.2.2.2.2.2.2.2.2.2.2.2.2.2.2.1, hR.2.2.2.2.2.2.2.2.2.2.2.2.2.2.2.2.2.2.2.2.1, hR.2.2.2.2.2.2.2.2.2.2.2.2.2.2.2.2.2.2.2.2.2.1, hR.2.2.2.2.2.2.2.2.2.2.2.2.2.2.2.2.2.2.2.2.2.2.1, hR.2.2.2.2.2.2.2.2.2.2.2.2.2.2.2.2.2.2.2.2.2.2.2.1, hR.2.2.2.2.2.2.2.2.2.2.2.2.2.2.2.2.2.2.2.2.2.2.2.2.1, hR.2.2.2.2.2.2.2.2.2.2.2.2.2.2.2.2.2.2.2.2.2.2.2.2.2.1, hR.2.2.2.2.2.2.2.2.2.2.2.2.2.2.2.2.2.2.2.2.2.2.2.2.2.2.1, hR.2.2.2.2.2.2.2.2.2.2.2.2.2.2.2.2.2.2.2.2.2.2.2.2.2.2.2.1, hR.2.2.2.2.2.2.2.2.2.2.2.2.2.2.2.2.2.2.2.2.2.2.2.2.2.2.2.2.1, hR.2.2.2.2.2.2.2.2.2.2.2.2.2.2.2.2.2.2.2.2.2.2.2.2.2.2.2.2.2.1, hR.2.2.2.2.2.2.2.2.2.2.2.2.2.2.2.2.2.2.2.2.2.2.2.2.2.2.2.2.2.2.1, hR.2.2.2.2.2.2.2.2.2.2.2.2.2.2.2.2.2.2.2.2.2.2.2.2.2.2.2.2.2.2.2.1, hR.2.2.2.2.2.2.2.2.2.2.2.2.2.2.2.2.2.2.2.2.2.2.2.2.2.2.2.2.2.2.2.2.1, hR.2.2.2.2.2.2.2.2.2.2.2.2.2.2.2.2.2.2.2.2.2.2.2.2.2.2.2.2.2.2.2.2.2.1, hR.2.2.2.2.2.2.2.2.2.2.2.2.2.2.2.2.2.2.2.2.2.2.2.2.2.2.2.2.2.2.2.2.2.2.1, hR.2.2.2.2.2.2.2.2.2.2.2.2.2.2.2.2.2.2.2.2.2.2.2.2.2.2.2.2.2.2.2.2.2.2.2, hW, r_of hR hW, h4, h3, h1, tk, r_fitsIn, hf, Nat.add_zero, and_self, ↓lt_e, ↓gd_e, ↓Option.bind_some, ↓reduceIte, if_true, if_false, if_pT, if_nF, decide_true, Bool.not_true, Bool.not_false, not_true_eq_false, not_false_eq_true, Bool.false_eq_true, Bool.true_eq_false, eq_self, n3_lit, n3_add, n3_mul, n3_sub, n3_tn, n3_le_t, n3_le_f, n3_lt_t, n3_lt_f, n3_eq_f, n3_eq_t, n3_inb, n3_rem, n3_div, n3_zb, bb_0, bb_1, zb_bb, bb_T, bb_F, n3_dec, n3_m1, n3_eqm, n3_eqmt, n3_ltm, n3_mlt, n3_lem, n3_mle, n3_neg_lt, n3_nlt_neg, n3_nle_neg, n3_neg_le]
        · simp (disch := omega) only [jn_X12_canEnter_56, jn_X12_canEnter_55, m_X12_canEnter, ↓ob (hR.1), ↓ob (hR.2.1), ↓ob (hR.2.2.1), ↓ob (hR.2.2.2.1), ↓ob (hR.2.2.2.2.1), ↓ob (hR.2.2.2.2.2.1), ↓ob (hR.2.2.2.2.2.2.1), ↓ob (hR.2.2.2.2.2.2.2.1), ↓ob (hR.2.2.2.2.2.2.2.2.1), ↓ob (hR.2.2.2.2.2.2.2.2.2.1), ↓ob (hR.2.2.2.2.2.2.2.2.2.2.1), ↓ob (hR.2.2.2.2.2.2.2.2.2.2.2.1), ↓ob (hR.2.2.2.2.2.2.2.2.2.2.2.2.1), ↓ob (hR.2.2.2.2.2.2.2.2.2.2.2.2.2.1), ↓ob (hR.2.2.2.2.2.2.2.2.2.2.2.2.2.2.1), ↓ob (hR.2.2.2.2.2.2.2.2.2.2.2.2.2.2.2.1), ↓ob (hR.2.2.2.2.2.2.2.2.2.2.2.2.2.2.2.2.1), ↓ob (hR.2.2.2.2.2.2.2.2.2.2.2.2.2.2.2.2.2.1), hR.2.2.2.2.2.2.2.2.2.2.2.2.2.2.2.2.2.2.1, hR.2.2.2.2.2.2.2.2.2.2.2.2.2.2.2.2.2.2.2.1, hR.2.2.2.2.2.2.2.2.2.2.2.2.2.2.2.2.2.2.2.2.1, hR.2.2.2.2.2.2.2.2.2.2.2.2.2.2.2.2.2.2.2.2.2.1, hR.2.2.2.2.2.2.2.2.2.2.2.2.2.2.2.2.2.2.2.2.2.2.1, hR.2.2.2.2.2.2.2.2.2.2.2.2.2.2.2.2.2.2.2.2.2.2.2.1, hR.2.2.2.2.2.2.2.2.2.2.2.2.2.2.2.2.2.2.2.2.2.2.2.2.1, hR.2.2.2.2.2.2.2.2.2.2.2.2.2.2.2.2.2.2.2.2.2.2.2.2.2.1, hR.2.2.2.2.2.2.2.2.2.2.2.2.2.2.2.2.2.2.2.2.2.2.2.2.2.2.1, hR.2.2.2.2.2.2.2.2.2.2.2.2.2.2.2.2.2.2.2.2.2.2.2.2.2.2.2.1, hR.2.2.2.2.2.2.2.2.2.2.2.2.2.2.2.2.2.2.2.2.2.2.2.2.2.2.2.2.1, hR.2.2.2.2.2.2.2.2.2.2.2.2.2.2.2.2.2.2.2.2.2.2.2.2.2.2.2.2.2.1, hR.2.2.2.2.2.2.2.2.2.2.2.2.2.2.2.2.2.2.2.2.2.2.2.2.2.2.2.2.2.2.1, hR.2.2.2.2.2.2.2.2.2.2.2.2.2.2.2.2.2.2.2.2.2.2.2.2.2.2.2.2.2.2.2.1, hR.2.2.2.2.2.2.2.2.2.2.2.2.2.2.2.2.2.2.2.2.2.2.2.2.2.2.2.2.2.2.2.2.1, hR.2.2.2.2.2.2.2.2.2.2.2.2.2.2.2.2.2.2.2.2.2.2.2.2.2.2.2.2.2.2.2.2.2.1, hR.2.2.2.2.2.2.2.2.2.2.2.2.2.2.2.2.2.2.2.2.2.2.2.2.2.2.2.2.2.2.2.2.2.2.1, hR.2.2.2.2.2.2.2.2.2.2.2.2.2.2.2.2.2.2.2.2.2.2.2.2.2.2.2.2.2.2.2.2.2.2.2, hW, r_of hR hW, h4, h3, h1, tk, r_fitsIn, hf, Nat.add_zero, and_false, ↓lt_e, ↓gd_e, ↓Option.bind_some, ↓reduceIte, if_true, if_false, if_pT, if_nF, decide_true, Bool.not_true, Bool.not_false, not_true_eq_false, not_false_eq_true, Bool.false_eq_true, Bool.true_eq_false, eq_self, n3_lit, n3_add, n3_mul, n3_sub, n3_tn, n3_le_t, n3_le_f, n3_lt_t, n3_lt_f, n3_eq_f, n3_eq_t, n3_inb, n3_rem, n3_div, n3_zb, bb_0, bb_1, zb_bb, bb_T, bb_F, n3_dec, n3_m1, n3_eqm, n3_eqmt, n3_ltm, n3_mlt, n3_lem, n3_mle, n3_neg_lt, n3_nlt_neg, n3_nle_neg, n3_neg_le]
      · simp (disch := omega) only [jn_X12_canEnter_56, jn_X12_canEnter_55, m_X12_canEnter, ↓ob (hR.1), ↓ob (hR.2.1), ↓ob (hR.2.2.1), ↓ob (hR.2.2.2.1), ↓ob (hR.2.2.2.2.1), ↓ob (hR.2.2.2.2.2.1), ↓ob (hR.2.2.2.2.2.2.1), ↓ob (hR.2.2.2.2.2.2.2.1), ↓ob (hR.2.2.2.2.2.2.2.2.1), ↓ob (hR.2.2.2.2.2.2.2.2.2.1), ↓ob (hR.2.2.2.2.2.2.2.2.2.2.1), ↓ob (hR.2.2.2.2.2.2.2.2.2.2.2.1), ↓ob (hR.2.2.2.2.2.2.2.2.2.2.2.2.1), ↓ob (hR.2.2.2.2.2.2.2.2.2.2.2.2.2.1), ↓ob (hR.2.2.2.2.2.2.2.2.2.2.2.2.2.2.1), ↓ob (hR.2.2.2.2.2.2.2.2.2.2.2.2.2.2.2.1), ↓ob (hR.2.2.2.2.2.2.2.2.2.2.2.2.2.2.2.2.1), ↓ob (hR.2.2.2.2.2.2.2.2.2.2.2.2.2.2.2.2.2.1), hR.2.2.2.2.2.2.2.2.2.2.2.2.2.2.2.2.2.2.1, hR.2.2.2.2.2.2.2.2.2.2.2.2.2.2.2.2.2.2.2.1, hR.2.2.2.2.2.2.2.2.2.2.2.2.2.2.2.2.2.2.2.2.1, hR.2.2.2.2.2.2.2.2.2.2.2.2.2.2.2.2.2.2.2.2.2.1, hR.2.2.2.2.2.2.2.2.2.2.2.2.2.2.2.2.2.2.2.2.2.2.1, hR.2.2.2.2.2.2.2.2.2.2.2.2.2.2.2.2.2.2.2.2.2.2.2.1, hR.2.2.2.2.2.2.2.2.2.2.2.2.2.2.2.2.2.2.2.2.2.2.2.2.1, hR.2.2.2.2.2.2.2.2.2.2.2.2.2.2.2.2.2.2.2.2.2.2.2.2.2.1, hR.2.2.2.2.2.2.2.2.2.2.2.2.2.2.2.2.2.2.2.2.2.2.2.2.2.2.1, hR.2.2.2.2.2.2.2.2.2.2.2.2.2.2.2.2.2.2.2.2.2.2.2.2.2.2.2.1, hR.2.2.2.2.2.2.2.2.2.2.2.2.2.2.2.2.2.2.2.2.2.2.2.2.2.2.2.2.1, hR.2.2.2.2.2.2.2.2.2.2.2.2.2.2.2.2.2.2.2.2.2.2.2.2.2.2.2.2.2.1, hR.2.2.2.2.2.2.2.2.2.2.2.2.2.2.2.2.2.2.2.2.2.2.2.2.2.2.2.2.2.2.1, hR.2.2.2.2.2.2.2.2.2.2.2.2.2.2.2.2.2.2.2.2.2.2.2.2.2.2.2.2.2.2.2.1, hR.2.2.2.2.2.2.2.2.2.2.2.2.2.2.2.2.2.2.2.2.2.2.2.2.2.2.2.2.2.2.2.2.1, hR.2.2.2.2.2.2.2.2.2.2.2.2.2.2.2.2.2.2.2.2.2.2.2.2.2.2.2.2.2.2.2.2.2.1, hR.2.2.2.2.2.2.2.2.2.2.2.2.2.2.2.2.2.2.2.2.2.2.2.2.2.2.2.2.2.2.2.2.2.2.1, hR.2.2.2.2.2.2.2.2.2.2.2.2.2.2.2.2.2.2.2.2.2.2.2.2.2.2.2.2.2.2.2.2.2.2.2, hW, r_of hR hW, h4, h3, h1, and_false, false_and, ↓lt_e, ↓gd_e, ↓Option.bind_some, ↓reduceIte, if_true, if_false, if_pT, if_nF, decide_true, Bool.not_true, Bool.not_false, not_true_eq_false, not_false_eq_true, Bool.false_eq_true, Bool.true_eq_false, eq_self, n3_lit, n3_add, n3_mul, n3_sub, n3_tn, n3_le_t, n3_le_f, n3_lt_t, n3_lt_f, n3_eq_f, n3_eq_t, n3_inb, n3_rem, n3_div, n3_zb, bb_0, bb_1, zb_bb, bb_T, bb_F, n3_dec, n3_m1, n3_eqm, n3_eqmt, n3_ltm, n3_mlt, n3_lem, n3_mle, n3_neg_lt, n3_nlt_neg, n3_nle_neg, n3_neg_le]
    · simp (disch := omega) only [jn_X12_canEnter_56, jn_X12_canEnter_55, m_X12_canEnter, ↓ob (hR.1), ↓ob (hR.2.1), ↓ob (hR.2.2.1), ↓ob (hR.2.2.2.1), ↓ob (hR.2.2.2.2.1), ↓ob (hR.2.2.2.2.2.1), ↓ob (hR.2.2.2.2.2.2.1), ↓ob (hR.2.2.2.2.2.2.2.1), ↓ob (hR.2.2.2.2.2.2.2.2.1), ↓ob (hR.2.2.2.2.2.2.2.2.2.1), ↓ob (hR.2.2.2.2.2.2.2.2.2.2.1), ↓ob (hR.2.2.2.2.2.2.2.2.2.2.2.1), ↓ob (hR.2.2.2.2.2.2.2.2.2.2.2.2.1), ↓ob (hR.2.2.2.2.2.2.2.2.2.2.2.2.2.1), ↓ob (hR.2.2.2.2.2.2.2.2.2.2.2.2.2.2.1), ↓ob (hR.2.2.2.2.2.2.2.2.2.2.2.2.2.2.2.1), ↓ob (hR.2.2.2.2.2.2.2.2.2.2.2.2.2.2.2.2.1), ↓ob (hR.2.2.2.2.2.2.2.2.2.2.2.2.2.2.2.2.2.1), hR.2.2.2.2.2.2.2.2.2.2.2.2.2.2.2.2.2.2.1, hR.2.2.2.2.2.2.2.2.2.2.2.2.2.2.2.2.2.2.2.1, hR.2.2.2.2.2.2.2.2.2.2.2.2.2.2.2.2.2.2.2.2.1, hR.2.2.2.2.2.2.2.2.2.2.2.2.2.2.2.2.2.2.2.2.2.1, hR.2.2.2.2.2.2.2.2.2.2.2.2.2.2.2.2.2.2.2.2.2.2.1, hR.2.2.2.2.2.2.2.2.2.2.2.2.2.2.2.2.2.2.2.2.2.2.2.1, hR.2.2.2.2.2.2.2.2.2.2.2.2.2.2.2.2.2.2.2.2.2.2.2.2.1, hR.2.2.2.2.2.2.2.2.2.2.2.2.2.2.2.2.2.2.2.2.2.2.2.2.2.1, hR.2.2.2.2.2.2.2.2.2.2.2.2.2.2.2.2.2.2.2.2.2.2.2.2.2.2.1, hR.2.2.2.2.2.2.2.2.2.2.2.2.2.2.2.2.2.2.2.2.2.2.2.2.2.2.2.1, hR.2.2.2.2.2.2.2.2.2.2.2.2.2.2.2.2.2.2.2.2.2.2.2.2.2.2.2.2.1, hR.2.2.2.2.2.2.2.2.2.2.2.2.2.2.2.2.2.2.2.2.2.2.2.2.2.2.2.2.2.1, hR.2.2.2.2.2.2.2.2.2.2.2.2.2.2.2.2.2.2.2.2.2.2.2.2.2.2.2.2.2.2.1, hR.2.2.2.2.2.2.2.2.2.2.2.2.2.2.2.2.2.2.2.2.2.2.2.2.2.2.2.2.2.2.2.1, hR.2.2.2.2.2.2.2.2.2.2.2.2.2.2.2.2.2.2.2.2.2.2.2.2.2.2.2.2.2.2.2.2.1, hR.2.2.2.2.2.2.2.2.2.2.2.2.2.2.2.2.2.2.2.2.2.2.2.2.2.2.2.2.2.2.2.2.2.1, hR.2.2.2.2.2.2.2.2.2.2.2.2.2.2.2.2.2.2.2.2.2.2.2.2.2.2.2.2.2.2.2.2.2.2.1, hR.2.2.2.2.2.2.2.2.2.2.2.2.2.2.2.2.2.2.2.2.2.2.2.2.2.2.2.2.2.2.2.2.2.2.2, hW, r_of hR hW, h4, h3, and_false, false_and, ↓lt_e, ↓gd_e, ↓Option.bind_some, ↓reduceIte, if_true, if_false, if_pT, if_nF, decide_true, Bool.not_true, Bool.not_false, not_true_eq_false, not_false_eq_true, Bool.false_eq_true, Bool.true_eq_false, eq_self, n3_lit, n3_add, n3_mul, n3_sub, n3_tn, n3_le_t, n3_le_f, n3_lt_t, n3_lt_f, n3_eq_f, n3_eq_t, n3_inb, n3_rem, n3_div, n3_zb, bb_0, bb_1, zb_bb, bb_T, bb_F, n3_dec, n3_m1, n3_eqm, n3_eqmt, n3_ltm, n3_mlt, n3_lem, n3_mle, n3_neg_lt, n3_nlt_neg, n3_nle_neg, n3_neg_le]
  · simp (disch := omega) only [jn_X12_canEnter_56, jn_X12_canEnter_55, m_X12_canEnter, ↓ob (hR.1), ↓ob (hR.2.1), ↓ob (hR.2.2.1), ↓ob (hR.2.2.2.1), ↓ob (hR.2.2.2.2.1), ↓ob (hR.2.2.2.2.2.1), ↓ob (hR.2.2.2.2.2.2.1), ↓ob (hR.2.2.2.2.2.2.2.1), ↓ob (hR.2.2.2.2.2.2.2.2.1), ↓ob (hR.2.2.2.2.2.2.2.2.2.1), ↓ob (hR.2.2.2.2.2.2.2.2.2.2.1), ↓ob (hR.2.2.2.2.2.2.2.2.2.2.2.1), ↓ob (hR.2.2.2.2.2.2.2.2.2.2.2.2.1), ↓ob (hR.2.2.2.2.2.2.2.2.2.2.2.2.2.1), ↓ob (hR.2.2.2.2.2.2.2.2.2.2.2.2.2.2.1), ↓ob (hR.2.2.2.2.2.2.2.2.2.2.2.2.2.2.2.1), ↓ob (hR.2.2.2.2.2.2.2.2.2.2.2.2.2.2.2.2.1), ↓ob (hR.2.2.2.2.2.2.2.2.2.2.2.2.2.2.2.2.2.1), hR.2.2.2.2.2.2.2.2.2.2.2.2.2.2.2.2.2.2.1, hR.2.2.2.2.2.2.2.2.2.2.2.2.2.2.2.2.2.2.2.1, hR.2.2.2.2.2.2.2.2.2.2.2.2.2.2.2.2.2.2.2.2.1, hR.2.2.2.2.2.2.2.2.2.2.2.2.2.2.2.2.2.2.2.2.2.1, hR.2.2.2.2.2.2.2.2.2.2.2.2.2.2.2.2.2.2.2.2.2.2.1, hR.2.2.2.2.2.2.2.2.2.2.2.2.2.2.2.2.2.2.2.2.2.2.2.1, hR.2.2.2.2.2.2.2.2.2.2.2.2.2.2.2.2.2.2.2.2.2.2.2.2.1, hR.2.2.2.2.2.2.2.2.2.2.2.2.2.2.2.2.2.2.2.2.2.2.2.2.2.1, hR.2.2.2.2.2.2.2.2.2.2.2.2.2.2.2.2.2.2.2.2.2.2.2.2.2.2.1, hR.2.2.2.2.2.2.2.2.2.2.2.2.2.2.2.2.2.2.2.2.2.2.2.2.2.2.2.1, hR.2.2.2.2.2.2.2.2.2.2.2.2.2.2.2.2.2.2.2.2.2.2.2.2.2.2.2.2.1, hR.2.2.2.2.2.2.2.2.2.2.2.2.2.2.2.2.2.2.2.2.2.2.2.2.2.2.2.2.2.1, hR.2.2.2.2.2.2.2.2.2.2.2.2.2.2.2.2.2.2.2.2.2.2.2.2.2.2.2.2.2.2.1, hR.2.2.2.2.2.2.2.2.2.2.2.2.2.2.2.2.2.2.2.2.2.2.2.2.2.2.2.2.2.2.2.1, hR.2.2.2.2.2.2.2.2.2.2.2.2.2.2.2.2.2.2.2.2.2.2.2.2.2.2.2.2.2.2.2.2.1, hR.2.2.2.2.2.2.2.2.2.2.2.2.2.2.2.2.2.2.2.2.2.2.2.2.2.2.2.2.2.2.2.2.2.1, hR.2.2.2.2.2.2.2.2.2.2.2.2.2.2.2.2.2.2.2.2.2.2.2.2.2.2.2.2.2.2.2.2.2.2.1, hR.2.2.2.2.2.2.2.2.2.2.2.2.2.2.2.2.2.2.2.2.2.2.2.2.2.2.2.2.2.2.2.2.2.2.2, hW, r_of hR hW, h4, false_and, ↓lt_e, ↓gd_e, ↓Option.bind_some, ↓reduceIte, if_true, if_false, if_pT, if_nF, decide_true, Bool.not_true, Bool.not_false, not_true_eq_false, not_false_eq_true, Bool.false_eq_true, Bool.true_eq_false, eq_self, n3_lit, n3_add, n3_mul, n3_sub, n3_tn, n3_le_t, n3_le_f, n3_lt_t, n3_lt_f, n3_eq_f, n3_eq_t, n3_inb, n3_rem, n3_div, n3_zb, bb_0, bb_1, zb_bb, bb_T, bb_F, n3_dec, n3_m1, n3_eqm, n3_eqmt, n3_ltm, n3_mlt, n3_lem, n3_mle, n3_neg_lt, n3_nlt_neg, n3_nle_neg, n3_neg_le]
theorem R_enter_f2 {N : Nat} (hN : 1099511627776 ≤ N) {Λ : Lay} {ad : Nat → Nat} {μ : Mem} {F : Nat → Nat} {m : Nat} {A : Nat → Nat → Nat} {b : Nat} {J : Nat → Nat} {T : Nat → Int32} {n : Nat} {f : Int32} (hY : Ly Λ ad) (h : RR ad μ F m A b J T n f) (ho : Ok F m A b J T n)  (s p : Nat) (hs : s < F 0) (hp : p < 24) (hc : canE F s p = false) : RV ad μ (m_X12_enter N Λ μ (ad 181) (n3 s) (n3 p)) 2 0 F m A b J T n f := by
  have hj := hY.1
  have hR := hY.2.1
  have hW := h.1
  have hw := ho.1
  have hl := ho.2.1
  have hb := hw.1; unfold WB at hb
  unfold m_X12_enter
  refine RV.start hY.1 h (fun μ0 h0 t0 => RV.thrown hY.1 h0 ?_)
  have ns := r_noSh (N := N) hR h0.1 hb.1 (n3 s)
  have ce := r_canEnter hN hR h0.1 hw s p hs hp
  simp (disch := omega) only [jn_X12_enter_55, jn_X12_enter_48, jn_X12_enter_26, jn_X12_enter_21, ns, r_noPl, inr_n3, ce, hc, r_thr0, r_thr1, ↓lt_e, ↓gd_e, ↓Option.bind_some, ↓reduceIte, if_true, if_false, if_pT, if_nF, decide_true, Bool.not_true, Bool.not_false, not_true_eq_false, not_false_eq_true, Bool.false_eq_true, Bool.true_eq_false, eq_self, n3_lit, n3_add, n3_mul, n3_sub, n3_tn, n3_le_t, n3_le_f, n3_lt_t, n3_lt_f, n3_eq_f, n3_eq_t, n3_inb, n3_rem, n3_div, n3_zb, bb_0, bb_1, zb_bb, bb_T, bb_F, n3_dec, n3_m1, n3_eqm, n3_eqmt, n3_ltm, n3_mlt, n3_lem, n3_mle, n3_neg_lt, n3_nlt_neg, n3_nle_neg, n3_neg_le]
theorem R_enter_t {N : Nat} (hN : 1099511627776 ≤ N) {Λ : Lay} {ad : Nat → Nat} {μ : Mem} {F : Nat → Nat} {m : Nat} {A : Nat → Nat → Nat} {b : Nat} {J : Nat → Nat} {T : Nat → Int32} {n : Nat} {f : Int32} (hY : Ly Λ ad) (h : RR ad μ F m A b J T n f) (ho : Ok F m A b J T n)  (s p : Nat) (hs : s < F 0) (hp : p < 24) (hc : canE F s p = true) : RV ad μ (m_X12_enter N Λ μ (ad 181) (n3 s) (n3 p)) 0 (n3 24 - bc (n3 (tkn (entF F s p) (entF F s p 0)))) (entF F s p) (min (m + 1) 12) (rmA F A) b J T n f := by
  have hj := hY.1
  have hR := hY.2.1
  have hW := h.1
  have hw := ho.1
  have hl := ho.2.1
  have hb := hw.1; unfold WB at hb
  unfold m_X12_enter
  have hc' := canE_iff.1 hc
  refine RV.start hY.1 h (fun μ0 h0 t0 => ?_)
  have ns := r_noSh (N := N) hR h0.1 hb.1 (n3 s)
  have ce := r_canEnter hN hR h0.1 hw s p hs hp
  obtain ⟨μ1, e1, h1, t1, f1⟩ := r_rem hN hY h0 ho
  have hW2 := h1.1.set (25 + 6 * s + 3) 1
  have hW3 := hW2.set (25 + 6 * s + 4) p
  obtain ⟨μ4, e4, hW4, f4⟩ := r_isTold hN hR hW3 hj (by simp (disch := omega) only [up_n]; omega) s 0 p
  change Row μ4 _ _ (entF F s p) at hW4
  have hw4 := ent_WF hw hs hc'.2.2.2
  have fp := r_freePlaces hN hR hW4 hw4
  have f5 : Fr ad (fun i => i = 182) μ1 μ4 := (((Fr.refl μ1).set hj (by rfl)).set hj (by rfl)).trans f4
  refine ⟨μ4, ?_, by rw [(f5 181 (by omega)).1]; exact t1.trans t0, h1.to hW4 (f5.mono (fun i hi => Or.inl hi)), f1.trans (f5.mono (fun i hi => by omega))⟩
  simp (disch := omega) only [jn_X12_enter_55, jn_X12_enter_48, jn_X12_enter_26, jn_X12_enter_21, ↓ob (hR.1), ↓ob (hR.2.1), ↓ob (hR.2.2.1), ↓ob (hR.2.2.2.1), ↓ob (hR.2.2.2.2.1), ↓ob (hR.2.2.2.2.2.1), ↓ob (hR.2.2.2.2.2.2.1), ↓ob (hR.2.2.2.2.2.2.2.1), ↓ob (hR.2.2.2.2.2.2.2.2.1), ↓ob (hR.2.2.2.2.2.2.2.2.2.1), ↓ob (hR.2.2.2.2.2.2.2.2.2.2.1), ↓ob (hR.2.2.2.2.2.2.2.2.2.2.2.1), ↓ob (hR.2.2.2.2.2.2.2.2.2.2.2.2.1), ↓ob (hR.2.2.2.2.2.2.2.2.2.2.2.2.2.1), ↓ob (hR.2.2.2.2.2.2.2.2.2.2.2.2.2.2.1), ↓ob (hR.2.2.2.2.2.2.2.2.2.2.2.2.2.2.2.1), ↓ob (hR.2.2.2.2.2.2.2.2.2.2.2.2.2.2.2.2.1), ↓ob (hR.2.2.2.2.2.2.2.2.2.2.2.2.2.2.2.2.2.1), hR.2.2.2.2.2.2.2.2.2.2.2.2.2.2.2.2.2.2.1, hR.2.2.2.2.2.2.2.2.2.2.2.2.2.2.2.2.2.2.2.1, hR.2.2.2.2.2.2.2.2.2.2.2.2.2.2.2.2.2.2.2.2.1, hR.2.2.2.2.2.2.2.2.2.2.2.2.2.2.2.2.2.2.2.2.2.1, hR.2.2.2.2.2.2.2.2.2.2.2.2.2.2.2.2.2.2.2.2.2.2.1, hR.2.2.2.2.2.2.2.2.2.2.2.2.2.2.2.2.2.2.2.2.2.2.2.1, hR.2.2.2.2.2.2.2.2.2.2.2.2.2.2.2.2.2.2.2.2.2.2.2.2.1, hR.2.2.2.2.2.2.2.2.2.2.2.2.2.2.2.2.2.2.2.2.2.2.2.2.2.1, hR.2.2.2.2.2.2.2.2.2.2.2.2.2.2.2.2.2.2.2.2.2.2.2.2.2.2.1, hR.2.2.2.2.2.2.2.2.2.2.2.2.2.2.2.2.2.2.2.2.2.2.2.2.2.2.2.1, hR.2.2.2.2.2.2.2.2.2.2.2.2.2.2.2.2.2.2.2.2.2.2.2.2.2.2.2.2.1, hR.2.2.2.2.2.2.2.2.2.2.2.2.2.2.2.2.2.2.2.2.2.2.2.2.2.2.2.2.2.1, hR.2.2.2.2.2.2.2.2.2.2.2.2.2.2.2.2.2.2.2.2.2.2.2.2.2.2.2.2.2.2.1, hR.2.2.2.2.2.2.2.2.2.2.2.2.2.2.2.2.2.2.2.2.2.2.2.2.2.2.2.2.2.2.2.1, hR.2.2.2.2.2.2.2.2.2.2.2.2.2.2.2.2.2.2.2.2.2.2.2.2.2.2.2.2.2.2.2.2.1, hR.2.2.2.2.2.2.2.2.2.2.2.2.2.2.2.2.2.2.2.2.2.2.2.2.2.2.2.2.2.2.2.2.2.1, hR.2.2.2.2.2.2.2.2.2.2.2.2.2.2.2.2.2.2.2.2.2.2.2.2.2.2.2.2.2.2.2.2.2.2.1, hR.2.2.2.2.2.2.2.2.2.2.2.2.2.2.2.2.2.2.2.2.2.2.2.2.2.2.2.2.2.2.2.2.2.2.2, ns, r_noPl, inr_n3, ce, hc, r_thr0, r_shipAt, e1, e4, fp, ↓lt_e, ↓gd_e, ↓Option.bind_some, ↓reduceIte, if_true, if_false, if_pT, if_nF, decide_true, Bool.not_true, Bool.not_false, not_true_eq_false, not_false_eq_true, Bool.false_eq_true, Bool.true_eq_false, eq_self, n3_lit, n3_add, n3_mul, n3_sub, n3_tn, n3_le_t, n3_le_f, n3_lt_t, n3_lt_f, n3_eq_f, n3_eq_t, n3_inb, n3_rem, n3_div, n3_zb, bb_0, bb_1, zb_bb, bb_T, bb_F, n3_dec, n3_m1, n3_eqm, n3_eqmt, n3_ltm, n3_mlt, n3_lem, n3_mle, n3_neg_lt, n3_nlt_neg, n3_nle_neg, n3_neg_le]
/-! let out -/
theorem C_leave_f1 {N : Nat} (hN : 1099511627776 ≤ N) {Λ : Lay} {ad : Nat → Nat} {μ : Mem} {F : Nat → Nat} {m : Nat} {A : Nat → Nat → Nat} {b : Nat} {J : Nat → Nat} {T : Nat → Int32} {n : Nat} {f : Int32} (hY : Ly Λ ad) (h : RC ad μ F m A b J T n f) (ho : Ok F m A b J T n)  (x : Int32) (hx : inr x (F 0) = false) : CT ad μ (m_X11_leave N Λ μ (ad 0) x) 3 0 F m A b J T n f := by
  have hj := hY.1
  have hP := hY.2.2.1
  have hS := hY.2.2.2.1 3 (Or.inl rfl)
  have hL := hY.2.2.2.2.1 30 (Or.inl rfl)
  have hC := h.1
  have hw := ho.1
  have hl := ho.2.1
  have hb := hw.1; unfold WB at hb
  refine CT.same h ?_
  simp (disch := omega) only [m_X11_leave, c_need1 hP hC, hx, thn_T, thn_0, thn_1, thn_2, thn_3, thn_4, thn_5, ↓lt_e, ↓gd_e, ↓Option.bind_some, ↓reduceIte, if_true, if_false, if_pT, if_nF, decide_true, Bool.not_true, Bool.not_false, not_true_eq_false, not_false_eq_true, Bool.false_eq_true, Bool.true_eq_false, eq_self, n3_lit]
theorem C_leave_f2 {N : Nat} (hN : 1099511627776 ≤ N) {Λ : Lay} {ad : Nat → Nat} {μ : Mem} {F : Nat → Nat} {m : Nat} {A : Nat → Nat → Nat} {b : Nat} {J : Nat → Nat} {T : Nat → Int32} {n : Nat} {f : Int32} (hY : Ly Λ ad) (h : RC ad μ F m A b J T n f) (ho : Ok F m A b J T n)  (s : Nat) (hs : s < F 0) (hc : ¬ (F 4 = 1 ∧ flob F s = true)) : CT ad μ (m_X11_leave N Λ μ (ad 0) (n3 s)) 5 0 F m A b J T n f := by
  have hj := hY.1
  have hP := hY.2.2.1
  have hS := hY.2.2.2.1 3 (Or.inl rfl)
  have hL := hY.2.2.2.2.1 30 (Or.inl rfl)
  have hC := h.1
  have hw := ho.1
  have hl := ho.2.1
  have hb := hw.1; unfold WB at hb
  have hso := hw.2.2.1 s hs
  refine CT.same h ?_
  have fl := c_floats (N := N) hS hC hb.2.2.2.1 s (by omega) hs hso
  by_cases h4 : F 4 = 1
  · have hf : ¬ flob F s = true := fun hh => hc ⟨h4, hh⟩
    simp (disch := omega) only [jn_X11_leave_26, m_X11_leave, ↓ob (hP.1), ↓ob (hP.2.1), ↓ob (hP.2.2.1), ↓ob (hP.2.2.2.1), ↓ob (hP.2.2.2.2.1), ↓ob (hP.2.2.2.2.2.1), ↓ob (hP.2.2.2.2.2.2.1), ↓ob (hP.2.2.2.2.2.2.2.1), ↓ob (hP.2.2.2.2.2.2.2.2.1), ↓ob (hP.2.2.2.2.2.2.2.2.2.1), ↓ob (hP.2.2.2.2.2.2.2.2.2.2.1), ↓ob (hP.2.2.2.2.2.2.2.2.2.2.2.1), ↓ob (hP.2.2.2.2.2.2.2.2.2.2.2.2.1), ↓ob (hP.2.2.2.2.2.2.2.2.2.2.2.2.2.1), hP.2.2.2.2.2.2.2.2.2.2.2.2.2.2, hC.1, hC.2.1, hC.2.2.1, hC.2.2.2.1, hC.2.2.2.2.1, hC.2.2.2.2.2.1, hC.2.2.2.2.2.2.1, hC.2.2.2.2.2.2.2.1, hC.2.2.2.2.2.2.2.2.1, hC.2.2.2.2.2.2.2.2.2.1, hC.2.2.2.2.2.2.2.2.2.2.1, hC.2.2.2.2.2.2.2.2.2.2.2.1, hC.2.2.2.2.2.2.2.2.2.2.2.2.1, hC.2.2.2.2.2.2.2.2.2.2.2.2.2.1, hC.2.2.2.2.2.2.2.2.2.2.2.2.2.2.1, hC.2.2.2.2.2.2.2.2.2.2.2.2.2.2.2.1, hC.2.2.2.2.2.2.2.2.2.2.2.2.2.2.2.2.1, c_need1 hP hC, inr_n3, thn_T, thn_0, thn_1, thn_2, thn_3, thn_4, thn_5, h4, fl, hf, ↓lt_e, ↓gd_e, ↓Option.bind_some, ↓reduceIte, if_true, if_false, if_pT, if_nF, decide_true, Bool.not_true, Bool.not_false, not_true_eq_false, not_false_eq_true, Bool.false_eq_true, Bool.true_eq_false, eq_self, n3_lit, n3_add, n3_mul, n3_sub, n3_tn, n3_le_t, n3_le_f, n3_lt_t, n3_lt_f, n3_eq_f, n3_eq_t, n3_inb, n3_rem, n3_div, n3_zb, bb_0, bb_1, zb_bb, bb_T, bb_F, n3_dec, n3_m1, n3_eqm, n3_eqmt, n3_ltm, n3_mlt, n3_lem, n3_mle, n3_neg_lt, n3_nlt_neg, n3_nle_neg, n3_neg_le]
  · have h40 : F 4 = 0 := by omega
    simp (disch := omega) only [jn_X11_leave_26, m_X11_leave, ↓ob (hP.1), ↓ob (hP.2.1), ↓ob (hP.2.2.1), ↓ob (hP.2.2.2.1), ↓ob (hP.2.2.2.2.1), ↓ob (hP.2.2.2.2.2.1), ↓ob (hP.2.2.2.2.2.2.1), ↓ob (hP.2.2.2.2.2.2.2.1), ↓ob (hP.2.2.2.2.2.2.2.2.1), ↓ob (hP.2.2.2.2.2.2.2.2.2.1), ↓ob (hP.2.2.2.2.2.2.2.2.2.2.1), ↓ob (hP.2.2.2.2.2.2.2.2.2.2.2.1), ↓ob (hP.2.2.2.2.2.2.2.2.2.2.2.2.1), ↓ob (hP.2.2.2.2.2.2.2.2.2.2.2.2.2.1), hP.2.2.2.2.2.2.2.2.2.2.2.2.2.2, hC.1, hC.2.1, hC.2.2.1, hC.2.2.2.1, hC.2.2.2.2.1, hC.2.2.2.2.2.1, hC.2.2.2.2.2.2.1, hC.2.2.2.2.2.2.2.1, hC.2.2.2.2.2.2.2.2.1, hC.2.2.2.2.2.2.2.2.2.1, hC.2.2.2.2.2.2.2.2.2.2.1, hC.2.2.2.2.2.2.2.2.2.2.2.1, hC.2.2.2.2.2.2.2.2.2.2.2.2.1, hC.2.2.2.2.2.2.2.2.2.2.2.2.2.1, hC.2.2.2.2.2.2.2.2.2.2.2.2.2.2.1, hC.2.2.2.2.2.2.2.2.2.2.2.2.2.2.2.1, hC.2.2.2.2.2.2.2.2.2.2.2.2.2.2.2.2.1, c_need1 hP hC, inr_n3, thn_T, thn_0, thn_1, thn_2, thn_3, thn_4, thn_5, h40, ↓lt_e, ↓gd_e, ↓Option.bind_some, ↓reduceIte, if_true, if_false, if_pT, if_nF, decide_true, Bool.not_true, Bool.not_false, not_true_eq_false, not_false_eq_true, Bool.false_eq_true, Bool.true_eq_false, eq_self, n3_lit, n3_add, n3_mul, n3_sub, n3_tn, n3_le_t, n3_le_f, n3_lt_t, n3_lt_f, n3_eq_f, n3_eq_t, n3_inb, n3_rem, n3_div, n3_zb, bb_0, bb_1, zb_bb, bb_T, bb_F, n3_dec, n3_m1, n3_eqm, n3_eqmt, n3_ltm, n3_mlt, n3_lem, n3_mle, n3_neg_lt, n3_nlt_neg, n3_nle_neg, n3_neg_le]
theorem C_leave_t {N : Nat} (hN : 1099511627776 ≤ N) {Λ : Lay} {ad : Nat → Nat} {μ : Mem} {F : Nat → Nat} {m : Nat} {A : Nat → Nat → Nat} {b : Nat} {J : Nat → Nat} {T : Nat → Int32} {n : Nat} {f : Int32} (hY : Ly Λ ad) (h : RC ad μ F m A b J T n f) (ho : Ok F m A b J T n)  (s : Nat) (hs : s < F 0) (h4 : F 4 = 1) (hfl : flob F s = true) : CT ad μ (m_X11_leave N Λ μ (ad 0) (n3 s)) 0 (n3 (feeF F s)) (outF F s (feeF F s)) (min (m + 1) 12) (rmA F A) b J T n f := by
  have hj := hY.1
  have hP := hY.2.2.1
  have hS := hY.2.2.2.1 3 (Or.inl rfl)
  have hL := hY.2.2.2.2.1 30 (Or.inl rfl)
  have hC := h.1
  have hw := ho.1
  have hl := ho.2.1
  have hb := hw.1; unfold WB at hb
  have hso := hw.2.2.1 s hs
  have fl := c_floats (N := N) hS hC hb.2.2.2.1 s (by omega) hs hso
  obtain ⟨μ1, e1, h1, f1⟩ := c_remember (N := N) hY h ho
  have h60 : F 11 ≤ 60 := hb.2.2.2.2.2.2.2.2.2.2.2.1
  obtain ⟨μ2, e2, f2⟩ := c_feeOf hN hS h1.1 hL hj hw hl (by omega) h1.2.1 s hs
  have hC2 := h1.1.fr f2 (fun i a b => by omega)
  obtain ⟨μ3, e3, hC3, f3⟩ := c_logadd (N := N) hS hC2 hj h60 hb.1 s 1 (F (25 + 6 * s + 4))
  have g0 : logF F s 1 (F (25 + 6 * s + 4)) 0 = F 0 := rfl
  have g11 : logF F s 1 (F (25 + 6 * s + 4)) 11 = min 60 (F 11 + 1) := rfl
  have g8 : logF F s 1 (F (25 + 6 * s + 4)) 8 = F 8 := rfl
  have hC4 := hC3.wr hj (by omega) (by omega) (25 + 6 * s + 3) 2 (by omega) (lc_s (by omega)).2.2 (by omega) (by omega) (3 + 5) s (by rw [(lc_s (by omega)).1]) (by rw [(lc_s (by omega)).2.1])
  have hC5 := hC4.wr hj (by simp (disch := omega) only [up_n]; omega) (by simp (disch := omega) only [up_n]; omega) (25 + 6 * s + 4) 4294967295 (by simp (disch := omega) only [up_n]; omega) (lc_s (by omega)).2.2 (by omega) (by omega) (3 + 6) s (by rw [(lc_s (by omega)).1]) (by rw [(lc_s (by omega)).2.1])
  have hC6 := hC5.wr hj (by simp (disch := omega) only [up_n]; omega) (by simp (disch := omega) only [up_n]; omega) 8 (min 9999 (F 8 + feeF F s)) (by simp (disch := omega) only [up_n]; omega) ⟨by omega, by omega⟩ (by omega) (by omega) 3 5 rfl rfl
  have hw6 := out_WF (e := feeF F s) hw hs
  have e6 : up (up (up (logF F s 1 (F (25 + 6 * s + 4))) (25 + 6 * s + 3) 2) (25 + 6 * s + 4) 4294967295) 8 (min 9999 (F 8 + feeF F s)) = outF F s (feeF F s) := by
    funext k; unfold outF up
    by_cases k8 : k = 8
    · subst k8; rw [if_pos rfl, if_neg (by omega), if_neg (by omega), if_pos rfl]
    · rw [if_neg k8]
      by_cases k4 : k = 25 + 6 * s + 4
      · rw [if_pos k4, if_pos k4]
      · rw [if_neg k4, if_neg k4]
        by_cases k3 : k = 25 + 6 * s + 3
        · rw [if_pos k3, if_pos k3]
        · rw [if_neg k3, if_neg k3, if_neg k8]
  rw [e6] at hC6
  have q3 : μ2.1 (ad 3) 1 = n3 (F 9) := hC2.2.1
  have q4 : μ2.1 (ad 3) 0 = n3 (F 3) := hC2.1
  have q6 : μ2.1 (ad (3 + 6)) s = n3 (F (25 + 6 * s + 4)) := hC2.2.2.2.2.2.2.2.2.2.2.2.2.2.2.2.2.1 s hs
  have q8 : μ3.1 (ad 3) 5 = n3 (F 8) := by have := hC3.2.2.2.2.2.1; rw [g8] at this; exact this
  have sl := smf_le (kd := 2) (s := s) hl
  have fle : feeF F s ≤ 1000 := by unfold feeF; unfold ShOk at hso; omega
  have ec : min (F 8 + feeF F s) 9999 = min 9999 (F 8 + feeF F s) := Nat.min_comm _ _
  have f5 : Fr ad (fun i => (3 ≤ i ∧ i ≤ 11) ∨ i = 35) μ1 (mset (mset (mset μ3 (ad (3 + 5)) s (n3 2)) (ad (3 + 6)) s (n3 4294967295)) (ad 3) 5 (n3 (min 9999 (F 8 + feeF F s)))) := ((((f2.mono (fun i hi => by omega)).trans (f3.mono (fun i hi => by omega))).set hj (by omega)).set hj (by omega)).set hj (by omega)
  refine ⟨_, ?_, h1.to hC6 (out_Lw (by omega)) (f5.mono (fun i hi => by unfold ScC; omega)), f1.trans (f5.mono (fun i hi => by omega))⟩
  simp (disch := omega) only [m_X11_leave, m_X9_letOut, ↓ob (hP.1), ↓ob (hP.2.1), ↓ob (hP.2.2.1), ↓ob (hP.2.2.2.1), ↓ob (hP.2.2.2.2.1), ↓ob (hP.2.2.2.2.2.1), ↓ob (hP.2.2.2.2.2.2.1), ↓ob (hP.2.2.2.2.2.2.2.1), ↓ob (hP.2.2.2.2.2.2.2.2.1), ↓ob (hP.2.2.2.2.2.2.2.2.2.1), ↓ob (hP.2.2.2.2.2.2.2.2.2.2.1), ↓ob (hP.2.2.2.2.2.2.2.2.2.2.2.1), ↓ob (hP.2.2.2.2.2.2.2.2.2.2.2.2.1), ↓ob (hP.2.2.2.2.2.2.2.2.2.2.2.2.2.1), hP.2.2.2.2.2.2.2.2.2.2.2.2.2.2, ↓ob (hS.1), ↓ob (hS.2.1), ↓ob (hS.2.2.1), ↓ob (hS.2.2.2.1), ↓ob (hS.2.2.2.2.1), ↓ob (hS.2.2.2.2.2.1), ↓ob (hS.2.2.2.2.2.2.1), ↓ob (hS.2.2.2.2.2.2.2.1), hS.2.2.2.2.2.2.2.2.1, hS.2.2.2.2.2.2.2.2.2.1, hS.2.2.2.2.2.2.2.2.2.2.1, hS.2.2.2.2.2.2.2.2.2.2.2.1, hS.2.2.2.2.2.2.2.2.2.2.2.2.1, hS.2.2.2.2.2.2.2.2.2.2.2.2.2.1, hS.2.2.2.2.2.2.2.2.2.2.2.2.2.2, hC.1, hC.2.1, hC.2.2.1, hC.2.2.2.1, hC.2.2.2.2.1, hC.2.2.2.2.2.1, hC.2.2.2.2.2.2.1, hC.2.2.2.2.2.2.2.1, hC.2.2.2.2.2.2.2.2.1, hC.2.2.2.2.2.2.2.2.2.1, hC.2.2.2.2.2.2.2.2.2.2.1, hC.2.2.2.2.2.2.2.2.2.2.2.1, hC.2.2.2.2.2.2.2.2.2.2.2.2.1, hC.2.2.2.2.2.2.2.2.2.2.2.2.2.1, hC.2.2.2.2.2.2.2.2.2.2.2.2.2.2.1, hC.2.2.2.2.2.2.2.2.2.2.2.2.2.2.2.1, hC.2.2.2.2.2.2.2.2.2.2.2.2.2.2.2.2.1, c_need1 hP hC, inr_n3, thn_T, thn_0, thn_1, thn_2, thn_3, thn_4, thn_5, h4, fl, hfl, e1, e2, q3, q4, q6, e3, q8, mso hj, n3_neg1, n3_imin, ec, ↓lt_e, ↓gd_e, ↓Option.bind_some, ↓reduceIte, if_true, if_false, if_pT, if_nF, decide_true, Bool.not_true, Bool.not_false, not_true_eq_false, not_false_eq_true, Bool.false_eq_true, Bool.true_eq_false, eq_self, n3_lit, n3_add, n3_mul, n3_sub, n3_tn, n3_le_t, n3_le_f, n3_lt_t, n3_lt_f, n3_eq_f, n3_eq_t, n3_inb, n3_rem, n3_div, n3_zb, bb_0, bb_1, zb_bb, bb_T, bb_F, n3_dec, n3_m1, n3_eqm, n3_eqmt, n3_ltm, n3_mlt, n3_lem, n3_mle, n3_neg_lt, n3_nlt_neg, n3_nle_neg, n3_neg_le]
theorem R_leave_f1 {N : Nat} (hN : 1099511627776 ≤ N) {Λ : Lay} {ad : Nat → Nat} {μ : Mem} {F : Nat → Nat} {m : Nat} {A : Nat → Nat → Nat} {b : Nat} {J : Nat → Nat} {T : Nat → Int32} {n : Nat} {f : Int32} (hY : Ly Λ ad) (h : RR ad μ F m A b J T n f) (ho : Ok F m A b J T n)  (x : Int32) (hx : inr x (F 0) = false) : RV ad μ (m_X12_leave N Λ μ (ad 181) x) 1 0 F m A b J T n f := by
  have hj := hY.1
  have hR := hY.2.1
  have hW := h.1
  have hw := ho.1
  have hl := ho.2.1
  have hb := hw.1; unfold WB at hb
  unfold m_X12_leave
  refine RV.start hY.1 h (fun μ0 h0 t0 => RV.thrown hY.1 h0 ?_)
  have ns := r_noSh (N := N) hR h0.1 hb.1 x
  simp (disch := omega) only [jn_X12_leave_56, ns, hx, r_thr1, ↓ob (hR.1), ↓ob (hR.2.1), ↓ob (hR.2.2.1), ↓ob (hR.2.2.2.1), ↓ob (hR.2.2.2.2.1), ↓ob (hR.2.2.2.2.2.1), ↓ob (hR.2.2.2.2.2.2.1), ↓ob (hR.2.2.2.2.2.2.2.1), ↓ob (hR.2.2.2.2.2.2.2.2.1), ↓ob (hR.2.2.2.2.2.2.2.2.2.1), ↓ob (hR.2.2.2.2.2.2.2.2.2.2.1), ↓ob (hR.2.2.2.2.2.2.2.2.2.2.2.1), ↓ob (hR.2.2.2.2.2.2.2.2.2.2.2.2.1), ↓ob (hR.2.2.2.2.2.2.2.2.2.2.2.2.2.1), ↓ob (hR.2.2.2.2.2.2.2.2.2.2.2.2.2.2.1), ↓ob (hR.2.2.2.2.2.2.2.2.2.2.2.2.2.2.2.1), ↓ob (hR.2.2.2.2.2.2.2.2.2.2.2.2.2.2.2.2.1), ↓ob (hR.2.2.2.2.2.2.2.2.2.2.2.2.2.2.2.2.2.1), hR.2.2.2.2.2.2.2.2.2.2.2.2.2.2.2.2.2.2.1, hR.2.2.2.2.2.2.2.2.2.2.2.2.2.2.2.2.2.2.2.1, hR.2.2.2.2.2.2.2.2.2.2.2.2.2.2.2.2.2.2.2.2.1, hR.2.2.2.2.2.2.2.2.2.2.2.2.2.2.2.2.2.2.2.2.2.1, hR.2.2.2.2.2.2.2.2.2.2.2.2.2.2.2.2.2.2.2.2.2.2.1, hR.2.2.2.2.2.2.2.2.2.2.2.2.2.2.2.2.2.2.2.2.2.2.2.1, hR.2.2.2.2.2.2.2.2.2.2.2.2.2.2.2.2.2.2.2.2.2.2.2.2.1, hR.2.2.2.2.2.2.2.2.2.2.2.2.2.2.2.2.2.2.2.2.2.2.2.2.2.1, hR.2.2.2.2.2.2.2.2.2.2.2.2.2.2.2.2.2.2.2.2.2.2.2.2.2.2.1, hR.2.2.2.2.2.2.2.2.2.2.2.2.2.2.2.2.2.2.2.2.2.2.2.2.2.2.2.1, hR.2.2.2.2.2.2.2.2.2.2.2.2.2.2.2.2.2.2.2.2.2.2.2.2.2.2.2.2.1, hR.2.2.2.2.2.2.2.2.2.2.2.2.2.2.2.2.2.2.2.2.2.2.2.2.2.2.2.2.2.1, hR.2.2.2.2.2.2.2.2.2.2.2.2.2.2.2.2.2.2.2.2.2.2.2.2.2.2.2.2.2.2.1, hR.2.2.2.2.2.2.2.2.2.2.2.2.2.2.2.2.2.2.2.2.2.2.2.2.2.2.2.2.2.2.2.1, hR.2.2.2.2.2.2.2.2.2.2.2.2.2.2.2.2.2.2.2.2.2.2.2.2.2.2.2.2.2.2.2.2.1, hR.2.2.2.2.2.2.2.2.2.2.2.2.2.2.2.2.2.2.2.2.2.2.2.2.2.2.2.2.2.2.2.2.2.1, hR.2.2.2.2.2.2.2.2.2.2.2.2.2.2.2.2.2.2.2.2.2.2.2.2.2.2.2.2.2.2.2.2.2.2.1, hR.2.2.2.2.2.2.2.2.2.2.2.2.2.2.2.2.2.2.2.2.2.2.2.2.2.2.2.2.2.2.2.2.2.2.2, ↓lt_e, ↓gd_e, ↓Option.bind_some, ↓reduceIte, if_true, if_false, if_pT, if_nF, decide_true, Bool.not_true, Bool.not_false, not_true_eq_false, not_false_eq_true, Bool.false_eq_true, Bool.true_eq_false, eq_self, n3_lit, n3_add, n3_mul, n3_sub, n3_tn, n3_le_t, n3_le_f, n3_lt_t, n3_lt_f, n3_eq_f, n3_eq_t, n3_inb, n3_rem, n3_div, n3_zb, bb_0, bb_1, zb_bb, bb_T, bb_F, n3_dec, n3_m1, n3_eqm, n3_eqmt, n3_ltm, n3_mlt, n3_lem, n3_mle, n3_neg_lt, n3_nlt_neg, n3_nle_neg, n3_neg_le]
theorem R_leave_f2 {N : Nat} (hN : 1099511627776 ≤ N) {Λ : Lay} {ad : Nat → Nat} {μ : Mem} {F : Nat → Nat} {m : Nat} {A : Nat → Nat → Nat} {b : Nat} {J : Nat → Nat} {T : Nat → Int32} {n : Nat} {f : Int32} (hY : Ly Λ ad) (h : RR ad μ F m A b J T n f) (ho : Ok F m A b J T n)  (s : Nat) (hs : s < F 0) (hc : ¬ (F 4 = 1 ∧ flob F s = true)) : RV ad μ (m_X12_leave N Λ μ (ad 181) (n3 s)) 2 0 F m A b J T n f := by
  have hj := hY.1
  have hR := hY.2.1
  have hW := h.1
  have hw := ho.1
  have hl := ho.2.1
  have hb := hw.1; unfold WB at hb
  unfold m_X12_leave
  refine RV.start hY.1 h (fun μ0 h0 t0 => RV.thrown hY.1 h0 ?_)
  have hW0 := h0.1
  have hso := hw.2.2.1 s hs
  have ns := r_noSh (N := N) hR h0.1 hb.1 (n3 s)
  have st := r_sits (N := N) hR hW0 hb.2.2.2.1 s (by omega) hso
  unfold ShOk at hso
  have dk := r_isDocked (N := N) hR hW0 s (by omega) (by omega)
  by_cases h4 : F 4 = 1
  · have hf : ¬ flob F s = true := fun hh => hc ⟨h4, hh⟩
    by_cases hd : F (25 + 6 * s + 3) = 1
    · have hsi : sitb F s = true := by
        refine sitb_iff.2 ⟨hd, ?_⟩
        have := mt flob_iff.2 hf
        omega
      simp (disch := omega) only [jn_X12_leave_56, jn_X12_leave_49, jn_X12_leave_44, ↓ob (hR.1), ↓ob (hR.2.1), ↓ob (hR.2.2.1), ↓ob (hR.2.2.2.1), ↓ob (hR.2.2.2.2.1), ↓ob (hR.2.2.2.2.2.1), ↓ob (hR.2.2.2.2.2.2.1), ↓ob (hR.2.2.2.2.2.2.2.1), ↓ob (hR.2.2.2.2.2.2.2.2.1), ↓ob (hR.2.2.2.2.2.2.2.2.2.1), ↓ob (hR.2.2.2.2.2.2.2.2.2.2.1), ↓ob (hR.2.2.2.2.2.2.2.2.2.2.2.1), ↓ob (hR.2.2.2.2.2.2.2.2.2.2.2.2.1), ↓ob (hR.2.2.2.2.2.2.2.2.2.2.2.2.2.1), ↓ob (hR.2.2.2.2.2.2.2.2.2.2.2.2.2.2.1), ↓ob (hR.2.2.2.2.2.2.2.2.2.2.2.2.2.2.2.1), ↓ob (hR.2.2.2.2.2.2.2.2.2.2.2.2.2.2.2.2.1), ↓ob (hR.2.2.2.2.2.2.2.2.2.2.2.2.2.2.2.2.2.1), hR.2.2.2.2.2.2.2.2.2.2.2.2.2.2.2.2.2.2.1, hR.2.2.2.2.2.2.2.2.2.2.2.2.2.2.2.2.2.2.2.1, hR.2.2.2.2.2.2.2.2.2.2.2.2.2.2.2.2.2.2.2.2.1, hR.2.2.2.2.2.2.2.2.2.2.2.2.2.2.2.2.2.2.2.2.2.1, hR.2.2.2.2.2.2.2.2.2.2.2.2.2.2.2.2.2.2.2.2.2.2.1, hR.2.2.2.2.2.2.2.2.2.2.2.2.2.2.2.2.2.2.2.2.2.2.2.1, hR.2.2.2.2.2.2.2.2.2.2.2.2.2.2.2.2.2.2.2.2.2.2.2.2.1, hR.2.2.2.2.2.2.2.2.2.2.2.2.2.2.2.2.2.2.2.2.2.2.2.2.2.1, hR.2.2.2.2.2.2.2.2.2.2.2.2.2.2.2.2.2.2.2.2.2.2.2.2.2.2.1, hR.2.2.2.2.2.2.2.2.2.2.2.2.2.2.2.2.2.2.2.2.2.2.2.2.2.2.2.1, hR.2.2.2.2.2.2.2.2.2.2.2.2.2.2.2.2.2.2.2.2.2.2.2.2.2.2.2.2.1, hR.2.2.2.2.2.2.2.2.2.2.2.2.2.2.2.2.2.2.2.2.2.2.2.2.2.2.2.2.2.1, hR.2.2.2.2.2.2.2.2.2.2.2.2.2.2.2.2.2.2.2.2.2.2.2.2.2.2.2.2.2.2.1, hR.2.2.2.2.2.2.2.2.2.2.2.2.2.2.2.2.2.2.2.2.2.2.2.2.2.2.2.2.2.2.2.1, hR.2.2.2.2.2.2.2.2.2.2.2.2.2.2.2.2.2.2.2.2.2.2.2.2.2.2.2.2.2.2.2.2.1, hR.2.2.2.2.2.2.2.2.2.2.2.2.2.2.2.2.2.2.2.2.2.2.2.2.2.2.2.2.2.2.2.2.2.1, hR.2.2.2.2.2.2.2.2.2.2.2.2.2.2.2.2.2.2.2.2.2.2.2.2.2.2.2.2.2.2.2.2.2.2.1, hR.2.2.2.2.2.2.2.2.2.2.2.2.2.2.2.2.2.2.2.2.2.2.2.2.2.2.2.2.2.2.2.2.2.2.2, hW0, ns, inr_n3, dk, st, hsi, hd, h4, r_thr0, r_thr1, ↓lt_e, ↓gd_e, ↓Option.bind_some, ↓reduceIte, if_true, if_false, if_pT, if_nF, decide_true, Bool.not_true, Bool.not_false, not_true_eq_false, not_false_eq_true, Bool.false_eq_true, Bool.true_eq_false, eq_self, n3_lit, n3_add, n3_mul, n3_sub, n3_tn, n3_le_t, n3_le_f, n3_lt_t, n3_lt_f, n3_eq_f, n3_eq_t, n3_inb, n3_rem, n3_div, n3_zb, bb_0, bb_1, zb_bb, bb_T, bb_F, n3_dec, n3_m1, n3_eqm, n3_eqmt, n3_ltm, n3_mlt, n3_lem, n3_mle, n3_neg_lt, n3_nlt_neg, n3_nle_neg, n3_neg_le]
    · simp (disch := omega) only [jn_X12_leave_56, jn_X12_leave_49, jn_X12_leave_44, ↓ob (hR.1), ↓ob (hR.2.1), ↓ob (hR.2.2.1), ↓ob (hR.2.2.2.1), ↓ob (hR.2.2.2.2.1), ↓ob (hR.2.2.2.2.2.1), ↓ob (hR.2.2.2.2.2.2.1), ↓ob (hR.2.2.2.2.2.2.2.1), ↓ob (hR.2.2.2.2.2.2.2.2.1), ↓ob (hR.2.2.2.2.2.2.2.2.2.1), ↓ob (hR.2.2.2.2.2.2.2.2.2.2.1), ↓ob (hR.2.2.2.2.2.2.2.2.2.2.2.1), ↓ob (hR.2.2.2.2.2.2.2.2.2.2.2.2.1), ↓ob (hR.2.2.2.2.2.2.2.2.2.2.2.2.2.1), ↓ob (hR.2.2.2.2.2.2.2.2.2.2.2.2.2.2.1), ↓ob (hR.2.2.2.2.2.2.2.2.2.2.2.2.2.2.2.1), ↓ob (hR.2.2.2.2.2.2.2.2.2.2.2.2.2.2.2.2.1), ↓ob (hR.2.2.2.2.2.2.2.2.2.2.2.2.2.2.2.2.2.1), hR.2.2.2.2.2.2.2.2.2.2.2.2.2.2.2.2.2.2.1, hR.2.2.2.2.2.2.2.2.2.2.2.2.2.2.2.2.2.2.2.1, hR.2.2.2.2.2.2.2.2.2.2.2.2.2.2.2.2.2.2.2.2.1, hR.2.2.2.2.2.2.2.2.2.2.2.2.2.2.2.2.2.2.2.2.2.1, hR.2.2.2.2.2.2.2.2.2.2.2.2.2.2.2.2.2.2.2.2.2.2.1, hR.2.2.2.2.2.2.2.2.2.2.2.2.2.2.2.2.2.2.2.2.2.2.2.1, hR.2.2.2.2.2.2.2.2.2.2.2.2.2.2.2.2.2.2.2.2.2.2.2.2.1, hR.2.2.2.2.2.2.2.2.2.2.2.2.2.2.2.2.2.2.2.2.2.2.2.2.2.1, hR.2.2.2.2.2.2.2.2.2.2.2.2.2.2.2.2.2.2.2.2.2.2.2.2.2.2.1, hR.2.2.2.2.2.2.2.2.2.2.2.2.2.2.2.2.2.2.2.2.2.2.2.2.2.2.2.1, hR.2.2.2.2.2.2.2.2.2.2.2.2.2.2.2.2.2.2.2.2.2.2.2.2.2.2.2.2.1, hR.2.2.2.2.2.2.2.2.2.2.2.2.2.2.2.2.2.2.2.2.2.2.2.2.2.2.2.2.2.1, hR.2.2.2.2.2.2.2.2.2.2.2.2.2.2.2.2.2.2.2.2.2.2.2.2.2.2.2.2.2.2.1, hR.2.2.2.2.2.2.2.2.2.2.2.2.2.2.2.2.2.2.2.2.2.2.2.2.2.2.2.2.2.2.2.1, hR.2.2.2.2.2.2.2.2.2.2.2.2.2.2.2.2.2.2.2.2.2.2.2.2.2.2.2.2.2.2.2.2.1, hR.2.2.2.2.2.2.2.2.2.2.2.2.2.2.2.2.2.2.2.2.2.2.2.2.2.2.2.2.2.2.2.2.2.1, hR.2.2.2.2.2.2.2.2.2.2.2.2.2.2.2.2.2.2.2.2.2.2.2.2.2.2.2.2.2.2.2.2.2.2.1, hR.2.2.2.2.2.2.2.2.2.2.2.2.2.2.2.2.2.2.2.2.2.2.2.2.2.2.2.2.2.2.2.2.2.2.2, hW0, ns, inr_n3, dk, hd, h4, r_thr0, r_thr1, ↓lt_e, ↓gd_e, ↓Option.bind_some, ↓reduceIte, if_true, if_false, if_pT, if_nF, decide_true, Bool.not_true, Bool.not_false, not_true_eq_false, not_false_eq_true, Bool.false_eq_true, Bool.true_eq_false, eq_self, n3_lit, n3_add, n3_mul, n3_sub, n3_tn, n3_le_t, n3_le_f, n3_lt_t, n3_lt_f, n3_eq_f, n3_eq_t, n3_inb, n3_rem, n3_div, n3_zb, bb_0, bb_1, zb_bb, bb_T, bb_F, n3_dec, n3_m1, n3_eqm, n3_eqmt, n3_ltm, n3_mlt, n3_lem, n3_mle, n3_neg_lt, n3_nlt_neg, n3_nle_neg, n3_neg_le]
  · have h40 : F 4 = 0 := by omega
    simp (disch := omega) only [jn_X12_leave_56, jn_X12_leave_49, jn_X12_leave_44, ↓ob (hR.1), ↓ob (hR.2.1), ↓ob (hR.2.2.1), ↓ob (hR.2.2.2.1), ↓ob (hR.2.2.2.2.1), ↓ob (hR.2.2.2.2.2.1), ↓ob (hR.2.2.2.2.2.2.1), ↓ob (hR.2.2.2.2.2.2.2.1), ↓ob (hR.2.2.2.2.2.2.2.2.1), ↓ob (hR.2.2.2.2.2.2.2.2.2.1), ↓ob (hR.2.2.2.2.2.2.2.2.2.2.1), ↓ob (hR.2.2.2.2.2.2.2.2.2.2.2.1), ↓ob (hR.2.2.2.2.2.2.2.2.2.2.2.2.1), ↓ob (hR.2.2.2.2.2.2.2.2.2.2.2.2.2.1), ↓ob (hR.2.2.2.2.2.2.2.2.2.2.2.2.2.2.1), ↓ob (hR.2.2.2.2.2.2.2.2.2.2.2.2.2.2.2.1), ↓ob (hR.2.2.2.2.2.2.2.2.2.2.2.2.2.2.2.2.1), ↓ob (hR.2.2.2.2.2.2.2.2.2.2.2.2.2.2.2.2.2.1), hR.2.2.2.2.2.2.2.2.2.2.2.2.2.2.2.2.2.2.1, hR.2.2.2.2.2.2.2.2.2.2.2.2.2.2.2.2.2.2.2.1, hR.2.2.2.2.2.2.2.2.2.2.2.2.2.2.2.2.2.2.2.2.1, hR.2.2.2.2.2.2.2.2.2.2.2.2.2.2.2.2.2.2.2.2.2.1, hR.2.2.2.2.2.2.2.2.2.2.2.2.2.2.2.2.2.2.2.2.2.2.1, hR.2.2.2.2.2.2.2.2.2.2.2.2.2.2.2.2.2.2.2.2.2.2.2.1, hR.2.2.2.2.2.2.2.2.2.2.2.2.2.2.2.2.2.2.2.2.2.2.2.2.1, hR.2.2.2.2.2.2.2.2.2.2.2.2.2.2.2.2.2.2.2.2.2.2.2.2.2.1, hR.2.2.2.2.2.2.2.2.2.2.2.2.2.2.2.2.2.2.2.2.2.2.2.2.2.2.1, hR.2.2.2.2.2.2.2.2.2.2.2.2.2.2.2.2.2.2.2.2.2.2.2.2.2.2.2.1, hR.2.2.2.2.2.2.2.2.2.2.2.2.2.2.2.2.2.2.2.2.2.2.2.2.2.2.2.2.1, hR.2.2.2.2.2.2.2.2.2.2.2.2.2.2.2.2.2.2.2.2.2.2.2.2.2.2.2.2.2.1, hR.2.2.2.2.2.2.2.2.2.2.2.2.2.2.2.2.2.2.2.2.2.2.2.2.2.2.2.2.2.2.1, hR.2.2.2.2.2.2.2.2.2.2.2.2.2.2.2.2.2.2.2.2.2.2.2.2.2.2.2.2.2.2.2.1, hR.2.2.2.2.2.2.2.2.2.2.2.2.2.2.2.2.2.2.2.2.2.2.2.2.2.2.2.2.2.2.2.2.1, hR.2.2.2.2.2.2.2.2.2.2.2.2.2.2.2.2.2.2.2.2.2.2.2.2.2.2.2.2.2.2.2.2.2.1, hR.2.2.2.2.2.2.2.2.2.2.2.2.2.2.2.2.2.2.2.2.2.2.2.2.2.2.2.2.2.2.2.2.2.2.1, hR.2.2.2.2.2.2.2.2.2.2.2.2.2.2.2.2.2.2.2.2.2.2.2.2.2.2.2.2.2.2.2.2.2.2.2, hW0, ns, inr_n3, h40, r_thr0, r_thr1, ↓lt_e, ↓gd_e, ↓Option.bind_some, ↓reduceIte, if_true, if_false, if_pT, if_nF, decide_true, Bool.not_true, Bool.not_false, not_true_eq_false, not_false_eq_true, Bool.false_eq_true, Bool.true_eq_false, eq_self, n3_lit, n3_add, n3_mul, n3_sub, n3_tn, n3_le_t, n3_le_f, n3_lt_t, n3_lt_f, n3_eq_f, n3_eq_t, n3_inb, n3_rem, n3_div, n3_zb, bb_0, bb_1, zb_bb, bb_T, bb_F, n3_dec, n3_m1, n3_eqm, n3_eqmt, n3_ltm, n3_mlt, n3_lem, n3_mle, n3_neg_lt, n3_nlt_neg, n3_nle_neg, n3_neg_le]
theorem R_leave_t {N : Nat} (hN : 1099511627776 ≤ N) {Λ : Lay} {ad : Nat → Nat} {μ : Mem} {F : Nat → Nat} {m : Nat} {A : Nat → Nat → Nat} {b : Nat} {J : Nat → Nat} {T : Nat → Int32} {n : Nat} {f : Int32} (hY : Ly Λ ad) (h : RR ad μ F m A b J T n f) (ho : Ok F m A b J T n)  (s : Nat) (hs : s < F 0) (h4 : F 4 = 1) (hfl : flob F s = true) : RV ad μ (m_X12_leave N Λ μ (ad 181) (n3 s)) 0 (n3 (feeF F s)) (outF F s (feeF F s)) (min (m + 1) 12) (rmA F A) b J T n f := by
  have hj := hY.1
  have hR := hY.2.1
  have hW := h.1
  have hw := ho.1
  have hl := ho.2.1
  have hb := hw.1; unfold WB at hb
  unfold m_X12_leave
  refine RV.start hY.1 h (fun μ0 h0 t0 => ?_)
  have hW0 := h0.1
  have hso := hw.2.2.1 s hs
  have ns := r_noSh (N := N) hR h0.1 hb.1 (n3 s)
  have st := r_sits (N := N) hR hW0 hb.2.2.2.1 s (by omega) hso
  unfold ShOk at hso
  have hd := (flob_iff.1 hfl).1
  have hsi : ¬ sitb F s = true := fun hh => by have h1 := (sitb_iff.1 hh).2; have h2 := (flob_iff.1 hfl).2; omega
  have dk := r_isDocked (N := N) hR hW0 s (by omega) (by omega)
  obtain ⟨μ1, e1, h1, t1, f1⟩ := r_rem hN hY h0 ho
  obtain ⟨μ2, e2, f2⟩ := r_feeOf hN hR h1.1 hj hw hl s hs
  have hW2 := h1.1.fr f2 (by omega)
  obtain ⟨μ3, e3, hW3, f3⟩ := r_isTold hN hR hW2 hj (by omega) s 1 (F (25 + 6 * s + 4))
  have hW4 := hW3.set 8 (min 9999 (F 8 + feeF F s))
  have hW5 := hW4.set (25 + 6 * s + 3) 2
  have hW6 := hW5.set (25 + 6 * s + 4) 4294967295
  have g8 : logF F s 1 (F (25 + 6 * s + 4)) 8 = F 8 := rfl
  have sl := smf_le (kd := 2) (s := s) hl
  have fle : feeF F s ≤ 1000 := by unfold feeF; omega
  have f5 : Fr ad (fun i => i = 182 ∨ i = 189) μ1 (mset (mset (mset μ3 (ad 182) 8 (n3 (min 9999 (F 8 + feeF F s)))) (ad 182) (25 + 6 * s + 3) (n3 2)) (ad 182) (25 + 6 * s + 4) (n3 4294967295)) := ((((f2.mono (fun i hi => Or.inr hi)).trans (f3.mono (fun i hi => Or.inl hi))).set hj (Or.inl rfl)).set hj (Or.inl rfl)).set hj (Or.inl rfl)
  refine ⟨_, ?_, by rw [(f5 181 (by omega)).1]; exact t1.trans t0, h1.to hW6 (f5.mono (fun i hi => by unfold ScX; omega)), f1.trans (f5.mono (fun i hi => by omega))⟩
  simp (disch := omega) only [jn_X12_leave_56, jn_X12_leave_49, jn_X12_leave_44, ↓ob (hR.1), ↓ob (hR.2.1), ↓ob (hR.2.2.1), ↓ob (hR.2.2.2.1), ↓ob (hR.2.2.2.2.1), ↓ob (hR.2.2.2.2.2.1), ↓ob (hR.2.2.2.2.2.2.1), ↓ob (hR.2.2.2.2.2.2.2.1), ↓ob (hR.2.2.2.2.2.2.2.2.1), ↓ob (hR.2.2.2.2.2.2.2.2.2.1), ↓ob (hR.2.2.2.2.2.2.2.2.2.2.1), ↓ob (hR.2.2.2.2.2.2.2.2.2.2.2.1), ↓ob (hR.2.2.2.2.2.2.2.2.2.2.2.2.1), ↓ob (hR.2.2.2.2.2.2.2.2.2.2.2.2.2.1), ↓ob (hR.2.2.2.2.2.2.2.2.2.2.2.2.2.2.1), ↓ob (hR.2.2.2.2.2.2.2.2.2.2.2.2.2.2.2.1), ↓ob (hR.2.2.2.2.2.2.2.2.2.2.2.2.2.2.2.2.1), ↓ob (hR.2.2.2.2.2.2.2.2.2.2.2.2.2.2.2.2.2.1), hR.2.2.2.2.2.2.2.2.2.2.2.2.2.2.2.2.2.2.1, hR.2.2.2.2.2.2.2.2.2.2.2.2.2.2.2.2.2.2.2.1, hR.2.2.2.2.2.2.2.2.2.2.2.2.2.2.2.2.2.2.2.2.1, hR.2.2.2.2.2.2.2.2.2.2.2.2.2.2.2.2.2.2.2.2.2.1, hR.2.2.2.2.2.2.2.2.2.2.2.2.2.2.2.2.2.2.2.2.2.2.1, hR.2.2.2.2.2.2.2.2.2.2.2.2.2.2.2.2.2.2.2.2.2.2.2.1, hR.2.2.2.2.2.2.2.2.2.2.2.2.2.2.2.2.2.2.2.2.2.2.2.2.1, hR.2.2.2.2.2.2.2.2.2.2.2.2.2.2.2.2.2.2.2.2.2.2.2.2.2.1, hR.2.2.2.2.2.2.2.2.2.2.2.2.2.2.2.2.2.2.2.2.2.2.2.2.2.2.1, hR.2.2.2.2.2.2.2.2.2.2.2.2.2.2.2.2.2.2.2.2.2.2.2.2.2.2.2.1, hR.2.2.2.2.2.2.2.2.2.2.2.2.2.2.2.2.2.2.2.2.2.2.2.2.2.2.2.2.1, hR.2.2.2.2.2.2.2.2.2.2.2.2.2.2.2.2.2.2.2.2.2.2.2.2.2.2.2.2.2.1, hR.2.2.2.2.2.2.2.2.2.2.2.2.2.2.2.2.2.2.2.2.2.2.2.2.2.2.2.2.2.2.1, hR.2.2.2.2.2.2.2.2.2.2.2.2.2.2.2.2.2.2.2.2.2.2.2.2.2.2.2.2.2.2.2.1, hR.2.2.2.2.2.2.2.2.2.2.2.2.2.2.2.2.2.2.2.2.2.2.2.2.2.2.2.2.2.2.2.2.1, hR.2.2.2.2.2.2.2.2.2.2.2.2.2.2.2.2.2.2.2.2.2.2.2.2.2.2.2.2.2.2.2.2.2.1, hR.2.2.2.2.2.2.2.2.2.2.2.2.2.2.2.2.2.2.2.2.2.2.2.2.2.2.2.2.2.2.2.2.2.2.1, hR.2.2.2.2.2.2.2.2.2.2.2.2.2.2.2.2.2.2.2.2.2.2.2.2.2.2.2.2.2.2.2.2.2.2.2, hW0, ns, inr_n3, dk, hd, st, hsi, h4, r_thr0, e1, e2, r_of hR hW2, e3, hW3, g8, r_shipAt, n3_imin, n3_neg1, ↓lt_e, ↓gd_e, ↓Option.bind_some, ↓reduceIte, if_true, if_false, if_pT, if_nF, decide_true, Bool.not_true, Bool.not_false, not_true_eq_false, not_false_eq_true, Bool.false_eq_true, Bool.true_eq_false, eq_self, n3_lit, n3_add, n3_mul, n3_sub, n3_tn, n3_le_t, n3_le_f, n3_lt_t, n3_lt_f, n3_eq_f, n3_eq_t, n3_inb, n3_rem, n3_div, n3_zb, bb_0, bb_1, zb_bb, bb_T, bb_F, n3_dec, n3_m1, n3_eqm, n3_eqmt, n3_ltm, n3_mlt, n3_lem, n3_mle, n3_neg_lt, n3_nlt_neg, n3_nle_neg, n3_neg_le]
/-! ships that come -/
def addF (F : Nat → Nat) (l d w st p : Nat) : Nat → Nat := up (up (up (up (up (up (up F (25 + 6 * F 0) l) (25 + 6 * F 0 + 1) d) (25 + 6 * F 0 + 2) w) (25 + 6 * F 0 + 3) st) (25 + 6 * F 0 + 4) p) (25 + 6 * F 0 + 5) 0) 0 (F 0 + 1)
theorem add_old {F : Nat → Nat} {l d w st p k : Nat} (h0 : k ≠ 0) (h : k < 25 + 6 * F 0 ∨ 25 + 6 * F 0 + 6 ≤ k) : addF F l d w st p k = F k := by
  unfold addF; simp (disch := omega) only [up_n]
theorem add_0 (F : Nat → Nat) (l d w st p : Nat) : addF F l d w st p 0 = F 0 + 1 := up_e _ _ _
theorem add_a (F : Nat → Nat) (l d w st p : Nat) : addF F l d w st p (25 + 6 * F 0) = l := by unfold addF; simp (disch := omega) only [up_n, up_e]
theorem add_b (F : Nat → Nat) (l d w st p : Nat) : addF F l d w st p (25 + 6 * F 0 + 1) = d := by unfold addF; simp (disch := omega) only [up_n, up_e]
theorem add_c (F : Nat → Nat) (l d w st p : Nat) : addF F l d w st p (25 + 6 * F 0 + 2) = w := by unfold addF; simp (disch := omega) only [up_n, up_e]
theorem add_d (F : Nat → Nat) (l d w st p : Nat) : addF F l d w st p (25 + 6 * F 0 + 3) = st := by unfold addF; simp (disch := omega) only [up_n, up_e]
theorem add_e (F : Nat → Nat) (l d w st p : Nat) : addF F l d w st p (25 + 6 * F 0 + 4) = p := by unfold addF; simp (disch := omega) only [up_n, up_e]
theorem add_f (F : Nat → Nat) (l d w st p : Nat) : addF F l d w st p (25 + 6 * F 0 + 5) = 0 := by unfold addF; simp (disch := omega) only [up_n, up_e]
theorem add_Lw {F : Nat → Nat} {l d w st p : Nat} (h8 : F 0 < 8) : LwE F (addF F l d w st p) := ⟨add_old (by omega) (by omega), fun k hk => add_old (by omega) (by omega)⟩
theorem add_WF {F : Nat → Nat} (h : WF F) (h8 : F 0 < 8) {l d w st p : Nat} (hl : 1 ≤ l ∧ l ≤ 12) (hd : 1 ≤ d ∧ d ≤ 20) (hw : w ≤ 99) (hp : st = 0 ∧ p = 4294967295 ∨ st = 1 ∧ fitb (tkn F (F 0)) p l = true) : WF (addF F l d w st p) := by
  have hb := h.1
  have hpl : ∀ t, t < F 0 → pl (addF F l d w st p) t = pl F t := fun t ht => pl_congr (add_old (by omega) (by omega)) (add_old (by omega) (by omega)) (add_old (by omega) (by omega))
  have hnew : ∀ t, t < F 0 → pl F t &&& pl (addF F l d w st p) (F 0) = 0 := by
    intro t ht
    have e : pl (addF F l d w st p) (F 0) = if st = 1 then rn p l else 0 := by unfold pl; rw [add_a, add_d, add_e]
    rw [e]
    rcases hp with ⟨rfl, _⟩ | ⟨rfl, hf⟩
    · exact Nat.and_zero _
    · exact tkn_and (fitb_iff.1 hf).2 t ht
  refine ⟨?_, fun k hk => ?_, fun t ht => ?_, fun t u h1 h2 => ?_⟩
  · unfold WB at *
    rw [add_0]
    simp (disch := omega) only [add_old]
    omega
  · rw [add_old (by omega) (by omega)]; exact h.2.1 k hk
  · rw [add_0] at ht
    by_cases e : t = F 0
    · subst e
      unfold ShOk
      rw [add_a, add_b, add_c, add_d, add_e, add_f]
      refine ⟨hl.1, hl.2, hd.1, hd.2, hw, ?_, fun h1 => ?_, fun h1 => ?_, by omega⟩
      · rcases hp with ⟨rfl, _⟩ | ⟨rfl, _⟩ <;> omega
      · rcases hp with ⟨rfl, _⟩ | ⟨rfl, hf⟩
        · omega
        · exact (fitb_iff.1 hf).1
      · rcases hp with ⟨rfl, e⟩ | ⟨rfl, hf⟩
        · exact e
        · exact absurd rfl h1
    · exact (h.2.2.1 t (by omega)).congr (fun w hw => add_old (by omega) (by omega))
  · rw [add_0] at h2
    by_cases e : u = F 0
    · subst e; rw [hpl t h1]; exact hnew t h1
    · rw [hpl t (by omega), hpl u (by omega)]; exact h.2.2.2 t u h1 (by omega)
theorem r_shipAt0 {N : Nat} {Λ : Lay} {μ : Mem} (s : Nat) : m_X12_shipAt N Λ μ (n3 s) (n3 0) = some (n3 (25 + 6 * s)) := r_shipAt s 0
theorem r_isShip {N : Nat} {Λ : Lay} {ad : Nat → Nat} {μ : Mem} {F : Nat → Nat} (hR : LyR Λ ad) (hW : Row μ (ad 182) 1222 F)  (hj : Inj ad) (h8 : F 0 < 8) (l d w : Nat) : ∃ μ', m_X12_isShip N Λ μ (ad 181) (n3 l) (n3 d) (n3 w) = some μ' ∧ Row μ' (ad 182) 1222 (addF F l d w 0 4294967295) ∧ Fr ad (fun i => i = 182) μ μ' := by
  generalize hp : (4294967295 : Nat) = p
  have hp1 : -n3 1 = n3 p := by rw [← hp]; exact n3_neg1
  have hW1 := hW.set (25 + 6 * F 0) l
  have hW2 := hW1.set (25 + 6 * F 0 + 1) d
  have hW3 := hW2.set (25 + 6 * F 0 + 2) w
  have hW4 := hW3.set (25 + 6 * F 0 + 3) 0
  have hW5 := hW4.set (25 + 6 * F 0 + 4) p
  have hW6 := hW5.set (25 + 6 * F 0 + 5) 0
  have hW7 := hW6.set 0 (F 0 + 1)
  have e0 := hW6 0 (by omega)
  simp (disch := omega) only [up_n] at e0
  have z := r_shipAt0 (N := N) (Λ := Λ) (μ := μ) (F 0)
  refine ⟨_, ?_, hW7, (((((((Fr.refl μ).set hj (by rfl)).set hj (by rfl)).set hj (by rfl)).set hj (by rfl)).set hj (by rfl)).set hj (by rfl)).set hj (by rfl)⟩
  unfold m_X12_isShip
  rw [r_ships hR hW]
  simp only [↓Option.bind_some, n3_lit]
  rw [ob hR.1, z]
  simp (disch := omega) only [↓ob (hR.1), ↓ob (hR.2.1), ↓ob (hR.2.2.1), ↓ob (hR.2.2.2.1), ↓ob (hR.2.2.2.2.1), ↓ob (hR.2.2.2.2.2.1), ↓ob (hR.2.2.2.2.2.2.1), ↓ob (hR.2.2.2.2.2.2.2.1), ↓ob (hR.2.2.2.2.2.2.2.2.1), ↓ob (hR.2.2.2.2.2.2.2.2.2.1), ↓ob (hR.2.2.2.2.2.2.2.2.2.2.1), ↓ob (hR.2.2.2.2.2.2.2.2.2.2.2.1), ↓ob (hR.2.2.2.2.2.2.2.2.2.2.2.2.1), ↓ob (hR.2.2.2.2.2.2.2.2.2.2.2.2.2.1), ↓ob (hR.2.2.2.2.2.2.2.2.2.2.2.2.2.2.1), ↓ob (hR.2.2.2.2.2.2.2.2.2.2.2.2.2.2.2.1), ↓ob (hR.2.2.2.2.2.2.2.2.2.2.2.2.2.2.2.2.1), ↓ob (hR.2.2.2.2.2.2.2.2.2.2.2.2.2.2.2.2.2.1), hR.2.2.2.2.2.2.2.2.2.2.2.2.2.2.2.2.2.2.1, hR.2.2.2.2.2.2.2.2.2.2.2.2.2.2.2.2.2.2.2.1, hR.2.2.2.2.2.2.2.2.2.2.2.2.2.2.2.2.2.2.2.2.1, hR.2.2.2.2.2.2.2.2.2.2.2.2.2.2.2.2.2.2.2.2.2.1, hR.2.2.2.2.2.2.2.2.2.2.2.2.2.2.2.2.2.2.2.2.2.2.1, hR.2.2.2.2.2.2.2.2.2.2.2.2.2.2.2.2.2.2.2.2.2.2.2.1, hR.2.2.2.2.2.2.2.2.2.2.2.2.2.2.2.2.2.2.2.2.2.2.2.2.1, hR.2.2.2.2.2.2.2.2.2.2.2.2.2.2.2.2.2.2.2.2.2.2.2.2.2.1, hR.2.2.2.2.2.2.2.2.2.2.2.2.2.2.2.2.2.2.2.2.2.2.2.2.2.2.1, hR.2.2.2.2.2.2.2.2.2.2.2.2.2.2.2.2.2.2.2.2.2.2.2.2.2.2.2.1, hR.2.2.2.2.2.2.2.2.2.2.2.2.2.2.2.2.2.2.2.2.2.2.2.2.2.2.2.2.1, hR.2.2.2.2.2.2.2.2.2.2.2.2.2.2.2.2.2.2.2.2.2.2.2.2.2.2.2.2.2.1, hR.2.2.2.2.2.2.2.2.2.2.2.2.2.2.2.2.2.2.2.2.2.2.2.2.2.2.2.2.2.2.1, hR.2.2.2.2.2.2.2.2.2.2.2.2.2.2.2.2.2.2.2.2.2.2.2.2.2.2.2.2.2.2.2.1, hR.2.2.2.2.2.2.2.2.2.2.2.2.2.2.2.2.2.2.2.2.2.2.2.2.2.2.2.2.2.2.2.2.1, hR.2.2.2.2.2.2.2.2.2.2.2.2.2.2.2.2.2.2.2.2.2.2.2.2.2.2.2.2.2.2.2.2.2.1, hR.2.2.2.2.2.2.2.2.2.2.2.2.2.2.2.2.2.2.2.2.2.2.2.2.2.2.2.2.2.2.2.2.2.2.1, hR.2.2.2.2.2.2.2.2.2.2.2.2.2.2.2.2.2.2.2.2.2.2.2.2.2.2.2.2.2.2.2.2.2.2.2, r_shipAt, hp1, e0, ↓lt_e, ↓gd_e, ↓Option.bind_some, ↓reduceIte, if_true, if_false, if_pT, if_nF, decide_true, Bool.not_true, Bool.not_false, not_true_eq_false, not_false_eq_true, Bool.false_eq_true, Bool.true_eq_false, eq_self, n3_lit, n3_tn, n3_inb, n3_add]
theorem CS.add {ad : Nat → Nat} (hj : Inj ad) {μ : Mem} {σ : Nat} {F : Nat → Nat} (hC : CS ad μ σ F) (h8 : F 0 < 8) (h60 : F 11 ≤ 60) (l d w st p : Nat) : CS ad (mset (mset (mset (mset (mset (mset μ (ad (σ + 2)) (F 0) (n3 l)) (ad (σ + 3)) (F 0) (n3 d)) (ad (σ + 4)) (F 0) (n3 w)) (ad (σ + 5)) (F 0) (n3 st)) (ad (σ + 6)) (F 0) (n3 p)) (ad σ) 8 (n3 (F 0 + 1))) σ (addF F l d w st p) := by
  have hC' := CS.iff.1 hC
  refine CS.iff.2 ⟨fun k hk hl => ?_, ?_, ?_⟩
  · rw [add_0] at hk
    have hl2 := hl.2
    by_cases k0 : k = 0
    · subst k0; rw [add_0]; exact mse _ _ _ _
    · by_cases hnew : 25 + 6 * F 0 ≤ k
      · obtain ⟨v, rfl, hv⟩ : ∃ v, k = 25 + 6 * F 0 + v ∧ v < 5 := ⟨k - (25 + 6 * F 0), by omega, by omega⟩
        rw [(lc_s hv).1, (lc_s hv).2.1]
        match v, hv with
        | 0, _ => rw [show 25 + 6 * F 0 + 0 = 25 + 6 * F 0 from rfl, add_a]; simp (disch := omega) only [mso hj, mse, Nat.zero_add]
        | 1, _ => rw [add_b]; simp (disch := omega) only [mso hj, mse, Nat.reduceAdd]
        | 2, _ => rw [add_c]; simp (disch := omega) only [mso hj, mse, Nat.reduceAdd]
        | 3, _ => rw [add_d]; simp (disch := omega) only [mso hj, mse, Nat.reduceAdd]
        | 4, _ => rw [add_e]; simp (disch := omega) only [mso hj, mse, Nat.reduceAdd]
      · rw [add_old k0 (by omega), ← hC'.1 k (by omega) hl]
        by_cases k25 : k < 25
        · have h1 : ∀ k, k < 25 → k ≠ 0 → (lcO k = 0 ∧ lcI k ≠ 8) ∨ lcO k = 1 ∨ lcO k = 7 := by decide +kernel
          rcases h1 k k25 k0 with ⟨a, b⟩ | a | a
          · rw [a]; simp (disch := omega) only [mso hj, msn, Nat.add_zero]
          · rw [a]; simp (disch := omega) only [mso hj]
          · rw [a]; simp (disch := omega) only [mso hj]
        · obtain ⟨s, v, rfl, hv⟩ : ∃ s v, k = 25 + 6 * s + v ∧ v < 5 := ⟨(k - 25) / 6, (k - 25) % 6, by omega, by omega⟩
          rw [(lc_s hv).1, (lc_s hv).2.1]
          match v, hv with
          | 0, _ => simp (disch := omega) only [mso hj, msn, Nat.zero_add]
          | 1, _ => simp (disch := omega) only [mso hj, msn, Nat.reduceAdd]
          | 2, _ => simp (disch := omega) only [mso hj, msn, Nat.reduceAdd]
          | 3, _ => simp (disch := omega) only [mso hj, msn, Nat.reduceAdd]
          | 4, _ => simp (disch := omega) only [mso hj, msn, Nat.reduceAdd]
  · rw [add_0]
    have e : hbt (addF F l d w st p) (F 0 + 1) = hbt F (F 0) := by
      show hbt (addF F l d w st p) (F 0) ||| (if decide (addF F l d w st p (25 + 6 * F 0 + 5) = 1) = true then 2 ^ F 0 else 0) = hbt F (F 0)
      rw [add_f, if_neg (by decide), Nat.or_zero, hbt_congr (G := F) (fun s hs => add_old (by omega) (by omega))]
    rw [e, ← hC'.2.1]
    simp (disch := omega) only [mso hj, msn]
  · exact hC'.2.2.fr (by simp (disch := omega) only [mso hj]) (by simp (disch := omega) only [mso hj]) (add_old (by omega) (by omega)) (fun q h1 h2 => add_old (by omega) (by omega)) h60
theorem c_addShip {N : Nat} {Λ : Lay} {ad : Nat → Nat} {σ : Nat} {μ : Mem} {F : Nat → Nat} (hS : LyS Λ ad σ) (hC : CS ad μ σ F)  (hj : Inj ad) (h8 : F 0 < 8) (h60 : F 11 ≤ 60) (l d w p : Nat) (hp : p ≤ 4294967295) : ∃ μ', m_X9_addShip N Λ μ (ad σ) (n3 l) (n3 d) (n3 w) (n3 p) = some (n3 (F 0), μ') ∧ CS ad μ' σ (addF F l d w (if p = 4294967295 then 0 else 1) p) ∧ FrS ad σ μ μ' := by
  have hf : ∀ st, FrS ad σ μ (mset (mset (mset (mset (mset (mset μ (ad (σ + 2)) (F 0) (n3 l)) (ad (σ + 3)) (F 0) (n3 d)) (ad (σ + 4)) (F 0) (n3 w)) (ad (σ + 5)) (F 0) (n3 st)) (ad (σ + 6)) (F 0) (n3 p)) (ad σ) 8 (n3 (F 0 + 1))) := fun st => ((((((Fr.refl μ).set hj (by omega)).set hj (by omega)).set hj (by omega)).set hj (by omega)).set hj (by omega)).set hj (by omega)
  refine ⟨_, ?_, hC.add hj h8 h60 l d w (if p = 4294967295 then 0 else 1) p, hf _⟩
  by_cases e : p = 4294967295
  · subst e
    simp (disch := omega) only [jn_X9_addShip_58, m_X9_addShip, ↓ob (hS.1), ↓ob (hS.2.1), ↓ob (hS.2.2.1), ↓ob (hS.2.2.2.1), ↓ob (hS.2.2.2.2.1), ↓ob (hS.2.2.2.2.2.1), ↓ob (hS.2.2.2.2.2.2.1), ↓ob (hS.2.2.2.2.2.2.2.1), hS.2.2.2.2.2.2.2.2.1, hS.2.2.2.2.2.2.2.2.2.1, hS.2.2.2.2.2.2.2.2.2.2.1, hS.2.2.2.2.2.2.2.2.2.2.2.1, hS.2.2.2.2.2.2.2.2.2.2.2.2.1, hS.2.2.2.2.2.2.2.2.2.2.2.2.2.1, hS.2.2.2.2.2.2.2.2.2.2.2.2.2.2, hC.1, hC.2.1, hC.2.2.1, hC.2.2.2.1, hC.2.2.2.2.1, hC.2.2.2.2.2.1, hC.2.2.2.2.2.2.1, hC.2.2.2.2.2.2.2.1, hC.2.2.2.2.2.2.2.2.1, hC.2.2.2.2.2.2.2.2.2.1, hC.2.2.2.2.2.2.2.2.2.2.1, hC.2.2.2.2.2.2.2.2.2.2.2.1, hC.2.2.2.2.2.2.2.2.2.2.2.2.1, hC.2.2.2.2.2.2.2.2.2.2.2.2.2.1, hC.2.2.2.2.2.2.2.2.2.2.2.2.2.2.1, hC.2.2.2.2.2.2.2.2.2.2.2.2.2.2.2.1, hC.2.2.2.2.2.2.2.2.2.2.2.2.2.2.2.2.1, mso hj, ↓lt_e, ↓gd_e, ↓Option.bind_some, ↓reduceIte, if_true, if_false, if_pT, if_nF, decide_true, Bool.not_true, Bool.not_false, not_true_eq_false, not_false_eq_true, Bool.false_eq_true, Bool.true_eq_false, eq_self, n3_lit, n3_add, n3_mul, n3_sub, n3_tn, n3_le_t, n3_le_f, n3_lt_t, n3_lt_f, n3_eq_f, n3_eq_t, n3_inb, n3_rem, n3_div, n3_zb, bb_0, bb_1, zb_bb, bb_T, bb_F, n3_dec, n3_m1, n3_eqm, n3_eqmt, n3_ltm, n3_mlt, n3_lem, n3_mle, n3_neg_lt, n3_nlt_neg, n3_nle_neg, n3_neg_le]
  · simp (disch := omega) only [jn_X9_addShip_58, m_X9_addShip, ↓ob (hS.1), ↓ob (hS.2.1), ↓ob (hS.2.2.1), ↓ob (hS.2.2.2.1), ↓ob (hS.2.2.2.2.1), ↓ob (hS.2.2.2.2.2.1), ↓ob (hS.2.2.2.2.2.2.1), ↓ob (hS.2.2.2.2.2.2.2.1), hS.2.2.2.2.2.2.2.2.1, hS.2.2.2.2.2.2.2.2.2.1, hS.2.2.2.2.2.2.2.2.2.2.1, hS.2.2.2.2.2.2.2.2.2.2.2.1, hS.2.2.2.2.2.2.2.2.2.2.2.2.1, hS.2.2.2.2.2.2.2.2.2.2.2.2.2.1, hS.2.2.2.2.2.2.2.2.2.2.2.2.2.2, hC.1, hC.2.1, hC.2.2.1, hC.2.2.2.1, hC.2.2.2.2.1, hC.2.2.2.2.2.1, hC.2.2.2.2.2.2.1, hC.2.2.2.2.2.2.2.1, hC.2.2.2.2.2.2.2.2.1, hC.2.2.2.2.2.2.2.2.2.1, hC.2.2.2.2.2.2.2.2.2.2.1, hC.2.2.2.2.2.2.2.2.2.2.2.1, hC.2.2.2.2.2.2.2.2.2.2.2.2.1, hC.2.2.2.2.2.2.2.2.2.2.2.2.2.1, hC.2.2.2.2.2.2.2.2.2.2.2.2.2.2.1, hC.2.2.2.2.2.2.2.2.2.2.2.2.2.2.2.1, hC.2.2.2.2.2.2.2.2.2.2.2.2.2.2.2.2.1, mso hj, e, ↓lt_e, ↓gd_e, ↓Option.bind_some, ↓reduceIte, if_true, if_false, if_pT, if_nF, decide_true, Bool.not_true, Bool.not_false, not_true_eq_false, not_false_eq_true, Bool.false_eq_true, Bool.true_eq_false, eq_self, n3_lit, n3_add, n3_mul, n3_sub, n3_tn, n3_le_t, n3_le_f, n3_lt_t, n3_lt_f, n3_eq_f, n3_eq_t, n3_inb, n3_rem, n3_div, n3_zb, bb_0, bb_1, zb_bb, bb_T, bb_F, n3_dec, n3_m1, n3_eqm, n3_eqmt, n3_ltm, n3_mlt, n3_lem, n3_mle, n3_neg_lt, n3_nlt_neg, n3_nle_neg, n3_neg_le]
def shOkb (x y z : Int32) : Prop := (n3 1 ≤ x ∧ x ≤ n3 12) ∧ (n3 1 ≤ y ∧ y ≤ n3 20) ∧ (n3 0 ≤ z ∧ z ≤ n3 99)
theorem C_comes_f1 {N : Nat} (hN : 1099511627776 ≤ N) {Λ : Lay} {ad : Nat → Nat} {μ : Mem} {F : Nat → Nat} {m : Nat} {A : Nat → Nat → Nat} {b : Nat} {J : Nat → Nat} {T : Nat → Int32} {n : Nat} {f : Int32} (hY : Ly Λ ad) (h : RC ad μ F m A b J T n f) (ho : Ok F m A b J T n)  (x y z : Int32) (hx : ¬ shOkb x y z) : CT ad μ (m_X11_comes N Λ μ (ad 0) x y z) 1 0 F m A b J T n f := by
  have hj := hY.1
  have hP := hY.2.2.1
  have hS := hY.2.2.2.1 3 (Or.inl rfl)
  have hL := hY.2.2.2.2.1 30 (Or.inl rfl)
  have hC := h.1
  have hw := ho.1
  have hl := ho.2.1
  have hb := hw.1; unfold WB at hb
  refine CT.same h ?_
  by_cases h1 : x < n3 1
  · simp (disch := omega) only [m_X11_comes, jn_X11_comes_32, h1, ↓lt_e, ↓gd_e, ↓Option.bind_some, ↓reduceIte, if_true, if_false, if_pT, if_nF, decide_true, Bool.not_true, Bool.not_false, not_true_eq_false, not_false_eq_true, Bool.false_eq_true, Bool.true_eq_false, eq_self, n3_lit]
  · by_cases h2 : n3 12 < x
    · simp (disch := omega) only [m_X11_comes, jn_X11_comes_32, h1, h2, ↓lt_e, ↓gd_e, ↓Option.bind_some, ↓reduceIte, if_true, if_false, if_pT, if_nF, decide_true, Bool.not_true, Bool.not_false, not_true_eq_false, not_false_eq_true, Bool.false_eq_true, Bool.true_eq_false, eq_self, n3_lit]
    · by_cases h3 : y < n3 1
      · simp (disch := omega) only [m_X11_comes, jn_X11_comes_32, h1, h2, h3, ↓lt_e, ↓gd_e, ↓Option.bind_some, ↓reduceIte, if_true, if_false, if_pT, if_nF, decide_true, Bool.not_true, Bool.not_false, not_true_eq_false, not_false_eq_true, Bool.false_eq_true, Bool.true_eq_false, eq_self, n3_lit]
      · by_cases h4 : n3 20 < y
        · simp (disch := omega) only [m_X11_comes, jn_X11_comes_32, h1, h2, h3, h4, ↓lt_e, ↓gd_e, ↓Option.bind_some, ↓reduceIte, if_true, if_false, if_pT, if_nF, decide_true, Bool.not_true, Bool.not_false, not_true_eq_false, not_false_eq_true, Bool.false_eq_true, Bool.true_eq_false, eq_self, n3_lit]
        · by_cases h5 : z < n3 0
          · simp (disch := omega) only [m_X11_comes, jn_X11_comes_32, h1, h2, h3, h4, h5, ↓lt_e, ↓gd_e, ↓Option.bind_some, ↓reduceIte, if_true, if_false, if_pT, if_nF, decide_true, Bool.not_true, Bool.not_false, not_true_eq_false, not_false_eq_true, Bool.false_eq_true, Bool.true_eq_false, eq_self, n3_lit]
          · have h6 : ¬ z ≤ n3 99 := fun h6 => hx ⟨⟨Int32.not_lt.1 h1, Int32.not_lt.1 h2⟩, ⟨Int32.not_lt.1 h3, Int32.not_lt.1 h4⟩, Int32.not_lt.1 h5, h6⟩
            simp (disch := omega) only [m_X11_comes, jn_X11_comes_32, h1, h2, h3, h4, h5, h6, ↓lt_e, ↓gd_e, ↓Option.bind_some, ↓reduceIte, if_true, if_false, if_pT, if_nF, decide_true, Bool.not_true, Bool.not_false, not_true_eq_false, not_false_eq_true, Bool.false_eq_true, Bool.true_eq_false, eq_self, n3_lit]
theorem C_comes_f2 {N : Nat} (hN : 1099511627776 ≤ N) {Λ : Lay} {ad : Nat → Nat} {μ : Mem} {F : Nat → Nat} {m : Nat} {A : Nat → Nat → Nat} {b : Nat} {J : Nat → Nat} {T : Nat → Int32} {n : Nat} {f : Int32} (hY : Ly Λ ad) (h : RC ad μ F m A b J T n f) (ho : Ok F m A b J T n)  (l d w : Nat) (hl' : 1 ≤ l ∧ l ≤ 12) (hd : 1 ≤ d ∧ d ≤ 20) (hw' : w ≤ 99) (h8 : F 0 = 8) : CT ad μ (m_X11_comes N Λ μ (ad 0) (n3 l) (n3 d) (n3 w)) 5 0 F m A b J T n f := by
  have hj := hY.1
  have hP := hY.2.2.1
  have hS := hY.2.2.2.1 3 (Or.inl rfl)
  have hL := hY.2.2.2.2.1 30 (Or.inl rfl)
  have hC := h.1
  have hw := ho.1
  have hl := ho.2.1
  have hb := hw.1; unfold WB at hb
  refine CT.same h ?_
  have q8 : μ.1 (ad 3) 8 = n3 (F 0) := hC.2.2.2.2.2.2.2.2.1
  simp (disch := omega) only [m_X11_comes, jn_X11_comes_32, ↓ob (hP.1), ↓ob (hP.2.1), ↓ob (hP.2.2.1), ↓ob (hP.2.2.2.1), ↓ob (hP.2.2.2.2.1), ↓ob (hP.2.2.2.2.2.1), ↓ob (hP.2.2.2.2.2.2.1), ↓ob (hP.2.2.2.2.2.2.2.1), ↓ob (hP.2.2.2.2.2.2.2.2.1), ↓ob (hP.2.2.2.2.2.2.2.2.2.1), ↓ob (hP.2.2.2.2.2.2.2.2.2.2.1), ↓ob (hP.2.2.2.2.2.2.2.2.2.2.2.1), ↓ob (hP.2.2.2.2.2.2.2.2.2.2.2.2.1), ↓ob (hP.2.2.2.2.2.2.2.2.2.2.2.2.2.1), hP.2.2.2.2.2.2.2.2.2.2.2.2.2.2, q8, ↓lt_e, ↓gd_e, ↓Option.bind_some, ↓reduceIte, if_true, if_false, if_pT, if_nF, decide_true, Bool.not_true, Bool.not_false, not_true_eq_false, not_false_eq_true, Bool.false_eq_true, Bool.true_eq_false, eq_self, n3_lit, n3_add, n3_mul, n3_sub, n3_tn, n3_le_t, n3_le_f, n3_lt_t, n3_lt_f, n3_eq_f, n3_eq_t, n3_inb, n3_rem, n3_div, n3_zb, bb_0, bb_1, zb_bb, bb_T, bb_F, n3_dec, n3_m1, n3_eqm, n3_eqmt, n3_ltm, n3_mlt, n3_lem, n3_mle, n3_neg_lt, n3_nlt_neg, n3_nle_neg, n3_neg_le]
theorem C_comes_t {N : Nat} (hN : 1099511627776 ≤ N) {Λ : Lay} {ad : Nat → Nat} {μ : Mem} {F : Nat → Nat} {m : Nat} {A : Nat → Nat → Nat} {b : Nat} {J : Nat → Nat} {T : Nat → Int32} {n : Nat} {f : Int32} (hY : Ly Λ ad) (h : RC ad μ F m A b J T n f) (ho : Ok F m A b J T n)  (l d w : Nat) (hl' : 1 ≤ l ∧ l ≤ 12) (hd : 1 ≤ d ∧ d ≤ 20) (hw' : w ≤ 99) (h8 : F 0 < 8) : CT ad μ (m_X11_comes N Λ μ (ad 0) (n3 l) (n3 d) (n3 w)) 0 (n3 (F 0)) (addF F l d w 0 4294967295) (min (m + 1) 12) (rmA F A) b J T n f := by
  have hj := hY.1
  have hP := hY.2.2.1
  have hS := hY.2.2.2.1 3 (Or.inl rfl)
  have hL := hY.2.2.2.2.1 30 (Or.inl rfl)
  have hC := h.1
  have hw := ho.1
  have hl := ho.2.1
  have hb := hw.1; unfold WB at hb
  obtain ⟨μ1, e1, h1, f1⟩ := c_remember (N := N) hY h ho
  obtain ⟨μ2, e2, hC2, f2⟩ := c_addShip (N := N) hS h1.1 hj h8 hb.2.2.2.2.2.2.2.2.2.2.2.1 l d w 4294967295 (by omega)
  rw [if_pos rfl] at hC2
  have q8 : μ.1 (ad 3) 8 = n3 (F 0) := hC.2.2.2.2.2.2.2.2.1
  refine ⟨μ2, ?_, h1.to hC2 (add_Lw h8) (Fr.mono f2 (fun i hi => Or.inl hi)), f1.trans (Fr.mono f2 (fun i hi => by omega))⟩
  simp (disch := omega) only [m_X11_comes, jn_X11_comes_32, ↓ob (hP.1), ↓ob (hP.2.1), ↓ob (hP.2.2.1), ↓ob (hP.2.2.2.1), ↓ob (hP.2.2.2.2.1), ↓ob (hP.2.2.2.2.2.1), ↓ob (hP.2.2.2.2.2.2.1), ↓ob (hP.2.2.2.2.2.2.2.1), ↓ob (hP.2.2.2.2.2.2.2.2.1), ↓ob (hP.2.2.2.2.2.2.2.2.2.1), ↓ob (hP.2.2.2.2.2.2.2.2.2.2.1), ↓ob (hP.2.2.2.2.2.2.2.2.2.2.2.1), ↓ob (hP.2.2.2.2.2.2.2.2.2.2.2.2.1), ↓ob (hP.2.2.2.2.2.2.2.2.2.2.2.2.2.1), hP.2.2.2.2.2.2.2.2.2.2.2.2.2.2, q8, e1, n3_neg1, e2, ↓lt_e, ↓gd_e, ↓Option.bind_some, ↓reduceIte, if_true, if_false, if_pT, if_nF, decide_true, Bool.not_true, Bool.not_false, not_true_eq_false, not_false_eq_true, Bool.false_eq_true, Bool.true_eq_false, eq_self, n3_lit, n3_add, n3_mul, n3_sub, n3_tn, n3_le_t, n3_le_f, n3_lt_t, n3_lt_f, n3_eq_f, n3_eq_t, n3_inb, n3_rem, n3_div, n3_zb, bb_0, bb_1, zb_bb, bb_T, bb_F, n3_dec, n3_m1, n3_eqm, n3_eqmt, n3_ltm, n3_mlt, n3_lem, n3_mle, n3_neg_lt, n3_nlt_neg, n3_nle_neg, n3_neg_le]
theorem R_comes_f1 {N : Nat} (hN : 1099511627776 ≤ N) {Λ : Lay} {ad : Nat → Nat} {μ : Mem} {F : Nat → Nat} {m : Nat} {A : Nat → Nat → Nat} {b : Nat} {J : Nat → Nat} {T : Nat → Int32} {n : Nat} {f : Int32} (hY : Ly Λ ad) (h : RR ad μ F m A b J T n f) (ho : Ok F m A b J T n)  (x y z : Int32) (hx : ¬ shOkb x y z) : RV ad μ (m_X12_comes N Λ μ (ad 181) x y z) 1 0 F m A b J T n f := by
  have hj := hY.1
  have hR := hY.2.1
  have hW := h.1
  have hw := ho.1
  have hl := ho.2.1
  have hb := hw.1; unfold WB at hb
  unfold m_X12_comes
  refine RV.start hY.1 h (fun μ0 h0 t0 => RV.thrown hY.1 h0 ?_)
  by_cases h1 : n3 1 ≤ x ∧ x ≤ n3 12
  · by_cases h2 : n3 1 ≤ y ∧ y ≤ n3 20
    · have h3 : ¬ (n3 0 ≤ z ∧ z ≤ n3 99) := fun h3 => hx ⟨h1, h2, h3⟩
      simp (disch := omega) only [jn_X12_comes_70, jn_X12_comes_41, jn_X12_comes_36, r_in, h1, h2, h3, and_self, r_thr1, ↓lt_e, ↓gd_e, ↓Option.bind_some, ↓reduceIte, if_true, if_false, if_pT, if_nF, decide_true, Bool.not_true, Bool.not_false, not_true_eq_false, not_false_eq_true, Bool.false_eq_true, Bool.true_eq_false, eq_self, n3_lit, n3_add, n3_mul, n3_sub, n3_tn, n3_le_t, n3_le_f, n3_lt_t, n3_lt_f, n3_eq_f, n3_eq_t, n3_inb, n3_rem, n3_div, n3_zb, bb_0, bb_1, zb_bb, bb_T, bb_F, n3_dec, n3_m1, n3_eqm, n3_eqmt, n3_ltm, n3_mlt, n3_lem, n3_mle, n3_neg_lt, n3_nlt_neg, n3_nle_neg, n3_neg_le]
    · simp (disch := omega) only [jn_X12_comes_70, jn_X12_comes_41, jn_X12_comes_36, r_in, h1, h2, and_self, r_thr1, ↓lt_e, ↓gd_e, ↓Option.bind_some, ↓reduceIte, if_true, if_false, if_pT, if_nF, decide_true, Bool.not_true, Bool.not_false, not_true_eq_false, not_false_eq_true, Bool.false_eq_true, Bool.true_eq_false, eq_self, n3_lit, n3_add, n3_mul, n3_sub, n3_tn, n3_le_t, n3_le_f, n3_lt_t, n3_lt_f, n3_eq_f, n3_eq_t, n3_inb, n3_rem, n3_div, n3_zb, bb_0, bb_1, zb_bb, bb_T, bb_F, n3_dec, n3_m1, n3_eqm, n3_eqmt, n3_ltm, n3_mlt, n3_lem, n3_mle, n3_neg_lt, n3_nlt_neg, n3_nle_neg, n3_neg_le]
  · simp (disch := omega) only [jn_X12_comes_70, jn_X12_comes_41, jn_X12_comes_36, r_in, h1, r_thr1, ↓lt_e, ↓gd_e, ↓Option.bind_some, ↓reduceIte, if_true, if_false, if_pT, if_nF, decide_true, Bool.not_true, Bool.not_false, not_true_eq_false, not_false_eq_true, Bool.false_eq_true, Bool.true_eq_false, eq_self, n3_lit, n3_add, n3_mul, n3_sub, n3_tn, n3_le_t, n3_le_f, n3_lt_t, n3_lt_f, n3_eq_f, n3_eq_t, n3_inb, n3_rem, n3_div, n3_zb, bb_0, bb_1, zb_bb, bb_T, bb_F, n3_dec, n3_m1, n3_eqm, n3_eqmt, n3_ltm, n3_mlt, n3_lem, n3_mle, n3_neg_lt, n3_nlt_neg, n3_nle_neg, n3_neg_le]
theorem in_t {a lo hi : Nat} (h1 : lo ≤ a) (h2 : a ≤ hi) (hh : hi < 2147483648) : (n3 lo ≤ n3 a ∧ n3 a ≤ n3 hi) = True := eq_true ⟨by rw [n3_le_c (by omega) (by omega)]; exact h1, by rw [n3_le_c (by omega) (by omega)]; exact h2⟩
theorem R_comes_f2 {N : Nat} (hN : 1099511627776 ≤ N) {Λ : Lay} {ad : Nat → Nat} {μ : Mem} {F : Nat → Nat} {m : Nat} {A : Nat → Nat → Nat} {b : Nat} {J : Nat → Nat} {T : Nat → Int32} {n : Nat} {f : Int32} (hY : Ly Λ ad) (h : RR ad μ F m A b J T n f) (ho : Ok F m A b J T n)  (l d w : Nat) (hl' : 1 ≤ l ∧ l ≤ 12) (hd : 1 ≤ d ∧ d ≤ 20) (hw' : w ≤ 99) (h8 : F 0 = 8) : RV ad μ (m_X12_comes N Λ μ (ad 181) (n3 l) (n3 d) (n3 w)) 2 0 F m A b J T n f := by
  have hj := hY.1
  have hR := hY.2.1
  have hW := h.1
  have hw := ho.1
  have hl := ho.2.1
  have hb := hw.1; unfold WB at hb
  unfold m_X12_comes
  refine RV.start hY.1 h (fun μ0 h0 t0 => RV.thrown hY.1 h0 ?_)
  have ns : m_X12_ships N Λ μ0 (ad 181) = some (n3 (F 0)) := r_ships hR h0.1
  simp (disch := omega) only [jn_X12_comes_70, jn_X12_comes_63, jn_X12_comes_41, r_in, in_t, and_self, ns, r_thr0, r_thr1, ↓lt_e, ↓gd_e, ↓Option.bind_some, ↓reduceIte, if_true, if_false, if_pT, if_nF, decide_true, Bool.not_true, Bool.not_false, not_true_eq_false, not_false_eq_true, Bool.false_eq_true, Bool.true_eq_false, eq_self, n3_lit, n3_add, n3_mul, n3_sub, n3_tn, n3_le_t, n3_le_f, n3_lt_t, n3_lt_f, n3_eq_f, n3_eq_t, n3_inb, n3_rem, n3_div, n3_zb, bb_0, bb_1, zb_bb, bb_T, bb_F, n3_dec, n3_m1, n3_eqm, n3_eqmt, n3_ltm, n3_mlt, n3_lem, n3_mle, n3_neg_lt, n3_nlt_neg, n3_nle_neg, n3_neg_le]
theorem R_comes_t {N : Nat} (hN : 1099511627776 ≤ N) {Λ : Lay} {ad : Nat → Nat} {μ : Mem} {F : Nat → Nat} {m : Nat} {A : Nat → Nat → Nat} {b : Nat} {J : Nat → Nat} {T : Nat → Int32} {n : Nat} {f : Int32} (hY : Ly Λ ad) (h : RR ad μ F m A b J T n f) (ho : Ok F m A b J T n)  (l d w : Nat) (hl' : 1 ≤ l ∧ l ≤ 12) (hd : 1 ≤ d ∧ d ≤ 20) (hw' : w ≤ 99) (h8 : F 0 < 8) : RV ad μ (m_X12_comes N Λ μ (ad 181) (n3 l) (n3 d) (n3 w)) 0 (n3 (F 0)) (addF F l d w 0 4294967295) (min (m + 1) 12) (rmA F A) b J T n f := by
  have hj := hY.1
  have hR := hY.2.1
  have hW := h.1
  have hw := ho.1
  have hl := ho.2.1
  have hb := hw.1; unfold WB at hb
  unfold m_X12_comes
  refine RV.start hY.1 h (fun μ0 h0 t0 => ?_)
  have ns : m_X12_ships N Λ μ0 (ad 181) = some (n3 (F 0)) := r_ships hR h0.1
  obtain ⟨μ1, e1, h1, t1, f1⟩ := r_rem hN hY h0 ho
  obtain ⟨μ2, e2, hW2, f2⟩ := r_isShip (N := N) hR h1.1 hj h8 l d w
  have ns2 : m_X12_ships N Λ μ2 (ad 181) = some (n3 (F 0 + 1)) := by rw [r_ships hR hW2, add_0]
  refine ⟨μ2, ?_, by rw [(f2 181 (by omega)).1]; exact t1.trans t0, h1.to hW2 (f2.mono (fun i hi => Or.inl hi)), f1.trans (f2.mono (fun i hi => by omega))⟩
  simp (disch := omega) only [jn_X12_comes_70, jn_X12_comes_63, jn_X12_comes_41, r_in, in_t, and_self, ns, ns2, r_thr0, e1, e2, ↓lt_e, ↓gd_e, ↓Option.bind_some, ↓reduceIte, if_true, if_false, if_pT, if_nF, decide_true, Bool.not_true, Bool.not_false, not_true_eq_false, not_false_eq_true, Bool.false_eq_true, Bool.true_eq_false, eq_self, n3_lit, n3_add, n3_mul, n3_sub, n3_tn, n3_le_t, n3_le_f, n3_lt_t, n3_lt_f, n3_eq_f, n3_eq_t, n3_inb, n3_rem, n3_div, n3_zb, bb_0, bb_1, zb_bb, bb_T, bb_F, n3_dec, n3_m1, n3_eqm, n3_eqmt, n3_ltm, n3_mlt, n3_lem, n3_mle, n3_neg_lt, n3_nlt_neg, n3_nle_neg, n3_neg_le, Nat.add_sub_cancel]
/-! seed, undo, image, back -/
theorem C_seed {N : Nat} (hN : 1099511627776 ≤ N) {Λ : Lay} {ad : Nat → Nat} {μ : Mem} {F : Nat → Nat} {m : Nat} {A : Nat → Nat → Nat} {b : Nat} {J : Nat → Nat} {T : Nat → Int32} {n : Nat} {f : Int32} (hY : Ly Λ ad) (h : RC ad μ F m A b J T n f) (ho : Ok F m A b J T n)  (x : Int32) : CV ad μ (m_X11_seed N Λ μ (ad 0) x) (n3 (F 12)) (up F 12 (u3 x)) m A b J T n f := by
  have hj := hY.1
  have hP := hY.2.2.1
  have hS := hY.2.2.2.1 3 (Or.inl rfl)
  have hL := hY.2.2.2.2.1 30 (Or.inl rfl)
  have hC := h.1
  have hw := ho.1
  have hl := ho.2.1
  have hb := hw.1; unfold WB at hb
  have q : μ.1 (ad 3) 6 = n3 (F 12) := hC.2.2.2.2.2.2.1
  obtain ⟨h2, _⟩ := h.wr hj hw 12 (u3 x) (by omega) ⟨by omega, by omega⟩ (by omega) (by omega) 3 6 rfl rfl
  rw [n3_u3] at h2
  refine ⟨_, ?_, h2, (Fr.refl μ).set hj (by omega)⟩
  simp (disch := omega) only [m_X11_seed, ↓ob (hP.1), ↓ob (hP.2.1), ↓ob (hP.2.2.1), ↓ob (hP.2.2.2.1), ↓ob (hP.2.2.2.2.1), ↓ob (hP.2.2.2.2.2.1), ↓ob (hP.2.2.2.2.2.2.1), ↓ob (hP.2.2.2.2.2.2.2.1), ↓ob (hP.2.2.2.2.2.2.2.2.1), ↓ob (hP.2.2.2.2.2.2.2.2.2.1), ↓ob (hP.2.2.2.2.2.2.2.2.2.2.1), ↓ob (hP.2.2.2.2.2.2.2.2.2.2.2.1), ↓ob (hP.2.2.2.2.2.2.2.2.2.2.2.2.1), ↓ob (hP.2.2.2.2.2.2.2.2.2.2.2.2.2.1), hP.2.2.2.2.2.2.2.2.2.2.2.2.2.2, q, ↓lt_e, ↓gd_e, ↓Option.bind_some, ↓reduceIte, if_true, if_false, if_pT, if_nF, decide_true, Bool.not_true, Bool.not_false, not_true_eq_false, not_false_eq_true, Bool.false_eq_true, Bool.true_eq_false, eq_self]
theorem R_seed {N : Nat} (hN : 1099511627776 ≤ N) {Λ : Lay} {ad : Nat → Nat} {μ : Mem} {F : Nat → Nat} {m : Nat} {A : Nat → Nat → Nat} {b : Nat} {J : Nat → Nat} {T : Nat → Int32} {n : Nat} {f : Int32} (hY : Ly Λ ad) (h : RR ad μ F m A b J T n f) (ho : Ok F m A b J T n)  (x : Int32) : RV ad μ (m_X12_seed N Λ μ (ad 181) x) 0 (n3 (F 12)) (up F 12 (u3 x)) m A b J T n f := by
  have hj := hY.1
  have hR := hY.2.1
  have hW := h.1
  have hw := ho.1
  have hl := ho.2.1
  have hb := hw.1; unfold WB at hb
  unfold m_X12_seed
  refine RV.start hY.1 h (fun μ0 h0 t0 => ?_)
  have hW0 := h0.1
  have h1 := h0.up hj 12 (u3 x)
  rw [n3_u3] at h1
  refine ⟨_, ?_, by rw [mso hj (by omega)]; exact t0, h1, (Fr.refl μ0).set hj (by omega)⟩
  simp (disch := omega) only [↓ob (hR.1), ↓ob (hR.2.1), ↓ob (hR.2.2.1), ↓ob (hR.2.2.2.1), ↓ob (hR.2.2.2.2.1), ↓ob (hR.2.2.2.2.2.1), ↓ob (hR.2.2.2.2.2.2.1), ↓ob (hR.2.2.2.2.2.2.2.1), ↓ob (hR.2.2.2.2.2.2.2.2.1), ↓ob (hR.2.2.2.2.2.2.2.2.2.1), ↓ob (hR.2.2.2.2.2.2.2.2.2.2.1), ↓ob (hR.2.2.2.2.2.2.2.2.2.2.2.1), ↓ob (hR.2.2.2.2.2.2.2.2.2.2.2.2.1), ↓ob (hR.2.2.2.2.2.2.2.2.2.2.2.2.2.1), ↓ob (hR.2.2.2.2.2.2.2.2.2.2.2.2.2.2.1), ↓ob (hR.2.2.2.2.2.2.2.2.2.2.2.2.2.2.2.1), ↓ob (hR.2.2.2.2.2.2.2.2.2.2.2.2.2.2.2.2.1), ↓ob (hR.2.2.2.2.2.2.2.2.2.2.2.2.2.2.2.2.2.1), hR.2.2.2.2.2.2.2.2.2.2.2.2.2.2.2.2.2.2.1, hR.2.2.2.2.2.2.2.2.2.2.2.2.2.2.2.2.2.2.2.1, hR.2.2.2.2.2.2.2.2.2.2.2.2.2.2.2.2.2.2.2.2.1, hR.2.2.2.2.2.2.2.2.2.2.2.2.2.2.2.2.2.2.2.2.2.1, hR.2.2.2.2.2.2.2.2.2.2.2.2.2.2.2.2.2.2.2.2.2.2.1, hR.2.2.2.2.2.2.2.2.2.2.2.2.2.2.2.2.2.2.2.2.2.2.2.1, hR.2.2.2.2.2.2.2.2.2.2.2.2.2.2.2.2.2.2.2.2.2.2.2.2.1, hR.2.2.2.2.2.2.2.2.2.2.2.2.2.2.2.2.2.2.2.2.2.2.2.2.2.1, hR.2.2.2.2.2.2.2.2.2.2.2.2.2.2.2.2.2.2.2.2.2.2.2.2.2.2.1, hR.2.2.2.2.2.2.2.2.2.2.2.2.2.2.2.2.2.2.2.2.2.2.2.2.2.2.2.1, hR.2.2.2.2.2.2.2.2.2.2.2.2.2.2.2.2.2.2.2.2.2.2.2.2.2.2.2.2.1, hR.2.2.2.2.2.2.2.2.2.2.2.2.2.2.2.2.2.2.2.2.2.2.2.2.2.2.2.2.2.1, hR.2.2.2.2.2.2.2.2.2.2.2.2.2.2.2.2.2.2.2.2.2.2.2.2.2.2.2.2.2.2.1, hR.2.2.2.2.2.2.2.2.2.2.2.2.2.2.2.2.2.2.2.2.2.2.2.2.2.2.2.2.2.2.2.1, hR.2.2.2.2.2.2.2.2.2.2.2.2.2.2.2.2.2.2.2.2.2.2.2.2.2.2.2.2.2.2.2.2.1, hR.2.2.2.2.2.2.2.2.2.2.2.2.2.2.2.2.2.2.2.2.2.2.2.2.2.2.2.2.2.2.2.2.2.1, hR.2.2.2.2.2.2.2.2.2.2.2.2.2.2.2.2.2.2.2.2.2.2.2.2.2.2.2.2.2.2.2.2.2.2.1, hR.2.2.2.2.2.2.2.2.2.2.2.2.2.2.2.2.2.2.2.2.2.2.2.2.2.2.2.2.2.2.2.2.2.2.2, hW0, ↓lt_e, ↓gd_e, ↓Option.bind_some, ↓reduceIte, if_true, if_false, if_pT, if_nF, decide_true, Bool.not_true, Bool.not_false, not_true_eq_false, not_false_eq_true, Bool.false_eq_true, Bool.true_eq_false, eq_self, n3_lit, n3_tn, n3_inb]
theorem C_undo0 {N : Nat} (hN : 1099511627776 ≤ N) {Λ : Lay} {ad : Nat → Nat} {μ : Mem} {F : Nat → Nat} {m : Nat} {A : Nat → Nat → Nat} {b : Nat} {J : Nat → Nat} {T : Nat → Int32} {n : Nat} {f : Int32} (hY : Ly Λ ad) (h : RC ad μ F m A b J T n f) (ho : Ok F m A b J T n)  (hm : m = 0) : CV ad μ (m_X11_undo N Λ μ (ad 0)) (n3 0) F m A b J T n f := by
  have hj := hY.1
  have hP := hY.2.2.1
  have hS := hY.2.2.2.1 3 (Or.inl rfl)
  have hL := hY.2.2.2.2.1 30 (Or.inl rfl)
  have hC := h.1
  have hw := ho.1
  have hl := ho.2.1
  have hb := hw.1; unfold WB at hb
  obtain ⟨nx, p1, p2, p3, p4⟩ := h.2.2.1
  refine ⟨μ, ?_, h, Fr.refl μ⟩
  rw [hm] at p2
  simp (disch := omega) only [m_X11_undo, m_X5_recall, ↓ob (hP.1), ↓ob (hP.2.1), ↓ob (hP.2.2.1), ↓ob (hP.2.2.2.1), ↓ob (hP.2.2.2.2.1), ↓ob (hP.2.2.2.2.2.1), ↓ob (hP.2.2.2.2.2.2.1), ↓ob (hP.2.2.2.2.2.2.2.1), ↓ob (hP.2.2.2.2.2.2.2.2.1), ↓ob (hP.2.2.2.2.2.2.2.2.2.1), ↓ob (hP.2.2.2.2.2.2.2.2.2.2.1), ↓ob (hP.2.2.2.2.2.2.2.2.2.2.2.1), ↓ob (hP.2.2.2.2.2.2.2.2.2.2.2.2.1), ↓ob (hP.2.2.2.2.2.2.2.2.2.2.2.2.2.1), hP.2.2.2.2.2.2.2.2.2.2.2.2.2.2, p2, ↓lt_e, ↓gd_e, ↓Option.bind_some, ↓reduceIte, if_true, if_false, if_pT, if_nF, decide_true, Bool.not_true, Bool.not_false, not_true_eq_false, not_false_eq_true, Bool.false_eq_true, Bool.true_eq_false, eq_self, n3_lit, n3_add, n3_mul, n3_sub, n3_tn, n3_le_t, n3_le_f, n3_lt_t, n3_lt_f, n3_eq_f, n3_eq_t, n3_inb, n3_rem, n3_div, n3_zb, bb_0, bb_1, zb_bb, bb_T, bb_F, n3_dec, n3_m1, n3_eqm, n3_eqmt, n3_ltm, n3_mlt, n3_lem, n3_mle, n3_neg_lt, n3_nlt_neg, n3_nle_neg, n3_neg_le]
theorem R_undo0 {N : Nat} (hN : 1099511627776 ≤ N) {Λ : Lay} {ad : Nat → Nat} {μ : Mem} {F : Nat → Nat} {m : Nat} {A : Nat → Nat → Nat} {b : Nat} {J : Nat → Nat} {T : Nat → Int32} {n : Nat} {f : Int32} (hY : Ly Λ ad) (h : RR ad μ F m A b J T n f) (ho : Ok F m A b J T n)  (hm : m = 0) : RV ad μ (m_X12_undo N Λ μ (ad 181)) 0 (n3 0) F m A b J T n f := by
  have hj := hY.1
  have hR := hY.2.1
  have hW := h.1
  have hw := ho.1
  have hl := ho.2.1
  have hb := hw.1; unfold WB at hb
  unfold m_X12_undo
  refine RV.start hY.1 h (fun μ0 h0 t0 => RV.same h0 t0 ?_)
  have p := h0.2.1.1
  rw [hm] at p
  simp (disch := omega) only [p, ↓lt_e, ↓gd_e, ↓Option.bind_some, ↓reduceIte, if_true, if_false, if_pT, if_nF, decide_true, Bool.not_true, Bool.not_false, not_true_eq_false, not_false_eq_true, Bool.false_eq_true, Bool.true_eq_false, eq_self, n3_lit, n3_add, n3_mul, n3_sub, n3_tn, n3_le_t, n3_le_f, n3_lt_t, n3_lt_f, n3_eq_f, n3_eq_t, n3_inb, n3_rem, n3_div, n3_zb, bb_0, bb_1, zb_bb, bb_T, bb_F, n3_dec, n3_m1, n3_eqm, n3_eqmt, n3_ltm, n3_mlt, n3_lem, n3_mle, n3_neg_lt, n3_nlt_neg, n3_nle_neg, n3_neg_le]
theorem C_undo1 {N : Nat} (hN : 1099511627776 ≤ N) {Λ : Lay} {ad : Nat → Nat} {μ : Mem} {F : Nat → Nat} {m : Nat} {A : Nat → Nat → Nat} {b : Nat} {J : Nat → Nat} {T : Nat → Int32} {n : Nat} {f : Int32} (hY : Ly Λ ad) (h : RC ad μ F (m + 1) A b J T n f) (ho : Ok F (m + 1) A b J T n) : CV ad μ (m_X11_undo N Λ μ (ad 0)) (n3 1) (mix (A 0) F) m (fun j => A (j + 1)) b J T n f := by
  have hj := hY.1
  have hP := hY.2.2.1
  have hS := hY.2.2.2.1 3 (Or.inl rfl)
  have hL := hY.2.2.2.2.1 30 (Or.inl rfl)
  have hC := h.1
  have hw := ho.1
  have hl := ho.2.1
  have hb := hw.1; unfold WB at hb
  obtain ⟨μ1, e1, h1, f1⟩ := c_recall (N := N) hY h ho
  refine ⟨μ1, ?_, h1, f1⟩
  simp (disch := omega) only [m_X11_undo, ↓ob (hP.1), ↓ob (hP.2.1), ↓ob (hP.2.2.1), ↓ob (hP.2.2.2.1), ↓ob (hP.2.2.2.2.1), ↓ob (hP.2.2.2.2.2.1), ↓ob (hP.2.2.2.2.2.2.1), ↓ob (hP.2.2.2.2.2.2.2.1), ↓ob (hP.2.2.2.2.2.2.2.2.1), ↓ob (hP.2.2.2.2.2.2.2.2.2.1), ↓ob (hP.2.2.2.2.2.2.2.2.2.2.1), ↓ob (hP.2.2.2.2.2.2.2.2.2.2.2.1), ↓ob (hP.2.2.2.2.2.2.2.2.2.2.2.2.1), ↓ob (hP.2.2.2.2.2.2.2.2.2.2.2.2.2.1), hP.2.2.2.2.2.2.2.2.2.2.2.2.2.2, e1, ↓lt_e, ↓gd_e, ↓Option.bind_some, ↓reduceIte, if_true, if_false, if_pT, if_nF, decide_true, Bool.not_true, Bool.not_false, not_true_eq_false, not_false_eq_true, Bool.false_eq_true, Bool.true_eq_false, eq_self, n3_lit, n3_add, n3_mul, n3_sub, n3_tn, n3_le_t, n3_le_f, n3_lt_t, n3_lt_f, n3_eq_f, n3_eq_t, n3_inb, n3_rem, n3_div, n3_zb, bb_0, bb_1, zb_bb, bb_T, bb_F, n3_dec, n3_m1, n3_eqm, n3_eqmt, n3_ltm, n3_mlt, n3_lem, n3_mle, n3_neg_lt, n3_nlt_neg, n3_nle_neg, n3_neg_le]
theorem R_undo1 {N : Nat} (hN : 1099511627776 ≤ N) {Λ : Lay} {ad : Nat → Nat} {μ : Mem} {F : Nat → Nat} {m : Nat} {A : Nat → Nat → Nat} {b : Nat} {J : Nat → Nat} {T : Nat → Int32} {n : Nat} {f : Int32} (hY : Ly Λ ad) (h : RR ad μ F (m + 1) A b J T n f) (ho : Ok F (m + 1) A b J T n) : RV ad μ (m_X12_undo N Λ μ (ad 181)) 0 (n3 1) (mix (A 0) F) m (fun j => A (j + 1)) b J T n f := by
  have hj := hY.1
  have hR := hY.2.1
  have hW := h.1
  have hw := ho.1
  have hl := ho.2.1
  have hb := hw.1; unfold WB at hb
  have hm := ho.2.2.1
  obtain ⟨μ1, e1, h1, h2, h3, h4, h5⟩ := r_undo1 hN hR hW hj (by omega) h.2.1
  refine ⟨μ1, e1, h3, ⟨h1, h2, ⟨by rw [h4 6 (by omega) (by omega)]; exact h.2.2.1.1, fun hb => Row.fr (h.2.2.1.2 hb) h5 (by omega)⟩, ⟨by rw [h4 9 (by omega) (by omega)]; exact h.2.2.2.1.1, by rw [(h5 187 (by omega)).1]; exact h.2.2.2.1.2⟩, by rw [h4 14 (by omega) (by omega)]; exact h.2.2.2.2⟩, h5.mono (fun i hi => by omega)⟩
theorem Ok.undo {F : Nat → Nat} {m : Nat} {A : Nat → Nat → Nat} {b : Nat} {J : Nat → Nat} {T : Nat → Int32} {n : Nat} (ho : Ok F (m + 1) A b J T n) : Ok (mix (A 0) F) m (fun j => A (j + 1)) b J T n := by
  obtain ⟨h1, h2, h3, h4, h5⟩ := ho
  have hA := h4 0 (by omega)
  refine ⟨hA.1.congr (fun k hk => if_pos hk), h2.of (mix_LwE hA.2), by omega, fun j hj => ?_, h5⟩
  have := h4 (j + 1) (by omega)
  exact ⟨this.1, this.2.trans hA.2.symm⟩
theorem C_image {N : Nat} (hN : 1099511627776 ≤ N) {Λ : Lay} {ad : Nat → Nat} {μ : Mem} {F : Nat → Nat} {m : Nat} {A : Nat → Nat → Nat} {b : Nat} {J : Nat → Nat} {T : Nat → Int32} {n : Nat} {f : Int32} (hY : Ly Λ ad) (h : RC ad μ F m A b J T n f) (ho : Ok F m A b J T n)  : ∃ μ', m_X11_image N Λ μ (ad 0) = some μ' ∧ RC ad μ' F m A 1 F T n f ∧ Fr ad (fun i => i < 181) μ μ' := by
  have hj := hY.1
  have hP := hY.2.2.1
  have hS := hY.2.2.2.1 3 (Or.inl rfl)
  have hL := hY.2.2.2.2.1 30 (Or.inl rfl)
  have hC := h.1
  have hw := ho.1
  have hl := ho.2.1
  have hb := hw.1; unfold WB at hb
  have hS21 := hY.2.2.2.1 21 (Or.inr (Or.inr (Or.inl rfl)))
  have hL42 := hY.2.2.2.2.1 42 (Or.inr (Or.inr rfl))
  obtain ⟨μ1, e1, hC1, f1⟩ := c_copy (N := N) hS hS21 hC hj hw (by omega)
  obtain ⟨μ2, e2, hL2, f2⟩ := c_lawcopy (N := N) hL hL42 (h.2.1.fr f1 (fun i a b => by omega)) hl hj (by omega)
  have f3 : Fr ad (fun i => i = 0) μ2 (mset μ2 (ad 0) 13 (n3 1)) := (Fr.refl μ2).set hj (by rfl)
  have f4 : Fr ad (fun i => i = 0 ∨ (21 ≤ i ∧ i ≤ 29) ∨ (42 ≤ i ∧ i ≤ 47)) μ (mset μ2 (ad 0) 13 (n3 1)) := (Fr.mono f1 (fun i hi => by omega)).trans ((f2.mono (fun i hi => by omega)).trans (f3.mono (fun i hi => by omega)))
  obtain ⟨h1, h2, ⟨nx, h3, h4, h5, h6⟩, ⟨h7, h8⟩, ⟨h9, h10⟩, h11⟩ := h
  refine ⟨_, ?_, ⟨h1.fr f4 (fun i a b => by omega), h2.fr f4 (fun i a b => by omega), ⟨nx, h3, by rw [(f4 56 (by omega)).1]; exact h4, by rw [(f4 56 (by omega)).1]; exact h5, fun j hj => (h6 j hj).fr f4 (fun i a b => by omega)⟩, ⟨mse _ _ _ _, fun _ => ⟨(hC1.fr f2 (fun i a b => by omega)).fr f3 (fun i a b => by omega), hL2.fr f3 (fun i a b => by omega)⟩⟩, ⟨by rw [(f4 1 (by omega)).1]; exact h9, by rw [(f4 2 (by omega)).1]; exact h10⟩, ?_⟩, f4.mono (fun i hi => by omega)⟩
  · simp (disch := omega) only [m_X11_image, ↓ob (hP.1), ↓ob (hP.2.1), ↓ob (hP.2.2.1), ↓ob (hP.2.2.2.1), ↓ob (hP.2.2.2.2.1), ↓ob (hP.2.2.2.2.2.1), ↓ob (hP.2.2.2.2.2.2.1), ↓ob (hP.2.2.2.2.2.2.2.1), ↓ob (hP.2.2.2.2.2.2.2.2.1), ↓ob (hP.2.2.2.2.2.2.2.2.2.1), ↓ob (hP.2.2.2.2.2.2.2.2.2.2.1), ↓ob (hP.2.2.2.2.2.2.2.2.2.2.2.1), ↓ob (hP.2.2.2.2.2.2.2.2.2.2.2.2.1), ↓ob (hP.2.2.2.2.2.2.2.2.2.2.2.2.2.1), hP.2.2.2.2.2.2.2.2.2.2.2.2.2.2, e1, e2, ↓lt_e, ↓gd_e, ↓Option.bind_some, ↓reduceIte, if_true, if_false, if_pT, if_nF, decide_true, Bool.not_true, Bool.not_false, not_true_eq_false, not_false_eq_true, Bool.false_eq_true, Bool.true_eq_false, eq_self, n3_lit, n3_add, n3_mul, n3_sub, n3_tn, n3_le_t, n3_le_f, n3_lt_t, n3_lt_f, n3_eq_f, n3_eq_t, n3_inb, n3_rem, n3_div, n3_zb, bb_0, bb_1, zb_bb, bb_T, bb_F, n3_dec, n3_m1, n3_eqm, n3_eqmt, n3_ltm, n3_mlt, n3_lem, n3_mle, n3_neg_lt, n3_nlt_neg, n3_nle_neg, n3_neg_le]
  · rw [msn (by omega), (f2 0 (by omega)).1, (f1 0 (by omega)).1]; exact h11
theorem R_image {N : Nat} (hN : 1099511627776 ≤ N) {Λ : Lay} {ad : Nat → Nat} {μ : Mem} {F : Nat → Nat} {m : Nat} {A : Nat → Nat → Nat} {b : Nat} {J : Nat → Nat} {T : Nat → Int32} {n : Nat} {f : Int32} (hY : Ly Λ ad) (h : RR ad μ F m A b J T n f) (ho : Ok F m A b J T n)  : ∃ μ', m_X12_image N Λ μ (ad 181) = some μ' ∧ RR ad μ' F m A 1 F T n f ∧ Fr ad (fun i => 181 ≤ i ∧ i < 200) μ μ' := by
  have hj := hY.1
  have hR := hY.2.1
  have hW := h.1
  have hw := ho.1
  have hl := ho.2.1
  have hb := hw.1; unfold WB at hb
  obtain ⟨μ1, e1, h1, h2, h3, h4, h5⟩ := r_image hN hR hW hj
  refine ⟨μ1, e1, ⟨hW.fr h5 (by omega), ⟨by rw [h4 7 (by omega) (by omega)]; exact h.2.1.1, by rw [(h5 186 (by omega)).1]; exact h.2.1.2⟩, ⟨h3, fun _ => h1⟩, ⟨by rw [h4 9 (by omega) (by omega)]; exact h.2.2.2.1.1, by rw [(h5 187 (by omega)).1]; exact h.2.2.2.1.2⟩, by rw [h4 14 (by omega) (by omega)]; exact h.2.2.2.2⟩, h5.mono (fun i hi => by omega)⟩
theorem Ok.image {F : Nat → Nat} {m : Nat} {A : Nat → Nat → Nat} {b : Nat} {J : Nat → Nat} {T : Nat → Int32} {n : Nat} (ho : Ok F m A b J T n) : Ok F m A 1 F T n := ⟨ho.1, ho.2.1, ho.2.2.1, ho.2.2.2.1, by omega, fun _ => ⟨ho.1, ho.2.1⟩, ho.2.2.2.2.2.2⟩
theorem C_back0 {N : Nat} (hN : 1099511627776 ≤ N) {Λ : Lay} {ad : Nat → Nat} {μ : Mem} {F : Nat → Nat} {m : Nat} {A : Nat → Nat → Nat} {b : Nat} {J : Nat → Nat} {T : Nat → Int32} {n : Nat} {f : Int32} (hY : Ly Λ ad) (h : RC ad μ F m A b J T n f) (ho : Ok F m A b J T n)  (hb0 : b = 0) : CV ad μ (m_X11_back N Λ μ (ad 0)) (n3 0) F m A b J T n f := by
  have p := h.2.2.2.1.1
  rw [hb0] at p
  refine ⟨μ, ?_, h, Fr.refl μ⟩
  simp (disch := omega) only [m_X11_back, p, ↓lt_e, ↓gd_e, ↓Option.bind_some, ↓reduceIte, if_true, if_false, if_pT, if_nF, decide_true, Bool.not_true, Bool.not_false, not_true_eq_false, not_false_eq_true, Bool.false_eq_true, Bool.true_eq_false, eq_self, n3_lit, n3_add, n3_mul, n3_sub, n3_tn, n3_le_t, n3_le_f, n3_lt_t, n3_lt_f, n3_eq_f, n3_eq_t, n3_inb, n3_rem, n3_div, n3_zb, bb_0, bb_1, zb_bb, bb_T, bb_F, n3_dec, n3_m1, n3_eqm, n3_eqmt, n3_ltm, n3_mlt, n3_lem, n3_mle, n3_neg_lt, n3_nlt_neg, n3_nle_neg, n3_neg_le]
theorem R_back0 {N : Nat} (hN : 1099511627776 ≤ N) {Λ : Lay} {ad : Nat → Nat} {μ : Mem} {F : Nat → Nat} {m : Nat} {A : Nat → Nat → Nat} {b : Nat} {J : Nat → Nat} {T : Nat → Int32} {n : Nat} {f : Int32} (hY : Ly Λ ad) (h : RR ad μ F m A b J T n f) (ho : Ok F m A b J T n)  (hb0 : b = 0) : RV ad μ (m_X12_back N Λ μ (ad 181)) 0 (n3 0) F m A b J T n f := by
  unfold m_X12_back
  refine RV.start hY.1 h (fun μ0 h0 t0 => RV.same h0 t0 ?_)
  have p := h0.2.2.1.1
  rw [hb0] at p
  simp (disch := omega) only [p, ↓lt_e, ↓gd_e, ↓Option.bind_some, ↓reduceIte, if_true, if_false, if_pT, if_nF, decide_true, Bool.not_true, Bool.not_false, not_true_eq_false, not_false_eq_true, Bool.false_eq_true, Bool.true_eq_false, eq_self, n3_lit, n3_add, n3_mul, n3_sub, n3_tn, n3_le_t, n3_le_f, n3_lt_t, n3_lt_f, n3_eq_f, n3_eq_t, n3_inb, n3_rem, n3_div, n3_zb, bb_0, bb_1, zb_bb, bb_T, bb_F, n3_dec, n3_m1, n3_eqm, n3_eqmt, n3_ltm, n3_mlt, n3_lem, n3_mle, n3_neg_lt, n3_nlt_neg, n3_nle_neg, n3_neg_le]
theorem C_back1 {N : Nat} (hN : 1099511627776 ≤ N) {Λ : Lay} {ad : Nat → Nat} {μ : Mem} {F : Nat → Nat} {m : Nat} {A : Nat → Nat → Nat} {b : Nat} {J : Nat → Nat} {T : Nat → Int32} {n : Nat} {f : Int32} (hY : Ly Λ ad) (h : RC ad μ F m A b J T n f) (ho : Ok F m A b J T n)  (hb1 : b = 1) : CV ad μ (m_X11_back N Λ μ (ad 0)) (n3 1) J 0 A b J T n f := by
  have hj := hY.1
  have hP := hY.2.2.1
  have hS := hY.2.2.2.1 3 (Or.inl rfl)
  have hL := hY.2.2.2.2.1 30 (Or.inl rfl)
  have hC := h.1
  have hw := ho.1
  have hl := ho.2.1
  have hb := hw.1; unfold WB at hb
  have hS21 := hY.2.2.2.1 21 (Or.inr (Or.inr (Or.inl rfl)))
  have hL42 := hY.2.2.2.2.1 42 (Or.inr (Or.inr rfl))
  have hJ := ho.2.2.2.2.2.1 hb1
  obtain ⟨h1, h2, ⟨nx, h3, h4, h5, h6⟩, ⟨h7, h8⟩, ⟨h9, h10⟩, h11⟩ := h
  obtain ⟨μ1, e1, hC1, f1⟩ := c_copy (N := N) hS21 hS (h8 hb1).1 hj hJ.1 (by omega)
  obtain ⟨μ2, e2, hL2, f2⟩ := c_lawcopy (N := N) hL42 hL ((h8 hb1).2.fr f1 (fun i a b => by omega)) hJ.2 hj (by omega)
  have f3 : Fr ad (fun i => i = 56) μ2 (mset μ2 (ad 56) 0 (n3 0)) := (Fr.refl μ2).set hj (by rfl)
  have f4 : Fr ad (fun i => i = 56 ∨ (3 ≤ i ∧ i ≤ 11) ∨ (30 ≤ i ∧ i ≤ 35)) μ (mset μ2 (ad 56) 0 (n3 0)) := (Fr.mono f1 (fun i hi => by omega)).trans ((f2.mono (fun i hi => by omega)).trans (f3.mono (fun i hi => by omega)))
  refine ⟨_, ?_, ⟨(hC1.fr f2 (fun i a b => by omega)).fr f3 (fun i a b => by omega), hL2.fr f3 (fun i a b => by omega), ⟨nx, h3, mse _ _ _ _, ?_, fun j hj => by omega⟩, ⟨by rw [(f4 0 (by omega)).1]; exact h7, fun hb => ⟨(h8 hb).1.fr f4 (fun i a b => by omega), (h8 hb).2.fr f4 (fun i a b => by omega)⟩⟩, ⟨by rw [(f4 1 (by omega)).1]; exact h9, by rw [(f4 2 (by omega)).1]; exact h10⟩, by rw [(f4 0 (by omega)).1]; exact h11⟩, f4.mono (fun i hi => by omega)⟩
  · rw [hb1] at h7
    simp (disch := omega) only [m_X11_back, m_X5_forget, ↓ob (hP.1), ↓ob (hP.2.1), ↓ob (hP.2.2.1), ↓ob (hP.2.2.2.1), ↓ob (hP.2.2.2.2.1), ↓ob (hP.2.2.2.2.2.1), ↓ob (hP.2.2.2.2.2.2.1), ↓ob (hP.2.2.2.2.2.2.2.1), ↓ob (hP.2.2.2.2.2.2.2.2.1), ↓ob (hP.2.2.2.2.2.2.2.2.2.1), ↓ob (hP.2.2.2.2.2.2.2.2.2.2.1), ↓ob (hP.2.2.2.2.2.2.2.2.2.2.2.1), ↓ob (hP.2.2.2.2.2.2.2.2.2.2.2.2.1), ↓ob (hP.2.2.2.2.2.2.2.2.2.2.2.2.2.1), hP.2.2.2.2.2.2.2.2.2.2.2.2.2.2, h7, e1, e2, ↓lt_e, ↓gd_e, ↓Option.bind_some, ↓reduceIte, if_true, if_false, if_pT, if_nF, decide_true, Bool.not_true, Bool.not_false, not_true_eq_false, not_false_eq_true, Bool.false_eq_true, Bool.true_eq_false, eq_self, n3_lit, n3_add, n3_mul, n3_sub, n3_tn, n3_le_t, n3_le_f, n3_lt_t, n3_lt_f, n3_eq_f, n3_eq_t, n3_inb, n3_rem, n3_div, n3_zb, bb_0, bb_1, zb_bb, bb_T, bb_F, n3_dec, n3_m1, n3_eqm, n3_eqmt, n3_ltm, n3_mlt, n3_lem, n3_mle, n3_neg_lt, n3_nlt_neg, n3_nle_neg, n3_neg_le]
  · rw [msn (by omega), (f2 56 (by omega)).1, (f1 56 (by omega)).1]; exact h5
theorem R_back1 {N : Nat} (hN : 1099511627776 ≤ N) {Λ : Lay} {ad : Nat → Nat} {μ : Mem} {F : Nat → Nat} {m : Nat} {A : Nat → Nat → Nat} {b : Nat} {J : Nat → Nat} {T : Nat → Int32} {n : Nat} {f : Int32} (hY : Ly Λ ad) (h : RR ad μ F m A b J T n f) (ho : Ok F m A b J T n)  (hb1 : b = 1) : RV ad μ (m_X12_back N Λ μ (ad 181)) 0 (n3 1) J 0 A b J T n f := by
  have hj := hY.1
  have hR := hY.2.1
  have hW := h.1
  have hw := ho.1
  have hl := ho.2.1
  have hb := hw.1; unfold WB at hb
  obtain ⟨μ1, e1, h1, h2, h3, h4, h5⟩ := r_back1 hN hR hW hj (h.2.2.1.2 hb1) (by rw [h.2.2.1.1, hb1])
  refine ⟨μ1, e1, h2, ⟨h1, ⟨h3, fun j hj => by omega⟩, ⟨by rw [h4 6 (by omega) (by omega)]; exact h.2.2.1.1, fun hb => Row.fr (h.2.2.1.2 hb) h5 (by omega)⟩, ⟨by rw [h4 9 (by omega) (by omega)]; exact h.2.2.2.1.1, by rw [(h5 187 (by omega)).1]; exact h.2.2.2.1.2⟩, by rw [h4 14 (by omega) (by omega)]; exact h.2.2.2.2⟩, h5.mono (fun i hi => by omega)⟩
theorem Ok.back {F : Nat → Nat} {m : Nat} {A : Nat → Nat → Nat} {b : Nat} {J : Nat → Nat} {T : Nat → Int32} {n : Nat} (ho : Ok F m A b J T n) (hb : b = 1) : Ok J 0 A b J T n := ⟨(ho.2.2.2.2.2.1 hb).1, (ho.2.2.2.2.2.1 hb).2, by omega, fun j hj => by omega, ho.2.2.2.2⟩
theorem C_fault {N : Nat} (hN : 1099511627776 ≤ N) {Λ : Lay} {ad : Nat → Nat} {μ : Mem} {F : Nat → Nat} {m : Nat} {A : Nat → Nat → Nat} {b : Nat} {J : Nat → Nat} {T : Nat → Int32} {n : Nat} {f : Int32} (hY : Ly Λ ad) (h : RC ad μ F m A b J T n f) (ho : Ok F m A b J T n)  : m_X11_fault N Λ μ (ad 0) = some f := by rw [← h.2.2.2.2.2]; rfl
theorem R_fault {N : Nat} (hN : 1099511627776 ≤ N) {Λ : Lay} {ad : Nat → Nat} {μ : Mem} {F : Nat → Nat} {m : Nat} {A : Nat → Nat → Nat} {b : Nat} {J : Nat → Nat} {T : Nat → Int32} {n : Nat} {f : Int32} (hY : Ly Λ ad) (h : RR ad μ F m A b J T n f) (ho : Ok F m A b J T n)  : RV ad μ (m_X12_fault N Λ μ (ad 181)) 0 f F m A b J T n f := by
  unfold m_X12_fault
  exact RV.start hY.1 h (fun μ0 h0 t0 => RV.same h0 t0 (by rw [h0.2.2.2.2]))
/-! the tape -/
def by8 (x y : Int32) : Int32 := ((ishr x y).toInt8.toInt32).toInt8.toInt32
theorem by8_Byt (x y : Int32) : Byt (by8 x y) := by
  unfold by8 Byt
  rw [Int8.toInt_toInt32]
  exact ⟨Int8.le_toInt _, by have := Int8.toInt_lt ((ishr x y).toInt8.toInt32).toInt8; omega⟩
def g5 (x0 x1 x2 x3 x4 : Int32) (j : Nat) : Int32 := match j with
  | 0 => x0
  | 1 => x1
  | 2 => x2
  | 3 => x3
  | _ => x4
def fdT (T : Nat → Int32) (n : Nat) (g : Nat → Int32) : Nat → Int32 := fun k => if k < n then T k else by8 (g ((k - n) / 4)) (n3 (24 - 8 * ((k - n) % 4)))
def sh4 (i : Nat) : Int32 := if i < 4 then n3 (24 - 8 * i) else -n3 8
theorem sh4_s {i : Nat} (h : i < 4) : sh4 i + -n3 8 = sh4 (i + 1) := by
  match i, h with
  | 0, _ => decide
  | 1, _ => decide
  | 2, _ => decide
  | 3, _ => decide
theorem c_addFour {N : Nat} (hN : 1099511627776 ≤ N) {Λ : Lay} {ad : Nat → Nat} {μ : Mem} (hj : Inj ad) (hP : LyP Λ ad) {s : Nat} (hs : s + 4 ≤ 400) (h1 : μ.1 (ad 1) 1 = n3 s) (x : Int32) : ∃ μ', m_X10_addFour N Λ μ (ad 1) x = some μ' ∧ μ'.1 (ad 1) 1 = n3 (s + 4) ∧ (∀ k, k < s → μ'.1 (ad 2) k = μ.1 (ad 2) k) ∧ (∀ j, j < 4 → μ'.1 (ad 2) (s + j) = by8 x (n3 (24 - 8 * j))) ∧ Fr ad (fun i => i = 1 ∨ i = 2) μ μ' := by
  unfold m_X10_addFour lp_X10_addFour_3
  refine cw_iv (P := fun i y => ∃ μ1 : Mem, y = (sh4 i, μ1) ∧ μ1.1 (ad 1) 1 = n3 (s + i) ∧ (∀ k, k < s → μ1.1 (ad 2) k = μ.1 (ad 2) k) ∧ (∀ j, j < i → μ1.1 (ad 2) (s + j) = by8 x (n3 (24 - 8 * j))) ∧ Fr ad (fun i => i = 1 ∨ i = 2) μ μ1) (Q := fun X => ∃ μ', X = some μ' ∧ μ'.1 (ad 1) 1 = n3 (s + 4) ∧ (∀ k, k < s → μ'.1 (ad 2) k = μ.1 (ad 2) k) ∧ (∀ j, j < 4 → μ'.1 (ad 2) (s + j) = by8 x (n3 (24 - 8 * j))) ∧ Fr ad (fun i => i = 1 ∨ i = 2) μ μ') 4 ⟨μ, rfl, h1, fun k _ => rfl, fun j hj => absurd hj (Nat.not_lt_zero j), Fr.refl μ⟩ (fun i hi y hy => ?_) (fun y hy => ?_) (show 4 < N by omega)
  · obtain ⟨μ1, rfl, g1, g2, g3, gf⟩ := hy
    left
    have e4 : sh4 i = n3 (24 - 8 * i) := if_pos hi
    have es := sh4_s hi
    rw [e4] at es ⊢
    refine ⟨_, ⟨mset (mset μ1 (ad 2) (s + i) (by8 x (n3 (24 - 8 * i)))) (ad 1) 1 (n3 (s + i + 1)), rfl, mse _ _ _ _, fun k hk => ?_, fun j hji => ?_, (gf.set hj (Or.inr rfl)).set hj (Or.inl rfl)⟩, fun k => ?_⟩
    · rw [mso hj (by omega), msn (by omega)]; exact g2 k hk
    · rw [mso hj (by omega)]
      by_cases e : j = i
      · subst e; rw [mse]
      · rw [msn (by omega)]; exact g3 j (by omega)
    · simp (disch := omega) only [jn_X10_addFour_40, bd_X10_addFour_3, ↓ob (hP.1), ↓ob (hP.2.1), ↓ob (hP.2.2.1), ↓ob (hP.2.2.2.1), ↓ob (hP.2.2.2.2.1), ↓ob (hP.2.2.2.2.2.1), ↓ob (hP.2.2.2.2.2.2.1), ↓ob (hP.2.2.2.2.2.2.2.1), ↓ob (hP.2.2.2.2.2.2.2.2.1), ↓ob (hP.2.2.2.2.2.2.2.2.2.1), ↓ob (hP.2.2.2.2.2.2.2.2.2.2.1), ↓ob (hP.2.2.2.2.2.2.2.2.2.2.2.1), ↓ob (hP.2.2.2.2.2.2.2.2.2.2.2.2.1), ↓ob (hP.2.2.2.2.2.2.2.2.2.2.2.2.2.1), hP.2.2.2.2.2.2.2.2.2.2.2.2.2.2, g1, ↓lt_e, ↓gd_e, ↓Option.bind_some, ↓reduceIte, if_true, if_false, if_pT, if_nF, decide_true, Bool.not_true, Bool.not_false, not_true_eq_false, not_false_eq_true, Bool.false_eq_true, Bool.true_eq_false, eq_self, n3_lit, n3_lt_f, n3_le_f, n3_inb, n3_tn, mso hj, n3_add, es]; rfl
  · obtain ⟨μ1, rfl, g1, g2, g3, gf⟩ := hy
    have e4 : sh4 4 = -n3 8 := rfl
    exact ⟨_, ⟨μ1, rfl, g1, g2, g3, gf⟩, fun k => by simp (disch := omega) only [jn_X10_addFour_40, bd_X10_addFour_3, e4, ↓lt_e, ↓gd_e, ↓Option.bind_some, ↓reduceIte, if_true, if_false, if_pT, if_nF, decide_true, Bool.not_true, Bool.not_false, not_true_eq_false, not_false_eq_true, Bool.false_eq_true, Bool.true_eq_false, eq_self, n3_lit, n3_add, n3_mul, n3_sub, n3_tn, n3_le_t, n3_le_f, n3_lt_t, n3_lt_f, n3_eq_f, n3_eq_t, n3_inb, n3_rem, n3_div, n3_zb, bb_0, bb_1, zb_bb, bb_T, bb_F, n3_dec, n3_m1, n3_eqm, n3_eqmt, n3_ltm, n3_mlt, n3_lem, n3_mle, n3_neg_lt, n3_nlt_neg, n3_nle_neg, n3_neg_le, ng_eq_t, ng_eq_f, ng_le_t, ng_le_f, ng_lt_t, ng_lt_f, ng_pn_eq, ng_np_eq, ng_pn_le, ng_np_le, ng_pn_lt, ng_np_lt]⟩
theorem RC.tape {ad : Nat → Nat} {μ μ' : Mem} {F : Nat → Nat} {m : Nat} {A : Nat → Nat → Nat} {b : Nat} {J : Nat → Nat} {T : Nat → Int32} {n : Nat} {f : Int32} (h : RC ad μ F m A b J T n f) {n' : Nat} {T' : Nat → Int32} (h1 : μ'.1 (ad 1) 1 = n3 n') (h2 : ∀ k, k < n' → μ'.1 (ad 2) k = T' k) (hf : Fr ad (fun i => i = 1 ∨ i = 2 ∨ ScC i) μ μ') : RC ad μ' F m A b J T' n' f := by
  obtain ⟨a1, a2, ⟨nx, h3, h4, h5, h6⟩, ⟨h7, h8⟩, ⟨h9, h10⟩, h11⟩ := h
  exact ⟨a1.fr hf (fun i a b => by unfold ScC; omega), a2.fr hf (fun i a b => by unfold ScC; omega), ⟨nx, h3, by rw [(hf 56 (by unfold ScC; omega)).1]; exact h4, by rw [(hf 56 (by unfold ScC; omega)).1]; exact h5, fun j hj => (h6 j hj).fr hf (fun i a b => by unfold ScC; omega)⟩, ⟨by rw [(hf 0 (by unfold ScC; omega)).1]; exact h7, fun hb => ⟨(h8 hb).1.fr hf (fun i a b => by unfold ScC; omega), (h8 hb).2.fr hf (fun i a b => by unfold ScC; omega)⟩⟩, ⟨h1, h2⟩, by rw [(hf 0 (by unfold ScC; omega)).1]; exact h11⟩
theorem C_feed1 {N : Nat} (hN : 1099511627776 ≤ N) {Λ : Lay} {ad : Nat → Nat} {μ : Mem} {F : Nat → Nat} {m : Nat} {A : Nat → Nat → Nat} {b : Nat} {J : Nat → Nat} {T : Nat → Int32} {n : Nat} {f : Int32} (hY : Ly Λ ad) (h : RC ad μ F m A b J T n f) (ho : Ok F m A b J T n)  (x0 x1 x2 x3 x4 : Int32) (h20 : n + 20 ≤ 400) : CV ad μ (m_X11_feed N Λ μ (ad 0) x0 x1 x2 x3 x4) (n3 (n + 20)) F m A b J (fdT T n (g5 x0 x1 x2 x3 x4)) (n + 20) f := by
  have hj := hY.1
  have hP := hY.2.2.1
  have hS := hY.2.2.2.1 3 (Or.inl rfl)
  have hL := hY.2.2.2.2.1 30 (Or.inl rfl)
  have hC := h.1
  have hw := ho.1
  have hl := ho.2.1
  have hb := hw.1; unfold WB at hb
  have hn := h.2.2.2.2.1
  obtain ⟨μ1, e1, p1, q1, r1, f1⟩ := c_addFour hN hj hP (by omega) hn.1 x0
  obtain ⟨μ2, e2, p2, q2, r2, f2⟩ := c_addFour hN hj hP (by omega) p1 x1
  obtain ⟨μ3, e3, p3, q3, r3, f3⟩ := c_addFour hN hj hP (by omega) p2 x2
  obtain ⟨μ4, e4, p4, q4, r4, f4⟩ := c_addFour hN hj hP (by omega) p3 x3
  obtain ⟨μ5, e5, p5, q5, r5, f5⟩ := c_addFour hN hj hP (by omega) p4 x4
  have ff := f1.trans (f2.trans (f3.trans (f4.trans f5)))
  refine ⟨μ5, ?_, h.tape p5 (fun k hk => ?_) (ff.mono (fun i hi => by omega)), ff.mono (fun i hi => by omega)⟩
  · simp (disch := omega) only [m_X11_feed, ↓ob (hP.1), ↓ob (hP.2.1), ↓ob (hP.2.2.1), ↓ob (hP.2.2.2.1), ↓ob (hP.2.2.2.2.1), ↓ob (hP.2.2.2.2.2.1), ↓ob (hP.2.2.2.2.2.2.1), ↓ob (hP.2.2.2.2.2.2.2.1), ↓ob (hP.2.2.2.2.2.2.2.2.1), ↓ob (hP.2.2.2.2.2.2.2.2.2.1), ↓ob (hP.2.2.2.2.2.2.2.2.2.2.1), ↓ob (hP.2.2.2.2.2.2.2.2.2.2.2.1), ↓ob (hP.2.2.2.2.2.2.2.2.2.2.2.2.1), ↓ob (hP.2.2.2.2.2.2.2.2.2.2.2.2.2.1), hP.2.2.2.2.2.2.2.2.2.2.2.2.2.2, hn.1, e1, e2, e3, e4, e5, p5, ↓lt_e, ↓gd_e, ↓Option.bind_some, ↓reduceIte, if_true, if_false, if_pT, if_nF, decide_true, Bool.not_true, Bool.not_false, not_true_eq_false, not_false_eq_true, Bool.false_eq_true, Bool.true_eq_false, eq_self, n3_lit, n3_add, n3_mul, n3_sub, n3_tn, n3_le_t, n3_le_f, n3_lt_t, n3_lt_f, n3_eq_f, n3_eq_t, n3_inb, n3_rem, n3_div, n3_zb, bb_0, bb_1, zb_bb, bb_T, bb_F, n3_dec, n3_m1, n3_eqm, n3_eqmt, n3_ltm, n3_mlt, n3_lem, n3_mle, n3_neg_lt, n3_nlt_neg, n3_nle_neg, n3_neg_le]
  · unfold fdT
    split
    · next hkn => rw [q5 k (by omega), q4 k (by omega), q3 k (by omega), q2 k (by omega), q1 k hkn, hn.2 k hkn]
    · next hkn =>
      have hc : (k - n) / 4 = 0 ∨ (k - n) / 4 = 1 ∨ (k - n) / 4 = 2 ∨ (k - n) / 4 = 3 ∨ (k - n) / 4 = 4 := by omega
      rcases hc with e | e | e | e | e
      · rw [e, q5 k (by omega), q4 k (by omega), q3 k (by omega), q2 k (by omega), show k = n + (k - n) % 4 by omega, r1 _ (by omega), show (n + (k - n) % 4 - n) % 4 = (k - n) % 4 by omega]; rfl
      · rw [e, q5 k (by omega), q4 k (by omega), q3 k (by omega), show k = n + 4 + (k - n) % 4 by omega, r2 _ (by omega), show (n + 4 + (k - n) % 4 - n) % 4 = (k - n) % 4 by omega]; rfl
      · rw [e, q5 k (by omega), q4 k (by omega), show k = n + 4 + 4 + (k - n) % 4 by omega, r3 _ (by omega), show (n + 4 + 4 + (k - n) % 4 - n) % 4 = (k - n) % 4 by omega]; rfl
      · rw [e, q5 k (by omega), show k = n + 4 + 4 + 4 + (k - n) % 4 by omega, r4 _ (by omega), show (n + 4 + 4 + 4 + (k - n) % 4 - n) % 4 = (k - n) % 4 by omega]; rfl
      · rw [e, show k = n + 4 + 4 + 4 + 4 + (k - n) % 4 by omega, r5 _ (by omega), show (n + 4 + 4 + 4 + 4 + (k - n) % 4 - n) % 4 = (k - n) % 4 by omega]; rfl
theorem C_feed0 {N : Nat} (hN : 1099511627776 ≤ N) {Λ : Lay} {ad : Nat → Nat} {μ : Mem} {F : Nat → Nat} {m : Nat} {A : Nat → Nat → Nat} {b : Nat} {J : Nat → Nat} {T : Nat → Int32} {n : Nat} {f : Int32} (hY : Ly Λ ad) (h : RC ad μ F m A b J T n f) (ho : Ok F m A b J T n)  (x0 x1 x2 x3 x4 : Int32) (h20 : 400 < n + 20) : CV ad μ (m_X11_feed N Λ μ (ad 0) x0 x1 x2 x3 x4) (n3 4294967295) F m A b J T n f := by
  have hj := hY.1
  have hP := hY.2.2.1
  have hS := hY.2.2.2.1 3 (Or.inl rfl)
  have hL := hY.2.2.2.2.1 30 (Or.inl rfl)
  have hC := h.1
  have hw := ho.1
  have hl := ho.2.1
  have hb := hw.1; unfold WB at hb
  have hn := h.2.2.2.2.1
  have hn4 := ho.2.2.2.2.2.2.1
  refine ⟨μ, ?_, h, Fr.refl μ⟩
  simp (disch := omega) only [m_X11_feed, ↓ob (hP.1), ↓ob (hP.2.1), ↓ob (hP.2.2.1), ↓ob (hP.2.2.2.1), ↓ob (hP.2.2.2.2.1), ↓ob (hP.2.2.2.2.2.1), ↓ob (hP.2.2.2.2.2.2.1), ↓ob (hP.2.2.2.2.2.2.2.1), ↓ob (hP.2.2.2.2.2.2.2.2.1), ↓ob (hP.2.2.2.2.2.2.2.2.2.1), ↓ob (hP.2.2.2.2.2.2.2.2.2.2.1), ↓ob (hP.2.2.2.2.2.2.2.2.2.2.2.1), ↓ob (hP.2.2.2.2.2.2.2.2.2.2.2.2.1), ↓ob (hP.2.2.2.2.2.2.2.2.2.2.2.2.2.1), hP.2.2.2.2.2.2.2.2.2.2.2.2.2.2, hn.1, n3_neg1, ↓lt_e, ↓gd_e, ↓Option.bind_some, ↓reduceIte, if_true, if_false, if_pT, if_nF, decide_true, Bool.not_true, Bool.not_false, not_true_eq_false, not_false_eq_true, Bool.false_eq_true, Bool.true_eq_false, eq_self, n3_lit, n3_add, n3_mul, n3_sub, n3_tn, n3_le_t, n3_le_f, n3_lt_t, n3_lt_f, n3_eq_f, n3_eq_t, n3_inb, n3_rem, n3_div, n3_zb, bb_0, bb_1, zb_bb, bb_T, bb_F, n3_dec, n3_m1, n3_eqm, n3_eqmt, n3_ltm, n3_mlt, n3_lem, n3_mle, n3_neg_lt, n3_nlt_neg, n3_nle_neg, n3_neg_le]
theorem R_feed0 {N : Nat} (hN : 1099511627776 ≤ N) {Λ : Lay} {ad : Nat → Nat} {μ : Mem} {F : Nat → Nat} {m : Nat} {A : Nat → Nat → Nat} {b : Nat} {J : Nat → Nat} {T : Nat → Int32} {n : Nat} {f : Int32} (hY : Ly Λ ad) (h : RR ad μ F m A b J T n f) (ho : Ok F m A b J T n)  (x0 x1 x2 x3 x4 : Int32) (h20 : 400 < n + 20) : RV ad μ (m_X12_feed N Λ μ (ad 181) x0 x1 x2 x3 x4) 0 (n3 4294967295) F m A b J T n f := by
  have hj := hY.1
  have hR := hY.2.1
  have hW := h.1
  have hw := ho.1
  have hl := ho.2.1
  have hb := hw.1; unfold WB at hb
  unfold m_X12_feed
  refine RV.start hY.1 h (fun μ0 h0 t0 => RV.same h0 t0 ?_)
  have hn4 := ho.2.2.2.2.2.2.1
  have hn := h0.2.2.2.1.1
  simp (disch := omega) only [hn, ↓ob (hR.1), ↓ob (hR.2.1), ↓ob (hR.2.2.1), ↓ob (hR.2.2.2.1), ↓ob (hR.2.2.2.2.1), ↓ob (hR.2.2.2.2.2.1), ↓ob (hR.2.2.2.2.2.2.1), ↓ob (hR.2.2.2.2.2.2.2.1), ↓ob (hR.2.2.2.2.2.2.2.2.1), ↓ob (hR.2.2.2.2.2.2.2.2.2.1), ↓ob (hR.2.2.2.2.2.2.2.2.2.2.1), ↓ob (hR.2.2.2.2.2.2.2.2.2.2.2.1), ↓ob (hR.2.2.2.2.2.2.2.2.2.2.2.2.1), ↓ob (hR.2.2.2.2.2.2.2.2.2.2.2.2.2.1), ↓ob (hR.2.2.2.2.2.2.2.2.2.2.2.2.2.2.1), ↓ob (hR.2.2.2.2.2.2.2.2.2.2.2.2.2.2.2.1), ↓ob (hR.2.2.2.2.2.2.2.2.2.2.2.2.2.2.2.2.1), ↓ob (hR.2.2.2.2.2.2.2.2.2.2.2.2.2.2.2.2.2.1), hR.2.2.2.2.2.2.2.2.2.2.2.2.2.2.2.2.2.2.1, hR.2.2.2.2.2.2.2.2.2.2.2.2.2.2.2.2.2.2.2.1, hR.2.2.2.2.2.2.2.2.2.2.2.2.2.2.2.2.2.2.2.2.1, hR.2.2.2.2.2.2.2.2.2.2.2.2.2.2.2.2.2.2.2.2.2.1, hR.2.2.2.2.2.2.2.2.2.2.2.2.2.2.2.2.2.2.2.2.2.2.1, hR.2.2.2.2.2.2.2.2.2.2.2.2.2.2.2.2.2.2.2.2.2.2.2.1, hR.2.2.2.2.2.2.2.2.2.2.2.2.2.2.2.2.2.2.2.2.2.2.2.2.1, hR.2.2.2.2.2.2.2.2.2.2.2.2.2.2.2.2.2.2.2.2.2.2.2.2.2.1, hR.2.2.2.2.2.2.2.2.2.2.2.2.2.2.2.2.2.2.2.2.2.2.2.2.2.2.1, hR.2.2.2.2.2.2.2.2.2.2.2.2.2.2.2.2.2.2.2.2.2.2.2.2.2.2.2.1, hR.2.2.2.2.2.2.2.2.2.2.2.2.2.2.2.2.2.2.2.2.2.2.2.2.2.2.2.2.1, hR.2.2.2.2.2.2.2.2.2.2.2.2.2.2.2.2.2.2.2.2.2.2.2.2.2.2.2.2.2.1, hR.2.2.2.2.2.2.2.2.2.2.2.2.2.2.2.2.2.2.2.2.2.2.2.2.2.2.2.2.2.2.1, hR.2.2.2.2.2.2.2.2.2.2.2.2.2.2.2.2.2.2.2.2.2.2.2.2.2.2.2.2.2.2.2.1, hR.2.2.2.2.2.2.2.2.2.2.2.2.2.2.2.2.2.2.2.2.2.2.2.2.2.2.2.2.2.2.2.2.1, hR.2.2.2.2.2.2.2.2.2.2.2.2.2.2.2.2.2.2.2.2.2.2.2.2.2.2.2.2.2.2.2.2.2.1, hR.2.2.2.2.2.2.2.2.2.2.2.2.2.2.2.2.2.2.2.2.2.2.2.2.2.2.2.2.2.2.2.2.2.2.1, hR.2.2.2.2.2.2.2.2.2.2.2.2.2.2.2.2.2.2.2.2.2.2.2.2.2.2.2.2.2.2.2.2.2.2.2, n3_neg1, ↓lt_e, ↓gd_e, ↓Option.bind_some, ↓reduceIte, if_true, if_false, if_pT, if_nF, decide_true, Bool.not_true, Bool.not_false, not_true_eq_false, not_false_eq_true, Bool.false_eq_true, Bool.true_eq_false, eq_self, n3_lit, n3_add, n3_mul, n3_sub, n3_tn, n3_le_t, n3_le_f, n3_lt_t, n3_lt_f, n3_eq_f, n3_eq_t, n3_inb, n3_rem, n3_div, n3_zb, bb_0, bb_1, zb_bb, bb_T, bb_F, n3_dec, n3_m1, n3_eqm, n3_eqmt, n3_ltm, n3_mlt, n3_lem, n3_mle, n3_neg_lt, n3_nlt_neg, n3_nle_neg, n3_neg_le]
theorem R_feed1 {N : Nat} (hN : 1099511627776 ≤ N) {Λ : Lay} {ad : Nat → Nat} {μ : Mem} {F : Nat → Nat} {m : Nat} {A : Nat → Nat → Nat} {b : Nat} {J : Nat → Nat} {T : Nat → Int32} {n : Nat} {f : Int32} (hY : Ly Λ ad) (h : RR ad μ F m A b J T n f) (ho : Ok F m A b J T n)  (x0 x1 x2 x3 x4 : Int32) (h20 : n + 20 ≤ 400) : RV ad μ (m_X12_feed N Λ μ (ad 181) x0 x1 x2 x3 x4) 0 (n3 (n + 20)) F m A b J (fdT T n (g5 x0 x1 x2 x3 x4)) (n + 20) f := by
  have hj := hY.1
  have hR := hY.2.1
  have hW := h.1
  have hw := ho.1
  have hl := ho.2.1
  have hb := hw.1; unfold WB at hb
  unfold m_X12_feed
  refine RV.start hY.1 h (fun μ0 h0 t0 => ?_)
  have hn := h0.2.2.2.1
  have f1 : Fr ad (fun i => i = 188) μ0 (mset5 μ0 (ad 188) 0 x0 x1 x2 x3 x4) := by
    unfold mset5; exact (((((Fr.refl μ0).set hj (by rfl)).set hj (by rfl)).set hj (by rfl)).set hj (by rfl)).set hj (by rfl)
  have hg : ∀ j, j < 5 → (mset5 μ0 (ad 188) 0 x0 x1 x2 x3 x4).1 (ad 188) j = g5 x0 x1 x2 x3 x4 j := fun j hj5 => by
    have := m5_in (μ := μ0) (a := ad 188) (b := 0) (v0 := x0) (v1 := x1) (v2 := x2) (v3 := x3) (v4 := x4) hj5
    rw [Nat.zero_add] at this
    rw [this]
    match j, hj5 with
    | 0, _ => rfl
    | 1, _ => rfl
    | 2, _ => rfl
    | 3, _ => rfl
    | 4, _ => rfl
  have e9 : (mset5 μ0 (ad 188) 0 x0 x1 x2 x3 x4).1 (ad 181) 9 = n3 n := by rw [(f1 181 (by omega)).1]; exact hn.1
  have estart : (if μ0.1 (ad 181) 9 + 20 ≤ 400 then ((dr Λ (ad 181) 15 13).bind fun q4 => gd (inb 0 (aZ Λ q4)) <| lt (mset μ0 q4 (0 : Int32).toNatClampNeg x0) fun μ7 => (dr Λ (ad 181) 15 13).bind fun q9 => gd (inb 1 (aZ Λ q9)) <| lt (mset μ7 q9 (1 : Int32).toNatClampNeg x1) fun μ12 => (dr Λ (ad 181) 15 13).bind fun q14 => gd (inb 2 (aZ Λ q14)) <| lt (mset μ12 q14 (2 : Int32).toNatClampNeg x2) fun μ17 => (dr Λ (ad 181) 15 13).bind fun q19 => gd (inb 3 (aZ Λ q19)) <| lt (mset μ17 q19 (3 : Int32).toNatClampNeg x3) fun μ22 => (dr Λ (ad 181) 15 13).bind fun q24 => gd (inb 4 (aZ Λ q24)) <| lt (mset μ22 q24 (4 : Int32).toNatClampNeg x4) fun μ27 => lp_X12_feed_60 N Λ (ad 181) (0, μ27)) else some ((-1), μ0)) = lp_X12_feed_60 N Λ (ad 181) (n3 0, mset5 μ0 (ad 188) 0 x0 x1 x2 x3 x4) := by
    simp (disch := omega) only [↓ob (hR.1), ↓ob (hR.2.1), ↓ob (hR.2.2.1), ↓ob (hR.2.2.2.1), ↓ob (hR.2.2.2.2.1), ↓ob (hR.2.2.2.2.2.1), ↓ob (hR.2.2.2.2.2.2.1), ↓ob (hR.2.2.2.2.2.2.2.1), ↓ob (hR.2.2.2.2.2.2.2.2.1), ↓ob (hR.2.2.2.2.2.2.2.2.2.1), ↓ob (hR.2.2.2.2.2.2.2.2.2.2.1), ↓ob (hR.2.2.2.2.2.2.2.2.2.2.2.1), ↓ob (hR.2.2.2.2.2.2.2.2.2.2.2.2.1), ↓ob (hR.2.2.2.2.2.2.2.2.2.2.2.2.2.1), ↓ob (hR.2.2.2.2.2.2.2.2.2.2.2.2.2.2.1), ↓ob (hR.2.2.2.2.2.2.2.2.2.2.2.2.2.2.2.1), ↓ob (hR.2.2.2.2.2.2.2.2.2.2.2.2.2.2.2.2.1), ↓ob (hR.2.2.2.2.2.2.2.2.2.2.2.2.2.2.2.2.2.1), hR.2.2.2.2.2.2.2.2.2.2.2.2.2.2.2.2.2.2.1, hR.2.2.2.2.2.2.2.2.2.2.2.2.2.2.2.2.2.2.2.1, hR.2.2.2.2.2.2.2.2.2.2.2.2.2.2.2.2.2.2.2.2.1, hR.2.2.2.2.2.2.2.2.2.2.2.2.2.2.2.2.2.2.2.2.2.1, hR.2.2.2.2.2.2.2.2.2.2.2.2.2.2.2.2.2.2.2.2.2.2.1, hR.2.2.2.2.2.2.2.2.2.2.2.2.2.2.2.2.2.2.2.2.2.2.2.1, hR.2.2.2.2.2.2.2.2.2.2.2.2.2.2.2.2.2.2.2.2.2.2.2.2.1, hR.2.2.2.2.2.2.2.2.2.2.2.2.2.2.2.2.2.2.2.2.2.2.2.2.2.1, hR.2.2.2.2.2.2.2.2.2.2.2.2.2.2.2.2.2.2.2.2.2.2.2.2.2.2.1, hR.2.2.2.2.2.2.2.2.2.2.2.2.2.2.2.2.2.2.2.2.2.2.2.2.2.2.2.1, hR.2.2.2.2.2.2.2.2.2.2.2.2.2.2.2.2.2.2.2.2.2.2.2.2.2.2.2.2.1, hR.2.2.2.2.2.2.2.2.2.2.2.2.2.2.2.2.2.2.2.2.2.2.2.2.2.2.2.2.2.1, hR.2.2.2.2.2.2.2.2.2.2.2.2.2.2.2.2.2.2.2.2.2.2.2.2.2.2.2.2.2.2.1, hR.2.2.2.2.2.2.2.2.2.2.2.2.2.2.2.2.2.2.2.2.2.2.2.2.2.2.2.2.2.2.2.1, hR.2.2.2.2.2.2.2.2.2.2.2.2.2.2.2.2.2.2.2.2.2.2.2.2.2.2.2.2.2.2.2.2.1, hR.2.2.2.2.2.2.2.2.2.2.2.2.2.2.2.2.2.2.2.2.2.2.2.2.2.2.2.2.2.2.2.2.2.1, hR.2.2.2.2.2.2.2.2.2.2.2.2.2.2.2.2.2.2.2.2.2.2.2.2.2.2.2.2.2.2.2.2.2.2.1, hR.2.2.2.2.2.2.2.2.2.2.2.2.2.2.2.2.2.2.2.2.2.2.2.2.2.2.2.2.2.2.2.2.2.2.2, hn.1, ↓lt_e, ↓gd_e, ↓Option.bind_some, ↓reduceIte, if_true, if_false, if_pT, if_nF, decide_true, Bool.not_true, Bool.not_false, not_true_eq_false, not_false_eq_true, Bool.false_eq_true, Bool.true_eq_false, eq_self, n3_lit, n3_add, n3_mul, n3_sub, n3_tn, n3_le_t, n3_le_f, n3_lt_t, n3_lt_f, n3_eq_f, n3_eq_t, n3_inb, n3_rem, n3_div, n3_zb, bb_0, bb_1, zb_bb, bb_T, bb_F, n3_dec, n3_m1, n3_eqm, n3_eqmt, n3_ltm, n3_mlt, n3_lem, n3_mle, n3_neg_lt, n3_nlt_neg, n3_nle_neg, n3_neg_le]; rfl
  refine estart ▸ ?_
  generalize hμ1 : mset5 μ0 (ad 188) 0 x0 x1 x2 x3 x4 = μ1 at f1 hg e9 ⊢
  unfold lp_X12_feed_60
  refine cp_loop (Q := fun X => RV ad μ0 X 0 (n3 (n + 20)) F m A b J (fdT T n (g5 x0 x1 x2 x3 x4)) (n + 20) f) hj 187 n 20 (fun i => by8 (g5 x0 x1 x2 x3 x4 (i / 4)) (n3 (24 - 8 * (i % 4)))) (fun i hi μ2 hf h2 k => ?_) (fun μ2 hf g1 g2 => ?_) (by omega)
  · have hg2 : ∀ j, j < 5 → μ2.1 (ad 188) j = g5 x0 x1 x2 x3 x4 j := fun j hj5 => by rw [(hf 188 (by omega)).1]; exact hg j hj5
    have e92 : μ2.1 (ad 181) 9 = n3 n := by rw [(hf 181 (by omega)).1]; exact e9
    simp (disch := omega) only [bd_X12_feed_60, ↓ob (hR.1), ↓ob (hR.2.1), ↓ob (hR.2.2.1), ↓ob (hR.2.2.2.1), ↓ob (hR.2.2.2.2.1), ↓ob (hR.2.2.2.2.2.1), ↓ob (hR.2.2.2.2.2.2.1), ↓ob (hR.2.2.2.2.2.2.2.1), ↓ob (hR.2.2.2.2.2.2.2.2.1), ↓ob (hR.2.2.2.2.2.2.2.2.2.1), ↓ob (hR.2.2.2.2.2.2.2.2.2.2.1), ↓ob (hR.2.2.2.2.2.2.2.2.2.2.2.1), ↓ob (hR.2.2.2.2.2.2.2.2.2.2.2.2.1), ↓ob (hR.2.2.2.2.2.2.2.2.2.2.2.2.2.1), ↓ob (hR.2.2.2.2.2.2.2.2.2.2.2.2.2.2.1), ↓ob (hR.2.2.2.2.2.2.2.2.2.2.2.2.2.2.2.1), ↓ob (hR.2.2.2.2.2.2.2.2.2.2.2.2.2.2.2.2.1), ↓ob (hR.2.2.2.2.2.2.2.2.2.2.2.2.2.2.2.2.2.1), hR.2.2.2.2.2.2.2.2.2.2.2.2.2.2.2.2.2.2.1, hR.2.2.2.2.2.2.2.2.2.2.2.2.2.2.2.2.2.2.2.1, hR.2.2.2.2.2.2.2.2.2.2.2.2.2.2.2.2.2.2.2.2.1, hR.2.2.2.2.2.2.2.2.2.2.2.2.2.2.2.2.2.2.2.2.2.1, hR.2.2.2.2.2.2.2.2.2.2.2.2.2.2.2.2.2.2.2.2.2.2.1, hR.2.2.2.2.2.2.2.2.2.2.2.2.2.2.2.2.2.2.2.2.2.2.2.1, hR.2.2.2.2.2.2.2.2.2.2.2.2.2.2.2.2.2.2.2.2.2.2.2.2.1, hR.2.2.2.2.2.2.2.2.2.2.2.2.2.2.2.2.2.2.2.2.2.2.2.2.2.1, hR.2.2.2.2.2.2.2.2.2.2.2.2.2.2.2.2.2.2.2.2.2.2.2.2.2.2.1, hR.2.2.2.2.2.2.2.2.2.2.2.2.2.2.2.2.2.2.2.2.2.2.2.2.2.2.2.1, hR.2.2.2.2.2.2.2.2.2.2.2.2.2.2.2.2.2.2.2.2.2.2.2.2.2.2.2.2.1, hR.2.2.2.2.2.2.2.2.2.2.2.2.2.2.2.2.2.2.2.2.2.2.2.2.2.2.2.2.2.1, hR.2.2.2.2.2.2.2.2.2.2.2.2.2.2.2.2.2.2.2.2.2.2.2.2.2.2.2.2.2.2.1, hR.2.2.2.2.2.2.2.2.2.2.2.2.2.2.2.2.2.2.2.2.2.2.2.2.2.2.2.2.2.2.2.1, hR.2.2.2.2.2.2.2.2.2.2.2.2.2.2.2.2.2.2.2.2.2.2.2.2.2.2.2.2.2.2.2.2.1, hR.2.2.2.2.2.2.2.2.2.2.2.2.2.2.2.2.2.2.2.2.2.2.2.2.2.2.2.2.2.2.2.2.2.1, hR.2.2.2.2.2.2.2.2.2.2.2.2.2.2.2.2.2.2.2.2.2.2.2.2.2.2.2.2.2.2.2.2.2.2.1, hR.2.2.2.2.2.2.2.2.2.2.2.2.2.2.2.2.2.2.2.2.2.2.2.2.2.2.2.2.2.2.2.2.2.2.2, hg2, e92, ↓lt_e, ↓gd_e, ↓Option.bind_some, ↓reduceIte, if_true, if_false, if_pT, if_nF, decide_true, Bool.not_true, Bool.not_false, not_true_eq_false, not_false_eq_true, Bool.false_eq_true, Bool.true_eq_false, eq_self, n3_lit, n3_add, n3_mul, n3_sub, n3_tn, n3_le_t, n3_le_f, n3_lt_t, n3_lt_f, n3_eq_f, n3_eq_t, n3_inb, n3_rem, n3_div, n3_zb, bb_0, bb_1, zb_bb, bb_T, bb_F, n3_dec, n3_m1, n3_eqm, n3_eqmt, n3_ltm, n3_mlt, n3_lem, n3_mle, n3_neg_lt, n3_nlt_neg, n3_nle_neg, n3_neg_le]; rfl
  · have e92 : μ2.1 (ad 181) 9 = n3 n := by rw [(hf 181 (by omega)).1]; exact e9
    have ff : Fr ad (fun i => i = 187 ∨ i = 188 ∨ i = 181) μ0 (mset μ2 (ad 181) 9 (n3 (n + 20))) := ((f1.mono (fun i hi => by omega)).trans (hf.mono (fun i hi => by omega))).set hj (by omega)
    have e1 : ∀ k, k ≠ 9 → (mset μ2 (ad 181) 9 (n3 (n + 20))).1 (ad 181) k = μ0.1 (ad 181) k := fun k hk => by rw [msn hk, (hf 181 (by omega)).1, (f1 181 (by omega)).1]
    refine ⟨_, ⟨mset μ2 (ad 181) 9 (n3 (n + 20)), rfl, by rw [e1 0 (by omega)]; exact t0, ⟨h0.1.fr ff (by omega), ⟨by rw [e1 7 (by omega)]; exact h0.2.1.1, by rw [(ff 186 (by omega)).1]; exact h0.2.1.2⟩, ⟨by rw [e1 6 (by omega)]; exact h0.2.2.1.1, fun hb => Row.fr (h0.2.2.1.2 hb) ff (by omega)⟩, ⟨mse _ _ _ _, fun k hk => ?_⟩, by rw [e1 14 (by omega)]; exact h0.2.2.2.2⟩, ff.mono (fun i hi => by omega)⟩, fun k => ?_⟩
    · rw [mso hj (by omega)]
      unfold fdT
      split
      · next hkn => rw [g2 k (by omega), (f1 187 (by omega)).1]; exact hn.2 k hkn
      · next hkn => have := g1 (k - n) (by omega); rw [show n + (k - n) = k by omega] at this; exact this
    · simp (disch := omega) only [bd_X12_feed_60, e92, ↓lt_e, ↓gd_e, ↓Option.bind_some, ↓reduceIte, if_true, if_false, if_pT, if_nF, decide_true, Bool.not_true, Bool.not_false, not_true_eq_false, not_false_eq_true, Bool.false_eq_true, Bool.true_eq_false, eq_self, n3_lit, n3_add, n3_mul, n3_sub, n3_tn, n3_le_t, n3_le_f, n3_lt_t, n3_lt_f, n3_eq_f, n3_eq_t, n3_inb, n3_rem, n3_div, n3_zb, bb_0, bb_1, zb_bb, bb_T, bb_F, n3_dec, n3_m1, n3_eqm, n3_eqmt, n3_ltm, n3_mlt, n3_lem, n3_mle, n3_neg_lt, n3_nlt_neg, n3_nle_neg, n3_neg_le, mse]
theorem Ok.feed {F : Nat → Nat} {m : Nat} {A : Nat → Nat → Nat} {b : Nat} {J : Nat → Nat} {T : Nat → Int32} {n : Nat} (ho : Ok F m A b J T n) (g : Nat → Int32) (h : n + 20 ≤ 400) : Ok F m A b J (fdT T n g) (n + 20) := ⟨ho.1, ho.2.1, ho.2.2.1, ho.2.2.2.1, ho.2.2.2.2.1, ho.2.2.2.2.2.1, h, fun k hk => by
  unfold fdT; split
  · next hkn => exact ho.2.2.2.2.2.2.2 k hkn
  · exact by8_Byt _ _⟩
theorem C_end1 {N : Nat} (hN : 1099511627776 ≤ N) {Λ : Lay} {ad : Nat → Nat} {μ : Mem} {F : Nat → Nat} {m : Nat} {A : Nat → Nat → Nat} {b : Nat} {J : Nat → Nat} {T : Nat → Int32} {n : Nat} {f : Int32} (hY : Ly Λ ad) (h : RC ad μ F m A b J T n f) (ho : Ok F m A b J T n)  (a : Nat) (ha : a ≤ n) : CV ad μ (m_X11_end N Λ μ (ad 0) (n3 a)) (n3 1) F m A b J T a f := by
  have hj := hY.1
  have hP := hY.2.2.1
  have hS := hY.2.2.2.1 3 (Or.inl rfl)
  have hL := hY.2.2.2.2.1 30 (Or.inl rfl)
  have hC := h.1
  have hw := ho.1
  have hl := ho.2.1
  have hb := hw.1; unfold WB at hb
  have hn := h.2.2.2.2.1
  have hn4 := ho.2.2.2.2.2.2.1
  refine ⟨mset μ (ad 1) 1 (n3 a), ?_, h.tape (mse _ _ _ _) (fun k hk => by rw [mso hj (by omega)]; exact hn.2 k (by omega)) ((Fr.refl μ).set hj (Or.inl rfl)), (Fr.refl μ).set hj (by omega)⟩
  simp (disch := omega) only [m_X11_end, ↓ob (hP.1), ↓ob (hP.2.1), ↓ob (hP.2.2.1), ↓ob (hP.2.2.2.1), ↓ob (hP.2.2.2.2.1), ↓ob (hP.2.2.2.2.2.1), ↓ob (hP.2.2.2.2.2.2.1), ↓ob (hP.2.2.2.2.2.2.2.1), ↓ob (hP.2.2.2.2.2.2.2.2.1), ↓ob (hP.2.2.2.2.2.2.2.2.2.1), ↓ob (hP.2.2.2.2.2.2.2.2.2.2.1), ↓ob (hP.2.2.2.2.2.2.2.2.2.2.2.1), ↓ob (hP.2.2.2.2.2.2.2.2.2.2.2.2.1), ↓ob (hP.2.2.2.2.2.2.2.2.2.2.2.2.2.1), hP.2.2.2.2.2.2.2.2.2.2.2.2.2.2, hn.1, ↓lt_e, ↓gd_e, ↓Option.bind_some, ↓reduceIte, if_true, if_false, if_pT, if_nF, decide_true, Bool.not_true, Bool.not_false, not_true_eq_false, not_false_eq_true, Bool.false_eq_true, Bool.true_eq_false, eq_self, n3_lit, n3_add, n3_mul, n3_sub, n3_tn, n3_le_t, n3_le_f, n3_lt_t, n3_lt_f, n3_eq_f, n3_eq_t, n3_inb, n3_rem, n3_div, n3_zb, bb_0, bb_1, zb_bb, bb_T, bb_F, n3_dec, n3_m1, n3_eqm, n3_eqmt, n3_ltm, n3_mlt, n3_lem, n3_mle, n3_neg_lt, n3_nlt_neg, n3_nle_neg, n3_neg_le]
theorem C_end0 {N : Nat} (hN : 1099511627776 ≤ N) {Λ : Lay} {ad : Nat → Nat} {μ : Mem} {F : Nat → Nat} {m : Nat} {A : Nat → Nat → Nat} {b : Nat} {J : Nat → Nat} {T : Nat → Int32} {n : Nat} {f : Int32} (hY : Ly Λ ad) (h : RC ad μ F m A b J T n f) (ho : Ok F m A b J T n)  (x : Int32) (hx : x < n3 0 ∨ n3 n < x) : CV ad μ (m_X11_end N Λ μ (ad 0) x) (n3 0) F m A b J T n f := by
  have hj := hY.1
  have hP := hY.2.2.1
  have hS := hY.2.2.2.1 3 (Or.inl rfl)
  have hL := hY.2.2.2.2.1 30 (Or.inl rfl)
  have hC := h.1
  have hw := ho.1
  have hl := ho.2.1
  have hb := hw.1; unfold WB at hb
  have hn := h.2.2.2.2.1
  refine ⟨μ, ?_, h, Fr.refl μ⟩
  by_cases h1 : x < n3 0
  · simp (disch := omega) only [jn_X11_end_15, m_X11_end, h1, ↓lt_e, ↓gd_e, ↓Option.bind_some, ↓reduceIte, if_true, if_false, if_pT, if_nF, decide_true, Bool.not_true, Bool.not_false, not_true_eq_false, not_false_eq_true, Bool.false_eq_true, Bool.true_eq_false, eq_self, n3_lit]
  · have h2 : ¬ x ≤ n3 n := Int32.not_le.2 (hx.resolve_left h1)
    simp (disch := omega) only [jn_X11_end_15, m_X11_end, ↓ob (hP.1), ↓ob (hP.2.1), ↓ob (hP.2.2.1), ↓ob (hP.2.2.2.1), ↓ob (hP.2.2.2.2.1), ↓ob (hP.2.2.2.2.2.1), ↓ob (hP.2.2.2.2.2.2.1), ↓ob (hP.2.2.2.2.2.2.2.1), ↓ob (hP.2.2.2.2.2.2.2.2.1), ↓ob (hP.2.2.2.2.2.2.2.2.2.1), ↓ob (hP.2.2.2.2.2.2.2.2.2.2.1), ↓ob (hP.2.2.2.2.2.2.2.2.2.2.2.1), ↓ob (hP.2.2.2.2.2.2.2.2.2.2.2.2.1), ↓ob (hP.2.2.2.2.2.2.2.2.2.2.2.2.2.1), hP.2.2.2.2.2.2.2.2.2.2.2.2.2.2, hn.1, h1, h2, ↓lt_e, ↓gd_e, ↓Option.bind_some, ↓reduceIte, if_true, if_false, if_pT, if_nF, decide_true, Bool.not_true, Bool.not_false, not_true_eq_false, not_false_eq_true, Bool.false_eq_true, Bool.true_eq_false, eq_self, n3_lit]
theorem R_end1 {N : Nat} (hN : 1099511627776 ≤ N) {Λ : Lay} {ad : Nat → Nat} {μ : Mem} {F : Nat → Nat} {m : Nat} {A : Nat → Nat → Nat} {b : Nat} {J : Nat → Nat} {T : Nat → Int32} {n : Nat} {f : Int32} (hY : Ly Λ ad) (h : RR ad μ F m A b J T n f) (ho : Ok F m A b J T n)  (a : Nat) (ha : a ≤ n) : RV ad μ (m_X12_end N Λ μ (ad 181) (n3 a)) 0 (n3 1) F m A b J T a f := by
  have hj := hY.1
  have hR := hY.2.1
  have hW := h.1
  have hw := ho.1
  have hl := ho.2.1
  have hb := hw.1; unfold WB at hb
  unfold m_X12_end
  refine RV.start hY.1 h (fun μ0 h0 t0 => ?_)
  have hn := h0.2.2.2.1
  have hn4 := ho.2.2.2.2.2.2.1
  have ff : Fr ad (fun i => i = 181) μ0 (mset μ0 (ad 181) 9 (n3 a)) := (Fr.refl μ0).set hj (by rfl)
  refine ⟨mset μ0 (ad 181) 9 (n3 a), ?_, by rw [msn (by omega)]; exact t0, ⟨h0.1.fr ff (by omega), ⟨by rw [msn (by omega)]; exact h0.2.1.1, by rw [(ff 186 (by omega)).1]; exact h0.2.1.2⟩, ⟨by rw [msn (by omega)]; exact h0.2.2.1.1, fun hb => Row.fr (h0.2.2.1.2 hb) ff (by omega)⟩, ⟨mse _ _ _ _, fun k hk => by rw [(ff 187 (by omega)).1]; exact hn.2 k (by omega)⟩, by rw [msn (by omega)]; exact h0.2.2.2.2⟩, ff.mono (fun i hi => by omega)⟩
  simp (disch := omega) only [hn.1, ↓lt_e, ↓gd_e, ↓Option.bind_some, ↓reduceIte, if_true, if_false, if_pT, if_nF, decide_true, Bool.not_true, Bool.not_false, not_true_eq_false, not_false_eq_true, Bool.false_eq_true, Bool.true_eq_false, eq_self, n3_lit, n3_add, n3_mul, n3_sub, n3_tn, n3_le_t, n3_le_f, n3_lt_t, n3_lt_f, n3_eq_f, n3_eq_t, n3_inb, n3_rem, n3_div, n3_zb, bb_0, bb_1, zb_bb, bb_T, bb_F, n3_dec, n3_m1, n3_eqm, n3_eqmt, n3_ltm, n3_mlt, n3_lem, n3_mle, n3_neg_lt, n3_nlt_neg, n3_nle_neg, n3_neg_le]
theorem R_end0 {N : Nat} (hN : 1099511627776 ≤ N) {Λ : Lay} {ad : Nat → Nat} {μ : Mem} {F : Nat → Nat} {m : Nat} {A : Nat → Nat → Nat} {b : Nat} {J : Nat → Nat} {T : Nat → Int32} {n : Nat} {f : Int32} (hY : Ly Λ ad) (h : RR ad μ F m A b J T n f) (ho : Ok F m A b J T n)  (x : Int32) (hx : x < n3 0 ∨ n3 n < x) : RV ad μ (m_X12_end N Λ μ (ad 181) x) 0 (n3 0) F m A b J T n f := by
  have hj := hY.1
  have hR := hY.2.1
  have hW := h.1
  have hw := ho.1
  have hl := ho.2.1
  have hb := hw.1; unfold WB at hb
  unfold m_X12_end
  refine RV.start hY.1 h (fun μ0 h0 t0 => RV.same h0 t0 ?_)
  have hn := h0.2.2.2.1
  by_cases h1 : x < n3 0
  · simp (disch := omega) only [jn_X12_end_17, h1, ↓lt_e, ↓gd_e, ↓Option.bind_some, ↓reduceIte, if_true, if_false, if_pT, if_nF, decide_true, Bool.not_true, Bool.not_false, not_true_eq_false, not_false_eq_true, Bool.false_eq_true, Bool.true_eq_false, eq_self, n3_lit]
  · have h2 : ¬ x ≤ n3 n := Int32.not_le.2 (hx.resolve_left h1)
    simp (disch := omega) only [jn_X12_end_17, hn.1, h1, h2, ↓lt_e, ↓gd_e, ↓Option.bind_some, ↓reduceIte, if_true, if_false, if_pT, if_nF, decide_true, Bool.not_true, Bool.not_false, not_true_eq_false, not_false_eq_true, Bool.false_eq_true, Bool.true_eq_false, eq_self, n3_lit]
theorem Ok.tend {F : Nat → Nat} {m : Nat} {A : Nat → Nat → Nat} {b : Nat} {J : Nat → Nat} {T : Nat → Int32} {n : Nat} (ho : Ok F m A b J T n) {a : Nat} (h : a ≤ n) : Ok F m A b J T a := ⟨ho.1, ho.2.1, ho.2.2.1, ho.2.2.2.1, ho.2.2.2.2.1, ho.2.2.2.2.2.1, by have := ho.2.2.2.2.2.2.1; omega, fun k hk => ho.2.2.2.2.2.2.2 k (by omega)⟩

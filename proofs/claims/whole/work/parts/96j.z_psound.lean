/-! lies, likely, sound -/
theorem c_needSoundings {N : Nat} (hN : 1099511627776 ≤ N) {Λ : Lay} {ad : Nat → Nat} {μ : Mem} {F : Nat → Nat} {m : Nat} {A : Nat → Nat → Nat} {b : Nat} {J : Nat → Nat} {T : Nat → Int32} {n : Nat} {f : Int32} (hY : Ly Λ ad) (h : RC ad μ F m A b J T n f) (ho : Ok F m A b J T n)  : ∃ μ', m_X11_needSoundings N Λ μ (ad 0) = some (if tvO T n 24 2 = true then 0 else 1, 0, μ') ∧ RC ad μ' F m A b J T 0 f ∧ (tvO T n 24 2 = true → SQ0 ad μ' T (n / 2)) ∧ Fr ad (fun i => i < 181) μ μ' := by
  have hj := hY.1
  have hP := hY.2.2.1
  have hS := hY.2.2.2.1 3 (Or.inl rfl)
  have hL := hY.2.2.2.2.1 30 (Or.inl rfl)
  have hC := h.1
  have hw := ho.1
  have hl := ho.2.1
  have hb := hw.1; unfold WB at hb
  have hQ := hY.2.2.2.2.2.2.2.1
  have hn := h.2.2.2.2.1
  obtain ⟨μ1, e1, q1, f1⟩ := c_sread hN hj hP hQ ho.2.2.2.2.2.2.1 hn.1 hn.2 ho.2.2.2.2.2.2.2
  have f2 : Fr ad (fun i => i = 1) μ1 (mset μ1 (ad 1) 1 (n3 0)) := (Fr.refl μ1).set hj (by rfl)
  have f3 : Fr ad (fun i => i = 1 ∨ 171 ≤ i ∧ i ≤ 173) μ (mset μ1 (ad 1) 1 (n3 0)) := (f1.mono (fun i hi => by omega)).trans (f2.mono (fun i hi => by omega))
  refine ⟨_, ?_, h.tape (mse _ _ _ _) (fun k hk => absurd hk (Nat.not_lt_zero k)) (f3.mono (fun i hi => by unfold ScC; omega)), fun ht => (q1 ht).fr f2 (by rw [mso hj (by omega)]) (by omega) (by omega), f3.mono (fun i hi => by omega)⟩
  cases hb1 : tvO T n 24 2 with
  | true =>
    rw [bbB_t hb1] at e1
    simp (disch := omega) only [m_X11_needSoundings, ↓ob (hP.1), ↓ob (hP.2.1), ↓ob (hP.2.2.1), ↓ob (hP.2.2.2.1), ↓ob (hP.2.2.2.2.1), ↓ob (hP.2.2.2.2.2.1), ↓ob (hP.2.2.2.2.2.2.1), ↓ob (hP.2.2.2.2.2.2.2.1), ↓ob (hP.2.2.2.2.2.2.2.2.1), ↓ob (hP.2.2.2.2.2.2.2.2.2.1), ↓ob (hP.2.2.2.2.2.2.2.2.2.2.1), ↓ob (hP.2.2.2.2.2.2.2.2.2.2.2.1), ↓ob (hP.2.2.2.2.2.2.2.2.2.2.2.2.1), ↓ob (hP.2.2.2.2.2.2.2.2.2.2.2.2.2.1), hP.2.2.2.2.2.2.2.2.2.2.2.2.2.2, e1, ↓lt_e, ↓gd_e, ↓Option.bind_some, ↓reduceIte, if_true, if_false, if_pT, if_nF, decide_true, Bool.not_true, Bool.not_false, not_true_eq_false, not_false_eq_true, Bool.false_eq_true, Bool.true_eq_false, eq_self, n3_lit, n3_add, n3_mul, n3_sub, n3_tn, n3_le_t, n3_le_f, n3_lt_t, n3_lt_f, n3_eq_f, n3_eq_t, n3_inb, n3_rem, n3_div, n3_zb, bb_0, bb_1, zb_bb, bb_T, bb_F, n3_dec, n3_m1, n3_eqm, n3_eqmt, n3_ltm, n3_mlt, n3_lem, n3_mle, n3_neg_lt, n3_nlt_neg, n3_nle_neg, n3_neg_le]
  | false =>
    rw [bbB_f hb1] at e1
    simp (disch := omega) only [m_X11_needSoundings, ↓ob (hP.1), ↓ob (hP.2.1), ↓ob (hP.2.2.1), ↓ob (hP.2.2.2.1), ↓ob (hP.2.2.2.2.1), ↓ob (hP.2.2.2.2.2.1), ↓ob (hP.2.2.2.2.2.2.1), ↓ob (hP.2.2.2.2.2.2.2.1), ↓ob (hP.2.2.2.2.2.2.2.2.1), ↓ob (hP.2.2.2.2.2.2.2.2.2.1), ↓ob (hP.2.2.2.2.2.2.2.2.2.2.1), ↓ob (hP.2.2.2.2.2.2.2.2.2.2.2.1), ↓ob (hP.2.2.2.2.2.2.2.2.2.2.2.2.1), ↓ob (hP.2.2.2.2.2.2.2.2.2.2.2.2.2.1), hP.2.2.2.2.2.2.2.2.2.2.2.2.2.2, e1, ↓lt_e, ↓gd_e, ↓Option.bind_some, ↓reduceIte, if_true, if_false, if_pT, if_nF, decide_true, Bool.not_true, Bool.not_false, not_true_eq_false, not_false_eq_true, Bool.false_eq_true, Bool.true_eq_false, eq_self, n3_lit, n3_add, n3_mul, n3_sub, n3_tn, n3_le_t, n3_le_f, n3_lt_t, n3_lt_f, n3_eq_f, n3_eq_t, n3_inb, n3_rem, n3_div, n3_zb, bb_0, bb_1, zb_bb, bb_T, bb_F, n3_dec, n3_m1, n3_eqm, n3_eqmt, n3_ltm, n3_mlt, n3_lem, n3_mle, n3_neg_lt, n3_nlt_neg, n3_nle_neg, n3_neg_le]
theorem C_lies_f {N : Nat} (hN : 1099511627776 ≤ N) {Λ : Lay} {ad : Nat → Nat} {μ : Mem} {F : Nat → Nat} {m : Nat} {A : Nat → Nat → Nat} {b : Nat} {J : Nat → Nat} {T : Nat → Int32} {n : Nat} {f : Int32} (hY : Ly Λ ad) (h : RC ad μ F m A b J T n f) (ho : Ok F m A b J T n)  (ht : tvO T n 24 2 = false) : CT ad μ (m_X11_lies N Λ μ (ad 0)) 1 0 F m A b J T 0 f := by
  obtain ⟨μ1, e1, h1, q1, f1⟩ := c_needSoundings hN hY h ho
  refine ⟨μ1, ?_, h1, f1⟩
  rw [ht] at e1
  unfold m_X11_lies
  rw [e1]; rfl
theorem C_lies_t {N : Nat} (hN : 1099511627776 ≤ N) {Λ : Lay} {ad : Nat → Nat} {μ : Mem} {F : Nat → Nat} {m : Nat} {A : Nat → Nat → Nat} {b : Nat} {J : Nat → Nat} {T : Nat → Int32} {n : Nat} {f : Int32} (hY : Ly Λ ad) (h : RC ad μ F m A b J T n f) (ho : Ok F m A b J T n)  (ht : tvO T n 24 2 = true) : CT ad μ (m_X11_lies N Λ μ (ad 0)) 0 (n3 (ctP (slP T (n / 2)) 288)) F m A b J T 0 f := by
  have hj := hY.1
  have hP := hY.2.2.1
  have hQ := hY.2.2.2.2.2.2.2.1
  obtain ⟨t1, t2, t3⟩ := tvO_t ht
  obtain ⟨μ1, e1, h1, q1, f1⟩ := c_needSoundings hN hY h ho
  obtain ⟨μ2, e2, q2, f2⟩ := c_ssearch hN hj hQ (show n / 2 ≤ 20 by omega) t3 (q1 ht)
  have cb := c_bestPlace hN hQ q2
  refine ⟨μ2, ?_, h1.fr (f2.mono (fun i hi => by unfold ScC; omega)), f1.trans (f2.mono (fun i hi => by omega))⟩
  rw [ht] at e1
  unfold m_X11_lies
  rw [e1]
  simp (disch := omega) only [thn_T, thn_0, thn_1, thn_2, thn_3, thn_4, thn_5, ↓ob (hP.1), ↓ob (hP.2.1), ↓ob (hP.2.2.1), ↓ob (hP.2.2.2.1), ↓ob (hP.2.2.2.2.1), ↓ob (hP.2.2.2.2.2.1), ↓ob (hP.2.2.2.2.2.2.1), ↓ob (hP.2.2.2.2.2.2.2.1), ↓ob (hP.2.2.2.2.2.2.2.2.1), ↓ob (hP.2.2.2.2.2.2.2.2.2.1), ↓ob (hP.2.2.2.2.2.2.2.2.2.2.1), ↓ob (hP.2.2.2.2.2.2.2.2.2.2.2.1), ↓ob (hP.2.2.2.2.2.2.2.2.2.2.2.2.1), ↓ob (hP.2.2.2.2.2.2.2.2.2.2.2.2.2.1), hP.2.2.2.2.2.2.2.2.2.2.2.2.2.2, e2, cb, q2.1, q2.2.1, ↓lt_e, ↓gd_e, ↓Option.bind_some, ↓reduceIte, if_true, if_false, if_pT, if_nF, decide_true, Bool.not_true, Bool.not_false, not_true_eq_false, not_false_eq_true, Bool.false_eq_true, Bool.true_eq_false, eq_self]
theorem R_lies_f {N : Nat} (hN : 1099511627776 ≤ N) {Λ : Lay} {ad : Nat → Nat} {μ : Mem} {F : Nat → Nat} {m : Nat} {A : Nat → Nat → Nat} {b : Nat} {J : Nat → Nat} {T : Nat → Int32} {n : Nat} {f : Int32} (hY : Ly Λ ad) (h : RR ad μ F m A b J T n f) (ho : Ok F m A b J T n)  (ht : tvO T n 24 2 = false) : RV ad μ (m_X12_lies N Λ μ (ad 181)) 1 0 F m A b J T 0 f := by
  have hj := hY.1
  obtain ⟨μ1, e1, h1, t1, t2, t3, t4, f1⟩ := r_uses (N := N) (Λ := Λ) hj h
  refine RV.trans (f1.mono (fun i hi => by omega)) (RV.thrown hj h1 ?_)
  have ih := r_isTouched hN hY.2.1 ho.2.2.2.2.2.2.1 t2 t4
  rw [bbB_f ht] at ih
  simp (disch := omega) only [m_X12_lies, jn_X12_lies_17, jn_X12_lies_33, e1, ih, r_thr1, ↓lt_e, ↓gd_e, ↓Option.bind_some, ↓reduceIte, if_true, if_false, if_pT, if_nF, decide_true, Bool.not_true, Bool.not_false, not_true_eq_false, not_false_eq_true, Bool.false_eq_true, Bool.true_eq_false, eq_self, n3_lit, n3_add, n3_mul, n3_sub, n3_tn, n3_le_t, n3_le_f, n3_lt_t, n3_lt_f, n3_eq_f, n3_eq_t, n3_inb, n3_rem, n3_div, n3_zb, bb_0, bb_1, zb_bb, bb_T, bb_F, n3_dec, n3_m1, n3_eqm, n3_eqmt, n3_ltm, n3_mlt, n3_lem, n3_mle, n3_neg_lt, n3_nlt_neg, n3_nle_neg, n3_neg_le]
theorem C_likely_f {N : Nat} (hN : 1099511627776 ≤ N) {Λ : Lay} {ad : Nat → Nat} {μ : Mem} {F : Nat → Nat} {m : Nat} {A : Nat → Nat → Nat} {b : Nat} {J : Nat → Nat} {T : Nat → Int32} {n : Nat} {f : Int32} (hY : Ly Λ ad) (h : RC ad μ F m A b J T n f) (ho : Ok F m A b J T n)  (ht : tvO T n 24 2 = false) : CT ad μ (m_X11_likely N Λ μ (ad 0)) 1 0 F m A b J T 0 f := by
  obtain ⟨μ1, e1, h1, q1, f1⟩ := c_needSoundings hN hY h ho
  refine ⟨μ1, ?_, h1, f1⟩
  rw [ht] at e1
  unfold m_X11_likely
  rw [e1]; rfl
theorem C_likely_t {N : Nat} (hN : 1099511627776 ≤ N) {Λ : Lay} {ad : Nat → Nat} {μ : Mem} {F : Nat → Nat} {m : Nat} {A : Nat → Nat → Nat} {b : Nat} {J : Nat → Nat} {T : Nat → Int32} {n : Nat} {f : Int32} (hY : Ly Λ ad) (h : RC ad μ F m A b J T n f) (ho : Ok F m A b J T n)  (ht : tvO T n 24 2 = true) : CT ad μ (m_X11_likely N Λ μ (ad 0)) 0 (n3 (lkl T (n / 2) 288).1) F m A b J T 0 f := by
  have hj := hY.1
  have hP := hY.2.2.1
  have hQ := hY.2.2.2.2.2.2.2.1
  obtain ⟨t1, t2, t3⟩ := tvO_t ht
  obtain ⟨μ1, e1, h1, q1, f1⟩ := c_needSoundings hN hY h ho
  obtain ⟨μ2, e2, q2, f2⟩ := c_ssearch hN hj hQ (show n / 2 ≤ 20 by omega) t3 (q1 ht)
  have cb := c_bestPlace hN hQ q2
  refine ⟨μ2, ?_, h1.fr (f2.mono (fun i hi => by unfold ScC; omega)), f1.trans (f2.mono (fun i hi => by omega))⟩
  rw [ht] at e1
  unfold m_X11_likely
  rw [e1]
  simp (disch := omega) only [thn_T, thn_0, thn_1, thn_2, thn_3, thn_4, thn_5, ↓ob (hP.1), ↓ob (hP.2.1), ↓ob (hP.2.2.1), ↓ob (hP.2.2.2.1), ↓ob (hP.2.2.2.2.1), ↓ob (hP.2.2.2.2.2.1), ↓ob (hP.2.2.2.2.2.2.1), ↓ob (hP.2.2.2.2.2.2.2.1), ↓ob (hP.2.2.2.2.2.2.2.2.1), ↓ob (hP.2.2.2.2.2.2.2.2.2.1), ↓ob (hP.2.2.2.2.2.2.2.2.2.2.1), ↓ob (hP.2.2.2.2.2.2.2.2.2.2.2.1), ↓ob (hP.2.2.2.2.2.2.2.2.2.2.2.2.1), ↓ob (hP.2.2.2.2.2.2.2.2.2.2.2.2.2.1), hP.2.2.2.2.2.2.2.2.2.2.2.2.2.2, e2, cb, q2.1, q2.2.1, ↓lt_e, ↓gd_e, ↓Option.bind_some, ↓reduceIte, if_true, if_false, if_pT, if_nF, decide_true, Bool.not_true, Bool.not_false, not_true_eq_false, not_false_eq_true, Bool.false_eq_true, Bool.true_eq_false, eq_self]
theorem R_likely_f {N : Nat} (hN : 1099511627776 ≤ N) {Λ : Lay} {ad : Nat → Nat} {μ : Mem} {F : Nat → Nat} {m : Nat} {A : Nat → Nat → Nat} {b : Nat} {J : Nat → Nat} {T : Nat → Int32} {n : Nat} {f : Int32} (hY : Ly Λ ad) (h : RR ad μ F m A b J T n f) (ho : Ok F m A b J T n)  (ht : tvO T n 24 2 = false) : RV ad μ (m_X12_likely N Λ μ (ad 181)) 1 0 F m A b J T 0 f := by
  have hj := hY.1
  obtain ⟨μ1, e1, h1, t1, t2, t3, t4, f1⟩ := r_uses (N := N) (Λ := Λ) hj h
  refine RV.trans (f1.mono (fun i hi => by omega)) (RV.thrown hj h1 ?_)
  have ih := r_isTouched hN hY.2.1 ho.2.2.2.2.2.2.1 t2 t4
  rw [bbB_f ht] at ih
  simp (disch := omega) only [m_X12_likely, jn_X12_likely_17, e1, ih, r_thr1, ↓lt_e, ↓gd_e, ↓Option.bind_some, ↓reduceIte, if_true, if_false, if_pT, if_nF, decide_true, Bool.not_true, Bool.not_false, not_true_eq_false, not_false_eq_true, Bool.false_eq_true, Bool.true_eq_false, eq_self, n3_lit, n3_add, n3_mul, n3_sub, n3_tn, n3_le_t, n3_le_f, n3_lt_t, n3_lt_f, n3_eq_f, n3_eq_t, n3_inb, n3_rem, n3_div, n3_zb, bb_0, bb_1, zb_bb, bb_T, bb_F, n3_dec, n3_m1, n3_eqm, n3_eqmt, n3_ltm, n3_mlt, n3_lem, n3_mle, n3_neg_lt, n3_nlt_neg, n3_nle_neg, n3_neg_le]
theorem C_sound_f {N : Nat} (hN : 1099511627776 ≤ N) {Λ : Lay} {ad : Nat → Nat} {μ : Mem} {F : Nat → Nat} {m : Nat} {A : Nat → Nat → Nat} {b : Nat} {J : Nat → Nat} {T : Nat → Int32} {n : Nat} {f : Int32} (hY : Ly Λ ad) (h : RC ad μ F m A b J T n f) (ho : Ok F m A b J T n)  (ht : tvO T n 24 2 = false) : CT ad μ (m_X11_sound N Λ μ (ad 0)) 1 0 F m A b J T 0 f := by
  obtain ⟨μ1, e1, h1, q1, f1⟩ := c_needSoundings hN hY h ho
  refine ⟨μ1, ?_, h1, f1⟩
  rw [ht] at e1
  unfold m_X11_sound
  rw [e1]; rfl
theorem C_sound_t {N : Nat} (hN : 1099511627776 ≤ N) {Λ : Lay} {ad : Nat → Nat} {μ : Mem} {F : Nat → Nat} {m : Nat} {A : Nat → Nat → Nat} {b : Nat} {J : Nat → Nat} {T : Nat → Int32} {n : Nat} {f : Int32} (hY : Ly Λ ad) (h : RC ad μ F m A b J T n f) (ho : Ok F m A b J T n)  (ht : tvO T n 24 2 = true) : CT ad μ (m_X11_sound N Λ μ (ad 0)) 0 (n3 (sdS T (n / 2))) F m A b J T 0 f := by
  have hj := hY.1
  have hP := hY.2.2.1
  have hQ := hY.2.2.2.2.2.2.2.1
  obtain ⟨t1, t2, t3⟩ := tvO_t ht
  obtain ⟨μ1, e1, h1, q1, f1⟩ := c_needSoundings hN hY h ho
  obtain ⟨μ2, e2, q2, f2⟩ := c_ssearch hN hj hQ (show n / 2 ≤ 20 by omega) t3 (q1 ht)
  have cb := c_bestPlace hN hQ q2
  refine ⟨μ2, ?_, h1.fr (f2.mono (fun i hi => by unfold ScC; omega)), f1.trans (f2.mono (fun i hi => by omega))⟩
  rw [ht] at e1
  unfold m_X11_sound
  rw [e1]
  simp (disch := omega) only [thn_T, thn_0, thn_1, thn_2, thn_3, thn_4, thn_5, ↓ob (hP.1), ↓ob (hP.2.1), ↓ob (hP.2.2.1), ↓ob (hP.2.2.2.1), ↓ob (hP.2.2.2.2.1), ↓ob (hP.2.2.2.2.2.1), ↓ob (hP.2.2.2.2.2.2.1), ↓ob (hP.2.2.2.2.2.2.2.1), ↓ob (hP.2.2.2.2.2.2.2.2.1), ↓ob (hP.2.2.2.2.2.2.2.2.2.1), ↓ob (hP.2.2.2.2.2.2.2.2.2.2.1), ↓ob (hP.2.2.2.2.2.2.2.2.2.2.2.1), ↓ob (hP.2.2.2.2.2.2.2.2.2.2.2.2.1), ↓ob (hP.2.2.2.2.2.2.2.2.2.2.2.2.2.1), hP.2.2.2.2.2.2.2.2.2.2.2.2.2.2, e2, cb, q2.1, q2.2.1, ↓lt_e, ↓gd_e, ↓Option.bind_some, ↓reduceIte, if_true, if_false, if_pT, if_nF, decide_true, Bool.not_true, Bool.not_false, not_true_eq_false, not_false_eq_true, Bool.false_eq_true, Bool.true_eq_false, eq_self]
theorem R_sound_f {N : Nat} (hN : 1099511627776 ≤ N) {Λ : Lay} {ad : Nat → Nat} {μ : Mem} {F : Nat → Nat} {m : Nat} {A : Nat → Nat → Nat} {b : Nat} {J : Nat → Nat} {T : Nat → Int32} {n : Nat} {f : Int32} (hY : Ly Λ ad) (h : RR ad μ F m A b J T n f) (ho : Ok F m A b J T n)  (ht : tvO T n 24 2 = false) : RV ad μ (m_X12_sound N Λ μ (ad 181)) 1 0 F m A b J T 0 f := by
  have hj := hY.1
  obtain ⟨μ1, e1, h1, t1, t2, t3, t4, f1⟩ := r_uses (N := N) (Λ := Λ) hj h
  refine RV.trans (f1.mono (fun i hi => by omega)) (RV.thrown hj h1 ?_)
  have ih := r_isTouched hN hY.2.1 ho.2.2.2.2.2.2.1 t2 t4
  rw [bbB_f ht] at ih
  simp (disch := omega) only [m_X12_sound, jn_X12_sound_17, e1, ih, r_thr1, ↓lt_e, ↓gd_e, ↓Option.bind_some, ↓reduceIte, if_true, if_false, if_pT, if_nF, decide_true, Bool.not_true, Bool.not_false, not_true_eq_false, not_false_eq_true, Bool.false_eq_true, Bool.true_eq_false, eq_self, n3_lit, n3_add, n3_mul, n3_sub, n3_tn, n3_le_t, n3_le_f, n3_lt_t, n3_lt_f, n3_eq_f, n3_eq_t, n3_inb, n3_rem, n3_div, n3_zb, bb_0, bb_1, zb_bb, bb_T, bb_F, n3_dec, n3_m1, n3_eqm, n3_eqmt, n3_ltm, n3_mlt, n3_lem, n3_mle, n3_neg_lt, n3_nlt_neg, n3_nle_neg, n3_neg_le]
theorem R_lies_t {N : Nat} (hN : 1099511627776 ≤ N) {Λ : Lay} {ad : Nat → Nat} {μ : Mem} {F : Nat → Nat} {m : Nat} {A : Nat → Nat → Nat} {b : Nat} {J : Nat → Nat} {T : Nat → Int32} {n : Nat} {f : Int32} (hY : Ly Λ ad) (h : RR ad μ F m A b J T n f) (ho : Ok F m A b J T n)  (ht : tvO T n 24 2 = true) : RV ad μ (m_X12_lies N Λ μ (ad 181)) 0 (n3 (ctP (slP T (n / 2)) 288)) F m A b J T 0 f := by
  have hj := hY.1
  obtain ⟨v1, v2, v3⟩ := tvO_t ht
  obtain ⟨μ1, e1, h1, t1, t2, t3, t4, f1⟩ := r_uses (N := N) (Λ := Λ) hj h
  have ih := r_isTouched hN hY.2.1 ho.2.2.2.2.2.2.1 t2 t4
  rw [bbB_t ht] at ih
  have hn2 : n = 2 * (n / 2) := by omega
  have t2' : μ1.1 (ad 181) 11 = n3 (2 * (n / 2)) := by rw [← hn2]; exact t2
  have t4' : ∀ k, k < 2 * (n / 2) → μ1.1 (ad 187) k = T k := by rw [← hn2]; exact t4
  have h20 : n / 2 ≤ 20 := by omega
  refine RV.trans (f1.mono (fun i hi => by omega)) (RV.same h1 t1 ?_)
  have ml := r_manyLies0 hN hY.2.1 h20 v3 t2' t4'
  simp (disch := omega) only [m_X12_lies, jn_X12_lies_17, jn_X12_lies_33, e1, ih, r_thr0, n3_neg1, ml, ↓lt_e, ↓gd_e, ↓Option.bind_some, ↓reduceIte, if_true, if_false, if_pT, if_nF, decide_true, Bool.not_true, Bool.not_false, not_true_eq_false, not_false_eq_true, Bool.false_eq_true, Bool.true_eq_false, eq_self, n3_lit, n3_add, n3_mul, n3_sub, n3_tn, n3_le_t, n3_le_f, n3_lt_t, n3_lt_f, n3_eq_f, n3_eq_t, n3_inb, n3_rem, n3_div, n3_zb, bb_0, bb_1, zb_bb, bb_T, bb_F, n3_dec, n3_m1, n3_eqm, n3_eqmt, n3_ltm, n3_mlt, n3_lem, n3_mle, n3_neg_lt, n3_nlt_neg, n3_nle_neg, n3_neg_le]
theorem R_likely_t {N : Nat} (hN : 1099511627776 ≤ N) {Λ : Lay} {ad : Nat → Nat} {μ : Mem} {F : Nat → Nat} {m : Nat} {A : Nat → Nat → Nat} {b : Nat} {J : Nat → Nat} {T : Nat → Int32} {n : Nat} {f : Int32} (hY : Ly Λ ad) (h : RR ad μ F m A b J T n f) (ho : Ok F m A b J T n)  (ht : tvO T n 24 2 = true) : RV ad μ (m_X12_likely N Λ μ (ad 181)) 0 (n3 (lkl T (n / 2) 288).1) F m A b J T 0 f := by
  have hj := hY.1
  obtain ⟨v1, v2, v3⟩ := tvO_t ht
  obtain ⟨μ1, e1, h1, t1, t2, t3, t4, f1⟩ := r_uses (N := N) (Λ := Λ) hj h
  have ih := r_isTouched hN hY.2.1 ho.2.2.2.2.2.2.1 t2 t4
  rw [bbB_t ht] at ih
  have hn2 : n = 2 * (n / 2) := by omega
  have t2' : μ1.1 (ad 181) 11 = n3 (2 * (n / 2)) := by rw [← hn2]; exact t2
  have t4' : ∀ k, k < 2 * (n / 2) → μ1.1 (ad 187) k = T k := by rw [← hn2]; exact t4
  have h20 : n / 2 ≤ 20 := by omega
  refine RV.trans (f1.mono (fun i hi => by omega)) (RV.same h1 t1 ?_)
  have es : m_X12_likely N Λ μ (ad 181) = lp_X12_likely_32 N Λ (ad 181) (n3 4294967295, n3 2, n3 0, μ1) := by
    simp (disch := omega) only [m_X12_likely, jn_X12_likely_17, e1, ih, r_thr0, n3_neg1, ↓lt_e, ↓gd_e, ↓Option.bind_some, ↓reduceIte, if_true, if_false, if_pT, if_nF, decide_true, Bool.not_true, Bool.not_false, not_true_eq_false, not_false_eq_true, Bool.false_eq_true, Bool.true_eq_false, eq_self, n3_lit, n3_add, n3_mul, n3_sub, n3_tn, n3_le_t, n3_le_f, n3_lt_t, n3_lt_f, n3_eq_f, n3_eq_t, n3_inb, n3_rem, n3_div, n3_zb, bb_0, bb_1, zb_bb, bb_T, bb_F, n3_dec, n3_m1, n3_eqm, n3_eqmt, n3_ltm, n3_mlt, n3_lem, n3_mle, n3_neg_lt, n3_nlt_neg, n3_nle_neg, n3_neg_le]
  rw [es]
  unfold lp_X12_likely_32
  refine cw_it (fun l => (n3 (lkl T (n / 2) l).1, n3 (lkl T (n / 2) l).2, n3 l, μ1)) 288 rfl (fun l hl k => ?_) (fun k => ?_) (by omega)
  · have rw' := r_wrongRows hN hY.2.1 hl h20 v3 t2' t4'
    have hwl := wrg_le T l (n / 2)
    have hl2 := lkl_le T (n / 2) l
    by_cases hv : l / 12 + l % 12 + 1 ≤ 24
    · rw [if_pos hv] at rw'
      by_cases hw : wrg T l (n / 2) < (lkl T (n / 2) l).2
      · rw [lkl_t hv hw]
        have em : min (lkl T (n / 2) l).2 (wrg T l (n / 2)) = wrg T l (n / 2) := by omega
        simp (disch := omega) only [jn_X12_likely_57, bd_X12_likely_32, jn_X12_likely_17, rw', n3_imin, em, ↓lt_e, ↓gd_e, ↓Option.bind_some, ↓reduceIte, if_true, if_false, if_pT, if_nF, decide_true, Bool.not_true, Bool.not_false, not_true_eq_false, not_false_eq_true, Bool.false_eq_true, Bool.true_eq_false, eq_self, n3_lit, n3_add, n3_mul, n3_sub, n3_tn, n3_le_t, n3_le_f, n3_lt_t, n3_lt_f, n3_eq_f, n3_eq_t, n3_inb, n3_rem, n3_div, n3_zb, bb_0, bb_1, zb_bb, bb_T, bb_F, n3_dec, n3_m1, n3_eqm, n3_eqmt, n3_ltm, n3_mlt, n3_lem, n3_mle, n3_neg_lt, n3_nlt_neg, n3_nle_neg, n3_neg_le]
      · rw [lkl_f hw]
        have em : min (lkl T (n / 2) l).2 (wrg T l (n / 2)) = (lkl T (n / 2) l).2 := by omega
        simp (disch := omega) only [jn_X12_likely_57, bd_X12_likely_32, jn_X12_likely_17, rw', n3_imin, em, ↓lt_e, ↓gd_e, ↓Option.bind_some, ↓reduceIte, if_true, if_false, if_pT, if_nF, decide_true, Bool.not_true, Bool.not_false, not_true_eq_false, not_false_eq_true, Bool.false_eq_true, Bool.true_eq_false, eq_self, n3_lit, n3_add, n3_mul, n3_sub, n3_tn, n3_le_t, n3_le_f, n3_lt_t, n3_lt_f, n3_eq_f, n3_eq_t, n3_inb, n3_rem, n3_div, n3_zb, bb_0, bb_1, zb_bb, bb_T, bb_F, n3_dec, n3_m1, n3_eqm, n3_eqmt, n3_ltm, n3_mlt, n3_lem, n3_mle, n3_neg_lt, n3_nlt_neg, n3_nle_neg, n3_neg_le]
    · rw [if_neg hv] at rw'
      rw [lkl_n (by omega)]
      have em : min (lkl T (n / 2) l).2 100000000 = (lkl T (n / 2) l).2 := by omega
      simp (disch := omega) only [jn_X12_likely_57, bd_X12_likely_32, jn_X12_likely_17, rw', n3_imin, em, ↓lt_e, ↓gd_e, ↓Option.bind_some, ↓reduceIte, if_true, if_false, if_pT, if_nF, decide_true, Bool.not_true, Bool.not_false, not_true_eq_false, not_false_eq_true, Bool.false_eq_true, Bool.true_eq_false, eq_self, n3_lit, n3_add, n3_mul, n3_sub, n3_tn, n3_le_t, n3_le_f, n3_lt_t, n3_lt_f, n3_eq_f, n3_eq_t, n3_inb, n3_rem, n3_div, n3_zb, bb_0, bb_1, zb_bb, bb_T, bb_F, n3_dec, n3_m1, n3_eqm, n3_eqmt, n3_ltm, n3_mlt, n3_lem, n3_mle, n3_neg_lt, n3_nlt_neg, n3_nle_neg, n3_neg_le]
  · simp (disch := omega) only [jn_X12_likely_57, bd_X12_likely_32, jn_X12_likely_17, ↓lt_e, ↓gd_e, ↓Option.bind_some, ↓reduceIte, if_true, if_false, if_pT, if_nF, decide_true, Bool.not_true, Bool.not_false, not_true_eq_false, not_false_eq_true, Bool.false_eq_true, Bool.true_eq_false, eq_self, n3_lit, n3_add, n3_mul, n3_sub, n3_tn, n3_le_t, n3_le_f, n3_lt_t, n3_lt_f, n3_eq_f, n3_eq_t, n3_inb, n3_rem, n3_div, n3_zb, bb_0, bb_1, zb_bb, bb_T, bb_F, n3_dec, n3_m1, n3_eqm, n3_eqmt, n3_ltm, n3_mlt, n3_lem, n3_mle, n3_neg_lt, n3_nlt_neg, n3_nle_neg, n3_neg_le]
theorem R_sound_t {N : Nat} (hN : 1099511627776 ≤ N) {Λ : Lay} {ad : Nat → Nat} {μ : Mem} {F : Nat → Nat} {m : Nat} {A : Nat → Nat → Nat} {b : Nat} {J : Nat → Nat} {T : Nat → Int32} {n : Nat} {f : Int32} (hY : Ly Λ ad) (h : RR ad μ F m A b J T n f) (ho : Ok F m A b J T n)  (ht : tvO T n 24 2 = true) : RV ad μ (m_X12_sound N Λ μ (ad 181)) 0 (n3 (sdS T (n / 2))) F m A b J T 0 f := by
  have hj := hY.1
  obtain ⟨v1, v2, v3⟩ := tvO_t ht
  obtain ⟨μ1, e1, h1, t1, t2, t3, t4, f1⟩ := r_uses (N := N) (Λ := Λ) hj h
  have ih := r_isTouched hN hY.2.1 ho.2.2.2.2.2.2.1 t2 t4
  rw [bbB_t ht] at ih
  have hn2 : n = 2 * (n / 2) := by omega
  have t2' : μ1.1 (ad 181) 11 = n3 (2 * (n / 2)) := by rw [← hn2]; exact t2
  have t4' : ∀ k, k < 2 * (n / 2) → μ1.1 (ad 187) k = T k := by rw [← hn2]; exact t4
  have h20 : n / 2 ≤ 20 := by omega
  refine RV.trans (f1.mono (fun i hi => by omega)) (RV.same h1 t1 ?_)
  have ml := r_manyLies0 hN hY.2.1 h20 v3 t2' t4'
  have es : m_X12_sound N Λ μ (ad 181) = lp_X12_sound_40 N Λ (ad 181) (n3 (ctP (slP T (n / 2)) 288)) (n3 4294967295, n3 100000000, n3 0, μ1) := by
    simp (disch := omega) only [m_X12_sound, jn_X12_sound_17, e1, ih, r_thr0, n3_neg1, ml, ↓lt_e, ↓gd_e, ↓Option.bind_some, ↓reduceIte, if_true, if_false, if_pT, if_nF, decide_true, Bool.not_true, Bool.not_false, not_true_eq_false, not_false_eq_true, Bool.false_eq_true, Bool.true_eq_false, eq_self, n3_lit, n3_add, n3_mul, n3_sub, n3_tn, n3_le_t, n3_le_f, n3_lt_t, n3_lt_f, n3_eq_f, n3_eq_t, n3_inb, n3_rem, n3_div, n3_zb, bb_0, bb_1, zb_bb, bb_T, bb_F, n3_dec, n3_m1, n3_eqm, n3_eqmt, n3_ltm, n3_mlt, n3_lem, n3_mle, n3_neg_lt, n3_nlt_neg, n3_nle_neg, n3_neg_le]
  rw [es]
  unfold lp_X12_sound_40
  have hle := ctP_le (slP T (n / 2)) 288
  have g0 : ∀ w, gsS T (n / 2) w < 100000000 := fun w => by have := cvP_le T (n / 2) w 288; unfold gsS; omega
  unfold sdS
  by_cases h2 : ctP (slP T (n / 2)) 288 < 2
  · rw [if_pos h2]
    refine cw_it (fun i => (n3 4294967295, n3 100000000, n3 i, μ1)) 0 rfl (fun i hi k => absurd hi (Nat.not_lt_zero i)) (fun k => ?_) (by omega)
    simp (disch := omega) only [bd_X12_sound_40, jn_X12_sound_97, ↓lt_e, ↓gd_e, ↓Option.bind_some, ↓reduceIte, if_true, if_false, if_pT, if_nF, decide_true, Bool.not_true, Bool.not_false, not_true_eq_false, not_false_eq_true, Bool.false_eq_true, Bool.true_eq_false, eq_self, n3_lit, n3_add, n3_mul, n3_sub, n3_tn, n3_le_t, n3_le_f, n3_lt_t, n3_lt_f, n3_eq_f, n3_eq_t, n3_inb, n3_rem, n3_div, n3_zb, bb_0, bb_1, zb_bb, bb_T, bb_F, n3_dec, n3_m1, n3_eqm, n3_eqmt, n3_ltm, n3_mlt, n3_lem, n3_mle, n3_neg_lt, n3_nlt_neg, n3_nle_neg, n3_neg_le]
  · rw [if_neg h2]
    refine cw_it (fun i => (n3 (bsh (gsS T (n / 2)) i).1, n3 (bsh (gsS T (n / 2)) i).2, n3 i, μ1)) 24 rfl (fun i hi k => ?_) (fun k => ?_) (by omega)
    · have m1 := r_manyLies1 hN hY.2.1 h20 v3 t2' t4' hi
      have cl := cvP_le T (n / 2) i 288
      have gi := g0 i
      have gd' : max (ctP (cvP T (n / 2) i) 288) (ctP (slP T (n / 2)) 288 - ctP (cvP T (n / 2) i) 288) = gsS T (n / 2) i := rfl
      have b2 := bsh_le2 (gsS T (n / 2)) i
      by_cases c : gsS T (n / 2) i < (bsh (gsS T (n / 2)) i).2
      · have b4 : bsh (gsS T (n / 2)) (i + 1) = (i, gsS T (n / 2) i) := if_pos c
        rw [b4]
        have em : min (bsh (gsS T (n / 2)) i).2 (gsS T (n / 2) i) = gsS T (n / 2) i := by omega
        simp (disch := omega) only [bd_X12_sound_40, jn_X12_sound_83, m1, n3_imax, gd', n3_imin, em, ↓lt_e, ↓gd_e, ↓Option.bind_some, ↓reduceIte, if_true, if_false, if_pT, if_nF, decide_true, Bool.not_true, Bool.not_false, not_true_eq_false, not_false_eq_true, Bool.false_eq_true, Bool.true_eq_false, eq_self, n3_lit, n3_add, n3_mul, n3_sub, n3_tn, n3_le_t, n3_le_f, n3_lt_t, n3_lt_f, n3_eq_f, n3_eq_t, n3_inb, n3_rem, n3_div, n3_zb, bb_0, bb_1, zb_bb, bb_T, bb_F, n3_dec, n3_m1, n3_eqm, n3_eqmt, n3_ltm, n3_mlt, n3_lem, n3_mle, n3_neg_lt, n3_nlt_neg, n3_nle_neg, n3_neg_le]
      · have b4 : bsh (gsS T (n / 2)) (i + 1) = bsh (gsS T (n / 2)) i := if_neg c
        rw [b4]
        have em : min (bsh (gsS T (n / 2)) i).2 (gsS T (n / 2) i) = (bsh (gsS T (n / 2)) i).2 := by omega
        simp (disch := omega) only [bd_X12_sound_40, jn_X12_sound_83, m1, n3_imax, gd', n3_imin, em, ↓lt_e, ↓gd_e, ↓Option.bind_some, ↓reduceIte, if_true, if_false, if_pT, if_nF, decide_true, Bool.not_true, Bool.not_false, not_true_eq_false, not_false_eq_true, Bool.false_eq_true, Bool.true_eq_false, eq_self, n3_lit, n3_add, n3_mul, n3_sub, n3_tn, n3_le_t, n3_le_f, n3_lt_t, n3_lt_f, n3_eq_f, n3_eq_t, n3_inb, n3_rem, n3_div, n3_zb, bb_0, bb_1, zb_bb, bb_T, bb_F, n3_dec, n3_m1, n3_eqm, n3_eqmt, n3_ltm, n3_mlt, n3_lem, n3_mle, n3_neg_lt, n3_nlt_neg, n3_nle_neg, n3_neg_le]
    · simp (disch := omega) only [bd_X12_sound_40, jn_X12_sound_97, ↓lt_e, ↓gd_e, ↓Option.bind_some, ↓reduceIte, if_true, if_false, if_pT, if_nF, decide_true, Bool.not_true, Bool.not_false, not_true_eq_false, not_false_eq_true, Bool.false_eq_true, Bool.true_eq_false, eq_self, n3_lit, n3_add, n3_mul, n3_sub, n3_tn, n3_le_t, n3_le_f, n3_lt_t, n3_lt_f, n3_eq_f, n3_eq_t, n3_inb, n3_rem, n3_div, n3_zb, bb_0, bb_1, zb_bb, bb_T, bb_F, n3_dec, n3_m1, n3_eqm, n3_eqmt, n3_ltm, n3_mlt, n3_lem, n3_mle, n3_neg_lt, n3_nlt_neg, n3_nle_neg, n3_neg_le]

/-! goes, ask -/
theorem RV.trans {ad : Nat → Nat} {μ μ1 : Mem} {F : Nat → Nat} {m : Nat} {A : Nat → Nat → Nat} {b : Nat} {J : Nat → Nat} {T : Nat → Int32} {n : Nat} {f : Int32} {r : Option (Int32 × Mem)} {t : Nat} {v : Int32} (hf : Fr ad (fun i => 181 ≤ i ∧ i < 200) μ μ1) (h : RV ad μ1 r t v F m A b J T n f) : RV ad μ r t v F m A b J T n f := by
  obtain ⟨μ', e, h1, h2, h3⟩ := h
  exact ⟨μ', e, h1, h2, hf.trans h3⟩
theorem r_uses {N : Nat} {Λ : Lay} {ad : Nat → Nat} {μ : Mem} {F : Nat → Nat} {m : Nat} {A : Nat → Nat → Nat} {b : Nat} {J : Nat → Nat} {T : Nat → Int32} {n : Nat} {f : Int32} (hj : Inj ad) (h : RR ad μ F m A b J T n f) : ∃ μ1, m_X12_uses N Λ μ (ad 181) = some μ1 ∧ RR ad μ1 F m A b J T 0 f ∧ μ1.1 (ad 181) 0 = n3 0 ∧ μ1.1 (ad 181) 11 = n3 n ∧ μ1.1 (ad 181) 10 = n3 0 ∧ (∀ k, k < n → μ1.1 (ad 187) k = T k) ∧ Fr ad (fun i => i = 181) μ μ1 := by
  have ff : Fr ad (fun i => i = 181) μ (mset (mset (mset (mset μ (ad 181) 0 (n3 0)) (ad 181) 11 (n3 n)) (ad 181) 9 (n3 0)) (ad 181) 10 (n3 0)) := ((((Fr.refl μ).set hj (by rfl)).set hj (by rfl)).set hj (by rfl)).set hj (by rfl)
  have e1 : ∀ k, k ≠ 0 → k ≠ 9 → k ≠ 10 → k ≠ 11 → (mset (mset (mset (mset μ (ad 181) 0 (n3 0)) (ad 181) 11 (n3 n)) (ad 181) 9 (n3 0)) (ad 181) 10 (n3 0)).1 (ad 181) k = μ.1 (ad 181) k := fun k a0 a9 a10 a11 => by
    rw [msn a10, msn a9, msn a11, msn a0]
  have e9 := h.2.2.2.1.1
  refine ⟨mset (mset (mset (mset μ (ad 181) 0 (n3 0)) (ad 181) 11 (n3 n)) (ad 181) 9 (n3 0)) (ad 181) 10 (n3 0), ?_, ⟨h.1.fr ff (by omega), ⟨by rw [e1 7 (by omega) (by omega) (by omega) (by omega)]; exact h.2.1.1, by rw [(ff 186 (by omega)).1]; exact h.2.1.2⟩, ⟨by rw [e1 6 (by omega) (by omega) (by omega) (by omega)]; exact h.2.2.1.1, fun hb => Row.fr (h.2.2.1.2 hb) ff (by omega)⟩, ⟨by rw [msn (by omega), mse], fun k hk => absurd hk (Nat.not_lt_zero k)⟩, by rw [e1 14 (by omega) (by omega) (by omega) (by omega)]; exact h.2.2.2.2⟩, by rw [msn (by omega), msn (by omega), msn (by omega), mse], by rw [msn (by omega), msn (by omega), mse], mse _ _ _ _, by rw [(ff 187 (by omega)).1]; exact h.2.2.2.1.2, ff⟩
  have e9' : (mset μ (ad 181) 0 (n3 0)).1 (ad 181) 9 = n3 n := by rw [msn (by omega)]; exact e9
  simp (disch := omega) only [m_X12_uses, e9', ↓lt_e, ↓gd_e, ↓Option.bind_some, ↓reduceIte, if_true, if_false, if_pT, if_nF, decide_true, Bool.not_true, Bool.not_false, not_true_eq_false, not_false_eq_true, Bool.false_eq_true, Bool.true_eq_false, eq_self, n3_lit]
theorem Ok.used {F : Nat → Nat} {m : Nat} {A : Nat → Nat → Nat} {b : Nat} {J : Nat → Nat} {T : Nat → Int32} {n : Nat} (ho : Ok F m A b J T n) : Ok F m A b J T 0 := ho.tend (Nat.zero_le n)
theorem c_needCurves {N : Nat} (hN : 1099511627776 ≤ N) {Λ : Lay} {ad : Nat → Nat} {μ : Mem} {F : Nat → Nat} {m : Nat} {A : Nat → Nat → Nat} {b : Nat} {J : Nat → Nat} {T : Nat → Int32} {n : Nat} {f : Int32} (hY : Ly Λ ad) (h : RC ad μ F m A b J T n f) (ho : Ok F m A b J T n)  : ∃ μ', m_X11_needCurves N Λ μ (ad 0) = some (if tvO T n 100 31 = true then 0 else 1, 0, μ') ∧ RC ad μ' F m A b J T 0 f ∧ (tvO T n 100 31 = true → CQ0 ad μ' T (n / 2)) ∧ Fr ad (fun i => i < 181) μ μ' := by
  have hj := hY.1
  have hP := hY.2.2.1
  have hS := hY.2.2.2.1 3 (Or.inl rfl)
  have hL := hY.2.2.2.2.1 30 (Or.inl rfl)
  have hC := h.1
  have hw := ho.1
  have hl := ho.2.1
  have hb := hw.1; unfold WB at hb
  have hQ := hY.2.2.2.2.2.2.2.1
  have hn := h.2.2.2.2.1
  obtain ⟨μ1, e1, q1, f1⟩ := c_cread hN hj hP hQ ho.2.2.2.2.2.2.1 hn.1 hn.2 ho.2.2.2.2.2.2.2
  have f2 : Fr ad (fun i => i = 1) μ1 (mset μ1 (ad 1) 1 (n3 0)) := (Fr.refl μ1).set hj (by rfl)
  have f3 : Fr ad (fun i => i = 1 ∨ 166 ≤ i ∧ i ≤ 168) μ (mset μ1 (ad 1) 1 (n3 0)) := (f1.mono (fun i hi => by omega)).trans (f2.mono (fun i hi => by omega))
  refine ⟨_, ?_, h.tape (mse _ _ _ _) (fun k hk => absurd hk (Nat.not_lt_zero k)) (f3.mono (fun i hi => by unfold ScC; omega)), fun ht => (q1 ht).fr f2 (by rw [mso hj (by omega)]) (by omega) (by omega), f3.mono (fun i hi => by omega)⟩
  cases hb1 : tvO T n 100 31 with
  | true =>
    rw [bbB_t hb1] at e1
    simp (disch := omega) only [m_X11_needCurves, ↓ob (hP.1), ↓ob (hP.2.1), ↓ob (hP.2.2.1), ↓ob (hP.2.2.2.1), ↓ob (hP.2.2.2.2.1), ↓ob (hP.2.2.2.2.2.1), ↓ob (hP.2.2.2.2.2.2.1), ↓ob (hP.2.2.2.2.2.2.2.1), ↓ob (hP.2.2.2.2.2.2.2.2.1), ↓ob (hP.2.2.2.2.2.2.2.2.2.1), ↓ob (hP.2.2.2.2.2.2.2.2.2.2.1), ↓ob (hP.2.2.2.2.2.2.2.2.2.2.2.1), ↓ob (hP.2.2.2.2.2.2.2.2.2.2.2.2.1), ↓ob (hP.2.2.2.2.2.2.2.2.2.2.2.2.2.1), hP.2.2.2.2.2.2.2.2.2.2.2.2.2.2, e1, ↓lt_e, ↓gd_e, ↓Option.bind_some, ↓reduceIte, if_true, if_false, if_pT, if_nF, decide_true, Bool.not_true, Bool.not_false, not_true_eq_false, not_false_eq_true, Bool.false_eq_true, Bool.true_eq_false, eq_self, n3_lit, n3_add, n3_mul, n3_sub, n3_tn, n3_le_t, n3_le_f, n3_lt_t, n3_lt_f, n3_eq_f, n3_eq_t, n3_inb, n3_rem, n3_div, n3_zb, bb_0, bb_1, zb_bb, bb_T, bb_F, n3_dec, n3_m1, n3_eqm, n3_eqmt, n3_ltm, n3_mlt, n3_lem, n3_mle, n3_neg_lt, n3_nlt_neg, n3_nle_neg, n3_neg_le]
  | false =>
    rw [bbB_f hb1] at e1
    simp (disch := omega) only [m_X11_needCurves, ↓ob (hP.1), ↓ob (hP.2.1), ↓ob (hP.2.2.1), ↓ob (hP.2.2.2.1), ↓ob (hP.2.2.2.2.1), ↓ob (hP.2.2.2.2.2.1), ↓ob (hP.2.2.2.2.2.2.1), ↓ob (hP.2.2.2.2.2.2.2.1), ↓ob (hP.2.2.2.2.2.2.2.2.1), ↓ob (hP.2.2.2.2.2.2.2.2.2.1), ↓ob (hP.2.2.2.2.2.2.2.2.2.2.1), ↓ob (hP.2.2.2.2.2.2.2.2.2.2.2.1), ↓ob (hP.2.2.2.2.2.2.2.2.2.2.2.2.1), ↓ob (hP.2.2.2.2.2.2.2.2.2.2.2.2.2.1), hP.2.2.2.2.2.2.2.2.2.2.2.2.2.2, e1, ↓lt_e, ↓gd_e, ↓Option.bind_some, ↓reduceIte, if_true, if_false, if_pT, if_nF, decide_true, Bool.not_true, Bool.not_false, not_true_eq_false, not_false_eq_true, Bool.false_eq_true, Bool.true_eq_false, eq_self, n3_lit, n3_add, n3_mul, n3_sub, n3_tn, n3_le_t, n3_le_f, n3_lt_t, n3_lt_f, n3_eq_f, n3_eq_t, n3_inb, n3_rem, n3_div, n3_zb, bb_0, bb_1, zb_bb, bb_T, bb_F, n3_dec, n3_m1, n3_eqm, n3_eqmt, n3_ltm, n3_mlt, n3_lem, n3_mle, n3_neg_lt, n3_nlt_neg, n3_nle_neg, n3_neg_le]
theorem C_goes_f {N : Nat} (hN : 1099511627776 ≤ N) {Λ : Lay} {ad : Nat → Nat} {μ : Mem} {F : Nat → Nat} {m : Nat} {A : Nat → Nat → Nat} {b : Nat} {J : Nat → Nat} {T : Nat → Int32} {n : Nat} {f : Int32} (hY : Ly Λ ad) (h : RC ad μ F m A b J T n f) (ho : Ok F m A b J T n)  (x : Int32) (ht : tvO T n 100 31 = false) : CT ad μ (m_X11_goes N Λ μ (ad 0) x) 1 0 F m A b J T 0 f := by
  obtain ⟨μ1, e1, h1, q1, f1⟩ := c_needCurves hN hY h ho
  refine ⟨μ1, ?_, h1, f1⟩
  rw [ht] at e1
  unfold m_X11_goes
  rw [e1]; rfl
theorem C_goes_t {N : Nat} (hN : 1099511627776 ≤ N) {Λ : Lay} {ad : Nat → Nat} {μ : Mem} {F : Nat → Nat} {m : Nat} {A : Nat → Nat → Nat} {b : Nat} {J : Nat → Nat} {T : Nat → Int32} {n : Nat} {f : Int32} (hY : Ly Λ ad) (h : RC ad μ F m A b J T n f) (ho : Ok F m A b J T n)  (x : Int32) (ht : tvO T n 100 31 = true) : CT ad μ (m_X11_goes N Λ μ (ad 0) x) 0 (n3 (if x = n3 0 then ctP (fun c => ftc T c (n / 2)) 11532 else fsu (fun c => ftc T c (n / 2)) 0 11532)) F m A b J T 0 f := by
  have hj := hY.1
  have hP := hY.2.2.1
  have hQ := hY.2.2.2.2.2.2.2.1
  obtain ⟨t1, t2, t3⟩ := tvO_t ht
  obtain ⟨μ1, e1, h1, q1, f1⟩ := c_needCurves hN hY h ho
  obtain ⟨μ2, e2, q2, f2⟩ := c_search hN hj hQ (p := 0) (show n / 2 ≤ 20 by omega) (by omega) t3 (q1 ht)
  refine ⟨μ2, ?_, h1.fr (f2.mono (fun i hi => by unfold ScC; omega)), f1.trans (f2.mono (fun i hi => by omega))⟩
  rw [ht] at e1
  unfold m_X11_goes jn_X11_goes_33
  rw [e1]
  by_cases hx : x = n3 0
  · rw [if_pos hx]
    simp (disch := omega) only [thn_T, thn_0, thn_1, thn_2, thn_3, thn_4, thn_5, ↓ob (hP.1), ↓ob (hP.2.1), ↓ob (hP.2.2.1), ↓ob (hP.2.2.2.1), ↓ob (hP.2.2.2.2.1), ↓ob (hP.2.2.2.2.2.1), ↓ob (hP.2.2.2.2.2.2.1), ↓ob (hP.2.2.2.2.2.2.2.1), ↓ob (hP.2.2.2.2.2.2.2.2.1), ↓ob (hP.2.2.2.2.2.2.2.2.2.1), ↓ob (hP.2.2.2.2.2.2.2.2.2.2.1), ↓ob (hP.2.2.2.2.2.2.2.2.2.2.2.1), ↓ob (hP.2.2.2.2.2.2.2.2.2.2.2.2.1), ↓ob (hP.2.2.2.2.2.2.2.2.2.2.2.2.2.1), hP.2.2.2.2.2.2.2.2.2.2.2.2.2.2, e2, hx, q2.1, ↓lt_e, ↓gd_e, ↓Option.bind_some, ↓reduceIte, if_true, if_false, if_pT, if_nF, decide_true, Bool.not_true, Bool.not_false, not_true_eq_false, not_false_eq_true, Bool.false_eq_true, Bool.true_eq_false, eq_self, n3_lit]
  · rw [if_neg hx]
    simp (disch := omega) only [thn_T, thn_0, thn_1, thn_2, thn_3, thn_4, thn_5, ↓ob (hP.1), ↓ob (hP.2.1), ↓ob (hP.2.2.1), ↓ob (hP.2.2.2.1), ↓ob (hP.2.2.2.2.1), ↓ob (hP.2.2.2.2.2.1), ↓ob (hP.2.2.2.2.2.2.1), ↓ob (hP.2.2.2.2.2.2.2.1), ↓ob (hP.2.2.2.2.2.2.2.2.1), ↓ob (hP.2.2.2.2.2.2.2.2.2.1), ↓ob (hP.2.2.2.2.2.2.2.2.2.2.1), ↓ob (hP.2.2.2.2.2.2.2.2.2.2.2.1), ↓ob (hP.2.2.2.2.2.2.2.2.2.2.2.2.1), ↓ob (hP.2.2.2.2.2.2.2.2.2.2.2.2.2.1), hP.2.2.2.2.2.2.2.2.2.2.2.2.2.2, e2, hx, q2.2.1, ↓lt_e, ↓gd_e, ↓Option.bind_some, ↓reduceIte, if_true, if_false, if_pT, if_nF, decide_true, Bool.not_true, Bool.not_false, not_true_eq_false, not_false_eq_true, Bool.false_eq_true, Bool.true_eq_false, eq_self, n3_lit]
theorem C_ask_f {N : Nat} (hN : 1099511627776 ≤ N) {Λ : Lay} {ad : Nat → Nat} {μ : Mem} {F : Nat → Nat} {m : Nat} {A : Nat → Nat → Nat} {b : Nat} {J : Nat → Nat} {T : Nat → Int32} {n : Nat} {f : Int32} (hY : Ly Λ ad) (h : RC ad μ F m A b J T n f) (ho : Ok F m A b J T n)  (ht : tvO T n 100 31 = false) : CT ad μ (m_X11_ask N Λ μ (ad 0)) 1 0 F m A b J T 0 f := by
  obtain ⟨μ1, e1, h1, q1, f1⟩ := c_needCurves hN hY h ho
  refine ⟨μ1, ?_, h1, f1⟩
  rw [ht] at e1
  unfold m_X11_ask
  rw [e1]; rfl
theorem C_ask_t {N : Nat} (hN : 1099511627776 ≤ N) {Λ : Lay} {ad : Nat → Nat} {μ : Mem} {F : Nat → Nat} {m : Nat} {A : Nat → Nat → Nat} {b : Nat} {J : Nat → Nat} {T : Nat → Int32} {n : Nat} {f : Int32} (hY : Ly Λ ad) (h : RC ad μ F m A b J T n f) (ho : Ok F m A b J T n)  (ht : tvO T n 100 31 = true) : CT ad μ (m_X11_ask N Λ μ (ad 0)) 0 (n3 (akC T (n / 2))) F m A b J T 0 f := by
  have hj := hY.1
  have hP := hY.2.2.1
  have hQ := hY.2.2.2.2.2.2.2.1
  obtain ⟨t1, t2, t3⟩ := tvO_t ht
  obtain ⟨μ1, e1, h1, q1, f1⟩ := c_needCurves hN hY h ho
  obtain ⟨μ2, e2, q2, f2⟩ := c_search hN hj hQ (p := 1) (show n / 2 ≤ 20 by omega) (by omega) t3 (q1 ht)
  have e3 : m_X0_search N Λ μ1 (ad 166) 1 = some μ2 := e2
  have cb := c_bestHour hN hQ q2
  refine ⟨μ2, ?_, h1.fr (f2.mono (fun i hi => by unfold ScC; omega)), f1.trans (f2.mono (fun i hi => by omega))⟩
  rw [ht] at e1
  unfold m_X11_ask
  rw [e1]
  simp (disch := omega) only [thn_T, thn_0, thn_1, thn_2, thn_3, thn_4, thn_5, ↓ob (hP.1), ↓ob (hP.2.1), ↓ob (hP.2.2.1), ↓ob (hP.2.2.2.1), ↓ob (hP.2.2.2.2.1), ↓ob (hP.2.2.2.2.2.1), ↓ob (hP.2.2.2.2.2.2.1), ↓ob (hP.2.2.2.2.2.2.2.1), ↓ob (hP.2.2.2.2.2.2.2.2.1), ↓ob (hP.2.2.2.2.2.2.2.2.2.1), ↓ob (hP.2.2.2.2.2.2.2.2.2.2.1), ↓ob (hP.2.2.2.2.2.2.2.2.2.2.2.1), ↓ob (hP.2.2.2.2.2.2.2.2.2.2.2.2.1), ↓ob (hP.2.2.2.2.2.2.2.2.2.2.2.2.2.1), hP.2.2.2.2.2.2.2.2.2.2.2.2.2.2, e3, cb, ↓lt_e, ↓gd_e, ↓Option.bind_some, ↓reduceIte, if_true, if_false, if_pT, if_nF, decide_true, Bool.not_true, Bool.not_false, not_true_eq_false, not_false_eq_true, Bool.false_eq_true, Bool.true_eq_false, eq_self]
theorem R_goes_f {N : Nat} (hN : 1099511627776 ≤ N) {Λ : Lay} {ad : Nat → Nat} {μ : Mem} {F : Nat → Nat} {m : Nat} {A : Nat → Nat → Nat} {b : Nat} {J : Nat → Nat} {T : Nat → Int32} {n : Nat} {f : Int32} (hY : Ly Λ ad) (h : RR ad μ F m A b J T n f) (ho : Ok F m A b J T n)  (x : Int32) (ht : tvO T n 100 31 = false) : RV ad μ (m_X12_goes N Λ μ (ad 181) x) 1 0 F m A b J T 0 f := by
  have hj := hY.1
  obtain ⟨μ1, e1, h1, t1, t2, t3, t4, f1⟩ := r_uses (N := N) (Λ := Λ) hj h
  refine RV.trans (f1.mono (fun i hi => by omega)) (RV.thrown hj h1 ?_)
  have ih := r_isHeights hN hY.2.1 ho.2.2.2.2.2.2.1 t2 t4
  rw [bbB_f ht] at ih
  simp (disch := omega) only [m_X12_goes, jn_X12_goes_17, e1, ih, r_thr1, ↓lt_e, ↓gd_e, ↓Option.bind_some, ↓reduceIte, if_true, if_false, if_pT, if_nF, decide_true, Bool.not_true, Bool.not_false, not_true_eq_false, not_false_eq_true, Bool.false_eq_true, Bool.true_eq_false, eq_self, n3_lit, n3_add, n3_mul, n3_sub, n3_tn, n3_le_t, n3_le_f, n3_lt_t, n3_lt_f, n3_eq_f, n3_eq_t, n3_inb, n3_rem, n3_div, n3_zb, bb_0, bb_1, zb_bb, bb_T, bb_F, n3_dec, n3_m1, n3_eqm, n3_eqmt, n3_ltm, n3_mlt, n3_lem, n3_mle, n3_neg_lt, n3_nlt_neg, n3_nle_neg, n3_neg_le]
theorem R_goes_t {N : Nat} (hN : 1099511627776 ≤ N) {Λ : Lay} {ad : Nat → Nat} {μ : Mem} {F : Nat → Nat} {m : Nat} {A : Nat → Nat → Nat} {b : Nat} {J : Nat → Nat} {T : Nat → Int32} {n : Nat} {f : Int32} (hY : Ly Λ ad) (h : RR ad μ F m A b J T n f) (ho : Ok F m A b J T n)  (x : Int32) (ht : tvO T n 100 31 = true) : RV ad μ (m_X12_goes N Λ μ (ad 181) x) 0 (n3 (if x = n3 0 then ctP (fun c => ftc T c (n / 2)) 11532 else fsu (fun c => ftc T c (n / 2)) 0 11532)) F m A b J T 0 f := by
  have hj := hY.1
  obtain ⟨v1, v2, v3⟩ := tvO_t ht
  obtain ⟨μ1, e1, h1, t1, t2, t3, t4, f1⟩ := r_uses (N := N) (Λ := Λ) hj h
  have ih := r_isHeights hN hY.2.1 ho.2.2.2.2.2.2.1 t2 t4
  rw [bbB_t ht] at ih
  have hn2 : n = 2 * (n / 2) := by omega
  obtain ⟨μ2, e2, q2, f2⟩ := r_laysCurves hN hj hY.2.1 (show n / 2 ≤ 20 by omega) v3 (by rw [← hn2]; exact t2) (by rw [← hn2]; exact t4)
  have ff := r_firstFitting hN hY.2.1 (p := fun c => ftc T c (n / 2)) q2
  refine RV.trans (f1.mono (fun i hi => by omega)) (RV.scr h1 t1 (f2.mono (fun i hi => by unfold ScX; omega)) ?_)
  by_cases hx : x = n3 0
  · rw [if_pos hx]
    simp (disch := omega) only [m_X12_goes, jn_X12_goes_17, jn_X12_goes_46, e1, ih, r_thr0, e2, hx, ↓lt_e, ↓gd_e, ↓Option.bind_some, ↓reduceIte, if_true, if_false, if_pT, if_nF, decide_true, Bool.not_true, Bool.not_false, not_true_eq_false, not_false_eq_true, Bool.false_eq_true, Bool.true_eq_false, eq_self, n3_lit, n3_add, n3_mul, n3_sub, n3_tn, n3_le_t, n3_le_f, n3_lt_t, n3_lt_f, n3_eq_f, n3_eq_t, n3_inb, n3_rem, n3_div, n3_zb, bb_0, bb_1, zb_bb, bb_T, bb_F, n3_dec, n3_m1, n3_eqm, n3_eqmt, n3_ltm, n3_mlt, n3_lem, n3_mle, n3_neg_lt, n3_nlt_neg, n3_nle_neg, n3_neg_le]
  · rw [if_neg hx]
    simp (disch := omega) only [m_X12_goes, jn_X12_goes_17, jn_X12_goes_46, e1, ih, r_thr0, e2, hx, ff, ↓lt_e, ↓gd_e, ↓Option.bind_some, ↓reduceIte, if_true, if_false, if_pT, if_nF, decide_true, Bool.not_true, Bool.not_false, not_true_eq_false, not_false_eq_true, Bool.false_eq_true, Bool.true_eq_false, eq_self, n3_lit, n3_add, n3_mul, n3_sub, n3_tn, n3_le_t, n3_le_f, n3_lt_t, n3_lt_f, n3_eq_f, n3_eq_t, n3_inb, n3_rem, n3_div, n3_zb, bb_0, bb_1, zb_bb, bb_T, bb_F, n3_dec, n3_m1, n3_eqm, n3_eqmt, n3_ltm, n3_mlt, n3_lem, n3_mle, n3_neg_lt, n3_nlt_neg, n3_nle_neg, n3_neg_le]
theorem R_ask_f {N : Nat} (hN : 1099511627776 ≤ N) {Λ : Lay} {ad : Nat → Nat} {μ : Mem} {F : Nat → Nat} {m : Nat} {A : Nat → Nat → Nat} {b : Nat} {J : Nat → Nat} {T : Nat → Int32} {n : Nat} {f : Int32} (hY : Ly Λ ad) (h : RR ad μ F m A b J T n f) (ho : Ok F m A b J T n)  (ht : tvO T n 100 31 = false) : RV ad μ (m_X12_ask N Λ μ (ad 181)) 1 0 F m A b J T 0 f := by
  have hj := hY.1
  obtain ⟨μ1, e1, h1, t1, t2, t3, t4, f1⟩ := r_uses (N := N) (Λ := Λ) hj h
  refine RV.trans (f1.mono (fun i hi => by omega)) (RV.thrown hj h1 ?_)
  have ih := r_isHeights hN hY.2.1 ho.2.2.2.2.2.2.1 t2 t4
  rw [bbB_f ht] at ih
  simp (disch := omega) only [m_X12_ask, jn_X12_ask_17, e1, ih, r_thr1, ↓lt_e, ↓gd_e, ↓Option.bind_some, ↓reduceIte, if_true, if_false, if_pT, if_nF, decide_true, Bool.not_true, Bool.not_false, not_true_eq_false, not_false_eq_true, Bool.false_eq_true, Bool.true_eq_false, eq_self, n3_lit, n3_add, n3_mul, n3_sub, n3_tn, n3_le_t, n3_le_f, n3_lt_t, n3_lt_f, n3_eq_f, n3_eq_t, n3_inb, n3_rem, n3_div, n3_zb, bb_0, bb_1, zb_bb, bb_T, bb_F, n3_dec, n3_m1, n3_eqm, n3_eqmt, n3_ltm, n3_mlt, n3_lem, n3_mle, n3_neg_lt, n3_nlt_neg, n3_nle_neg, n3_neg_le]
theorem R_ask_t {N : Nat} (hN : 1099511627776 ≤ N) {Λ : Lay} {ad : Nat → Nat} {μ : Mem} {F : Nat → Nat} {m : Nat} {A : Nat → Nat → Nat} {b : Nat} {J : Nat → Nat} {T : Nat → Int32} {n : Nat} {f : Int32} (hY : Ly Λ ad) (h : RR ad μ F m A b J T n f) (ho : Ok F m A b J T n)  (ht : tvO T n 100 31 = true) : RV ad μ (m_X12_ask N Λ μ (ad 181)) 0 (n3 (akC T (n / 2))) F m A b J T 0 f := by
  have hj := hY.1
  obtain ⟨v1, v2, v3⟩ := tvO_t ht
  obtain ⟨μ1, e1, h1, t1, t2, t3, t4, f1⟩ := r_uses (N := N) (Λ := Λ) hj h
  have ih := r_isHeights hN hY.2.1 ho.2.2.2.2.2.2.1 t2 t4
  rw [bbB_t ht] at ih
  have hn2 : n = 2 * (n / 2) := by omega
  obtain ⟨μ2, e2, q2, f2⟩ := r_laysCurves hN hj hY.2.1 (show n / 2 ≤ 20 by omega) v3 (by rw [← hn2]; exact t2) (by rw [← hn2]; exact t4)
  have es : m_X12_ask N Λ μ (ad 181) = lp_X12_ask_39 N Λ (ad 181) (n3 (ctP (fun c => ftc T c (n / 2)) 11532)) (n3 4294967295, n3 100000000, n3 0, μ2) := by
    simp (disch := omega) only [m_X12_ask, jn_X12_ask_17, e1, ih, r_thr0, e2, n3_neg1, ↓lt_e, ↓gd_e, ↓Option.bind_some, ↓reduceIte, if_true, if_false, if_pT, if_nF, decide_true, Bool.not_true, Bool.not_false, not_true_eq_false, not_false_eq_true, Bool.false_eq_true, Bool.true_eq_false, eq_self, n3_lit, n3_add, n3_mul, n3_sub, n3_tn, n3_le_t, n3_le_f, n3_lt_t, n3_lt_f, n3_eq_f, n3_eq_t, n3_inb, n3_rem, n3_div, n3_zb, bb_0, bb_1, zb_bb, bb_T, bb_F, n3_dec, n3_m1, n3_eqm, n3_eqmt, n3_ltm, n3_mlt, n3_lem, n3_mle, n3_neg_lt, n3_nlt_neg, n3_nle_neg, n3_neg_le]
  refine RV.trans (f1.mono (fun i hi => by omega)) ?_
  rw [es]
  unfold lp_X12_ask_39
  have hle := ctP_le (fun c => ftc T c (n / 2)) 11532
  have g0 : ∀ w, gpC T (n / 2) w < 100000000 := fun w => by have := gpC_le T (n / 2) w; omega
  unfold akC
  by_cases h2 : ctP (fun c => ftc T c (n / 2)) 11532 < 2
  · rw [if_pos h2]
    refine RV.scr h1 t1 (f2.mono (fun i hi => by unfold ScX; omega)) ?_
    refine cw_it (fun i => (n3 4294967295, n3 100000000, n3 i, μ2)) 0 rfl (fun i hi k => absurd hi (Nat.not_lt_zero i)) (fun k => ?_) (by omega)
    simp (disch := omega) only [bd_X12_ask_39, jn_X12_ask_85, ↓lt_e, ↓gd_e, ↓Option.bind_some, ↓reduceIte, if_true, if_false, if_pT, if_nF, decide_true, Bool.not_true, Bool.not_false, not_true_eq_false, not_false_eq_true, Bool.false_eq_true, Bool.true_eq_false, eq_self, n3_lit, n3_add, n3_mul, n3_sub, n3_tn, n3_le_t, n3_le_f, n3_lt_t, n3_lt_f, n3_eq_f, n3_eq_t, n3_inb, n3_rem, n3_div, n3_zb, bb_0, bb_1, zb_bb, bb_T, bb_F, n3_dec, n3_m1, n3_eqm, n3_eqmt, n3_ltm, n3_mlt, n3_lem, n3_mle, n3_neg_lt, n3_nlt_neg, n3_nle_neg, n3_neg_le]
  · rw [if_neg h2]
    refine cw_iv (P := fun i s => ∃ μ3 : Mem, s = (n3 (bsh (gpC T (n / 2)) i).1, n3 (bsh (gpC T (n / 2)) i).2, n3 i, μ3) ∧ (∀ c, c < 11532 → μ3.1 (ad 194) c = n3 (bb (ftc T c (n / 2) = true))) ∧ Fr ad (fun i => i = 194 ∨ i = 195) μ1 μ3) (Q := fun X => RV ad μ1 X 0 (n3 (bsh (gpC T (n / 2)) 12).1) F m A b J T 0 f) 100 ⟨μ2, rfl, q2, f2.mono (fun i hi => by omega)⟩ (fun i hi s hs => ?_) (fun s hs => ?_) (show 100 < N by omega)
    · obtain ⟨μ3, rfl, q3, f3⟩ := hs
      left
      obtain ⟨μ4, e4, f4⟩ := r_partIn hN hj hY.2.1 q3 (show i ≤ 99 by omega)
      have gi := g0 i
      have b2 := bsh_le2 (gpC T (n / 2)) i
      refine ⟨_, ⟨μ4, rfl, by rw [(f4 194 (by omega)).1]; exact q3, f3.trans (f4.mono (fun i hi => by omega))⟩, fun k => ?_⟩
      by_cases c : gpC T (n / 2) i < (bsh (gpC T (n / 2)) i).2
      · have b4 : bsh (gpC T (n / 2)) (i + 1) = (i, gpC T (n / 2) i) := if_pos c
        rw [b4]
        have em : min (bsh (gpC T (n / 2)) i).2 (gpC T (n / 2) i) = gpC T (n / 2) i := by omega
        simp (disch := omega) only [bd_X12_ask_39, jn_X12_ask_71, e4, n3_imin, em, ↓lt_e, ↓gd_e, ↓Option.bind_some, ↓reduceIte, if_true, if_false, if_pT, if_nF, decide_true, Bool.not_true, Bool.not_false, not_true_eq_false, not_false_eq_true, Bool.false_eq_true, Bool.true_eq_false, eq_self, n3_lit, n3_add, n3_mul, n3_sub, n3_tn, n3_le_t, n3_le_f, n3_lt_t, n3_lt_f, n3_eq_f, n3_eq_t, n3_inb, n3_rem, n3_div, n3_zb, bb_0, bb_1, zb_bb, bb_T, bb_F, n3_dec, n3_m1, n3_eqm, n3_eqmt, n3_ltm, n3_mlt, n3_lem, n3_mle, n3_neg_lt, n3_nlt_neg, n3_nle_neg, n3_neg_le]
      · have b4 : bsh (gpC T (n / 2)) (i + 1) = bsh (gpC T (n / 2)) i := if_neg c
        rw [b4]
        have em : min (bsh (gpC T (n / 2)) i).2 (gpC T (n / 2) i) = (bsh (gpC T (n / 2)) i).2 := by omega
        simp (disch := omega) only [bd_X12_ask_39, jn_X12_ask_71, e4, n3_imin, em, ↓lt_e, ↓gd_e, ↓Option.bind_some, ↓reduceIte, if_true, if_false, if_pT, if_nF, decide_true, Bool.not_true, Bool.not_false, not_true_eq_false, not_false_eq_true, Bool.false_eq_true, Bool.true_eq_false, eq_self, n3_lit, n3_add, n3_mul, n3_sub, n3_tn, n3_le_t, n3_le_f, n3_lt_t, n3_lt_f, n3_eq_f, n3_eq_t, n3_inb, n3_rem, n3_div, n3_zb, bb_0, bb_1, zb_bb, bb_T, bb_F, n3_dec, n3_m1, n3_eqm, n3_eqmt, n3_ltm, n3_mlt, n3_lem, n3_mle, n3_neg_lt, n3_nlt_neg, n3_nle_neg, n3_neg_le]
    · obtain ⟨μ3, rfl, q3, f3⟩ := hs
      have bp := bsh_per (g := gpC T (n / 2)) (fun w => gpC_mod T (n / 2) w) 88
      refine ⟨_, RV.scr h1 t1 (f3.mono (fun i hi => by unfold ScX; omega)) rfl, fun k => ?_⟩
      rw [← bp]
      simp (disch := omega) only [bd_X12_ask_39, jn_X12_ask_85, ↓lt_e, ↓gd_e, ↓Option.bind_some, ↓reduceIte, if_true, if_false, if_pT, if_nF, decide_true, Bool.not_true, Bool.not_false, not_true_eq_false, not_false_eq_true, Bool.false_eq_true, Bool.true_eq_false, eq_self, n3_lit, n3_add, n3_mul, n3_sub, n3_tn, n3_le_t, n3_le_f, n3_lt_t, n3_lt_f, n3_eq_f, n3_eq_t, n3_inb, n3_rem, n3_div, n3_zb, bb_0, bb_1, zb_bb, bb_T, bb_F, n3_dec, n3_m1, n3_eqm, n3_eqmt, n3_ltm, n3_mlt, n3_lem, n3_mle, n3_neg_lt, n3_nlt_neg, n3_nle_neg, n3_neg_le]

/-! law, as it is called -/
theorem b_law {N : Nat} (hN : 1099511627776 ≤ N) {Λ : Lay} {ad : Nat → Nat} {F : Nat → Nat} {m : Nat} {A : Nat → Nat → Nat} {b : Nat} {J : Nat → Nat} {T : Nat → Int32} {n : Nat} {f : Int32} (hY : Ly Λ ad) (ho : Ok F m A b J T n) (H : Nat → Nat) : ∃ (c t : Nat) (v : Int32) (F' : Nat → Nat) (m' : Nat) (f' : Int32), Ok F' m' A b J T 0 ∧ (c = 0 ∧ t = 0 ∨ c = 1 ∧ t = 1 ∧ v = 0) ∧ (∀ μ, RC ad μ F m A b J T n f → CT ad μ (m_X11_law N Λ μ (ad 0)) c v F' m' A b J T 0 f') ∧ (∀ μ, RR ad μ F m A b J T n f → Row μ (ad 182) 2071 H → RV ad μ (m_X12_law N Λ μ (ad 181)) t v F' m' A b J T 0 f') := by
  have hj := hY.1
  have hP := hY.2.2.1
  have hR := hY.2.1
  have hL30 := hY.2.2.2.2.1 30 (Or.inl rfl)
  have hL36 := hY.2.2.2.2.1 36 (Or.inr (Or.inl rfl))
  have hw := ho.1
  have hb := hw.1; unfold WB at hb
  have hn := ho.2.2.2.2.2.2.1
  obtain ⟨ok, v, q, c, H', v1, hx, gc, gr⟩ := l_read hN hY (T := T) hn H
  -- the class reads
  have cc : ∀ μ, RC ad μ F m A b J T n f → ∃ μ', m_X11_law N Λ μ (ad 0) = (if ok = true then ((m_X2_copy N Λ μ' (ad 30) (ad 36)).bind fun r20 => ((m_X5_forget N Λ r20 (ad 56)).bind fun r24 => some (0, r24.1 (ad 30) 0, r24))) else some (1, 0, μ')) ∧ RC ad μ' F m A b J T 0 (n3 (if ok = true then 4294967295 else v)) ∧ (ok = true → LQ ad μ' H' q c) ∧ Fr ad (fun i => i < 181) μ μ' := fun μ h => by
    have f1 : Fr ad (fun i => i = 36) μ (mset (mset μ (ad 36) 0 (n3 0)) (ad 36) 1 (n3 0)) := ((Fr.refl μ).set hj (by rfl)).set hj (by rfl)
    have hn2 := h.2.2.2.2.1
    obtain ⟨μ2, e2, c2, f2⟩ := gc (mset (mset μ (ad 36) 0 (n3 0)) (ad 36) 1 (n3 0)) (by rw [(f1 1 (by omega)).1]; exact hn2.1) (by rw [(f1 2 (by omega)).1]; exact hn2.2) (by rw [msn (by omega), mse]) (mse _ _ _ _)
    have f3 : Fr ad (fun i => i = 0 ∨ i = 1) μ2 (mset (mset μ2 (ad 0) 14 (n3 (if ok = true then 4294967295 else v))) (ad 1) 1 (n3 0)) := ((Fr.refl μ2).set hj (by omega)).set hj (by omega)
    have ff : Fr ad (fun i => i = 0 ∨ i = 1 ∨ (36 ≤ i ∧ i ≤ 40) ∨ (52 ≤ i ∧ i ≤ 55)) μ (mset (mset μ2 (ad 0) 14 (n3 (if ok = true then 4294967295 else v))) (ad 1) 1 (n3 0)) := (f1.mono (fun i hi => by omega)).trans ((f2.mono (fun i hi => by omega)).trans (f3.mono (fun i hi => by omega)))
    have k14 : (mset (mset μ2 (ad 0) 14 (n3 (if ok = true then 4294967295 else v))) (ad 1) 1 (n3 0)).1 (ad 0) 14 = n3 (if ok = true then 4294967295 else v) := by rw [mso hj (by omega), mse]
    have k13 : (mset (mset μ2 (ad 0) 14 (n3 (if ok = true then 4294967295 else v))) (ad 1) 1 (n3 0)).1 (ad 0) 13 = μ.1 (ad 0) 13 := by rw [mso hj (by omega), msn (by omega), (f2 0 (by omega)).1, (f1 0 (by omega)).1]
    have hrc := h.read (n3 (if ok = true then 4294967295 else v)) (mse _ _ _ _) k14 k13 (ff.mono (fun i hi => by unfold ScC; omega))
    refine ⟨_, ?_, hrc, fun ho => ?_, ff.mono (fun i hi => by omega)⟩
    · generalize hμ : mset (mset μ2 (ad 0) 14 (n3 (if ok = true then 4294967295 else v))) (ad 1) 1 (n3 0) = μ3 at k14
      cases ok with
      | true =>
        rw [if_pos rfl] at k14 hμ e2 ⊢
        simp (disch := omega) only [m_X11_law, m_X2_clear, ↓ob (hP.1), ↓ob (hP.2.1), ↓ob (hP.2.2.1), ↓ob (hP.2.2.2.1), ↓ob (hP.2.2.2.2.1), ↓ob (hP.2.2.2.2.2.1), ↓ob (hP.2.2.2.2.2.2.1), ↓ob (hP.2.2.2.2.2.2.2.1), ↓ob (hP.2.2.2.2.2.2.2.2.1), ↓ob (hP.2.2.2.2.2.2.2.2.2.1), ↓ob (hP.2.2.2.2.2.2.2.2.2.2.1), ↓ob (hP.2.2.2.2.2.2.2.2.2.2.2.1), ↓ob (hP.2.2.2.2.2.2.2.2.2.2.2.2.1), ↓ob (hP.2.2.2.2.2.2.2.2.2.2.2.2.2.1), hP.2.2.2.2.2.2.2.2.2.2.2.2.2.2, e2, n3_lit, hμ, k14, n3_neg1, n3_eq_t, ↓lt_e, ↓gd_e, ↓Option.bind_some, ↓reduceIte, if_true, if_false, if_pT, if_nF, decide_true, Bool.not_true, Bool.not_false, not_true_eq_false, not_false_eq_true, Bool.false_eq_true, Bool.true_eq_false, eq_self]
      | false =>
        rw [if_neg (by decide)] at k14 hμ e2 ⊢
        simp (disch := omega) only [m_X11_law, m_X2_clear, ↓ob (hP.1), ↓ob (hP.2.1), ↓ob (hP.2.2.1), ↓ob (hP.2.2.2.1), ↓ob (hP.2.2.2.2.1), ↓ob (hP.2.2.2.2.2.1), ↓ob (hP.2.2.2.2.2.2.1), ↓ob (hP.2.2.2.2.2.2.2.1), ↓ob (hP.2.2.2.2.2.2.2.2.1), ↓ob (hP.2.2.2.2.2.2.2.2.2.1), ↓ob (hP.2.2.2.2.2.2.2.2.2.2.1), ↓ob (hP.2.2.2.2.2.2.2.2.2.2.2.1), ↓ob (hP.2.2.2.2.2.2.2.2.2.2.2.2.1), ↓ob (hP.2.2.2.2.2.2.2.2.2.2.2.2.2.1), hP.2.2.2.2.2.2.2.2.2.2.2.2.2.2, e2, n3_lit, hμ, k14, n3_neg1, n3_eq_f, ↓lt_e, ↓gd_e, ↓Option.bind_some, ↓reduceIte, if_true, if_false, if_pT, if_nF, decide_true, Bool.not_true, Bool.not_false, not_true_eq_false, not_false_eq_true, Bool.false_eq_true, Bool.true_eq_false, eq_self]
    · have lq := c2 ho
      unfold LQ EC at lq ⊢
      rw [(f3 36 (by omega)).1, (f3 37 (by omega)).1, (f3 38 (by omega)).1, (f3 39 (by omega)).1, (f3 40 (by omega)).1]
      exact lq
  have mkRR : ∀ (μ μ3 : Mem) (f' : Int32) (F' : Nat → Nat) (m' : Nat), RR ad μ F m A b J T n f → Row μ3 (ad 182) 1222 F' → Fr ad (fun i => i = 181 ∨ i = 182) μ μ3 → μ3.1 (ad 181) 14 = f' → μ3.1 (ad 181) 9 = n3 0 → μ3.1 (ad 181) 6 = μ.1 (ad 181) 6 → μ3.1 (ad 181) 7 = n3 m' → (m' = 0 ∨ m' = m) → RR ad μ3 F' m' A b J T 0 f' := fun μ μ3 f' F' m' h h1 h2 h3 h4 h5 h6 h7 => by
    refine ⟨h1, ⟨h6, ?_⟩, ⟨by rw [h5]; exact h.2.2.1.1, fun hb => Row.fr (h.2.2.1.2 hb) h2 (show ¬ (183 = 181 ∨ 183 = 182) by omega)⟩, ⟨h4, fun k hk => absurd hk (Nat.not_lt_zero k)⟩, h3⟩
    rw [(h2 186 (by omega)).1]
    rcases h7 with h7 | h7
    · subst h7; exact fun j hj => absurd hj (Nat.not_lt_zero j)
    · subst h7; exact h.2.1.2
  -- the reference reads
  have rr : ∀ μ, RR ad μ F m A b J T n f → Row μ (ad 182) 2071 H → ∃ μ', m_X12_law N Λ μ (ad 181) = jn_X12_law_32 N Λ μ' (ad 181) (n3 (if ok = true then q else 4294967295)) (ad 181) (n3 (if ok = true then 0 else 1)) ∧ (ok = true → Row μ' (ad 182) 2071 H') ∧ Row μ' (ad 182) 1222 F ∧ μ'.1 (ad 181) 14 = n3 (if ok = true then 4294967295 else v) ∧ μ'.1 (ad 181) 0 = n3 0 ∧ μ'.1 (ad 181) 9 = n3 0 ∧ μ'.1 (ad 181) 6 = μ.1 (ad 181) 6 ∧ μ'.1 (ad 181) 7 = μ.1 (ad 181) 7 ∧ Fr ad (fun i => i = 181 ∨ i = 182) μ μ' := fun μ h hH => by
    obtain ⟨μ2, e2, r2, b2, f2, w2, z0, z9, kk⟩ := gr μ F m A b J f h hH
    have f3 : Fr ad (fun i => i = 181) μ2 (mset μ2 (ad 181) 14 (n3 (if ok = true then 4294967295 else v))) := (Fr.refl μ2).set hj (by rfl)
    refine ⟨mset μ2 (ad 181) 14 (n3 (if ok = true then 4294967295 else v)), ?_, fun ho => (r2 ho).off (mso hj (by omega)), fun k hk => by rw [mso hj (by omega), w2 k hk]; exact h.1 k hk, mse _ _ _ _, by rw [msn (by omega)]; exact z0, by rw [msn (by omega)]; exact z9, by rw [msn (by omega), kk 6 (by omega) (by omega) (by omega) (by omega) (by omega) (by omega) (by omega)], by rw [msn (by omega), kk 7 (by omega) (by omega) (by omega) (by omega) (by omega) (by omega) (by omega)], f2.trans (f3.mono (fun i hi => by omega))⟩
    cases ok with
    | true =>
      have hq12 : q ≤ 12 := (hx rfl).1
      rw [if_pos rfl] at e2 ⊢
      simp (disch := omega) only [m_X12_law, jn_X12_law_19, e2, n3_lit, n3_neg1, n3_le_t, ↓lt_e, ↓gd_e, ↓Option.bind_some, ↓reduceIte, if_true, if_false, if_pT, if_nF, decide_true, Bool.not_true, Bool.not_false, not_true_eq_false, not_false_eq_true, Bool.false_eq_true, Bool.true_eq_false, eq_self]
    | false =>
      rw [if_neg (by decide)] at e2 ⊢
      have b2' := b2 rfl
      simp (disch := omega) only [m_X12_law, jn_X12_law_19, e2, b2', n3_lit, n3_nle_neg, ↓lt_e, ↓gd_e, ↓Option.bind_some, ↓reduceIte, if_true, if_false, if_pT, if_nF, decide_true, Bool.not_true, Bool.not_false, not_true_eq_false, not_false_eq_true, Bool.false_eq_true, Bool.true_eq_false, eq_self]
  cases ok with
  | false =>
    refine ⟨1, 1, 0, F, m, n3 v, ho.used, Or.inr ⟨rfl, rfl, rfl⟩, fun μ h => ?_, fun μ h hH => ?_⟩
    · obtain ⟨μ1, e1, h1, c1, f1⟩ := cc μ h
      rw [if_neg (by decide)] at e1 h1
      exact ⟨μ1, e1, h1, f1⟩
    · obtain ⟨μ1, e1, r1, r4, k14, k0, k9, k6, k7, f1⟩ := rr μ h hH
      rw [if_neg (by decide)] at e1 k14
      rw [if_neg (by decide)] at e1
      have f2 : Fr ad (fun i => i = 181) μ1 (mset μ1 (ad 181) 0 (n3 1)) := (Fr.refl μ1).set hj (by rfl)
      have ff : Fr ad (fun i => i = 181 ∨ i = 182) μ (mset μ1 (ad 181) 0 (n3 1)) := f1.trans (f2.mono (fun i hi => by omega))
      refine ⟨mset μ1 (ad 181) 0 (n3 1), ?_, mse _ _ _ _, mkRR μ _ (n3 v) F m h (r4.off (mso hj (by omega))) ff (by rw [msn (by omega)]; exact k14) (by rw [msn (by omega)]; exact k9) (by rw [msn (by omega)]; exact k6) (by rw [msn (by omega), k7]; exact h.2.1.1) (Or.inr rfl), ff.mono (fun i hi => by omega)⟩
      rw [e1]
      simp (disch := omega) only [jn_X12_law_32, n3_lit, r_thr1, ↓lt_e, ↓gd_e, ↓Option.bind_some, ↓reduceIte, if_true, if_false, if_pT, if_nF, decide_true, Bool.not_true, Bool.not_false, not_true_eq_false, not_false_eq_true, Bool.false_eq_true, Bool.true_eq_false, eq_self, n3_eq_f]
  | true =>
    have hx' := hx rfl
    have hq12 : q ≤ 12 := hx'.1
    have hlaw : LawOk (lwF F H' q) := lwF_law hx'
    refine ⟨0, 0, n3 q, lwF F H' q, 0, n3 4294967295, ⟨lwF_WF hw, hlaw, by omega, fun j hj => absurd hj (Nat.not_lt_zero j), ho.2.2.2.2.1, ho.2.2.2.2.2.1, by omega, fun k hk => absurd hk (Nat.not_lt_zero k)⟩, Or.inl ⟨rfl, rfl⟩, fun μ h => ?_, fun μ h hH => ?_⟩
    · obtain ⟨μ1, e1, h1, c1, f1⟩ := cc μ h
      rw [if_pos rfl] at e1 h1
      obtain ⟨μ2, e2, l2, f2⟩ := c_lawcopy (N := N) hL36 hL30 (lwF_CL (F := F) hx' (c1 rfl)) hlaw hj (by omega)
      have f4 : Fr ad (fun i => i = 56) μ2 (mset μ2 (ad 56) 0 (n3 0)) := (Fr.refl _).set hj (by rfl)
      have ff : Fr ad (fun i => i = 56 ∨ (30 ≤ i ∧ i ≤ 35)) μ1 (mset μ2 (ad 56) 0 (n3 0)) := (f2.mono (fun i hi => by omega)).trans (f4.mono (fun i hi => by omega))
      have q8 : (mset μ2 (ad 56) 0 (n3 0)).1 (ad 30) 0 = n3 q := by
        rw [mso hj (by omega)]
        have := l2.1
        rw [lwF_2, if_pos rfl, lwF_q] at this; exact this
      refine ⟨_, ?_, h1.forget ((lwF_CS h1.1 hb.1 hb.2.2.2.2.2.2.2.2.2.2.2.1).fr ff (fun i a b => by omega)) (l2.fr f4 (fun i a b => by omega)) (mse _ _ _ _) (by rw [msn (by omega), (f2 56 (by omega)).1]) (ff.mono (fun i hi => by unfold ScC; omega)), f1.trans (ff.mono (fun i hi => by omega))⟩
      rw [e1, e2]
      simp (disch := omega) only [m_X5_forget, n3_lit, q8, ↓lt_e, ↓gd_e, ↓Option.bind_some, ↓reduceIte, if_true, if_false, if_pT, if_nF, decide_true, Bool.not_true, Bool.not_false, not_true_eq_false, not_false_eq_true, Bool.false_eq_true, Bool.true_eq_false, eq_self]
    · obtain ⟨μ1, e1, r1, r4, k14, k0, k9, k6, k7, f1⟩ := rr μ h hH
      rw [if_pos rfl] at e1 k14
      rw [if_pos rfl] at e1
      have r1' := r1 rfl
      have e3 : m_X12_law N Λ μ (ad 181) = lp_X12_law_52 N Λ (ad 181) (n3 q) (n3 0, mset μ1 (ad 182) 1222 (n3 q)) := by
        rw [e1]
        simp (disch := omega) only [jn_X12_law_32, n3_lit, r_thr0, ↓ob (hR.1), ↓ob (hR.2.1), ↓ob (hR.2.2.1), ↓ob (hR.2.2.2.1), ↓ob (hR.2.2.2.2.1), ↓ob (hR.2.2.2.2.2.1), ↓ob (hR.2.2.2.2.2.2.1), ↓ob (hR.2.2.2.2.2.2.2.1), ↓ob (hR.2.2.2.2.2.2.2.2.1), ↓ob (hR.2.2.2.2.2.2.2.2.2.1), ↓ob (hR.2.2.2.2.2.2.2.2.2.2.1), ↓ob (hR.2.2.2.2.2.2.2.2.2.2.2.1), ↓ob (hR.2.2.2.2.2.2.2.2.2.2.2.2.1), ↓ob (hR.2.2.2.2.2.2.2.2.2.2.2.2.2.1), ↓ob (hR.2.2.2.2.2.2.2.2.2.2.2.2.2.2.1), ↓ob (hR.2.2.2.2.2.2.2.2.2.2.2.2.2.2.2.1), ↓ob (hR.2.2.2.2.2.2.2.2.2.2.2.2.2.2.2.2.1), ↓ob (hR.2.2.2.2.2.2.2.2.2.2.2.2.2.2.2.2.2.1), hR.2.2.2.2.2.2.2.2.2.2.2.2.2.2.2.2.2.2.1, hR.2.2.2.2.2.2.2.2.2.2.2.2.2.2.2.2.2.2.2.1, hR.2.2.2.2.2.2.2.2.2.2.2.2.2.2.2.2.2.2.2.2.1, hR.2.2.2.2.2.2.2.2.2.2.2.2.2.2.2.2.2.2.2.2.2.1, hR.2.2.2.2.2.2.2.2.2.2.2.2.2.2.2.2.2.2.2.2.2.2.1, hR.2.2.2.2.2.2.2.2.2.2.2.2.2.2.2.2.2.2.2.2.2.2.2.1, hR.2.2.2.2.2.2.2.2.2.2.2.2.2.2.2.2.2.2.2.2.2.2.2.2.1, hR.2.2.2.2.2.2.2.2.2.2.2.2.2.2.2.2.2.2.2.2.2.2.2.2.2.1, hR.2.2.2.2.2.2.2.2.2.2.2.2.2.2.2.2.2.2.2.2.2.2.2.2.2.2.1, hR.2.2.2.2.2.2.2.2.2.2.2.2.2.2.2.2.2.2.2.2.2.2.2.2.2.2.2.1, hR.2.2.2.2.2.2.2.2.2.2.2.2.2.2.2.2.2.2.2.2.2.2.2.2.2.2.2.2.1, hR.2.2.2.2.2.2.2.2.2.2.2.2.2.2.2.2.2.2.2.2.2.2.2.2.2.2.2.2.2.1, hR.2.2.2.2.2.2.2.2.2.2.2.2.2.2.2.2.2.2.2.2.2.2.2.2.2.2.2.2.2.2.1, hR.2.2.2.2.2.2.2.2.2.2.2.2.2.2.2.2.2.2.2.2.2.2.2.2.2.2.2.2.2.2.2.1, hR.2.2.2.2.2.2.2.2.2.2.2.2.2.2.2.2.2.2.2.2.2.2.2.2.2.2.2.2.2.2.2.2.1, hR.2.2.2.2.2.2.2.2.2.2.2.2.2.2.2.2.2.2.2.2.2.2.2.2.2.2.2.2.2.2.2.2.2.1, hR.2.2.2.2.2.2.2.2.2.2.2.2.2.2.2.2.2.2.2.2.2.2.2.2.2.2.2.2.2.2.2.2.2.2.1, hR.2.2.2.2.2.2.2.2.2.2.2.2.2.2.2.2.2.2.2.2.2.2.2.2.2.2.2.2.2.2.2.2.2.2.2, ↓lt_e, ↓gd_e, ↓Option.bind_some, ↓reduceIte, if_true, if_false, if_pT, if_nF, decide_true, Bool.not_true, Bool.not_false, not_true_eq_false, not_false_eq_true, Bool.false_eq_true, Bool.true_eq_false, eq_self, n3_eq_t, n3_inb, n3_tn]
      rw [e3]
      unfold lp_X12_law_52
      refine cp_loop (Q := fun X => RV ad μ X 0 (n3 q) (lwF F H' q) 0 A b J T 0 (n3 4294967295)) hj 182 373 849 (fun k => (mset μ1 (ad 182) 1222 (n3 q)).1 (ad 182) (1222 + k)) (fun i hi μ2 hf h2 k => ?_) (fun μ2 hf g1 g2 => ?_) (by omega)
      · have e5 := h2 (1222 + i) (by omega)
        simp (disch := omega) only [bd_X12_law_52, ↓ob (hR.1), ↓ob (hR.2.1), ↓ob (hR.2.2.1), ↓ob (hR.2.2.2.1), ↓ob (hR.2.2.2.2.1), ↓ob (hR.2.2.2.2.2.1), ↓ob (hR.2.2.2.2.2.2.1), ↓ob (hR.2.2.2.2.2.2.2.1), ↓ob (hR.2.2.2.2.2.2.2.2.1), ↓ob (hR.2.2.2.2.2.2.2.2.2.1), ↓ob (hR.2.2.2.2.2.2.2.2.2.2.1), ↓ob (hR.2.2.2.2.2.2.2.2.2.2.2.1), ↓ob (hR.2.2.2.2.2.2.2.2.2.2.2.2.1), ↓ob (hR.2.2.2.2.2.2.2.2.2.2.2.2.2.1), ↓ob (hR.2.2.2.2.2.2.2.2.2.2.2.2.2.2.1), ↓ob (hR.2.2.2.2.2.2.2.2.2.2.2.2.2.2.2.1), ↓ob (hR.2.2.2.2.2.2.2.2.2.2.2.2.2.2.2.2.1), ↓ob (hR.2.2.2.2.2.2.2.2.2.2.2.2.2.2.2.2.2.1), hR.2.2.2.2.2.2.2.2.2.2.2.2.2.2.2.2.2.2.1, hR.2.2.2.2.2.2.2.2.2.2.2.2.2.2.2.2.2.2.2.1, hR.2.2.2.2.2.2.2.2.2.2.2.2.2.2.2.2.2.2.2.2.1, hR.2.2.2.2.2.2.2.2.2.2.2.2.2.2.2.2.2.2.2.2.2.1, hR.2.2.2.2.2.2.2.2.2.2.2.2.2.2.2.2.2.2.2.2.2.2.1, hR.2.2.2.2.2.2.2.2.2.2.2.2.2.2.2.2.2.2.2.2.2.2.2.1, hR.2.2.2.2.2.2.2.2.2.2.2.2.2.2.2.2.2.2.2.2.2.2.2.2.1, hR.2.2.2.2.2.2.2.2.2.2.2.2.2.2.2.2.2.2.2.2.2.2.2.2.2.1, hR.2.2.2.2.2.2.2.2.2.2.2.2.2.2.2.2.2.2.2.2.2.2.2.2.2.2.1, hR.2.2.2.2.2.2.2.2.2.2.2.2.2.2.2.2.2.2.2.2.2.2.2.2.2.2.2.1, hR.2.2.2.2.2.2.2.2.2.2.2.2.2.2.2.2.2.2.2.2.2.2.2.2.2.2.2.2.1, hR.2.2.2.2.2.2.2.2.2.2.2.2.2.2.2.2.2.2.2.2.2.2.2.2.2.2.2.2.2.1, hR.2.2.2.2.2.2.2.2.2.2.2.2.2.2.2.2.2.2.2.2.2.2.2.2.2.2.2.2.2.2.1, hR.2.2.2.2.2.2.2.2.2.2.2.2.2.2.2.2.2.2.2.2.2.2.2.2.2.2.2.2.2.2.2.1, hR.2.2.2.2.2.2.2.2.2.2.2.2.2.2.2.2.2.2.2.2.2.2.2.2.2.2.2.2.2.2.2.2.1, hR.2.2.2.2.2.2.2.2.2.2.2.2.2.2.2.2.2.2.2.2.2.2.2.2.2.2.2.2.2.2.2.2.2.1, hR.2.2.2.2.2.2.2.2.2.2.2.2.2.2.2.2.2.2.2.2.2.2.2.2.2.2.2.2.2.2.2.2.2.2.1, hR.2.2.2.2.2.2.2.2.2.2.2.2.2.2.2.2.2.2.2.2.2.2.2.2.2.2.2.2.2.2.2.2.2.2.2, e5, ↓lt_e, ↓gd_e, ↓Option.bind_some, ↓reduceIte, if_true, if_false, if_pT, if_nF, decide_true, Bool.not_true, Bool.not_false, not_true_eq_false, not_false_eq_true, Bool.false_eq_true, Bool.true_eq_false, eq_self, n3_lit, n3_add, n3_mul, n3_sub, n3_tn, n3_le_t, n3_le_f, n3_lt_t, n3_lt_f, n3_eq_f, n3_eq_t, n3_inb, n3_rem, n3_div, n3_zb, bb_0, bb_1, zb_bb, bb_T, bb_F, n3_dec, n3_m1, n3_eqm, n3_eqmt, n3_ltm, n3_mlt, n3_lem, n3_mle, n3_neg_lt, n3_nlt_neg, n3_nle_neg, n3_neg_le]
      · have f5 : Fr ad (fun i => i = 181 ∨ i = 182) μ2 (mset (mset μ2 (ad 182) 2 (n3 1)) (ad 181) 7 (n3 0)) := ((Fr.refl μ2).set hj (by omega)).set hj (by omega)
        have f6 : Fr ad (fun i => i = 182) μ1 (mset μ1 (ad 182) 1222 (n3 q)) := (Fr.refl μ1).set hj (by rfl)
        have ff : Fr ad (fun i => i = 181 ∨ i = 182) μ (mset (mset μ2 (ad 182) 2 (n3 1)) (ad 181) 7 (n3 0)) := f1.trans ((f6.mono (fun i hi => by omega)).trans ((hf.mono (fun i hi => by omega)).trans f5))
        have kx : ∀ k, k ≠ 7 → (mset (mset μ2 (ad 182) 2 (n3 1)) (ad 181) 7 (n3 0)).1 (ad 181) k = μ1.1 (ad 181) k := fun k hk => by rw [msn hk, mso hj (by omega), (hf 181 (by omega)).1, (f6 181 (by omega)).1]
        refine ⟨_, ⟨mset (mset μ2 (ad 182) 2 (n3 1)) (ad 181) 7 (n3 0), rfl, by rw [kx 0 (by omega)]; exact k0, mkRR μ _ (n3 4294967295) (lwF F H' q) 0 h (fun k hk => ?_) ff (by rw [kx 14 (by omega)]; exact k14) (by rw [kx 9 (by omega)]; exact k9) (by rw [kx 6 (by omega)]; exact k6) (mse _ _ _ _) (Or.inl rfl), ff.mono (fun i hi => by omega)⟩, fun k => ?_⟩
        · rw [mso hj (by omega)]
          by_cases c2 : k = 2
          · subst c2; rw [mse, lwF_2]
          · rw [msn c2]
            by_cases c3 : k < 373
            · rw [lwF_lo c3 c2, g2 k (by omega), msn (by omega)]; exact r4 k hk
            · have := g1 (k - 373) (by omega)
              rw [show 373 + (k - 373) = k by omega] at this
              rw [this]
              by_cases c4 : k = 373
              · subst c4; rw [lwF_q]; exact mse _ _ _ _
              · rw [lwF_hi (by omega), msn (by omega), r1' _ (by omega), show 1222 + (k - 373) = k + 849 by omega]
        · simp (disch := omega) only [bd_X12_law_52, ↓ob (hR.1), ↓ob (hR.2.1), ↓ob (hR.2.2.1), ↓ob (hR.2.2.2.1), ↓ob (hR.2.2.2.2.1), ↓ob (hR.2.2.2.2.2.1), ↓ob (hR.2.2.2.2.2.2.1), ↓ob (hR.2.2.2.2.2.2.2.1), ↓ob (hR.2.2.2.2.2.2.2.2.1), ↓ob (hR.2.2.2.2.2.2.2.2.2.1), ↓ob (hR.2.2.2.2.2.2.2.2.2.2.1), ↓ob (hR.2.2.2.2.2.2.2.2.2.2.2.1), ↓ob (hR.2.2.2.2.2.2.2.2.2.2.2.2.1), ↓ob (hR.2.2.2.2.2.2.2.2.2.2.2.2.2.1), ↓ob (hR.2.2.2.2.2.2.2.2.2.2.2.2.2.2.1), ↓ob (hR.2.2.2.2.2.2.2.2.2.2.2.2.2.2.2.1), ↓ob (hR.2.2.2.2.2.2.2.2.2.2.2.2.2.2.2.2.1), ↓ob (hR.2.2.2.2.2.2.2.2.2.2.2.2.2.2.2.2.2.1), hR.2.2.2.2.2.2.2.2.2.2.2.2.2.2.2.2.2.2.1, hR.2.2.2.2.2.2.2.2.2.2.2.2.2.2.2.2.2.2.2.1, hR.2.2.2.2.2.2.2.2.2.2.2.2.2.2.2.2.2.2.2.2.1, hR.2.2.2.2.2.2.2.2.2.2.2.2.2.2.2.2.2.2.2.2.2.1, hR.2.2.2.2.2.2.2.2.2.2.2.2.2.2.2.2.2.2.2.2.2.2.1, hR.2.2.2.2.2.2.2.2.2.2.2.2.2.2.2.2.2.2.2.2.2.2.2.1, hR.2.2.2.2.2.2.2.2.2.2.2.2.2.2.2.2.2.2.2.2.2.2.2.2.1, hR.2.2.2.2.2.2.2.2.2.2.2.2.2.2.2.2.2.2.2.2.2.2.2.2.2.1, hR.2.2.2.2.2.2.2.2.2.2.2.2.2.2.2.2.2.2.2.2.2.2.2.2.2.2.1, hR.2.2.2.2.2.2.2.2.2.2.2.2.2.2.2.2.2.2.2.2.2.2.2.2.2.2.2.1, hR.2.2.2.2.2.2.2.2.2.2.2.2.2.2.2.2.2.2.2.2.2.2.2.2.2.2.2.2.1, hR.2.2.2.2.2.2.2.2.2.2.2.2.2.2.2.2.2.2.2.2.2.2.2.2.2.2.2.2.2.1, hR.2.2.2.2.2.2.2.2.2.2.2.2.2.2.2.2.2.2.2.2.2.2.2.2.2.2.2.2.2.2.1, hR.2.2.2.2.2.2.2.2.2.2.2.2.2.2.2.2.2.2.2.2.2.2.2.2.2.2.2.2.2.2.2.1, hR.2.2.2.2.2.2.2.2.2.2.2.2.2.2.2.2.2.2.2.2.2.2.2.2.2.2.2.2.2.2.2.2.1, hR.2.2.2.2.2.2.2.2.2.2.2.2.2.2.2.2.2.2.2.2.2.2.2.2.2.2.2.2.2.2.2.2.2.1, hR.2.2.2.2.2.2.2.2.2.2.2.2.2.2.2.2.2.2.2.2.2.2.2.2.2.2.2.2.2.2.2.2.2.2.1, hR.2.2.2.2.2.2.2.2.2.2.2.2.2.2.2.2.2.2.2.2.2.2.2.2.2.2.2.2.2.2.2.2.2.2.2, ↓lt_e, ↓gd_e, ↓Option.bind_some, ↓reduceIte, if_true, if_false, if_pT, if_nF, decide_true, Bool.not_true, Bool.not_false, not_true_eq_false, not_false_eq_true, Bool.false_eq_true, Bool.true_eq_false, eq_self, n3_lit, n3_add, n3_mul, n3_sub, n3_tn, n3_le_t, n3_le_f, n3_lt_t, n3_lt_f, n3_eq_f, n3_eq_t, n3_inb, n3_rem, n3_div, n3_zb, bb_0, bb_1, zb_bb, bb_T, bb_F, n3_dec, n3_m1, n3_eqm, n3_eqmt, n3_ltm, n3_mlt, n3_lem, n3_mle, n3_neg_lt, n3_nlt_neg, n3_nle_neg, n3_neg_le]

/-! dock, as it is called -/
theorem RC.read {ad : Nat → Nat} {μ μ' : Mem} {F : Nat → Nat} {m : Nat} {A : Nat → Nat → Nat} {b : Nat} {J : Nat → Nat} {T : Nat → Int32} {n : Nat} {f : Int32} (h : RC ad μ F m A b J T n f) (f' : Int32) (h1 : μ'.1 (ad 1) 1 = n3 0) (h14 : μ'.1 (ad 0) 14 = f') (h13 : μ'.1 (ad 0) 13 = μ.1 (ad 0) 13) (hf : Fr ad (fun i => i = 0 ∨ i = 1 ∨ ScC i) μ μ') : RC ad μ' F m A b J T 0 f' := by
  obtain ⟨a1, a2, ⟨nx, h3, h4, h5, h6⟩, ⟨h7, h8⟩, ⟨h9, h10⟩, h11⟩ := h
  exact ⟨a1.fr hf (fun i a b => by unfold ScC; omega), a2.fr hf (fun i a b => by unfold ScC; omega), ⟨nx, h3, by rw [(hf 56 (by unfold ScC; omega)).1]; exact h4, by rw [(hf 56 (by unfold ScC; omega)).1]; exact h5, fun j hj => (h6 j hj).fr hf (fun i a b => by unfold ScC; omega)⟩, ⟨by rw [h13]; exact h7, fun hb => ⟨(h8 hb).1.fr hf (fun i a b => by unfold ScC; omega), (h8 hb).2.fr hf (fun i a b => by unfold ScC; omega)⟩⟩, ⟨h1, fun k hk => absurd hk (Nat.not_lt_zero k)⟩, h14⟩
/-- nothing is remembered any more -/
theorem RC.forget {ad : Nat → Nat} {μ μ' : Mem} {F : Nat → Nat} {m : Nat} {A : Nat → Nat → Nat} {b : Nat} {J : Nat → Nat} {T : Nat → Int32} {n : Nat} {f : Int32} (h : RC ad μ F m A b J T n f) {G : Nat → Nat} (hC : CS ad μ' 3 G) (hL : CL ad μ' 30 G) (h56 : μ'.1 (ad 56) 0 = n3 0) (h57 : μ'.1 (ad 56) 1 = μ.1 (ad 56) 1) (hf : Fr ad (fun i => (3 ≤ i ∧ i ≤ 11) ∨ (30 ≤ i ∧ i ≤ 35) ∨ i = 56 ∨ ScC i) μ μ') : RC ad μ' G 0 A b J T n f := by
  obtain ⟨a1, a2, ⟨nx, h3, h4, h5, h6⟩, ⟨h7, h8⟩, ⟨h9, h10⟩, h11⟩ := h
  exact ⟨hC, hL, ⟨nx, h3, h56, by rw [h57]; exact h5, fun j hj => absurd hj (Nat.not_lt_zero j)⟩, ⟨by rw [(hf 0 (by unfold ScC; omega)).1]; exact h7, fun hb => ⟨(h8 hb).1.fr hf (fun i a b => by unfold ScC; omega), (h8 hb).2.fr hf (fun i a b => by unfold ScC; omega)⟩⟩, ⟨by rw [(hf 1 (by unfold ScC; omega)).1]; exact h9, by rw [(hf 2 (by unfold ScC; omega)).1]; exact h10⟩, by rw [(hf 0 (by unfold ScC; omega)).1]; exact h11⟩
theorem dock_ok {F : Nat → Nat} {m : Nat} {A : Nat → Nat → Nat} {b : Nat} {J : Nat → Nat} {T : Nat → Int32} {n : Nat} {f : Int32} (ho : Ok F m A b J T n) {G : Nat → Nat} (hw : WF G) (hl : LwE F G) (h1 : G 1 = F 1) (h12 : F 1 < 12) : Ok (up G 1 (F 1 + 1)) 0 A b J T 0 := by
  refine ⟨hw.up_lo (by omega) (by omega) ?_, ho.2.1.of (hl.up (by omega) (by omega)), by omega, fun j hj => absurd hj (Nat.not_lt_zero j), ho.2.2.2.2.1, ho.2.2.2.2.2.1, by omega, fun k hk => absurd hk (Nat.not_lt_zero k)⟩
  have hb := hw.1; unfold WB at hb ⊢
  simp (disch := omega) only [up_n, up_e]; omega
theorem b_dock {N : Nat} (hN : 1099511627776 ≤ N) {Λ : Lay} {ad : Nat → Nat} {F : Nat → Nat} {m : Nat} {A : Nat → Nat → Nat} {b : Nat} {J : Nat → Nat} {T : Nat → Int32} {n : Nat} {f : Int32} (hY : Ly Λ ad) (ho : Ok F m A b J T n) : ∃ (c t : Nat) (v : Int32) (F' : Nat → Nat) (m' : Nat) (f' : Int32), Ok F' m' A b J T 0 ∧ (c = 0 ∧ t = 0 ∨ c = 1 ∧ t = 1 ∧ v = 0 ∨ c = 2 ∧ t = 2 ∧ v = 0) ∧ (∀ μ, RC ad μ F m A b J T n f → CT ad μ (m_X11_dock N Λ μ (ad 0)) c v F' m' A b J T 0 f') ∧ (∀ μ, RR ad μ F m A b J T n f → RV ad μ (m_X12_dock N Λ μ (ad 181)) t v F' m' A b J T 0 f') := by
  have hj := hY.1
  have hP := hY.2.2.1
  have hR := hY.2.1
  have hS3 := hY.2.2.2.1 3 (Or.inl rfl)
  have hS12 := hY.2.2.2.1 12 (Or.inr (Or.inl rfl))
  have hw := ho.1
  have hb := hw.1; unfold WB at hb
  have hn := ho.2.2.2.2.2.2.1
  obtain ⟨ok, v, G, v1, g1, gc, gr⟩ := d_read hN hY (T := T) hn hw
  -- the class reads
  have cc : ∀ μ, RC ad μ F m A b J T n f → ∃ μ', True ∧ m_X11_dock N Λ μ (ad 0) = (if ok = true then (if F 1 < 12 then ((m_X9_copy N Λ μ' (ad 3) (ad 12)).bind fun r25 => ((m_X5_forget N Λ (mset r25 (ad 3) 7 ((r25.1 (ad 3) 7) + 1)) (ad 56)).bind fun r33 => some (0, r33.1 (ad 3) 7, r33))) else some (2, 0, μ')) else some (1, 0, μ')) ∧ RC ad μ' F m A b J T 0 (n3 (if ok = true then 4294967295 else v)) ∧ (ok = true → CS ad μ' 12 G) ∧ Fr ad (fun i => i < 181) μ μ' := fun μ h => by
    obtain ⟨μ1, e1, c1, f1⟩ := c_copy (N := N) hS3 hS12 h.1 hj hw (by omega)
    have hn2 := h.2.2.2.2.1
    obtain ⟨μ2, e2, c2, f2⟩ := gc μ1 (by rw [(f1 1 (by omega)).1]; exact hn2.1) (by rw [(f1 2 (by omega)).1]; exact hn2.2) c1
    have f3 : Fr ad (fun i => i = 0 ∨ i = 1) μ2 (mset (mset μ2 (ad 0) 14 (n3 (if ok = true then 4294967295 else v))) (ad 1) 1 (n3 0)) := ((Fr.refl μ2).set hj (by omega)).set hj (by omega)
    have ff : Fr ad (fun i => i = 0 ∨ i = 1 ∨ (12 ≤ i ∧ i ≤ 20) ∨ (48 ≤ i ∧ i ≤ 51)) μ (mset (mset μ2 (ad 0) 14 (n3 (if ok = true then 4294967295 else v))) (ad 1) 1 (n3 0)) := (Fr.mono f1 (fun i hi => by omega)).trans ((f2.mono (fun i hi => by omega)).trans (f3.mono (fun i hi => by omega)))
    have k14 : (mset (mset μ2 (ad 0) 14 (n3 (if ok = true then 4294967295 else v))) (ad 1) 1 (n3 0)).1 (ad 0) 14 = n3 (if ok = true then 4294967295 else v) := by rw [mso hj (by omega), mse]
    have k13 : (mset (mset μ2 (ad 0) 14 (n3 (if ok = true then 4294967295 else v))) (ad 1) 1 (n3 0)).1 (ad 0) 13 = μ.1 (ad 0) 13 := by rw [mso hj (by omega), msn (by omega), (f2 0 (by omega)).1, (f1 0 (by omega)).1]
    have hrc := h.read (n3 (if ok = true then 4294967295 else v)) (mse _ _ _ _) k14 k13 (ff.mono (fun i hi => by unfold ScC; omega))
    refine ⟨_, trivial, ?_, hrc, fun ho => (c2 ho).fr f3 (fun i a b => by omega), ff.mono (fun i hi => by omega)⟩
    have q7 := hrc.1.2.2.2.2.2.2.2.1
    generalize hμ : mset (mset μ2 (ad 0) 14 (n3 (if ok = true then 4294967295 else v))) (ad 1) 1 (n3 0) = μ3 at k14 q7
    cases ok with
    | true =>
      rw [if_pos rfl] at k14 hμ e2 ⊢
      by_cases h12 : F 1 < 12
      · rw [if_pos h12]
        simp (disch := omega) only [m_X11_dock, ↓ob (hP.1), ↓ob (hP.2.1), ↓ob (hP.2.2.1), ↓ob (hP.2.2.2.1), ↓ob (hP.2.2.2.2.1), ↓ob (hP.2.2.2.2.2.1), ↓ob (hP.2.2.2.2.2.2.1), ↓ob (hP.2.2.2.2.2.2.2.1), ↓ob (hP.2.2.2.2.2.2.2.2.1), ↓ob (hP.2.2.2.2.2.2.2.2.2.1), ↓ob (hP.2.2.2.2.2.2.2.2.2.2.1), ↓ob (hP.2.2.2.2.2.2.2.2.2.2.2.1), ↓ob (hP.2.2.2.2.2.2.2.2.2.2.2.2.1), ↓ob (hP.2.2.2.2.2.2.2.2.2.2.2.2.2.1), hP.2.2.2.2.2.2.2.2.2.2.2.2.2.2, e1, e2, n3_lit, hμ, k14, q7, n3_neg1, n3_eq_t, n3_lt_t, ↓lt_e, ↓gd_e, ↓Option.bind_some, ↓reduceIte, if_true, if_false, if_pT, if_nF, decide_true, Bool.not_true, Bool.not_false, not_true_eq_false, not_false_eq_true, Bool.false_eq_true, Bool.true_eq_false, eq_self]
      · rw [if_neg h12]
        simp (disch := omega) only [m_X11_dock, ↓ob (hP.1), ↓ob (hP.2.1), ↓ob (hP.2.2.1), ↓ob (hP.2.2.2.1), ↓ob (hP.2.2.2.2.1), ↓ob (hP.2.2.2.2.2.1), ↓ob (hP.2.2.2.2.2.2.1), ↓ob (hP.2.2.2.2.2.2.2.1), ↓ob (hP.2.2.2.2.2.2.2.2.1), ↓ob (hP.2.2.2.2.2.2.2.2.2.1), ↓ob (hP.2.2.2.2.2.2.2.2.2.2.1), ↓ob (hP.2.2.2.2.2.2.2.2.2.2.2.1), ↓ob (hP.2.2.2.2.2.2.2.2.2.2.2.2.1), ↓ob (hP.2.2.2.2.2.2.2.2.2.2.2.2.2.1), hP.2.2.2.2.2.2.2.2.2.2.2.2.2.2, e1, e2, n3_lit, hμ, k14, q7, n3_neg1, n3_eq_t, n3_lt_f, ↓lt_e, ↓gd_e, ↓Option.bind_some, ↓reduceIte, if_true, if_false, if_pT, if_nF, decide_true, Bool.not_true, Bool.not_false, not_true_eq_false, not_false_eq_true, Bool.false_eq_true, Bool.true_eq_false, eq_self]
    | false =>
      rw [if_neg (by decide)] at k14 hμ e2 ⊢
      simp (disch := omega) only [m_X11_dock, ↓ob (hP.1), ↓ob (hP.2.1), ↓ob (hP.2.2.1), ↓ob (hP.2.2.2.1), ↓ob (hP.2.2.2.2.1), ↓ob (hP.2.2.2.2.2.1), ↓ob (hP.2.2.2.2.2.2.1), ↓ob (hP.2.2.2.2.2.2.2.1), ↓ob (hP.2.2.2.2.2.2.2.2.1), ↓ob (hP.2.2.2.2.2.2.2.2.2.1), ↓ob (hP.2.2.2.2.2.2.2.2.2.2.1), ↓ob (hP.2.2.2.2.2.2.2.2.2.2.2.1), ↓ob (hP.2.2.2.2.2.2.2.2.2.2.2.2.1), ↓ob (hP.2.2.2.2.2.2.2.2.2.2.2.2.2.1), hP.2.2.2.2.2.2.2.2.2.2.2.2.2.2, e1, e2, n3_lit, hμ, k14, n3_neg1, n3_eq_f, ↓lt_e, ↓gd_e, ↓Option.bind_some, ↓reduceIte, if_true, if_false, if_pT, if_nF, decide_true, Bool.not_true, Bool.not_false, not_true_eq_false, not_false_eq_true, Bool.false_eq_true, Bool.true_eq_false, eq_self]
  -- the reference reads
  have rr : ∀ μ, RR ad μ F m A b J T n f → ∃ μ' c, m_X12_dock N Λ μ (ad 181) = jn_X12_dock_59 N Λ μ' (ad 181) (ad 181) (n3 (if ok = true then 0 else 1)) ∧ (ok = true → Row μ' (ad 182) 1222 G) ∧ Row μ' (ad 184) 1222 F ∧ c ≤ 14 ∧ μ'.1 (ad 181) 14 = n3 (if ok = true then 4294967295 else v) ∧ μ'.1 (ad 181) 0 = n3 0 ∧ μ'.1 (ad 181) 9 = n3 0 ∧ μ'.1 (ad 181) 6 = μ.1 (ad 181) 6 ∧ μ'.1 (ad 181) 7 = μ.1 (ad 181) 7 ∧ Fr ad (fun i => i = 181 ∨ i = 182 ∨ i = 184) μ μ' := fun μ h => by
    have hW := h.1
    unfold m_X12_dock lp_X12_dock_2
    refine cp_loop (Q := fun X => ∃ μ' c, X = jn_X12_dock_59 N Λ μ' (ad 181) (ad 181) (n3 (if ok = true then 0 else 1)) ∧ (ok = true → Row μ' (ad 182) 1222 G) ∧ Row μ' (ad 184) 1222 F ∧ c ≤ 14 ∧ μ'.1 (ad 181) 14 = n3 (if ok = true then 4294967295 else v) ∧ μ'.1 (ad 181) 0 = n3 0 ∧ μ'.1 (ad 181) 9 = n3 0 ∧ μ'.1 (ad 181) 6 = μ.1 (ad 181) 6 ∧ μ'.1 (ad 181) 7 = μ.1 (ad 181) 7 ∧ Fr ad (fun i => i = 181 ∨ i = 182 ∨ i = 184) μ μ') hj 184 0 1222 (fun k => n3 (F k)) (fun i hi μ1 hf h2 k => ?_) (fun μ1 hf h1 h2 => ?_) (by omega)
    · have hW1 := hW.fr hf (by omega)
      simp (disch := omega) only [bd_X12_dock_2, ↓ob (hR.1), ↓ob (hR.2.1), ↓ob (hR.2.2.1), ↓ob (hR.2.2.2.1), ↓ob (hR.2.2.2.2.1), ↓ob (hR.2.2.2.2.2.1), ↓ob (hR.2.2.2.2.2.2.1), ↓ob (hR.2.2.2.2.2.2.2.1), ↓ob (hR.2.2.2.2.2.2.2.2.1), ↓ob (hR.2.2.2.2.2.2.2.2.2.1), ↓ob (hR.2.2.2.2.2.2.2.2.2.2.1), ↓ob (hR.2.2.2.2.2.2.2.2.2.2.2.1), ↓ob (hR.2.2.2.2.2.2.2.2.2.2.2.2.1), ↓ob (hR.2.2.2.2.2.2.2.2.2.2.2.2.2.1), ↓ob (hR.2.2.2.2.2.2.2.2.2.2.2.2.2.2.1), ↓ob (hR.2.2.2.2.2.2.2.2.2.2.2.2.2.2.2.1), ↓ob (hR.2.2.2.2.2.2.2.2.2.2.2.2.2.2.2.2.1), ↓ob (hR.2.2.2.2.2.2.2.2.2.2.2.2.2.2.2.2.2.1), hR.2.2.2.2.2.2.2.2.2.2.2.2.2.2.2.2.2.2.1, hR.2.2.2.2.2.2.2.2.2.2.2.2.2.2.2.2.2.2.2.1, hR.2.2.2.2.2.2.2.2.2.2.2.2.2.2.2.2.2.2.2.2.1, hR.2.2.2.2.2.2.2.2.2.2.2.2.2.2.2.2.2.2.2.2.2.1, hR.2.2.2.2.2.2.2.2.2.2.2.2.2.2.2.2.2.2.2.2.2.2.1, hR.2.2.2.2.2.2.2.2.2.2.2.2.2.2.2.2.2.2.2.2.2.2.2.1, hR.2.2.2.2.2.2.2.2.2.2.2.2.2.2.2.2.2.2.2.2.2.2.2.2.1, hR.2.2.2.2.2.2.2.2.2.2.2.2.2.2.2.2.2.2.2.2.2.2.2.2.2.1, hR.2.2.2.2.2.2.2.2.2.2.2.2.2.2.2.2.2.2.2.2.2.2.2.2.2.2.1, hR.2.2.2.2.2.2.2.2.2.2.2.2.2.2.2.2.2.2.2.2.2.2.2.2.2.2.2.1, hR.2.2.2.2.2.2.2.2.2.2.2.2.2.2.2.2.2.2.2.2.2.2.2.2.2.2.2.2.1, hR.2.2.2.2.2.2.2.2.2.2.2.2.2.2.2.2.2.2.2.2.2.2.2.2.2.2.2.2.2.1, hR.2.2.2.2.2.2.2.2.2.2.2.2.2.2.2.2.2.2.2.2.2.2.2.2.2.2.2.2.2.2.1, hR.2.2.2.2.2.2.2.2.2.2.2.2.2.2.2.2.2.2.2.2.2.2.2.2.2.2.2.2.2.2.2.1, hR.2.2.2.2.2.2.2.2.2.2.2.2.2.2.2.2.2.2.2.2.2.2.2.2.2.2.2.2.2.2.2.2.1, hR.2.2.2.2.2.2.2.2.2.2.2.2.2.2.2.2.2.2.2.2.2.2.2.2.2.2.2.2.2.2.2.2.2.1, hR.2.2.2.2.2.2.2.2.2.2.2.2.2.2.2.2.2.2.2.2.2.2.2.2.2.2.2.2.2.2.2.2.2.2.1, hR.2.2.2.2.2.2.2.2.2.2.2.2.2.2.2.2.2.2.2.2.2.2.2.2.2.2.2.2.2.2.2.2.2.2.2, hW1, ↓lt_e, ↓gd_e, ↓Option.bind_some, ↓reduceIte, if_true, if_false, if_pT, if_nF, decide_true, Bool.not_true, Bool.not_false, not_true_eq_false, not_false_eq_true, Bool.false_eq_true, Bool.true_eq_false, eq_self, n3_lit, n3_add, n3_mul, n3_sub, n3_tn, n3_le_t, n3_le_f, n3_lt_t, n3_lt_f, n3_eq_f, n3_eq_t, n3_inb, n3_rem, n3_div, n3_zb, bb_0, bb_1, zb_bb, bb_T, bb_F, n3_dec, n3_m1, n3_eqm, n3_eqmt, n3_ltm, n3_mlt, n3_lem, n3_mle, n3_neg_lt, n3_nlt_neg, n3_nle_neg, n3_neg_le, Nat.zero_add]
    · have q := (hf 181 (by omega)).1
      have hR1 : RR ad μ1 F m A b J T n f := h.fr (hf.mono (fun i hi => by unfold ScR; omega)) (by rw [q]) (by rw [q]) (by rw [q]) (by rw [q])
      obtain ⟨μ2, c, e2, hc, r2, b2, f2, z0, z9, kk⟩ := gr μ1 m A b J f hR1
      have f3 : Fr ad (fun i => i = 181) μ2 (mset μ2 (ad 181) 14 (n3 (if ok = true then 4294967295 else v))) := (Fr.refl μ2).set hj (by rfl)
      have r184 : Row μ1 (ad 184) 1222 F := fun k hk => by have := h1 k hk; rw [Nat.zero_add] at this; exact this
      refine ⟨_, ⟨mset μ2 (ad 181) 14 (n3 (if ok = true then 4294967295 else v)), c, rfl, fun ho => (r2 ho).off (mso hj (by omega)), (r184.fr f2 (by omega)).off (mso hj (by omega)), hc, mse _ _ _ _, by rw [msn (by omega)]; exact z0, by rw [msn (by omega)]; exact z9, by rw [msn (by omega), kk 6 (by omega) (by omega) (by omega) (by omega) (by omega) (by omega), q], by rw [msn (by omega), kk 7 (by omega) (by omega) (by omega) (by omega) (by omega) (by omega), q], (hf.mono (fun i hi => by omega)).trans ((f2.mono (fun i hi => by omega)).trans (f3.mono (fun i hi => by omega)))⟩, fun k => ?_⟩
      cases ok with
      | true =>
        rw [if_pos rfl] at e2 ⊢
        simp (disch := omega) only [bd_X12_dock_2, jn_X12_dock_46, e2, n3_lit, n3_neg1, n3_le_t, ↓lt_e, ↓gd_e, ↓Option.bind_some, ↓reduceIte, if_true, if_false, if_pT, if_nF, decide_true, Bool.not_true, Bool.not_false, not_true_eq_false, not_false_eq_true, Bool.false_eq_true, Bool.true_eq_false, eq_self]
      | false =>
        rw [if_neg (by decide)] at e2 ⊢
        have b2' := b2 rfl
        simp (disch := omega) only [bd_X12_dock_2, jn_X12_dock_46, e2, b2', n3_lit, n3_neg_le, n3_nle_neg, n3_le_t, ↓lt_e, ↓gd_e, ↓Option.bind_some, ↓reduceIte, if_true, if_false, if_pT, if_nF, decide_true, Bool.not_true, Bool.not_false, not_true_eq_false, not_false_eq_true, Bool.false_eq_true, Bool.true_eq_false, eq_self]
  -- the row is brought back
  have bk : ∀ μ2, Row μ2 (ad 184) 1222 F → ∃ μ3, jn_X12_dock_90 N Λ μ2 (ad 181) = some (n3 0, μ3) ∧ Row μ3 (ad 182) 1222 F ∧ Fr ad (fun i => i = 182) μ2 μ3 := fun μ2 h2 => by
    unfold jn_X12_dock_90 lp_X12_dock_92
    refine cp_loop (Q := fun X => ∃ μ3, X = some (n3 0, μ3) ∧ Row μ3 (ad 182) 1222 F ∧ Fr ad (fun i => i = 182) μ2 μ3) hj 182 0 1222 (fun k => n3 (F k)) (fun i hi μ1 hf h3 k => ?_) (fun μ1 hf h1 h3 => ?_) (by omega)
    · have hW1 := h2.fr hf (by omega)
      simp (disch := omega) only [bd_X12_dock_92, ↓ob (hR.1), ↓ob (hR.2.1), ↓ob (hR.2.2.1), ↓ob (hR.2.2.2.1), ↓ob (hR.2.2.2.2.1), ↓ob (hR.2.2.2.2.2.1), ↓ob (hR.2.2.2.2.2.2.1), ↓ob (hR.2.2.2.2.2.2.2.1), ↓ob (hR.2.2.2.2.2.2.2.2.1), ↓ob (hR.2.2.2.2.2.2.2.2.2.1), ↓ob (hR.2.2.2.2.2.2.2.2.2.2.1), ↓ob (hR.2.2.2.2.2.2.2.2.2.2.2.1), ↓ob (hR.2.2.2.2.2.2.2.2.2.2.2.2.1), ↓ob (hR.2.2.2.2.2.2.2.2.2.2.2.2.2.1), ↓ob (hR.2.2.2.2.2.2.2.2.2.2.2.2.2.2.1), ↓ob (hR.2.2.2.2.2.2.2.2.2.2.2.2.2.2.2.1), ↓ob (hR.2.2.2.2.2.2.2.2.2.2.2.2.2.2.2.2.1), ↓ob (hR.2.2.2.2.2.2.2.2.2.2.2.2.2.2.2.2.2.1), hR.2.2.2.2.2.2.2.2.2.2.2.2.2.2.2.2.2.2.1, hR.2.2.2.2.2.2.2.2.2.2.2.2.2.2.2.2.2.2.2.1, hR.2.2.2.2.2.2.2.2.2.2.2.2.2.2.2.2.2.2.2.2.1, hR.2.2.2.2.2.2.2.2.2.2.2.2.2.2.2.2.2.2.2.2.2.1, hR.2.2.2.2.2.2.2.2.2.2.2.2.2.2.2.2.2.2.2.2.2.2.1, hR.2.2.2.2.2.2.2.2.2.2.2.2.2.2.2.2.2.2.2.2.2.2.2.1, hR.2.2.2.2.2.2.2.2.2.2.2.2.2.2.2.2.2.2.2.2.2.2.2.2.1, hR.2.2.2.2.2.2.2.2.2.2.2.2.2.2.2.2.2.2.2.2.2.2.2.2.2.1, hR.2.2.2.2.2.2.2.2.2.2.2.2.2.2.2.2.2.2.2.2.2.2.2.2.2.2.1, hR.2.2.2.2.2.2.2.2.2.2.2.2.2.2.2.2.2.2.2.2.2.2.2.2.2.2.2.1, hR.2.2.2.2.2.2.2.2.2.2.2.2.2.2.2.2.2.2.2.2.2.2.2.2.2.2.2.2.1, hR.2.2.2.2.2.2.2.2.2.2.2.2.2.2.2.2.2.2.2.2.2.2.2.2.2.2.2.2.2.1, hR.2.2.2.2.2.2.2.2.2.2.2.2.2.2.2.2.2.2.2.2.2.2.2.2.2.2.2.2.2.2.1, hR.2.2.2.2.2.2.2.2.2.2.2.2.2.2.2.2.2.2.2.2.2.2.2.2.2.2.2.2.2.2.2.1, hR.2.2.2.2.2.2.2.2.2.2.2.2.2.2.2.2.2.2.2.2.2.2.2.2.2.2.2.2.2.2.2.2.1, hR.2.2.2.2.2.2.2.2.2.2.2.2.2.2.2.2.2.2.2.2.2.2.2.2.2.2.2.2.2.2.2.2.2.1, hR.2.2.2.2.2.2.2.2.2.2.2.2.2.2.2.2.2.2.2.2.2.2.2.2.2.2.2.2.2.2.2.2.2.2.1, hR.2.2.2.2.2.2.2.2.2.2.2.2.2.2.2.2.2.2.2.2.2.2.2.2.2.2.2.2.2.2.2.2.2.2.2, hW1, ↓lt_e, ↓gd_e, ↓Option.bind_some, ↓reduceIte, if_true, if_false, if_pT, if_nF, decide_true, Bool.not_true, Bool.not_false, not_true_eq_false, not_false_eq_true, Bool.false_eq_true, Bool.true_eq_false, eq_self, n3_lit, n3_add, n3_mul, n3_sub, n3_tn, n3_le_t, n3_le_f, n3_lt_t, n3_lt_f, n3_eq_f, n3_eq_t, n3_inb, n3_rem, n3_div, n3_zb, bb_0, bb_1, zb_bb, bb_T, bb_F, n3_dec, n3_m1, n3_eqm, n3_eqmt, n3_ltm, n3_mlt, n3_lem, n3_mle, n3_neg_lt, n3_nlt_neg, n3_nle_neg, n3_neg_le, Nat.zero_add]
    · refine ⟨_, ⟨μ1, rfl, fun k hk => by have := h1 k hk; rw [Nat.zero_add] at this; exact this, hf⟩, fun k => ?_⟩
      simp (disch := omega) only [bd_X12_dock_92, ↓lt_e, ↓gd_e, ↓Option.bind_some, ↓reduceIte, if_true, if_false, if_pT, if_nF, decide_true, Bool.not_true, Bool.not_false, not_true_eq_false, not_false_eq_true, Bool.false_eq_true, Bool.true_eq_false, eq_self, n3_lit, n3_add, n3_mul, n3_sub, n3_tn, n3_le_t, n3_le_f, n3_lt_t, n3_lt_f, n3_eq_f, n3_eq_t, n3_inb, n3_rem, n3_div, n3_zb, bb_0, bb_1, zb_bb, bb_T, bb_F, n3_dec, n3_m1, n3_eqm, n3_eqmt, n3_ltm, n3_mlt, n3_lem, n3_mle, n3_neg_lt, n3_nlt_neg, n3_nle_neg, n3_neg_le]
  have mkRR : ∀ (μ μ2 μ3 : Mem) (t f' : Int32) (F' : Nat → Nat) (m' : Nat), RR ad μ F m A b J T n f → Row μ3 (ad 182) 1222 F' → Fr ad (fun i => i = 181 ∨ i = 182 ∨ i = 184) μ μ3 → μ3.1 (ad 181) 14 = f' → μ3.1 (ad 181) 9 = n3 0 → μ3.1 (ad 181) 6 = μ.1 (ad 181) 6 → μ3.1 (ad 181) 7 = n3 m' → (m' = 0 ∨ m' = m) → RR ad μ3 F' m' A b J T 0 f' := fun μ μ2 μ3 t f' F' m' h h1 h2 h3 h4 h5 h6 h7 => by
    refine ⟨h1, ⟨h6, ?_⟩, ⟨by rw [h5]; exact h.2.2.1.1, fun hb => Row.fr (h.2.2.1.2 hb) h2 (show ¬ (183 = 181 ∨ 183 = 182 ∨ 183 = 184) by omega)⟩, ⟨h4, fun k hk => absurd hk (Nat.not_lt_zero k)⟩, h3⟩
    rw [(h2 186 (by omega)).1]
    rcases h7 with h7 | h7
    · subst h7; exact fun j hj => absurd hj (Nat.not_lt_zero j)
    · subst h7; exact h.2.1.2
  cases ok with
  | false =>
    refine ⟨1, 1, 0, F, m, n3 v, ho.used, Or.inr (Or.inl ⟨rfl, rfl, rfl⟩), fun μ h => ?_, fun μ h => ?_⟩
    · obtain ⟨μ1, _, e1, h1, c1, f1⟩ := cc μ h
      rw [if_neg (by decide)] at e1 h1
      exact ⟨μ1, e1, h1, f1⟩
    · obtain ⟨μ1, c, e1, r1, r4, hc, k14, k0, k9, k6, k7, f1⟩ := rr μ h
      rw [if_neg (by decide)] at e1 k14
      have f2 : Fr ad (fun i => i = 181) μ1 (mset μ1 (ad 181) 0 (n3 1)) := (Fr.refl μ1).set hj (by rfl)
      obtain ⟨μ3, e3, r3, f3⟩ := bk (mset μ1 (ad 181) 0 (n3 1)) (r4.off (mso hj (by omega)))
      have q := (f3 181 (by omega)).1
      have ff : Fr ad (fun i => i = 181 ∨ i = 182 ∨ i = 184) μ μ3 := f1.trans ((f2.mono (fun i hi => by omega)).trans (f3.mono (fun i hi => by omega)))
      refine ⟨μ3, ?_, by rw [q, mse], mkRR μ μ1 μ3 0 (n3 v) F m h r3 ff (by rw [q, msn (by omega)]; exact k14) (by rw [q, msn (by omega)]; exact k9) (by rw [q, msn (by omega)]; exact k6) (by rw [q, msn (by omega), k7]; exact h.2.1.1) (Or.inr rfl), ff.mono (fun i hi => by omega)⟩
      rw [e1]
      simp (disch := omega) only [jn_X12_dock_59, n3_lit, r_thr1, e3, ↓lt_e, ↓gd_e, ↓Option.bind_some, ↓reduceIte, if_true, if_false, if_pT, if_nF, decide_true, Bool.not_true, Bool.not_false, not_true_eq_false, not_false_eq_true, Bool.false_eq_true, Bool.true_eq_false, eq_self, n3_eq_f]
  | true =>
    obtain ⟨gw, gl, gt⟩ := g1 rfl
    have gb := gw.1; unfold WB at gb
    by_cases h12 : F 1 < 12
    · refine ⟨0, 0, n3 (F 1 + 1), up G 1 (F 1 + 1), 0, n3 4294967295, dock_ok (f := f) ho gw gl gt h12, Or.inl ⟨rfl, rfl⟩, fun μ h => ?_, fun μ h => ?_⟩
      · obtain ⟨μ1, _, e1, h1, c1, f1⟩ := cc μ h
        rw [if_pos rfl, if_pos h12] at e1
        rw [if_pos rfl] at h1
        obtain ⟨μ2, e2, c2, f2⟩ := c_copy (N := N) hS12 hS3 (c1 rfl) hj gw (by omega)
        have q7 : μ2.1 (ad 3) 7 = n3 (G 1) := c2.2.2.2.2.2.2.2.1
        have c3 := c2.wr hj gb.1 gb.2.2.2.2.2.2.2.2.2.2.2.1 1 (F 1 + 1) (by omega) ⟨by omega, by omega⟩ (by omega) (by omega) 3 7 rfl rfl
        have f3 : Fr ad (fun i => i = 3) μ2 (mset μ2 (ad 3) 7 (n3 (F 1 + 1))) := (Fr.refl μ2).set hj (by rfl)
        have f4 : Fr ad (fun i => i = 56) (mset μ2 (ad 3) 7 (n3 (F 1 + 1))) (mset (mset μ2 (ad 3) 7 (n3 (F 1 + 1))) (ad 56) 0 (n3 0)) := (Fr.refl _).set hj (by rfl)
        have ff : Fr ad (fun i => i = 56 ∨ (3 ≤ i ∧ i ≤ 11)) μ1 (mset (mset μ2 (ad 3) 7 (n3 (F 1 + 1))) (ad 56) 0 (n3 0)) := (Fr.mono f2 (fun i hi => by omega)).trans ((f3.mono (fun i hi => by omega)).trans (f4.mono (fun i hi => by omega)))
        refine ⟨_, ?_, h1.forget (c3.fr f4 (fun i a b => by omega)) ((h1.2.1.of (gl.up (by omega) (by omega))).fr ff (fun i a b => by omega)) (mse _ _ _ _) (by rw [msn (by omega), (f3 56 (by omega)).1, (f2 56 (by omega)).1]) (ff.mono (fun i hi => by unfold ScC; omega)), f1.trans (ff.mono (fun i hi => by omega))⟩
        rw [e1, e2]
        have q8 : (mset (mset μ2 (ad 3) 7 (n3 (F 1 + 1))) (ad 56) 0 (n3 0)).1 (ad 3) 7 = n3 (F 1 + 1) := by rw [mso hj (by omega), mse]
        simp (disch := omega) only [m_X5_forget, q7, gt, n3_lit, n3_add, q8, ↓lt_e, ↓gd_e, ↓Option.bind_some, ↓reduceIte, if_true, if_false, if_pT, if_nF, decide_true, Bool.not_true, Bool.not_false, not_true_eq_false, not_false_eq_true, Bool.false_eq_true, Bool.true_eq_false, eq_self]
      · obtain ⟨μ1, c, e1, r1, r4, hc, k14, k0, k9, k6, k7, f1⟩ := rr μ h
        rw [if_pos rfl] at e1 k14
        have r1' := r1 rfl
        have q1 : μ1.1 (ad 182) 1 = n3 (F 1) := by rw [r1' 1 (by omega), gt]
        have f2 : Fr ad (fun i => i = 182) μ1 (mset μ1 (ad 182) 1 (n3 (F 1 + 1))) := (Fr.refl μ1).set hj (by rfl)
        have f3 : Fr ad (fun i => i = 181) (mset μ1 (ad 182) 1 (n3 (F 1 + 1))) (mset (mset μ1 (ad 182) 1 (n3 (F 1 + 1))) (ad 181) 7 (n3 0)) := (Fr.refl _).set hj (by rfl)
        have ff : Fr ad (fun i => i = 181 ∨ i = 182 ∨ i = 184) μ (mset (mset μ1 (ad 182) 1 (n3 (F 1 + 1))) (ad 181) 7 (n3 0)) := f1.trans ((f2.mono (fun i hi => by omega)).trans (f3.mono (fun i hi => by omega)))
        have kx : ∀ k, k ≠ 7 → (mset (mset μ1 (ad 182) 1 (n3 (F 1 + 1))) (ad 181) 7 (n3 0)).1 (ad 181) k = μ1.1 (ad 181) k := fun k hk => by rw [msn hk, mso hj (by omega)]
        have q2 : (mset (mset μ1 (ad 182) 1 (n3 (F 1 + 1))) (ad 181) 7 (n3 0)).1 (ad 182) 1 = n3 (F 1 + 1) := by rw [mso hj (by omega), mse]
        refine ⟨_, ?_, by rw [kx 0 (by omega)]; exact k0, mkRR μ μ1 _ 0 (n3 4294967295) (up G 1 (F 1 + 1)) 0 h ((r1'.set 1 (F 1 + 1)).off (mso hj (by omega))) ff (by rw [kx 14 (by omega)]; exact k14) (by rw [kx 9 (by omega)]; exact k9) (by rw [kx 6 (by omega)]; exact k6) (mse _ _ _ _) (Or.inl rfl), ff.mono (fun i hi => by omega)⟩
        rw [e1]
        simp (disch := omega) only [jn_X12_dock_59, jn_X12_dock_83, n3_lit, r_thr0, ↓ob (hR.1), ↓ob (hR.2.1), ↓ob (hR.2.2.1), ↓ob (hR.2.2.2.1), ↓ob (hR.2.2.2.2.1), ↓ob (hR.2.2.2.2.2.1), ↓ob (hR.2.2.2.2.2.2.1), ↓ob (hR.2.2.2.2.2.2.2.1), ↓ob (hR.2.2.2.2.2.2.2.2.1), ↓ob (hR.2.2.2.2.2.2.2.2.2.1), ↓ob (hR.2.2.2.2.2.2.2.2.2.2.1), ↓ob (hR.2.2.2.2.2.2.2.2.2.2.2.1), ↓ob (hR.2.2.2.2.2.2.2.2.2.2.2.2.1), ↓ob (hR.2.2.2.2.2.2.2.2.2.2.2.2.2.1), ↓ob (hR.2.2.2.2.2.2.2.2.2.2.2.2.2.2.1), ↓ob (hR.2.2.2.2.2.2.2.2.2.2.2.2.2.2.2.1), ↓ob (hR.2.2.2.2.2.2.2.2.2.2.2.2.2.2.2.2.1), ↓ob (hR.2.2.2.2.2.2.2.2.2.2.2.2.2.2.2.2.2.1), hR.2.2.2.2.2.2.2.2.2.2.2.2.2.2.2.2.2.2.1, hR.2.2.2.2.2.2.2.2.2.2.2.2.2.2.2.2.2.2.2.1, hR.2.2.2.2.2.2.2.2.2.2.2.2.2.2.2.2.2.2.2.2.1, hR.2.2.2.2.2.2.2.2.2.2.2.2.2.2.2.2.2.2.2.2.2.1, hR.2.2.2.2.2.2.2.2.2.2.2.2.2.2.2.2.2.2.2.2.2.2.1, hR.2.2.2.2.2.2.2.2.2.2.2.2.2.2.2.2.2.2.2.2.2.2.2.1, hR.2.2.2.2.2.2.2.2.2.2.2.2.2.2.2.2.2.2.2.2.2.2.2.2.1, hR.2.2.2.2.2.2.2.2.2.2.2.2.2.2.2.2.2.2.2.2.2.2.2.2.2.1, hR.2.2.2.2.2.2.2.2.2.2.2.2.2.2.2.2.2.2.2.2.2.2.2.2.2.2.1, hR.2.2.2.2.2.2.2.2.2.2.2.2.2.2.2.2.2.2.2.2.2.2.2.2.2.2.2.1, hR.2.2.2.2.2.2.2.2.2.2.2.2.2.2.2.2.2.2.2.2.2.2.2.2.2.2.2.2.1, hR.2.2.2.2.2.2.2.2.2.2.2.2.2.2.2.2.2.2.2.2.2.2.2.2.2.2.2.2.2.1, hR.2.2.2.2.2.2.2.2.2.2.2.2.2.2.2.2.2.2.2.2.2.2.2.2.2.2.2.2.2.2.1, hR.2.2.2.2.2.2.2.2.2.2.2.2.2.2.2.2.2.2.2.2.2.2.2.2.2.2.2.2.2.2.2.1, hR.2.2.2.2.2.2.2.2.2.2.2.2.2.2.2.2.2.2.2.2.2.2.2.2.2.2.2.2.2.2.2.2.1, hR.2.2.2.2.2.2.2.2.2.2.2.2.2.2.2.2.2.2.2.2.2.2.2.2.2.2.2.2.2.2.2.2.2.1, hR.2.2.2.2.2.2.2.2.2.2.2.2.2.2.2.2.2.2.2.2.2.2.2.2.2.2.2.2.2.2.2.2.2.2.1, hR.2.2.2.2.2.2.2.2.2.2.2.2.2.2.2.2.2.2.2.2.2.2.2.2.2.2.2.2.2.2.2.2.2.2.2, q1, q2, ↓lt_e, ↓gd_e, ↓Option.bind_some, ↓reduceIte, if_true, if_false, if_pT, if_nF, decide_true, Bool.not_true, Bool.not_false, not_true_eq_false, not_false_eq_true, Bool.false_eq_true, Bool.true_eq_false, eq_self, n3_eq_f, n3_eq_t, n3_inb, n3_tn, n3_add]
    · have h12' : F 1 = 12 := by omega
      refine ⟨2, 2, 0, F, m, n3 4294967295, ho.used, Or.inr (Or.inr ⟨rfl, rfl, rfl⟩), fun μ h => ?_, fun μ h => ?_⟩
      · obtain ⟨μ1, _, e1, h1, c1, f1⟩ := cc μ h
        rw [if_pos rfl, if_neg h12] at e1
        rw [if_pos rfl] at h1
        exact ⟨μ1, e1, h1, f1⟩
      · obtain ⟨μ1, c, e1, r1, r4, hc, k14, k0, k9, k6, k7, f1⟩ := rr μ h
        rw [if_pos rfl] at e1 k14
        have q1 : μ1.1 (ad 182) 1 = n3 12 := by rw [r1 rfl 1 (by omega), gt, h12']
        have f2 : Fr ad (fun i => i = 181) μ1 (mset μ1 (ad 181) 0 (n3 2)) := (Fr.refl μ1).set hj (by rfl)
        obtain ⟨μ3, e3, r3, f3⟩ := bk (mset μ1 (ad 181) 0 (n3 2)) (r4.off (mso hj (by omega)))
        have q := (f3 181 (by omega)).1
        have ff : Fr ad (fun i => i = 181 ∨ i = 182 ∨ i = 184) μ μ3 := f1.trans ((f2.mono (fun i hi => by omega)).trans (f3.mono (fun i hi => by omega)))
        refine ⟨μ3, ?_, by rw [q, mse], mkRR μ μ1 μ3 0 (n3 4294967295) F m h r3 ff (by rw [q, msn (by omega)]; exact k14) (by rw [q, msn (by omega)]; exact k9) (by rw [q, msn (by omega)]; exact k6) (by rw [q, msn (by omega), k7]; exact h.2.1.1) (Or.inr rfl), ff.mono (fun i hi => by omega)⟩
        rw [e1]
        simp (disch := omega) only [jn_X12_dock_59, jn_X12_dock_83, n3_lit, r_thr0, r_thr1, ↓ob (hR.1), ↓ob (hR.2.1), ↓ob (hR.2.2.1), ↓ob (hR.2.2.2.1), ↓ob (hR.2.2.2.2.1), ↓ob (hR.2.2.2.2.2.1), ↓ob (hR.2.2.2.2.2.2.1), ↓ob (hR.2.2.2.2.2.2.2.1), ↓ob (hR.2.2.2.2.2.2.2.2.1), ↓ob (hR.2.2.2.2.2.2.2.2.2.1), ↓ob (hR.2.2.2.2.2.2.2.2.2.2.1), ↓ob (hR.2.2.2.2.2.2.2.2.2.2.2.1), ↓ob (hR.2.2.2.2.2.2.2.2.2.2.2.2.1), ↓ob (hR.2.2.2.2.2.2.2.2.2.2.2.2.2.1), ↓ob (hR.2.2.2.2.2.2.2.2.2.2.2.2.2.2.1), ↓ob (hR.2.2.2.2.2.2.2.2.2.2.2.2.2.2.2.1), ↓ob (hR.2.2.2.2.2.2.2.2.2.2.2.2.2.2.2.2.1), ↓ob (hR.2.2.2.2.2.2.2.2.2.2.2.2.2.2.2.2.2.1), hR.2.2.2.2.2.2.2.2.2.2.2.2.2.2.2.2.2.2.1, hR.2.2.2.2.2.2.2.2.2.2.2.2.2.2.2.2.2.2.2.1, hR.2.2.2.2.2.2.2.2.2.2.2.2.2.2.2.2.2.2.2.2.1, hR.2.2.2.2.2.2.2.2.2.2.2.2.2.2.2.2.2.2.2.2.2.1, hR.2.2.2.2.2.2.2.2.2.2.2.2.2.2.2.2.2.2.2.2.2.2.1, hR.2.2.2.2.2.2.2.2.2.2.2.2.2.2.2.2.2.2.2.2.2.2.2.1, hR.2.2.2.2.2.2.2.2.2.2.2.2.2.2.2.2.2.2.2.2.2.2.2.2.1, hR.2.2.2.2.2.2.2.2.2.2.2.2.2.2.2.2.2.2.2.2.2.2.2.2.2.1, hR.2.2.2.2.2.2.2.2.2.2.2.2.2.2.2.2.2.2.2.2.2.2.2.2.2.2.1, hR.2.2.2.2.2.2.2.2.2.2.2.2.2.2.2.2.2.2.2.2.2.2.2.2.2.2.2.1, hR.2.2.2.2.2.2.2.2.2.2.2.2.2.2.2.2.2.2.2.2.2.2.2.2.2.2.2.2.1, hR.2.2.2.2.2.2.2.2.2.2.2.2.2.2.2.2.2.2.2.2.2.2.2.2.2.2.2.2.2.1, hR.2.2.2.2.2.2.2.2.2.2.2.2.2.2.2.2.2.2.2.2.2.2.2.2.2.2.2.2.2.2.1, hR.2.2.2.2.2.2.2.2.2.2.2.2.2.2.2.2.2.2.2.2.2.2.2.2.2.2.2.2.2.2.2.1, hR.2.2.2.2.2.2.2.2.2.2.2.2.2.2.2.2.2.2.2.2.2.2.2.2.2.2.2.2.2.2.2.2.1, hR.2.2.2.2.2.2.2.2.2.2.2.2.2.2.2.2.2.2.2.2.2.2.2.2.2.2.2.2.2.2.2.2.2.1, hR.2.2.2.2.2.2.2.2.2.2.2.2.2.2.2.2.2.2.2.2.2.2.2.2.2.2.2.2.2.2.2.2.2.2.1, hR.2.2.2.2.2.2.2.2.2.2.2.2.2.2.2.2.2.2.2.2.2.2.2.2.2.2.2.2.2.2.2.2.2.2.2, q1, e3, ↓lt_e, ↓gd_e, ↓Option.bind_some, ↓reduceIte, if_true, if_false, if_pT, if_nF, decide_true, Bool.not_true, Bool.not_false, not_true_eq_false, not_false_eq_true, Bool.false_eq_true, Bool.true_eq_false, eq_self, n3_eq_f, n3_eq_t, n3_inb, n3_tn]

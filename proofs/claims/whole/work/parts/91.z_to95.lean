/-! load and which: the reference -/
theorem r_mayEnter {N : Nat} (hN : 1099511627776 ≤ N) {Λ : Lay} {ad : Nat → Nat} {μ : Mem} {F : Nat → Nat} (hR : LyR Λ ad) (hW : Row μ (ad 182) 1222 F)  (hw : WF F) : m_X12_mayEnter N Λ μ (ad 181) = some (n3 (myA F)) := by
  have hb := hw.1; unfold WB at hb
  unfold m_X12_mayEnter lp_X12_mayEnter_4 myA
  refine cw_it (fun i => (n3 (sb (myb F) i), n3 i)) (F 0) rfl (fun i hi k => ?_) (fun k => ?_) (by omega)
  · have hso := hw.2.2.1 i hi
    unfold ShOk at hso
    by_cases h3 : F (25 + 6 * i + 3) = 0
    · by_cases h1 : F (25 + 6 * i + 1) ≤ F 3
      · have e : myb F i = true := by simp [myb, h3, h1]
        simp (disch := omega) only [jn_X12_mayEnter_44, jn_X12_mayEnter_43, bd_X12_mayEnter_4, r_ships hR hW, r_of hR hW, ↓ob (hR.1), ↓ob (hR.2.1), ↓ob (hR.2.2.1), ↓ob (hR.2.2.2.1), ↓ob (hR.2.2.2.2.1), ↓ob (hR.2.2.2.2.2.1), ↓ob (hR.2.2.2.2.2.2.1), ↓ob (hR.2.2.2.2.2.2.2.1), ↓ob (hR.2.2.2.2.2.2.2.2.1), ↓ob (hR.2.2.2.2.2.2.2.2.2.1), ↓ob (hR.2.2.2.2.2.2.2.2.2.2.1), ↓ob (hR.2.2.2.2.2.2.2.2.2.2.2.1), ↓ob (hR.2.2.2.2.2.2.2.2.2.2.2.2.1), ↓ob (hR.2.2.2.2.2.2.2.2.2.2.2.2.2.1), ↓ob (hR.2.2.2.2.2.2.2.2.2.2.2.2.2.2.1), ↓ob (hR.2.2.2.2.2.2.2.2.2.2.2.2.2.2.2.1), ↓ob (hR.2.2.2.2.2.2.2.2.2.2.2.2.2.2.2.2.1), ↓ob (hR.2.2.2.2.2.2.2.2.2.2.2.2.2.2.2.2.2.1), hR.2.2.2.2.2.2.2.2.2.2.2.2.2.2.2.2.2.2.1, hR.2.2.2.2.2.2.2.2.2.2.2.2.2.2.2.2.2.2.2.1, hR.2.2.2.2.2.2.2.2.2.2.2.2.2.2.2.2.2.2.2.2.1, hR.2.2.2.2.2.2.2.2.2.2.2.2.2.2.2.2.2.2.2.2.2.1, hR.2.2.2.2.2.2.2.2.2.2.2.2.2.2.2.2.2.2.2.2.2.2.1, hR.2.2.2.2.2.2.2.2.2.2.2.2.2.2.2.2.2.2.2.2.2.2.2.1, hR.2.2.2.2.2.2.2.2.2.2.2.2.2.2.2.2.2.2.2.2.2.2.2.2.1, hR.2.2.2.2.2.2.2.2.2.2.2.2.2.2.2.2.2.2.2.2.2.2.2.2.2.1, hR.2.2.2.2.2.2.2.2.2.2.2.2.2.2.2.2.2.2.2.2.2.2.2.2.2.2.1, hR.2.2.2.2.2.2.2.2.2.2.2.2.2.2.2.2.2.2.2.2.2.2.2.2.2.2.2.1, hR.2.2.2.2.2.2.2.2.2.2.2.2.2.2.2.2.2.2.2.2.2.2.2.2.2.2.2.2.1, hR.2.2.2.2.2.2.2.2.2.2.2.2.2.2.2.2.2.2.2.2.2.2.2.2.2.2.2.2.2.1, hR.2.2.2.2.2.2.2.2.2.2.2.2.2.2.2.2.2.2.2.2.2.2.2.2.2.2.2.2.2.2.1, hR.2.2.2.2.2.2.2.2.2.2.2.2.2.2.2.2.2.2.2.2.2.2.2.2.2.2.2.2.2.2.2.1, hR.2.2.2.2.2.2.2.2.2.2.2.2.2.2.2.2.2.2.2.2.2.2.2.2.2.2.2.2.2.2.2.2.1, hR.2.2.2.2.2.2.2.2.2.2.2.2.2.2.2.2.2.2.2.2.2.2.2.2.2.2.2.2.2.2.2.2.2.1, hR.2.2.2.2.2.2.2.2.2.2.2.2.2.2.2.2.2.2.2.2.2.2.2.2.2.2.2.2.2.2.2.2.2.2.1, hR.2.2.2.2.2.2.2.2.2.2.2.2.2.2.2.2.2.2.2.2.2.2.2.2.2.2.2.2.2.2.2.2.2.2.2, hW, h3, sb_s, e, n3_shl, n3_or, Nat.one_mul, ↓lt_e, ↓gd_e, ↓Option.bind_some, ↓reduceIte, if_true, if_false, if_pT, if_nF, decide_true, Bool.not_true, Bool.not_false, not_true_eq_false, not_false_eq_true, Bool.false_eq_true, Bool.true_eq_false, eq_self, n3_lit, n3_add, n3_mul, n3_sub, n3_tn, n3_le_t, n3_le_f, n3_lt_t, n3_lt_f, n3_eq_f, n3_eq_t, n3_inb, n3_rem, n3_div, n3_zb, bb_0, bb_1, zb_bb, bb_T, bb_F, n3_dec, n3_m1, n3_eqm, n3_eqmt, n3_ltm, n3_mlt, n3_lem, n3_mle, n3_neg_lt, n3_nlt_neg, n3_nle_neg, n3_neg_le]
      · have e : ¬ myb F i = true := by simp [myb, h1]
        simp (disch := omega) only [jn_X12_mayEnter_44, jn_X12_mayEnter_43, bd_X12_mayEnter_4, r_ships hR hW, r_of hR hW, ↓ob (hR.1), ↓ob (hR.2.1), ↓ob (hR.2.2.1), ↓ob (hR.2.2.2.1), ↓ob (hR.2.2.2.2.1), ↓ob (hR.2.2.2.2.2.1), ↓ob (hR.2.2.2.2.2.2.1), ↓ob (hR.2.2.2.2.2.2.2.1), ↓ob (hR.2.2.2.2.2.2.2.2.1), ↓ob (hR.2.2.2.2.2.2.2.2.2.1), ↓ob (hR.2.2.2.2.2.2.2.2.2.2.1), ↓ob (hR.2.2.2.2.2.2.2.2.2.2.2.1), ↓ob (hR.2.2.2.2.2.2.2.2.2.2.2.2.1), ↓ob (hR.2.2.2.2.2.2.2.2.2.2.2.2.2.1), ↓ob (hR.2.2.2.2.2.2.2.2.2.2.2.2.2.2.1), ↓ob (hR.2.2.2.2.2.2.2.2.2.2.2.2.2.2.2.1), ↓ob (hR.2.2.2.2.2.2.2.2.2.2.2.2.2.2.2.2.1), ↓ob (hR.2.2.2.2.2.2.2.2.2.2.2.2.2.2.2.2.2.1), hR.2.2.2.2.2.2.2.2.2.2.2.2.2.2.2.2.2.2.1, hR.2.2.2.2.2.2.2.2.2.2.2.2.2.2.2.2.2.2.2.1, hR.2.2.2.2.2.2.2.2.2.2.2.2.2.2.2.2.2.2.2.2.1, hR.2.2.2.2.2.2.2.2.2.2.2.2.2.2.2.2.2.2.2.2.2.1, hR.2.2.2.2.2.2.2.2.2.2.2.2.2.2.2.2.2.2.2.2.2.2.1, hR.2.2.2.2.2.2.2.2.2.2.2.2.2.2.2.2.2.2.2.2.2.2.2.1, hR.2.2.2.2.2.2.2.2.2.2.2.2.2.2.2.2.2.2.2.2.2.2.2.2.1, hR.2.2.2.2.2.2.2.2.2.2.2.2.2.2.2.2.2.2.2.2.2.2.2.2.2.1, hR.2.2.2.2.2.2.2.2.2.2.2.2.2.2.2.2.2.2.2.2.2.2.2.2.2.2.1, hR.2.2.2.2.2.2.2.2.2.2.2.2.2.2.2.2.2.2.2.2.2.2.2.2.2.2.2.1, hR.2.2.2.2.2.2.2.2.2.2.2.2.2.2.2.2.2.2.2.2.2.2.2.2.2.2.2.2.1, hR.2.2.2.2.2.2.2.2.2.2.2.2.2.2.2.2.2.2.2.2.2.2.2.2.2.2.2.2.2.1, hR.2.2.2.2.2.2.2.2.2.2.2.2.2.2.2.2.2.2.2.2.2.2.2.2.2.2.2.2.2.2.1, hR.2.2.2.2.2.2.2.2.2.2.2.2.2.2.2.2.2.2.2.2.2.2.2.2.2.2.2.2.2.2.2.1, hR.2.2.2.2.2.2.2.2.2.2.2.2.2.2.2.2.2.2.2.2.2.2.2.2.2.2.2.2.2.2.2.2.1, hR.2.2.2.2.2.2.2.2.2.2.2.2.2.2.2.2.2.2.2.2.2.2.2.2.2.2.2.2.2.2.2.2.2.1, hR.2.2.2.2.2.2.2.2.2.2.2.2.2.2.2.2.2.2.2.2.2.2.2.2.2.2.2.2.2.2.2.2.2.2.1, hR.2.2.2.2.2.2.2.2.2.2.2.2.2.2.2.2.2.2.2.2.2.2.2.2.2.2.2.2.2.2.2.2.2.2.2, hW, h3, sb_s, e, n3_or, ↓lt_e, ↓gd_e, ↓Option.bind_some, ↓reduceIte, if_true, if_false, if_pT, if_nF, decide_true, Bool.not_true, Bool.not_false, not_true_eq_false, not_false_eq_true, Bool.false_eq_true, Bool.true_eq_false, eq_self, n3_lit, n3_add, n3_mul, n3_sub, n3_tn, n3_le_t, n3_le_f, n3_lt_t, n3_lt_f, n3_eq_f, n3_eq_t, n3_inb, n3_rem, n3_div, n3_zb, bb_0, bb_1, zb_bb, bb_T, bb_F, n3_dec, n3_m1, n3_eqm, n3_eqmt, n3_ltm, n3_mlt, n3_lem, n3_mle, n3_neg_lt, n3_nlt_neg, n3_nle_neg, n3_neg_le]
    · have e : ¬ myb F i = true := by simp [myb, h3]
      simp (disch := omega) only [jn_X12_mayEnter_44, jn_X12_mayEnter_43, bd_X12_mayEnter_4, r_ships hR hW, r_of hR hW, sb_s, e, n3_or, ↓lt_e, ↓gd_e, ↓Option.bind_some, ↓reduceIte, if_true, if_false, if_pT, if_nF, decide_true, Bool.not_true, Bool.not_false, not_true_eq_false, not_false_eq_true, Bool.false_eq_true, Bool.true_eq_false, eq_self, n3_lit, n3_add, n3_mul, n3_sub, n3_tn, n3_le_t, n3_le_f, n3_lt_t, n3_lt_f, n3_eq_f, n3_eq_t, n3_inb, n3_rem, n3_div, n3_zb, bb_0, bb_1, zb_bb, bb_T, bb_F, n3_dec, n3_m1, n3_eqm, n3_eqmt, n3_ltm, n3_mlt, n3_lem, n3_mle, n3_neg_lt, n3_nlt_neg, n3_nle_neg, n3_neg_le]
  · simp (disch := omega) only [jn_X12_mayEnter_44, jn_X12_mayEnter_43, bd_X12_mayEnter_4, r_ships hR hW, ↓lt_e, ↓gd_e, ↓Option.bind_some, ↓reduceIte, if_true, if_false, if_pT, if_nF, decide_true, Bool.not_true, Bool.not_false, not_true_eq_false, not_false_eq_true, Bool.false_eq_true, Bool.true_eq_false, eq_self, n3_lit, n3_add, n3_mul, n3_sub, n3_tn, n3_le_t, n3_le_f, n3_lt_t, n3_lt_f, n3_eq_f, n3_eq_t, n3_inb, n3_rem, n3_div, n3_zb, bb_0, bb_1, zb_bb, bb_T, bb_F, n3_dec, n3_m1, n3_eqm, n3_eqmt, n3_ltm, n3_mlt, n3_lem, n3_mle, n3_neg_lt, n3_nlt_neg, n3_nle_neg, n3_neg_le]
theorem r_feesOf {N : Nat} (hN : 1099511627776 ≤ N) {Λ : Lay} {ad : Nat → Nat} {μ : Mem} {F : Nat → Nat} (hR : LyR Λ ad) (hW : Row μ (ad 182) 1222 F)  (hj : Inj ad) (hw : WF F) (hl : LawOk F) {d : Nat} (hd : d < 256) (hdF : d < 2 ^ F 0) : ∃ μ', m_X12_feesOf N Λ μ (ad 181) (n3 d) = some (n3 (fsm F d 8), μ') ∧ Fr ad (fun i => i = 189) μ μ' := by
  have hb := hw.1; unfold WB at hb
  rw [fsm_ge hdF 8 hb.1]
  unfold m_X12_feesOf lp_X12_feesOf_4
  refine cw_iv (P := fun i x => ∃ μ1 : Mem, x = (n3 (fsm F d i), n3 i, μ1) ∧ Fr ad (fun i => i = 189) μ μ1) (Q := fun X => ∃ μ', X = some (n3 (fsm F d (F 0)), μ') ∧ Fr ad (fun i => i = 189) μ μ') (F 0) ⟨μ, rfl, Fr.refl μ⟩ (fun i hi x hx => ?_) (fun x hx => ?_) (show F 0 < N by omega)
  · obtain ⟨μ1, rfl, hf⟩ := hx
    left
    have hW1 := hW.fr hf (by omega)
    have es : fsm F d (i + 1) = fsm F d i + (if d.testBit i = true then feeF F i else 0) := rfl
    by_cases hbit : d.testBit i = true
    · obtain ⟨μ2, e2, f2⟩ := r_feeOf hN hR hW1 hj hw hl i hi
      rw [if_pos hbit] at es
      refine ⟨_, ⟨μ2, rfl, hf.trans f2⟩, fun k => ?_⟩
      rw [es]
      simp (disch := omega) only [jn_X12_feesOf_30, bd_X12_feesOf_4, r_ships hR hW1, r_has, hbit, e2, ↓lt_e, ↓gd_e, ↓Option.bind_some, ↓reduceIte, if_true, if_false, if_pT, if_nF, decide_true, Bool.not_true, Bool.not_false, not_true_eq_false, not_false_eq_true, Bool.false_eq_true, Bool.true_eq_false, eq_self, n3_lit, n3_add, n3_mul, n3_sub, n3_tn, n3_le_t, n3_le_f, n3_lt_t, n3_lt_f, n3_eq_f, n3_eq_t, n3_inb, n3_rem, n3_div, n3_zb, bb_0, bb_1, zb_bb, bb_T, bb_F, n3_dec, n3_m1, n3_eqm, n3_eqmt, n3_ltm, n3_mlt, n3_lem, n3_mle, n3_neg_lt, n3_nlt_neg, n3_nle_neg, n3_neg_le]
    · rw [if_neg hbit] at es
      refine ⟨_, ⟨μ1, rfl, hf⟩, fun k => ?_⟩
      rw [es]
      simp (disch := omega) only [jn_X12_feesOf_30, bd_X12_feesOf_4, r_ships hR hW1, r_has, hbit, ↓lt_e, ↓gd_e, ↓Option.bind_some, ↓reduceIte, if_true, if_false, if_pT, if_nF, decide_true, Bool.not_true, Bool.not_false, not_true_eq_false, not_false_eq_true, Bool.false_eq_true, Bool.true_eq_false, eq_self, n3_lit, n3_add, n3_mul, n3_sub, n3_tn, n3_le_t, n3_le_f, n3_lt_t, n3_lt_f, n3_eq_f, n3_eq_t, n3_inb, n3_rem, n3_div, n3_zb, bb_0, bb_1, zb_bb, bb_T, bb_F, n3_dec, n3_m1, n3_eqm, n3_eqmt, n3_ltm, n3_mlt, n3_lem, n3_mle, n3_neg_lt, n3_nlt_neg, n3_nle_neg, n3_neg_le]
  · obtain ⟨μ1, rfl, hf⟩ := hx
    have hW1 := hW.fr hf (by omega)
    exact ⟨_, ⟨μ1, rfl, hf⟩, fun k => by simp (disch := omega) only [jn_X12_feesOf_30, bd_X12_feesOf_4, r_ships hR hW1, ↓lt_e, ↓gd_e, ↓Option.bind_some, ↓reduceIte, if_true, if_false, if_pT, if_nF, decide_true, Bool.not_true, Bool.not_false, not_true_eq_false, not_false_eq_true, Bool.false_eq_true, Bool.true_eq_false, eq_self, n3_lit, n3_add, n3_mul, n3_sub, n3_tn, n3_le_t, n3_le_f, n3_lt_t, n3_lt_f, n3_eq_f, n3_eq_t, n3_inb, n3_rem, n3_div, n3_zb, bb_0, bb_1, zb_bb, bb_T, bb_F, n3_dec, n3_m1, n3_eqm, n3_eqmt, n3_ltm, n3_mlt, n3_lem, n3_mle, n3_neg_lt, n3_nlt_neg, n3_nle_neg, n3_neg_le]⟩
theorem ml_len (d : Nat) : ∀ n, (ml d n).length ≤ n
  | 0 => Nat.le_refl _
  | n + 1 => by
    have ih := ml_len d n
    unfold ml
    by_cases hb : d.testBit n = true
    · rw [if_pos hb, List.length_append]; show _ + 1 ≤ _; omega
    · rw [if_neg hb]; omega
theorem r_laysMembers {N : Nat} (hN : 1099511627776 ≤ N) {Λ : Lay} {ad : Nat → Nat} {μ : Mem} {F : Nat → Nat} (hR : LyR Λ ad) (hW : Row μ (ad 182) 1222 F)  (hj : Inj ad) (hw : WF F) {d : Nat} (hd : d < 256) : ∃ μ', m_X12_laysMembers N Λ μ (ad 181) (n3 d) = some (n3 (ml d (F 0)).length, μ') ∧ (∀ j x, (ml d (F 0))[j]? = some x → μ'.1 (ad 190) j = n3 x) ∧ Fr ad (fun i => i = 190) μ μ' := by
  have hb := hw.1; unfold WB at hb
  unfold m_X12_laysMembers lp_X12_laysMembers_4
  refine cw_iv (P := fun i x => ∃ μ1 : Mem, x = (n3 (ml d i).length, n3 i, μ1) ∧ (∀ j x, (ml d i)[j]? = some x → μ1.1 (ad 190) j = n3 x) ∧ Fr ad (fun i => i = 190) μ μ1) (Q := fun X => ∃ μ', X = some (n3 (ml d (F 0)).length, μ') ∧ (∀ j x, (ml d (F 0))[j]? = some x → μ'.1 (ad 190) j = n3 x) ∧ Fr ad (fun i => i = 190) μ μ') (F 0) ⟨μ, rfl, fun j x h => by simp [ml] at h, Fr.refl μ⟩ (fun i hi x hx => ?_) (fun x hx => ?_) (show F 0 < N by omega)
  · obtain ⟨μ1, rfl, h1, hf⟩ := hx
    left
    have hW1 := hW.fr hf (by omega)
    have hle := ml_len d i
    by_cases hbit : d.testBit i = true
    · have es : ml d (i + 1) = ml d i ++ [i] := if_pos hbit
      have el : (ml d (i + 1)).length = (ml d i).length + 1 := by rw [es, List.length_append]; rfl
      refine ⟨_, ⟨mset μ1 (ad 190) (ml d i).length (n3 i), rfl, fun j x hx => ?_, hf.set hj (by rfl)⟩, fun k => ?_⟩
      · rw [es, List.getElem?_append] at hx
        by_cases hjl : j < (ml d i).length
        · rw [if_pos hjl] at hx
          rw [msn (by omega)]; exact h1 j x hx
        · rw [if_neg hjl] at hx
          by_cases e : j = (ml d i).length
          · rw [e, Nat.sub_self] at hx
            have : i = x := by simpa using hx
            rw [e, mse, this]
          · obtain ⟨w, hw2⟩ : ∃ w, j - (ml d i).length = w + 1 := ⟨j - (ml d i).length - 1, by omega⟩
            rw [hw2] at hx; simp at hx
      · rw [el]
        simp (disch := omega) only [jn_X12_laysMembers_33, bd_X12_laysMembers_4, r_ships hR hW1, r_has, hbit, ↓ob (hR.1), ↓ob (hR.2.1), ↓ob (hR.2.2.1), ↓ob (hR.2.2.2.1), ↓ob (hR.2.2.2.2.1), ↓ob (hR.2.2.2.2.2.1), ↓ob (hR.2.2.2.2.2.2.1), ↓ob (hR.2.2.2.2.2.2.2.1), ↓ob (hR.2.2.2.2.2.2.2.2.1), ↓ob (hR.2.2.2.2.2.2.2.2.2.1), ↓ob (hR.2.2.2.2.2.2.2.2.2.2.1), ↓ob (hR.2.2.2.2.2.2.2.2.2.2.2.1), ↓ob (hR.2.2.2.2.2.2.2.2.2.2.2.2.1), ↓ob (hR.2.2.2.2.2.2.2.2.2.2.2.2.2.1), ↓ob (hR.2.2.2.2.2.2.2.2.2.2.2.2.2.2.1), ↓ob (hR.2.2.2.2.2.2.2.2.2.2.2.2.2.2.2.1), ↓ob (hR.2.2.2.2.2.2.2.2.2.2.2.2.2.2.2.2.1), ↓ob (hR.2.2.2.2.2.2.2.2.2.2.2.2.2.2.2.2.2.1), hR.2.2.2.2.2.2.2.2.2.2.2.2.2.2.2.2.2.2.1, hR.2.2.2.2.2.2.2.2.2.2.2.2.2.2.2.2.2.2.2.1, hR.2.2.2.2.2.2.2.2.2.2.2.2.2.2.2.2.2.2.2.2.1, hR.2.2.2.2.2.2.2.2.2.2.2.2.2.2.2.2.2.2.2.2.2.1, hR.2.2.2.2.2.2.2.2.2.2.2.2.2.2.2.2.2.2.2.2.2.2.1, hR.2.2.2.2.2.2.2.2.2.2.2.2.2.2.2.2.2.2.2.2.2.2.2.1, hR.2.2.2.2.2.2.2.2.2.2.2.2.2.2.2.2.2.2.2.2.2.2.2.2.1, hR.2.2.2.2.2.2.2.2.2.2.2.2.2.2.2.2.2.2.2.2.2.2.2.2.2.1, hR.2.2.2.2.2.2.2.2.2.2.2.2.2.2.2.2.2.2.2.2.2.2.2.2.2.2.1, hR.2.2.2.2.2.2.2.2.2.2.2.2.2.2.2.2.2.2.2.2.2.2.2.2.2.2.2.1, hR.2.2.2.2.2.2.2.2.2.2.2.2.2.2.2.2.2.2.2.2.2.2.2.2.2.2.2.2.1, hR.2.2.2.2.2.2.2.2.2.2.2.2.2.2.2.2.2.2.2.2.2.2.2.2.2.2.2.2.2.1, hR.2.2.2.2.2.2.2.2.2.2.2.2.2.2.2.2.2.2.2.2.2.2.2.2.2.2.2.2.2.2.1, hR.2.2.2.2.2.2.2.2.2.2.2.2.2.2.2.2.2.2.2.2.2.2.2.2.2.2.2.2.2.2.2.1, hR.2.2.2.2.2.2.2.2.2.2.2.2.2.2.2.2.2.2.2.2.2.2.2.2.2.2.2.2.2.2.2.2.1, hR.2.2.2.2.2.2.2.2.2.2.2.2.2.2.2.2.2.2.2.2.2.2.2.2.2.2.2.2.2.2.2.2.2.1, hR.2.2.2.2.2.2.2.2.2.2.2.2.2.2.2.2.2.2.2.2.2.2.2.2.2.2.2.2.2.2.2.2.2.2.1, hR.2.2.2.2.2.2.2.2.2.2.2.2.2.2.2.2.2.2.2.2.2.2.2.2.2.2.2.2.2.2.2.2.2.2.2, ↓lt_e, ↓gd_e, ↓Option.bind_some, ↓reduceIte, if_true, if_false, if_pT, if_nF, decide_true, Bool.not_true, Bool.not_false, not_true_eq_false, not_false_eq_true, Bool.false_eq_true, Bool.true_eq_false, eq_self, n3_lit, n3_add, n3_mul, n3_sub, n3_tn, n3_le_t, n3_le_f, n3_lt_t, n3_lt_f, n3_eq_f, n3_eq_t, n3_inb, n3_rem, n3_div, n3_zb, bb_0, bb_1, zb_bb, bb_T, bb_F, n3_dec, n3_m1, n3_eqm, n3_eqmt, n3_ltm, n3_mlt, n3_lem, n3_mle, n3_neg_lt, n3_nlt_neg, n3_nle_neg, n3_neg_le]
    · have es : ml d (i + 1) = ml d i := if_neg hbit
      refine ⟨_, ⟨μ1, rfl, by rw [es]; exact h1, hf⟩, fun k => ?_⟩
      rw [es]
      simp (disch := omega) only [jn_X12_laysMembers_33, bd_X12_laysMembers_4, r_ships hR hW1, r_has, hbit, ↓ob (hR.1), ↓ob (hR.2.1), ↓ob (hR.2.2.1), ↓ob (hR.2.2.2.1), ↓ob (hR.2.2.2.2.1), ↓ob (hR.2.2.2.2.2.1), ↓ob (hR.2.2.2.2.2.2.1), ↓ob (hR.2.2.2.2.2.2.2.1), ↓ob (hR.2.2.2.2.2.2.2.2.1), ↓ob (hR.2.2.2.2.2.2.2.2.2.1), ↓ob (hR.2.2.2.2.2.2.2.2.2.2.1), ↓ob (hR.2.2.2.2.2.2.2.2.2.2.2.1), ↓ob (hR.2.2.2.2.2.2.2.2.2.2.2.2.1), ↓ob (hR.2.2.2.2.2.2.2.2.2.2.2.2.2.1), ↓ob (hR.2.2.2.2.2.2.2.2.2.2.2.2.2.2.1), ↓ob (hR.2.2.2.2.2.2.2.2.2.2.2.2.2.2.2.1), ↓ob (hR.2.2.2.2.2.2.2.2.2.2.2.2.2.2.2.2.1), ↓ob (hR.2.2.2.2.2.2.2.2.2.2.2.2.2.2.2.2.2.1), hR.2.2.2.2.2.2.2.2.2.2.2.2.2.2.2.2.2.2.1, hR.2.2.2.2.2.2.2.2.2.2.2.2.2.2.2.2.2.2.2.1, hR.2.2.2.2.2.2.2.2.2.2.2.2.2.2.2.2.2.2.2.2.1, hR.2.2.2.2.2.2.2.2.2.2.2.2.2.2.2.2.2.2.2.2.2.1, hR.2.2.2.2.2.2.2.2.2.2.2.2.2.2.2.2.2.2.2.2.2.2.1, hR.2.2.2.2.2.2.2.2.2.2.2.2.2.2.2.2.2.2.2.2.2.2.2.1, hR.2.2.2.2.2.2.2.2.2.2.2.2.2.2.2.2.2.2.2.2.2.2.2.2.1, hR.2.2.2.2.2.2.2.2.2.2.2.2.2.2.2.2.2.2.2.2.2.2.2.2.2.1, hR.2.2.2.2.2.2.2.2.2.2.2.2.2.2.2.2.2.2.2.2.2.2.2.2.2.2.1, hR.2.2.2.2.2.2.2.2.2.2.2.2.2.2.2.2.2.2.2.2.2.2.2.2.2.2.2.1, hR.2.2.2.2.2.2.2.2.2.2.2.2.2.2.2.2.2.2.2.2.2.2.2.2.2.2.2.2.1, hR.2.2.2.2.2.2.2.2.2.2.2.2.2.2.2.2.2.2.2.2.2.2.2.2.2.2.2.2.2.1, hR.2.2.2.2.2.2.2.2.2.2.2.2.2.2.2.2.2.2.2.2.2.2.2.2.2.2.2.2.2.2.1, hR.2.2.2.2.2.2.2.2.2.2.2.2.2.2.2.2.2.2.2.2.2.2.2.2.2.2.2.2.2.2.2.1, hR.2.2.2.2.2.2.2.2.2.2.2.2.2.2.2.2.2.2.2.2.2.2.2.2.2.2.2.2.2.2.2.2.1, hR.2.2.2.2.2.2.2.2.2.2.2.2.2.2.2.2.2.2.2.2.2.2.2.2.2.2.2.2.2.2.2.2.2.1, hR.2.2.2.2.2.2.2.2.2.2.2.2.2.2.2.2.2.2.2.2.2.2.2.2.2.2.2.2.2.2.2.2.2.2.1, hR.2.2.2.2.2.2.2.2.2.2.2.2.2.2.2.2.2.2.2.2.2.2.2.2.2.2.2.2.2.2.2.2.2.2.2, ↓lt_e, ↓gd_e, ↓Option.bind_some, ↓reduceIte, if_true, if_false, if_pT, if_nF, decide_true, Bool.not_true, Bool.not_false, not_true_eq_false, not_false_eq_true, Bool.false_eq_true, Bool.true_eq_false, eq_self, n3_lit, n3_add, n3_mul, n3_sub, n3_tn, n3_le_t, n3_le_f, n3_lt_t, n3_lt_f, n3_eq_f, n3_eq_t, n3_inb, n3_rem, n3_div, n3_zb, bb_0, bb_1, zb_bb, bb_T, bb_F, n3_dec, n3_m1, n3_eqm, n3_eqmt, n3_ltm, n3_mlt, n3_lem, n3_mle, n3_neg_lt, n3_nlt_neg, n3_nle_neg, n3_neg_le]
  · obtain ⟨μ1, rfl, h1, hf⟩ := hx
    have hW1 := hW.fr hf (by omega)
    exact ⟨_, ⟨μ1, rfl, h1, hf⟩, fun k => by simp (disch := omega) only [jn_X12_laysMembers_33, bd_X12_laysMembers_4, r_ships hR hW1, ↓lt_e, ↓gd_e, ↓Option.bind_some, ↓reduceIte, if_true, if_false, if_pT, if_nF, decide_true, Bool.not_true, Bool.not_false, not_true_eq_false, not_false_eq_true, Bool.false_eq_true, Bool.true_eq_false, eq_self, n3_lit, n3_add, n3_mul, n3_sub, n3_tn, n3_le_t, n3_le_f, n3_lt_t, n3_lt_f, n3_eq_f, n3_eq_t, n3_inb, n3_rem, n3_div, n3_zb, bb_0, bb_1, zb_bb, bb_T, bb_F, n3_dec, n3_m1, n3_eqm, n3_eqmt, n3_ltm, n3_mlt, n3_lem, n3_mle, n3_neg_lt, n3_nlt_neg, n3_nle_neg, n3_neg_le]⟩
/-- rows begun before a place -/
def gR (t p : Nat) : Nat := if cR t p = 0 then bR t p else bR t p + 1
theorem r_laysRuns {N : Nat} (hN : 1099511627776 ≤ N) {Λ : Lay} {ad : Nat → Nat} {μ : Mem} {F : Nat → Nat} (hR : LyR Λ ad) (hW : Row μ (ad 182) 1222 F)  (hj : Inj ad) (hw : WF F) : ∃ μ', m_X12_laysRuns N Λ μ (ad 181) = some (n3 (kR (tkn F (F 0))), μ') ∧ (∀ j, j < kR (tkn F (F 0)) → μ'.1 (ad 191) j = n3 (zR (tkn F (F 0)) j)) ∧ Fr ad (fun i => i = 191) μ μ' := by
  have hb := hw.1; unfold WB at hb
  have tl := tkn_lt (F 0) hw.2.2.1
  have tk := r_taken hN hR hW hw.2.2.1 hb.1
  simp (disch := omega) only [m_X12_laysRuns, tk, ↓lt_e, ↓gd_e, ↓Option.bind_some, ↓reduceIte, if_true, if_false, if_pT, if_nF, decide_true, Bool.not_true, Bool.not_false, not_true_eq_false, not_false_eq_true, Bool.false_eq_true, Bool.true_eq_false, eq_self, lp_X12_laysRuns_9]
  generalize tkn F (F 0) = t at tl
  have hk : kR t = gR t 24 := kR_24 t
  rw [hk, zR_24]
  refine cw_iv (P := fun i x => ∃ μ1 : Mem, x = (n3 (gR t i), n3 i, μ1) ∧ (∀ j, j < gR t i → μ1.1 (ad 191) j = n3 (sRw t i j)) ∧ Fr ad (fun i => i = 191) μ μ1) (Q := fun X => ∃ μ', X = some (n3 (gR t 24), μ') ∧ (∀ j, j < gR t 24 → μ'.1 (ad 191) j = n3 (sRw t 24 j)) ∧ Fr ad (fun i => i = 191) μ μ') 24 ⟨μ, rfl, fun j hj => absurd hj (Nat.not_lt_zero j), Fr.refl μ⟩ (fun i hi x hx => ?_) (fun x hx => ?_) (show 24 < N by omega)
  · obtain ⟨μ1, rfl, h1, hf⟩ := hx
    left
    have hbc := bc_le t i
    have hsat := sRw_at t i
    by_cases hbit : t.testBit i = true
    · have hfr : fre t i = false := by unfold fre; rw [hbit, decide_eq_true hi]; rfl
      have eg : gR t (i + 1) = gR t i := by
        unfold gR
        rw [cR_s, bR_s, hfr]; rfl
      have es : sRw t (i + 1) = sRw t i := by rw [sR_s, hfr]; rfl
      refine ⟨_, ⟨μ1, rfl, by rw [eg, es]; exact h1, hf⟩, fun k => ?_⟩
      rw [eg]
      simp (disch := omega) only [jn_X12_laysRuns_62, jn_X12_laysRuns_50, jn_X12_laysRuns_40, bd_X12_laysRuns_9, r_has, hbit, ↓ob (hR.1), ↓ob (hR.2.1), ↓ob (hR.2.2.1), ↓ob (hR.2.2.2.1), ↓ob (hR.2.2.2.2.1), ↓ob (hR.2.2.2.2.2.1), ↓ob (hR.2.2.2.2.2.2.1), ↓ob (hR.2.2.2.2.2.2.2.1), ↓ob (hR.2.2.2.2.2.2.2.2.1), ↓ob (hR.2.2.2.2.2.2.2.2.2.1), ↓ob (hR.2.2.2.2.2.2.2.2.2.2.1), ↓ob (hR.2.2.2.2.2.2.2.2.2.2.2.1), ↓ob (hR.2.2.2.2.2.2.2.2.2.2.2.2.1), ↓ob (hR.2.2.2.2.2.2.2.2.2.2.2.2.2.1), ↓ob (hR.2.2.2.2.2.2.2.2.2.2.2.2.2.2.1), ↓ob (hR.2.2.2.2.2.2.2.2.2.2.2.2.2.2.2.1), ↓ob (hR.2.2.2.2.2.2.2.2.2.2.2.2.2.2.2.2.1), ↓ob (hR.2.2.2.2.2.2.2.2.2.2.2.2.2.2.2.2.2.1), hR.2.2.2.2.2.2.2.2.2.2.2.2.2.2.2.2.2.2.1, hR.2.2.2.2.2.2.2.2.2.2.2.2.2.2.2.2.2.2.2.1, hR.2.2.2.2.2.2.2.2.2.2.2.2.2.2.2.2.2.2.2.2.1, hR.2.2.2.2.2.2.2.2.2.2.2.2.2.2.2.2.2.2.2.2.2.1, hR.2.2.2.2.2.2.2.2.2.2.2.2.2.2.2.2.2.2.2.2.2.2.1, hR.2.2.2.2.2.2.2.2.2.2.2.2.2.2.2.2.2.2.2.2.2.2.2.1, hR.2.2.2.2.2.2.2.2.2.2.2.2.2.2.2.2.2.2.2.2.2.2.2.2.1, hR.2.2.2.2.2.2.2.2.2.2.2.2.2.2.2.2.2.2.2.2.2.2.2.2.2.1, hR.2.2.2.2.2.2.2.2.2.2.2.2.2.2.2.2.2.2.2.2.2.2.2.2.2.2.1, hR.2.2.2.2.2.2.2.2.2.2.2.2.2.2.2.2.2.2.2.2.2.2.2.2.2.2.2.1, hR.2.2.2.2.2.2.2.2.2.2.2.2.2.2.2.2.2.2.2.2.2.2.2.2.2.2.2.2.1, hR.2.2.2.2.2.2.2.2.2.2.2.2.2.2.2.2.2.2.2.2.2.2.2.2.2.2.2.2.2.1, hR.2.2.2.2.2.2.2.2.2.2.2.2.2.2.2.2.2.2.2.2.2.2.2.2.2.2.2.2.2.2.1, hR.2.2.2.2.2.2.2.2.2.2.2.2.2.2.2.2.2.2.2.2.2.2.2.2.2.2.2.2.2.2.2.1, hR.2.2.2.2.2.2.2.2.2.2.2.2.2.2.2.2.2.2.2.2.2.2.2.2.2.2.2.2.2.2.2.2.1, hR.2.2.2.2.2.2.2.2.2.2.2.2.2.2.2.2.2.2.2.2.2.2.2.2.2.2.2.2.2.2.2.2.2.1, hR.2.2.2.2.2.2.2.2.2.2.2.2.2.2.2.2.2.2.2.2.2.2.2.2.2.2.2.2.2.2.2.2.2.2.1, hR.2.2.2.2.2.2.2.2.2.2.2.2.2.2.2.2.2.2.2.2.2.2.2.2.2.2.2.2.2.2.2.2.2.2.2, ↓lt_e, ↓gd_e, ↓Option.bind_some, ↓reduceIte, if_true, if_false, if_pT, if_nF, decide_true, Bool.not_true, Bool.not_false, not_true_eq_false, not_false_eq_true, Bool.false_eq_true, Bool.true_eq_false, eq_self, n3_lit, n3_add, n3_mul, n3_sub, n3_tn, n3_le_t, n3_le_f, n3_lt_t, n3_lt_f, n3_eq_f, n3_eq_t, n3_inb, n3_rem, n3_div, n3_zb, bb_0, bb_1, zb_bb, bb_T, bb_F, n3_dec, n3_m1, n3_eqm, n3_eqmt, n3_ltm, n3_mlt, n3_lem, n3_mle, n3_neg_lt, n3_nlt_neg, n3_nle_neg, n3_neg_le]
    · have hfr : fre t i = true := by unfold fre; rw [Bool.eq_false_iff.2 hbit, decide_eq_true hi]; rfl
      have eg : gR t (i + 1) = bR t i + 1 := by
        unfold gR
        rw [cR_s, bR_s, if_pos hfr, if_pos hfr, if_neg (by omega)]
      have es : sRw t (i + 1) = up (sRw t i) (bR t i) (cR t i + 1) := by rw [sR_s, if_pos hfr]
      by_cases h0 : cR t i = 0
      · have eg0 : gR t i = bR t i := if_pos h0
        rw [eg0] at h1
        refine ⟨_, ⟨mset (mset μ1 (ad 191) (bR t i) (n3 0)) (ad 191) (bR t i) (n3 1), rfl, fun j hjb => ?_, (hf.set hj (by rfl)).set hj (by rfl)⟩, fun k => ?_⟩
        · rw [es]
          by_cases e : j = bR t i
          · rw [e, mse, up_e, h0]
          · rw [msn e, msn e, up_n e]; exact h1 j (by omega)
        · rw [eg, eg0]
          by_cases hi0 : i = 0
          · subst hi0
            simp (disch := omega) only [jn_X12_laysRuns_62, jn_X12_laysRuns_50, jn_X12_laysRuns_40, bd_X12_laysRuns_9, r_has, hbit, ↓ob (hR.1), ↓ob (hR.2.1), ↓ob (hR.2.2.1), ↓ob (hR.2.2.2.1), ↓ob (hR.2.2.2.2.1), ↓ob (hR.2.2.2.2.2.1), ↓ob (hR.2.2.2.2.2.2.1), ↓ob (hR.2.2.2.2.2.2.2.1), ↓ob (hR.2.2.2.2.2.2.2.2.1), ↓ob (hR.2.2.2.2.2.2.2.2.2.1), ↓ob (hR.2.2.2.2.2.2.2.2.2.2.1), ↓ob (hR.2.2.2.2.2.2.2.2.2.2.2.1), ↓ob (hR.2.2.2.2.2.2.2.2.2.2.2.2.1), ↓ob (hR.2.2.2.2.2.2.2.2.2.2.2.2.2.1), ↓ob (hR.2.2.2.2.2.2.2.2.2.2.2.2.2.2.1), ↓ob (hR.2.2.2.2.2.2.2.2.2.2.2.2.2.2.2.1), ↓ob (hR.2.2.2.2.2.2.2.2.2.2.2.2.2.2.2.2.1), ↓ob (hR.2.2.2.2.2.2.2.2.2.2.2.2.2.2.2.2.2.1), hR.2.2.2.2.2.2.2.2.2.2.2.2.2.2.2.2.2.2.1, hR.2.2.2.2.2.2.2.2.2.2.2.2.2.2.2.2.2.2.2.1, hR.2.2.2.2.2.2.2.2.2.2.2.2.2.2.2.2.2.2.2.2.1, hR.2.2.2.2.2.2.2.2.2.2.2.2.2.2.2.2.2.2.2.2.2.1, hR.2.2.2.2.2.2.2.2.2.2.2.2.2.2.2.2.2.2.2.2.2.2.1, hR.2.2.2.2.2.2.2.2.2.2.2.2.2.2.2.2.2.2.2.2.2.2.2.1, hR.2.2.2.2.2.2.2.2.2.2.2.2.2.2.2.2.2.2.2.2.2.2.2.2.1, hR.2.2.2.2.2.2.2.2.2.2.2.2.2.2.2.2.2.2.2.2.2.2.2.2.2.1, hR.2.2.2.2.2.2.2.2.2.2.2.2.2.2.2.2.2.2.2.2.2.2.2.2.2.2.1, hR.2.2.2.2.2.2.2.2.2.2.2.2.2.2.2.2.2.2.2.2.2.2.2.2.2.2.2.1, hR.2.2.2.2.2.2.2.2.2.2.2.2.2.2.2.2.2.2.2.2.2.2.2.2.2.2.2.2.1, hR.2.2.2.2.2.2.2.2.2.2.2.2.2.2.2.2.2.2.2.2.2.2.2.2.2.2.2.2.2.1, hR.2.2.2.2.2.2.2.2.2.2.2.2.2.2.2.2.2.2.2.2.2.2.2.2.2.2.2.2.2.2.1, hR.2.2.2.2.2.2.2.2.2.2.2.2.2.2.2.2.2.2.2.2.2.2.2.2.2.2.2.2.2.2.2.1, hR.2.2.2.2.2.2.2.2.2.2.2.2.2.2.2.2.2.2.2.2.2.2.2.2.2.2.2.2.2.2.2.2.1, hR.2.2.2.2.2.2.2.2.2.2.2.2.2.2.2.2.2.2.2.2.2.2.2.2.2.2.2.2.2.2.2.2.2.1, hR.2.2.2.2.2.2.2.2.2.2.2.2.2.2.2.2.2.2.2.2.2.2.2.2.2.2.2.2.2.2.2.2.2.2.1, hR.2.2.2.2.2.2.2.2.2.2.2.2.2.2.2.2.2.2.2.2.2.2.2.2.2.2.2.2.2.2.2.2.2.2.2, ↓lt_e, ↓gd_e, ↓Option.bind_some, ↓reduceIte, if_true, if_false, if_pT, if_nF, decide_true, Bool.not_true, Bool.not_false, not_true_eq_false, not_false_eq_true, Bool.false_eq_true, Bool.true_eq_false, eq_self, n3_lit, n3_add, n3_mul, n3_sub, n3_tn, n3_le_t, n3_le_f, n3_lt_t, n3_lt_f, n3_eq_f, n3_eq_t, n3_inb, n3_rem, n3_div, n3_zb, bb_0, bb_1, zb_bb, bb_T, bb_F, n3_dec, n3_m1, n3_eqm, n3_eqmt, n3_ltm, n3_mlt, n3_lem, n3_mle, n3_neg_lt, n3_nlt_neg, n3_nle_neg, n3_neg_le, mse, Nat.add_sub_cancel]
          · have hp : t.testBit (i - 1) = true := by
              obtain ⟨p, hp⟩ : ∃ p, i = p + 1 := ⟨i - 1, by omega⟩
              rw [hp, Nat.add_sub_cancel]
              rw [hp, cR_s] at h0
              by_cases hq : fre t p = true
              · rw [if_pos hq] at h0; omega
              · unfold fre at hq
                rw [decide_eq_true (by omega)] at hq
                simpa using hq
            simp (disch := omega) only [jn_X12_laysRuns_62, jn_X12_laysRuns_50, jn_X12_laysRuns_40, bd_X12_laysRuns_9, r_has, hbit, hp, ↓ob (hR.1), ↓ob (hR.2.1), ↓ob (hR.2.2.1), ↓ob (hR.2.2.2.1), ↓ob (hR.2.2.2.2.1), ↓ob (hR.2.2.2.2.2.1), ↓ob (hR.2.2.2.2.2.2.1), ↓ob (hR.2.2.2.2.2.2.2.1), ↓ob (hR.2.2.2.2.2.2.2.2.1), ↓ob (hR.2.2.2.2.2.2.2.2.2.1), ↓ob (hR.2.2.2.2.2.2.2.2.2.2.1), ↓ob (hR.2.2.2.2.2.2.2.2.2.2.2.1), ↓ob (hR.2.2.2.2.2.2.2.2.2.2.2.2.1), ↓ob (hR.2.2.2.2.2.2.2.2.2.2.2.2.2.1), ↓ob (hR.2.2.2.2.2.2.2.2.2.2.2.2.2.2.1), ↓ob (hR.2.2.2.2.2.2.2.2.2.2.2.2.2.2.2.1), ↓ob (hR.2.2.2.2.2.2.2.2.2.2.2.2.2.2.2.2.1), ↓ob (hR.2.2.2.2.2.2.2.2.2.2.2.2.2.2.2.2.2.1), hR.2.2.2.2.2.2.2.2.2.2.2.2.2.2.2.2.2.2.1, hR.2.2.2.2.2.2.2.2.2.2.2.2.2.2.2.2.2.2.2.1, hR.2.2.2.2.2.2.2.2.2.2.2.2.2.2.2.2.2.2.2.2.1, hR.2.2.2.2.2.2.2.2.2.2.2.2.2.2.2.2.2.2.2.2.2.1, hR.2.2.2.2.2.2.2.2.2.2.2.2.2.2.2.2.2.2.2.2.2.2.1, hR.2.2.2.2.2.2.2.2.2.2.2.2.2.2.2.2.2.2.2.2.2.2.2.1, hR.2.2.2.2.2.2.2.2.2.2.2.2.2.2.2.2.2.2.2.2.2.2.2.2.1, hR.2.2.2.2.2.2.2.2.2.2.2.2.2.2.2.2.2.2.2.2.2.2.2.2.2.1, hR.2.2.2.2.2.2.2.2.2.2.2.2.2.2.2.2.2.2.2.2.2.2.2.2.2.2.1, hR.2.2.2.2.2.2.2.2.2.2.2.2.2.2.2.2.2.2.2.2.2.2.2.2.2.2.2.1, hR.2.2.2.2.2.2.2.2.2.2.2.2.2.2.2.2.2.2.2.2.2.2.2.2.2.2.2.2.1, hR.2.2.2.2.2.2.2.2.2.2.2.2.2.2.2.2.2.2.2.2.2.2.2.2.2.2.2.2.2.1, hR.2.2.2.2.2.2.2.2.2.2.2.2.2.2.2.2.2.2.2.2.2.2.2.2.2.2.2.2.2.2.1, hR.2.2.2.2.2.2.2.2.2.2.2.2.2.2.2.2.2.2.2.2.2.2.2.2.2.2.2.2.2.2.2.1, hR.2.2.2.2.2.2.2.2.2.2.2.2.2.2.2.2.2.2.2.2.2.2.2.2.2.2.2.2.2.2.2.2.1, hR.2.2.2.2.2.2.2.2.2.2.2.2.2.2.2.2.2.2.2.2.2.2.2.2.2.2.2.2.2.2.2.2.2.1, hR.2.2.2.2.2.2.2.2.2.2.2.2.2.2.2.2.2.2.2.2.2.2.2.2.2.2.2.2.2.2.2.2.2.2.1, hR.2.2.2.2.2.2.2.2.2.2.2.2.2.2.2.2.2.2.2.2.2.2.2.2.2.2.2.2.2.2.2.2.2.2.2, ↓lt_e, ↓gd_e, ↓Option.bind_some, ↓reduceIte, if_true, if_false, if_pT, if_nF, decide_true, Bool.not_true, Bool.not_false, not_true_eq_false, not_false_eq_true, Bool.false_eq_true, Bool.true_eq_false, eq_self, n3_lit, n3_add, n3_mul, n3_sub, n3_tn, n3_le_t, n3_le_f, n3_lt_t, n3_lt_f, n3_eq_f, n3_eq_t, n3_inb, n3_rem, n3_div, n3_zb, bb_0, bb_1, zb_bb, bb_T, bb_F, n3_dec, n3_m1, n3_eqm, n3_eqmt, n3_ltm, n3_mlt, n3_lem, n3_mle, n3_neg_lt, n3_nlt_neg, n3_nle_neg, n3_neg_le, mse, Nat.add_sub_cancel]
      · have eg0 : gR t i = bR t i + 1 := if_neg h0
        rw [eg0] at h1
        have hv := h1 (bR t i) (by omega)
        rw [hsat.1] at hv
        refine ⟨_, ⟨mset μ1 (ad 191) (bR t i) (n3 (cR t i + 1)), rfl, fun j hjb => ?_, hf.set hj (by rfl)⟩, fun k => ?_⟩
        · rw [es]
          by_cases e : j = bR t i
          · rw [e, mse, up_e]
          · rw [msn e, up_n e]; exact h1 j (by omega)
        · rw [eg, eg0]
          have hi0 : i ≠ 0 := fun e => h0 (by rw [e]; rfl)
          have hp : ¬ t.testBit (i - 1) = true := by
            obtain ⟨p, hp⟩ : ∃ p, i = p + 1 := ⟨i - 1, by omega⟩
            rw [hp, Nat.add_sub_cancel]
            rw [hp, cR_s] at h0
            intro hq
            have : fre t p = false := by unfold fre; rw [hq]; simp
            rw [this] at h0
            exact h0 rfl
          simp (disch := omega) only [jn_X12_laysRuns_62, jn_X12_laysRuns_50, jn_X12_laysRuns_40, bd_X12_laysRuns_9, r_has, hbit, hp, ↓ob (hR.1), ↓ob (hR.2.1), ↓ob (hR.2.2.1), ↓ob (hR.2.2.2.1), ↓ob (hR.2.2.2.2.1), ↓ob (hR.2.2.2.2.2.1), ↓ob (hR.2.2.2.2.2.2.1), ↓ob (hR.2.2.2.2.2.2.2.1), ↓ob (hR.2.2.2.2.2.2.2.2.1), ↓ob (hR.2.2.2.2.2.2.2.2.2.1), ↓ob (hR.2.2.2.2.2.2.2.2.2.2.1), ↓ob (hR.2.2.2.2.2.2.2.2.2.2.2.1), ↓ob (hR.2.2.2.2.2.2.2.2.2.2.2.2.1), ↓ob (hR.2.2.2.2.2.2.2.2.2.2.2.2.2.1), ↓ob (hR.2.2.2.2.2.2.2.2.2.2.2.2.2.2.1), ↓ob (hR.2.2.2.2.2.2.2.2.2.2.2.2.2.2.2.1), ↓ob (hR.2.2.2.2.2.2.2.2.2.2.2.2.2.2.2.2.1), ↓ob (hR.2.2.2.2.2.2.2.2.2.2.2.2.2.2.2.2.2.1), hR.2.2.2.2.2.2.2.2.2.2.2.2.2.2.2.2.2.2.1, hR.2.2.2.2.2.2.2.2.2.2.2.2.2.2.2.2.2.2.2.1, hR.2.2.2.2.2.2.2.2.2.2.2.2.2.2.2.2.2.2.2.2.1, hR.2.2.2.2.2.2.2.2.2.2.2.2.2.2.2.2.2.2.2.2.2.1, hR.2.2.2.2.2.2.2.2.2.2.2.2.2.2.2.2.2.2.2.2.2.2.1, hR.2.2.2.2.2.2.2.2.2.2.2.2.2.2.2.2.2.2.2.2.2.2.2.1, hR.2.2.2.2.2.2.2.2.2.2.2.2.2.2.2.2.2.2.2.2.2.2.2.2.1, hR.2.2.2.2.2.2.2.2.2.2.2.2.2.2.2.2.2.2.2.2.2.2.2.2.2.1, hR.2.2.2.2.2.2.2.2.2.2.2.2.2.2.2.2.2.2.2.2.2.2.2.2.2.2.1, hR.2.2.2.2.2.2.2.2.2.2.2.2.2.2.2.2.2.2.2.2.2.2.2.2.2.2.2.1, hR.2.2.2.2.2.2.2.2.2.2.2.2.2.2.2.2.2.2.2.2.2.2.2.2.2.2.2.2.1, hR.2.2.2.2.2.2.2.2.2.2.2.2.2.2.2.2.2.2.2.2.2.2.2.2.2.2.2.2.2.1, hR.2.2.2.2.2.2.2.2.2.2.2.2.2.2.2.2.2.2.2.2.2.2.2.2.2.2.2.2.2.2.1, hR.2.2.2.2.2.2.2.2.2.2.2.2.2.2.2.2.2.2.2.2.2.2.2.2.2.2.2.2.2.2.2.1, hR.2.2.2.2.2.2.2.2.2.2.2.2.2.2.2.2.2.2.2.2.2.2.2.2.2.2.2.2.2.2.2.2.1, hR.2.2.2.2.2.2.2.2.2.2.2.2.2.2.2.2.2.2.2.2.2.2.2.2.2.2.2.2.2.2.2.2.2.1, hR.2.2.2.2.2.2.2.2.2.2.2.2.2.2.2.2.2.2.2.2.2.2.2.2.2.2.2.2.2.2.2.2.2.2.1, hR.2.2.2.2.2.2.2.2.2.2.2.2.2.2.2.2.2.2.2.2.2.2.2.2.2.2.2.2.2.2.2.2.2.2.2, ↓lt_e, ↓gd_e, ↓Option.bind_some, ↓reduceIte, if_true, if_false, if_pT, if_nF, decide_true, Bool.not_true, Bool.not_false, not_true_eq_false, not_false_eq_true, Bool.false_eq_true, Bool.true_eq_false, eq_self, n3_lit, n3_add, n3_mul, n3_sub, n3_tn, n3_le_t, n3_le_f, n3_lt_t, n3_lt_f, n3_eq_f, n3_eq_t, n3_inb, n3_rem, n3_div, n3_zb, bb_0, bb_1, zb_bb, bb_T, bb_F, n3_dec, n3_m1, n3_eqm, n3_eqmt, n3_ltm, n3_mlt, n3_lem, n3_mle, n3_neg_lt, n3_nlt_neg, n3_nle_neg, n3_neg_le, hv, Nat.add_sub_cancel]
  · obtain ⟨μ1, rfl, h1, hf⟩ := hx
    exact ⟨_, ⟨μ1, rfl, h1, hf⟩, fun k => by simp (disch := omega) only [jn_X12_laysRuns_62, jn_X12_laysRuns_50, jn_X12_laysRuns_40, bd_X12_laysRuns_9, ↓lt_e, ↓gd_e, ↓Option.bind_some, ↓reduceIte, if_true, if_false, if_pT, if_nF, decide_true, Bool.not_true, Bool.not_false, not_true_eq_false, not_false_eq_true, Bool.false_eq_true, Bool.true_eq_false, eq_self, n3_lit, n3_add, n3_mul, n3_sub, n3_tn, n3_le_t, n3_le_f, n3_lt_t, n3_lt_f, n3_eq_f, n3_eq_t, n3_inb, n3_rem, n3_div, n3_zb, bb_0, bb_1, zb_bb, bb_T, bb_F, n3_dec, n3_m1, n3_eqm, n3_eqmt, n3_ltm, n3_mlt, n3_lem, n3_mle, n3_neg_lt, n3_nlt_neg, n3_nle_neg, n3_neg_le]⟩
/-! the reference's search for a way to lay a set -/
def nx (c : Nat → Nat) (x y k : Nat) : Nat := ff (fun j => decide (y ≤ j ∧ x ≤ c j)) k
theorem r_clIn {N : Nat} (hN : 1099511627776 ≤ N) {Λ : Lay} {ad : Nat → Nat} {μ : Mem} (hR : LyR Λ ad) {c : Nat → Nat} {k cnt v x y : Nat} (hk : k ≤ 24) (hc : ∀ j, j < k → c j < 32) (hA : ∀ j, j < k → μ.1 (ad 191) j = n3 (c j)) (hx : x < 32) (hy : y ≤ k) (k37 : Int32 × Mem → Option (Int32 × Mem)) : lp_X12_canLoad_101 N Λ k37 (ad 181) (n3 k) (n3 cnt) (n3 v) (n3 x) (n3 y, μ) = jn_X12_canLoad_125 N Λ μ k37 (ad 181) (n3 k) (n3 cnt) (n3 v) (n3 x) (n3 (nx c x y k)) := by
  have hJ : nx c x y k ≤ k := ff_le _ _
  have hyJ : y ≤ nx c x y k := by
    by_cases h : nx c x y k < k
    · have := ff_yes (p := fun j => decide (y ≤ j ∧ x ≤ c j)) h
      exact (of_decide_eq_true this).1
    · omega
  unfold lp_X12_canLoad_101
  refine cw_it (fun i => (n3 (y + i), μ)) (nx c x y k - y) rfl (fun i hi kk => ?_) (fun kk => ?_) (by omega)
  · have hno := ff_no (p := fun j => decide (y ≤ j ∧ x ≤ c j)) (n := k) (i := y + i) (show y + i < nx c x y k by omega)
    have hno2 : ¬ x ≤ c (y + i) := fun h => of_decide_eq_false hno ⟨by omega, h⟩
    have ha := hA (y + i) (by omega)
    have hb := hc (y + i) (by omega)
    show bd_X12_canLoad_101 N Λ μ k37 kk (ad 181) (n3 k) (n3 cnt) (n3 v) (n3 x) (n3 (y + i)) = kk (n3 (y + i + 1), μ)
    simp (disch := omega) only [bd_X12_canLoad_101, ↓ob (hR.1), ↓ob (hR.2.1), ↓ob (hR.2.2.1), ↓ob (hR.2.2.2.1), ↓ob (hR.2.2.2.2.1), ↓ob (hR.2.2.2.2.2.1), ↓ob (hR.2.2.2.2.2.2.1), ↓ob (hR.2.2.2.2.2.2.2.1), ↓ob (hR.2.2.2.2.2.2.2.2.1), ↓ob (hR.2.2.2.2.2.2.2.2.2.1), ↓ob (hR.2.2.2.2.2.2.2.2.2.2.1), ↓ob (hR.2.2.2.2.2.2.2.2.2.2.2.1), ↓ob (hR.2.2.2.2.2.2.2.2.2.2.2.2.1), ↓ob (hR.2.2.2.2.2.2.2.2.2.2.2.2.2.1), ↓ob (hR.2.2.2.2.2.2.2.2.2.2.2.2.2.2.1), ↓ob (hR.2.2.2.2.2.2.2.2.2.2.2.2.2.2.2.1), ↓ob (hR.2.2.2.2.2.2.2.2.2.2.2.2.2.2.2.2.1), ↓ob (hR.2.2.2.2.2.2.2.2.2.2.2.2.2.2.2.2.2.1), hR.2.2.2.2.2.2.2.2.2.2.2.2.2.2.2.2.2.2.1, hR.2.2.2.2.2.2.2.2.2.2.2.2.2.2.2.2.2.2.2.1, hR.2.2.2.2.2.2.2.2.2.2.2.2.2.2.2.2.2.2.2.2.1, hR.2.2.2.2.2.2.2.2.2.2.2.2.2.2.2.2.2.2.2.2.2.1, hR.2.2.2.2.2.2.2.2.2.2.2.2.2.2.2.2.2.2.2.2.2.2.1, hR.2.2.2.2.2.2.2.2.2.2.2.2.2.2.2.2.2.2.2.2.2.2.2.1, hR.2.2.2.2.2.2.2.2.2.2.2.2.2.2.2.2.2.2.2.2.2.2.2.2.1, hR.2.2.2.2.2.2.2.2.2.2.2.2.2.2.2.2.2.2.2.2.2.2.2.2.2.1, hR.2.2.2.2.2.2.2.2.2.2.2.2.2.2.2.2.2.2.2.2.2.2.2.2.2.2.1, hR.2.2.2.2.2.2.2.2.2.2.2.2.2.2.2.2.2.2.2.2.2.2.2.2.2.2.2.1, hR.2.2.2.2.2.2.2.2.2.2.2.2.2.2.2.2.2.2.2.2.2.2.2.2.2.2.2.2.1, hR.2.2.2.2.2.2.2.2.2.2.2.2.2.2.2.2.2.2.2.2.2.2.2.2.2.2.2.2.2.1, hR.2.2.2.2.2.2.2.2.2.2.2.2.2.2.2.2.2.2.2.2.2.2.2.2.2.2.2.2.2.2.1, hR.2.2.2.2.2.2.2.2.2.2.2.2.2.2.2.2.2.2.2.2.2.2.2.2.2.2.2.2.2.2.2.1, hR.2.2.2.2.2.2.2.2.2.2.2.2.2.2.2.2.2.2.2.2.2.2.2.2.2.2.2.2.2.2.2.2.1, hR.2.2.2.2.2.2.2.2.2.2.2.2.2.2.2.2.2.2.2.2.2.2.2.2.2.2.2.2.2.2.2.2.2.1, hR.2.2.2.2.2.2.2.2.2.2.2.2.2.2.2.2.2.2.2.2.2.2.2.2.2.2.2.2.2.2.2.2.2.2.1, hR.2.2.2.2.2.2.2.2.2.2.2.2.2.2.2.2.2.2.2.2.2.2.2.2.2.2.2.2.2.2.2.2.2.2.2, ha, ↓lt_e, ↓gd_e, ↓Option.bind_some, ↓reduceIte, if_true, if_false, if_pT, if_nF, decide_true, Bool.not_true, Bool.not_false, not_true_eq_false, not_false_eq_true, Bool.false_eq_true, Bool.true_eq_false, eq_self, n3_lit, n3_add, n3_mul, n3_sub, n3_tn, n3_le_t, n3_le_f, n3_lt_t, n3_lt_f, n3_eq_f, n3_eq_t, n3_inb, n3_rem, n3_div, n3_zb, bb_0, bb_1, zb_bb, bb_T, bb_F, n3_dec, n3_m1, n3_eqm, n3_eqmt, n3_ltm, n3_mlt, n3_lem, n3_mle, n3_neg_lt, n3_nlt_neg, n3_nle_neg, n3_neg_le]
  · rw [show y + (nx c x y k - y) = nx c x y k by omega]
    show bd_X12_canLoad_101 N Λ μ k37 kk (ad 181) (n3 k) (n3 cnt) (n3 v) (n3 x) (n3 (nx c x y k)) = _
    by_cases h : nx c x y k < k
    · have hyes := (of_decide_eq_true (ff_yes (p := fun j => decide (y ≤ j ∧ x ≤ c j)) h)).2
      have hyes2 : x ≤ c (nx c x y k) := hyes
      have ha := hA (nx c x y k) h
      have hb := hc (nx c x y k) h
      generalize nx c x y k = J at *
      simp (disch := omega) only [bd_X12_canLoad_101, ↓ob (hR.1), ↓ob (hR.2.1), ↓ob (hR.2.2.1), ↓ob (hR.2.2.2.1), ↓ob (hR.2.2.2.2.1), ↓ob (hR.2.2.2.2.2.1), ↓ob (hR.2.2.2.2.2.2.1), ↓ob (hR.2.2.2.2.2.2.2.1), ↓ob (hR.2.2.2.2.2.2.2.2.1), ↓ob (hR.2.2.2.2.2.2.2.2.2.1), ↓ob (hR.2.2.2.2.2.2.2.2.2.2.1), ↓ob (hR.2.2.2.2.2.2.2.2.2.2.2.1), ↓ob (hR.2.2.2.2.2.2.2.2.2.2.2.2.1), ↓ob (hR.2.2.2.2.2.2.2.2.2.2.2.2.2.1), ↓ob (hR.2.2.2.2.2.2.2.2.2.2.2.2.2.2.1), ↓ob (hR.2.2.2.2.2.2.2.2.2.2.2.2.2.2.2.1), ↓ob (hR.2.2.2.2.2.2.2.2.2.2.2.2.2.2.2.2.1), ↓ob (hR.2.2.2.2.2.2.2.2.2.2.2.2.2.2.2.2.2.1), hR.2.2.2.2.2.2.2.2.2.2.2.2.2.2.2.2.2.2.1, hR.2.2.2.2.2.2.2.2.2.2.2.2.2.2.2.2.2.2.2.1, hR.2.2.2.2.2.2.2.2.2.2.2.2.2.2.2.2.2.2.2.2.1, hR.2.2.2.2.2.2.2.2.2.2.2.2.2.2.2.2.2.2.2.2.2.1, hR.2.2.2.2.2.2.2.2.2.2.2.2.2.2.2.2.2.2.2.2.2.2.1, hR.2.2.2.2.2.2.2.2.2.2.2.2.2.2.2.2.2.2.2.2.2.2.2.1, hR.2.2.2.2.2.2.2.2.2.2.2.2.2.2.2.2.2.2.2.2.2.2.2.2.1, hR.2.2.2.2.2.2.2.2.2.2.2.2.2.2.2.2.2.2.2.2.2.2.2.2.2.1, hR.2.2.2.2.2.2.2.2.2.2.2.2.2.2.2.2.2.2.2.2.2.2.2.2.2.2.1, hR.2.2.2.2.2.2.2.2.2.2.2.2.2.2.2.2.2.2.2.2.2.2.2.2.2.2.2.1, hR.2.2.2.2.2.2.2.2.2.2.2.2.2.2.2.2.2.2.2.2.2.2.2.2.2.2.2.2.1, hR.2.2.2.2.2.2.2.2.2.2.2.2.2.2.2.2.2.2.2.2.2.2.2.2.2.2.2.2.2.1, hR.2.2.2.2.2.2.2.2.2.2.2.2.2.2.2.2.2.2.2.2.2.2.2.2.2.2.2.2.2.2.1, hR.2.2.2.2.2.2.2.2.2.2.2.2.2.2.2.2.2.2.2.2.2.2.2.2.2.2.2.2.2.2.2.1, hR.2.2.2.2.2.2.2.2.2.2.2.2.2.2.2.2.2.2.2.2.2.2.2.2.2.2.2.2.2.2.2.2.1, hR.2.2.2.2.2.2.2.2.2.2.2.2.2.2.2.2.2.2.2.2.2.2.2.2.2.2.2.2.2.2.2.2.2.1, hR.2.2.2.2.2.2.2.2.2.2.2.2.2.2.2.2.2.2.2.2.2.2.2.2.2.2.2.2.2.2.2.2.2.2.1, hR.2.2.2.2.2.2.2.2.2.2.2.2.2.2.2.2.2.2.2.2.2.2.2.2.2.2.2.2.2.2.2.2.2.2.2, ha, ↓lt_e, ↓gd_e, ↓Option.bind_some, ↓reduceIte, if_true, if_false, if_pT, if_nF, decide_true, Bool.not_true, Bool.not_false, not_true_eq_false, not_false_eq_true, Bool.false_eq_true, Bool.true_eq_false, eq_self, n3_lit, n3_add, n3_mul, n3_sub, n3_tn, n3_le_t, n3_le_f, n3_lt_t, n3_lt_f, n3_eq_f, n3_eq_t, n3_inb, n3_rem, n3_div, n3_zb, bb_0, bb_1, zb_bb, bb_T, bb_F, n3_dec, n3_m1, n3_eqm, n3_eqmt, n3_ltm, n3_mlt, n3_lem, n3_mle, n3_neg_lt, n3_nlt_neg, n3_nle_neg, n3_neg_le]
    · generalize nx c x y k = J at *
      simp (disch := omega) only [bd_X12_canLoad_101, ↓ob (hR.1), ↓ob (hR.2.1), ↓ob (hR.2.2.1), ↓ob (hR.2.2.2.1), ↓ob (hR.2.2.2.2.1), ↓ob (hR.2.2.2.2.2.1), ↓ob (hR.2.2.2.2.2.2.1), ↓ob (hR.2.2.2.2.2.2.2.1), ↓ob (hR.2.2.2.2.2.2.2.2.1), ↓ob (hR.2.2.2.2.2.2.2.2.2.1), ↓ob (hR.2.2.2.2.2.2.2.2.2.2.1), ↓ob (hR.2.2.2.2.2.2.2.2.2.2.2.1), ↓ob (hR.2.2.2.2.2.2.2.2.2.2.2.2.1), ↓ob (hR.2.2.2.2.2.2.2.2.2.2.2.2.2.1), ↓ob (hR.2.2.2.2.2.2.2.2.2.2.2.2.2.2.1), ↓ob (hR.2.2.2.2.2.2.2.2.2.2.2.2.2.2.2.1), ↓ob (hR.2.2.2.2.2.2.2.2.2.2.2.2.2.2.2.2.1), ↓ob (hR.2.2.2.2.2.2.2.2.2.2.2.2.2.2.2.2.2.1), hR.2.2.2.2.2.2.2.2.2.2.2.2.2.2.2.2.2.2.1, hR.2.2.2.2.2.2.2.2.2.2.2.2.2.2.2.2.2.2.2.1, hR.2.2.2.2.2.2.2.2.2.2.2.2.2.2.2.2.2.2.2.2.1, hR.2.2.2.2.2.2.2.2.2.2.2.2.2.2.2.2.2.2.2.2.2.1, hR.2.2.2.2.2.2.2.2.2.2.2.2.2.2.2.2.2.2.2.2.2.2.1, hR.2.2.2.2.2.2.2.2.2.2.2.2.2.2.2.2.2.2.2.2.2.2.2.1, hR.2.2.2.2.2.2.2.2.2.2.2.2.2.2.2.2.2.2.2.2.2.2.2.2.1, hR.2.2.2.2.2.2.2.2.2.2.2.2.2.2.2.2.2.2.2.2.2.2.2.2.2.1, hR.2.2.2.2.2.2.2.2.2.2.2.2.2.2.2.2.2.2.2.2.2.2.2.2.2.2.1, hR.2.2.2.2.2.2.2.2.2.2.2.2.2.2.2.2.2.2.2.2.2.2.2.2.2.2.2.1, hR.2.2.2.2.2.2.2.2.2.2.2.2.2.2.2.2.2.2.2.2.2.2.2.2.2.2.2.2.1, hR.2.2.2.2.2.2.2.2.2.2.2.2.2.2.2.2.2.2.2.2.2.2.2.2.2.2.2.2.2.1, hR.2.2.2.2.2.2.2.2.2.2.2.2.2.2.2.2.2.2.2.2.2.2.2.2.2.2.2.2.2.2.1, hR.2.2.2.2.2.2.2.2.2.2.2.2.2.2.2.2.2.2.2.2.2.2.2.2.2.2.2.2.2.2.2.1, hR.2.2.2.2.2.2.2.2.2.2.2.2.2.2.2.2.2.2.2.2.2.2.2.2.2.2.2.2.2.2.2.2.1, hR.2.2.2.2.2.2.2.2.2.2.2.2.2.2.2.2.2.2.2.2.2.2.2.2.2.2.2.2.2.2.2.2.2.1, hR.2.2.2.2.2.2.2.2.2.2.2.2.2.2.2.2.2.2.2.2.2.2.2.2.2.2.2.2.2.2.2.2.2.2.1, hR.2.2.2.2.2.2.2.2.2.2.2.2.2.2.2.2.2.2.2.2.2.2.2.2.2.2.2.2.2.2.2.2.2.2.2, ↓lt_e, ↓gd_e, ↓Option.bind_some, ↓reduceIte, if_true, if_false, if_pT, if_nF, decide_true, Bool.not_true, Bool.not_false, not_true_eq_false, not_false_eq_true, Bool.false_eq_true, Bool.true_eq_false, eq_self, n3_lit, n3_add, n3_mul, n3_sub, n3_tn, n3_le_t, n3_le_f, n3_lt_t, n3_lt_f, n3_eq_f, n3_eq_t, n3_inb, n3_rem, n3_div, n3_zb, bb_0, bb_1, zb_bb, bb_T, bb_F, n3_dec, n3_m1, n3_eqm, n3_eqmt, n3_ltm, n3_mlt, n3_lem, n3_mle, n3_neg_lt, n3_nlt_neg, n3_nle_neg, n3_neg_le]
theorem r_clJ {N : Nat} (hN : 1099511627776 ≤ N) {Λ : Lay} {ad : Nat → Nat} {μ : Mem} (hR : LyR Λ ad) (hj : Inj ad) {c : Nat → Nat} {k cnt v x y m1 : Nat} (hm : -n3 1 = n3 m1) (hv : v < 8) (hk : k ≤ 24) (hc : ∀ j, j < k → c j < 32) (hA : ∀ j, j < k → μ.1 (ad 191) j = n3 (c j)) (hx : x < 32) (hy : y ≤ k) (ho : μ.1 (ad 192) v + n3 1 = n3 y) (k37 : Int32 × Mem → Option (Int32 × Mem)) (h : nx c x y k < k) : jn_X12_canLoad_90 N Λ μ k37 (ad 181) (n3 k) (n3 cnt) (n3 v) (n3 x) = k37 (n3 (v + 1), mset (mset μ (ad 192) v (n3 (nx c x y k))) (ad 191) (nx c x y k) (n3 (c (nx c x y k) - x))) := by
  have hi := r_clIn hN hR (cnt := cnt) (v := v) hk hc hA hx hy k37
  have hyes := (of_decide_eq_true (ff_yes (p := fun j => decide (y ≤ j ∧ x ≤ c j)) h)).2
  have hyes2 : x ≤ c (nx c x y k) := hyes
  have hb := hc (nx c x y k) h
  have ha : (mset μ (ad 192) v (n3 (nx c x y k))).1 (ad 191) (nx c x y k) = n3 (c (nx c x y k)) := by rw [mso hj (by omega)]; exact hA _ h
  clear hyes
  generalize nx c x y k = J at *
  simp (disch := omega) only [jn_X12_canLoad_90, ↓ob (hR.1), ↓ob (hR.2.1), ↓ob (hR.2.2.1), ↓ob (hR.2.2.2.1), ↓ob (hR.2.2.2.2.1), ↓ob (hR.2.2.2.2.2.1), ↓ob (hR.2.2.2.2.2.2.1), ↓ob (hR.2.2.2.2.2.2.2.1), ↓ob (hR.2.2.2.2.2.2.2.2.1), ↓ob (hR.2.2.2.2.2.2.2.2.2.1), ↓ob (hR.2.2.2.2.2.2.2.2.2.2.1), ↓ob (hR.2.2.2.2.2.2.2.2.2.2.2.1), ↓ob (hR.2.2.2.2.2.2.2.2.2.2.2.2.1), ↓ob (hR.2.2.2.2.2.2.2.2.2.2.2.2.2.1), ↓ob (hR.2.2.2.2.2.2.2.2.2.2.2.2.2.2.1), ↓ob (hR.2.2.2.2.2.2.2.2.2.2.2.2.2.2.2.1), ↓ob (hR.2.2.2.2.2.2.2.2.2.2.2.2.2.2.2.2.1), ↓ob (hR.2.2.2.2.2.2.2.2.2.2.2.2.2.2.2.2.2.1), hR.2.2.2.2.2.2.2.2.2.2.2.2.2.2.2.2.2.2.1, hR.2.2.2.2.2.2.2.2.2.2.2.2.2.2.2.2.2.2.2.1, hR.2.2.2.2.2.2.2.2.2.2.2.2.2.2.2.2.2.2.2.2.1, hR.2.2.2.2.2.2.2.2.2.2.2.2.2.2.2.2.2.2.2.2.2.1, hR.2.2.2.2.2.2.2.2.2.2.2.2.2.2.2.2.2.2.2.2.2.2.1, hR.2.2.2.2.2.2.2.2.2.2.2.2.2.2.2.2.2.2.2.2.2.2.2.1, hR.2.2.2.2.2.2.2.2.2.2.2.2.2.2.2.2.2.2.2.2.2.2.2.2.1, hR.2.2.2.2.2.2.2.2.2.2.2.2.2.2.2.2.2.2.2.2.2.2.2.2.2.1, hR.2.2.2.2.2.2.2.2.2.2.2.2.2.2.2.2.2.2.2.2.2.2.2.2.2.2.1, hR.2.2.2.2.2.2.2.2.2.2.2.2.2.2.2.2.2.2.2.2.2.2.2.2.2.2.2.1, hR.2.2.2.2.2.2.2.2.2.2.2.2.2.2.2.2.2.2.2.2.2.2.2.2.2.2.2.2.1, hR.2.2.2.2.2.2.2.2.2.2.2.2.2.2.2.2.2.2.2.2.2.2.2.2.2.2.2.2.2.1, hR.2.2.2.2.2.2.2.2.2.2.2.2.2.2.2.2.2.2.2.2.2.2.2.2.2.2.2.2.2.2.1, hR.2.2.2.2.2.2.2.2.2.2.2.2.2.2.2.2.2.2.2.2.2.2.2.2.2.2.2.2.2.2.2.1, hR.2.2.2.2.2.2.2.2.2.2.2.2.2.2.2.2.2.2.2.2.2.2.2.2.2.2.2.2.2.2.2.2.1, hR.2.2.2.2.2.2.2.2.2.2.2.2.2.2.2.2.2.2.2.2.2.2.2.2.2.2.2.2.2.2.2.2.2.1, hR.2.2.2.2.2.2.2.2.2.2.2.2.2.2.2.2.2.2.2.2.2.2.2.2.2.2.2.2.2.2.2.2.2.2.1, hR.2.2.2.2.2.2.2.2.2.2.2.2.2.2.2.2.2.2.2.2.2.2.2.2.2.2.2.2.2.2.2.2.2.2.2, ↓lt_e, ↓gd_e, ↓Option.bind_some, ↓reduceIte, if_true, if_false, if_pT, if_nF, decide_true, Bool.not_true, Bool.not_false, not_true_eq_false, not_false_eq_true, Bool.false_eq_true, Bool.true_eq_false, eq_self, n3_lit, n3_inb, n3_tn, ho, hi]
  simp (disch := omega) only [jn_X12_canLoad_125, jn_X12_canLoad_143, jn_X12_canLoad_162, jn_X12_canLoad_175, ↓ob (hR.1), ↓ob (hR.2.1), ↓ob (hR.2.2.1), ↓ob (hR.2.2.2.1), ↓ob (hR.2.2.2.2.1), ↓ob (hR.2.2.2.2.2.1), ↓ob (hR.2.2.2.2.2.2.1), ↓ob (hR.2.2.2.2.2.2.2.1), ↓ob (hR.2.2.2.2.2.2.2.2.1), ↓ob (hR.2.2.2.2.2.2.2.2.2.1), ↓ob (hR.2.2.2.2.2.2.2.2.2.2.1), ↓ob (hR.2.2.2.2.2.2.2.2.2.2.2.1), ↓ob (hR.2.2.2.2.2.2.2.2.2.2.2.2.1), ↓ob (hR.2.2.2.2.2.2.2.2.2.2.2.2.2.1), ↓ob (hR.2.2.2.2.2.2.2.2.2.2.2.2.2.2.1), ↓ob (hR.2.2.2.2.2.2.2.2.2.2.2.2.2.2.2.1), ↓ob (hR.2.2.2.2.2.2.2.2.2.2.2.2.2.2.2.2.1), ↓ob (hR.2.2.2.2.2.2.2.2.2.2.2.2.2.2.2.2.2.1), hR.2.2.2.2.2.2.2.2.2.2.2.2.2.2.2.2.2.2.1, hR.2.2.2.2.2.2.2.2.2.2.2.2.2.2.2.2.2.2.2.1, hR.2.2.2.2.2.2.2.2.2.2.2.2.2.2.2.2.2.2.2.2.1, hR.2.2.2.2.2.2.2.2.2.2.2.2.2.2.2.2.2.2.2.2.2.1, hR.2.2.2.2.2.2.2.2.2.2.2.2.2.2.2.2.2.2.2.2.2.2.1, hR.2.2.2.2.2.2.2.2.2.2.2.2.2.2.2.2.2.2.2.2.2.2.2.1, hR.2.2.2.2.2.2.2.2.2.2.2.2.2.2.2.2.2.2.2.2.2.2.2.2.1, hR.2.2.2.2.2.2.2.2.2.2.2.2.2.2.2.2.2.2.2.2.2.2.2.2.2.1, hR.2.2.2.2.2.2.2.2.2.2.2.2.2.2.2.2.2.2.2.2.2.2.2.2.2.2.1, hR.2.2.2.2.2.2.2.2.2.2.2.2.2.2.2.2.2.2.2.2.2.2.2.2.2.2.2.1, hR.2.2.2.2.2.2.2.2.2.2.2.2.2.2.2.2.2.2.2.2.2.2.2.2.2.2.2.2.1, hR.2.2.2.2.2.2.2.2.2.2.2.2.2.2.2.2.2.2.2.2.2.2.2.2.2.2.2.2.2.1, hR.2.2.2.2.2.2.2.2.2.2.2.2.2.2.2.2.2.2.2.2.2.2.2.2.2.2.2.2.2.2.1, hR.2.2.2.2.2.2.2.2.2.2.2.2.2.2.2.2.2.2.2.2.2.2.2.2.2.2.2.2.2.2.2.1, hR.2.2.2.2.2.2.2.2.2.2.2.2.2.2.2.2.2.2.2.2.2.2.2.2.2.2.2.2.2.2.2.2.1, hR.2.2.2.2.2.2.2.2.2.2.2.2.2.2.2.2.2.2.2.2.2.2.2.2.2.2.2.2.2.2.2.2.2.1, hR.2.2.2.2.2.2.2.2.2.2.2.2.2.2.2.2.2.2.2.2.2.2.2.2.2.2.2.2.2.2.2.2.2.2.1, hR.2.2.2.2.2.2.2.2.2.2.2.2.2.2.2.2.2.2.2.2.2.2.2.2.2.2.2.2.2.2.2.2.2.2.2, ha, ↓lt_e, ↓gd_e, ↓Option.bind_some, ↓reduceIte, if_true, if_false, if_pT, if_nF, decide_true, Bool.not_true, Bool.not_false, not_true_eq_false, not_false_eq_true, Bool.false_eq_true, Bool.true_eq_false, eq_self, n3_lit, n3_add, n3_mul, n3_sub, n3_tn, n3_le_t, n3_le_f, n3_lt_t, n3_lt_f, n3_eq_f, n3_eq_t, n3_inb, n3_rem, n3_div, n3_zb, bb_0, bb_1, zb_bb, bb_T, bb_F, n3_dec, n3_m1, n3_eqm, n3_eqmt, n3_ltm, n3_mlt, n3_lem, n3_mle, n3_neg_lt, n3_nlt_neg, n3_nle_neg, n3_neg_le]
theorem r_clB {N : Nat} (hN : 1099511627776 ≤ N) {Λ : Lay} {ad : Nat → Nat} {μ : Mem} (hR : LyR Λ ad) {c : Nat → Nat} {k cnt v x y : Nat} (hv : v < 8) (hk : k ≤ 24) (hc : ∀ j, j < k → c j < 32) (hA : ∀ j, j < k → μ.1 (ad 191) j = n3 (c j)) (hx : x < 32) (hy : y ≤ k) (ho : μ.1 (ad 192) v + n3 1 = n3 y) (k37 : Int32 × Mem → Option (Int32 × Mem)) (h : nx c x y k = k) : jn_X12_canLoad_90 N Λ μ k37 (ad 181) (n3 k) (n3 cnt) (n3 v) (n3 x) = k37 (n3 v + -n3 1, mset μ (ad 192) v (-n3 1)) := by
  have hi := r_clIn hN hR (cnt := cnt) (v := v) hk hc hA hx hy k37
  rw [h] at hi
  simp (disch := omega) only [jn_X12_canLoad_90, ↓ob (hR.1), ↓ob (hR.2.1), ↓ob (hR.2.2.1), ↓ob (hR.2.2.2.1), ↓ob (hR.2.2.2.2.1), ↓ob (hR.2.2.2.2.2.1), ↓ob (hR.2.2.2.2.2.2.1), ↓ob (hR.2.2.2.2.2.2.2.1), ↓ob (hR.2.2.2.2.2.2.2.2.1), ↓ob (hR.2.2.2.2.2.2.2.2.2.1), ↓ob (hR.2.2.2.2.2.2.2.2.2.2.1), ↓ob (hR.2.2.2.2.2.2.2.2.2.2.2.1), ↓ob (hR.2.2.2.2.2.2.2.2.2.2.2.2.1), ↓ob (hR.2.2.2.2.2.2.2.2.2.2.2.2.2.1), ↓ob (hR.2.2.2.2.2.2.2.2.2.2.2.2.2.2.1), ↓ob (hR.2.2.2.2.2.2.2.2.2.2.2.2.2.2.2.1), ↓ob (hR.2.2.2.2.2.2.2.2.2.2.2.2.2.2.2.2.1), ↓ob (hR.2.2.2.2.2.2.2.2.2.2.2.2.2.2.2.2.2.1), hR.2.2.2.2.2.2.2.2.2.2.2.2.2.2.2.2.2.2.1, hR.2.2.2.2.2.2.2.2.2.2.2.2.2.2.2.2.2.2.2.1, hR.2.2.2.2.2.2.2.2.2.2.2.2.2.2.2.2.2.2.2.2.1, hR.2.2.2.2.2.2.2.2.2.2.2.2.2.2.2.2.2.2.2.2.2.1, hR.2.2.2.2.2.2.2.2.2.2.2.2.2.2.2.2.2.2.2.2.2.2.1, hR.2.2.2.2.2.2.2.2.2.2.2.2.2.2.2.2.2.2.2.2.2.2.2.1, hR.2.2.2.2.2.2.2.2.2.2.2.2.2.2.2.2.2.2.2.2.2.2.2.2.1, hR.2.2.2.2.2.2.2.2.2.2.2.2.2.2.2.2.2.2.2.2.2.2.2.2.2.1, hR.2.2.2.2.2.2.2.2.2.2.2.2.2.2.2.2.2.2.2.2.2.2.2.2.2.2.1, hR.2.2.2.2.2.2.2.2.2.2.2.2.2.2.2.2.2.2.2.2.2.2.2.2.2.2.2.1, hR.2.2.2.2.2.2.2.2.2.2.2.2.2.2.2.2.2.2.2.2.2.2.2.2.2.2.2.2.1, hR.2.2.2.2.2.2.2.2.2.2.2.2.2.2.2.2.2.2.2.2.2.2.2.2.2.2.2.2.2.1, hR.2.2.2.2.2.2.2.2.2.2.2.2.2.2.2.2.2.2.2.2.2.2.2.2.2.2.2.2.2.2.1, hR.2.2.2.2.2.2.2.2.2.2.2.2.2.2.2.2.2.2.2.2.2.2.2.2.2.2.2.2.2.2.2.1, hR.2.2.2.2.2.2.2.2.2.2.2.2.2.2.2.2.2.2.2.2.2.2.2.2.2.2.2.2.2.2.2.2.1, hR.2.2.2.2.2.2.2.2.2.2.2.2.2.2.2.2.2.2.2.2.2.2.2.2.2.2.2.2.2.2.2.2.2.1, hR.2.2.2.2.2.2.2.2.2.2.2.2.2.2.2.2.2.2.2.2.2.2.2.2.2.2.2.2.2.2.2.2.2.2.1, hR.2.2.2.2.2.2.2.2.2.2.2.2.2.2.2.2.2.2.2.2.2.2.2.2.2.2.2.2.2.2.2.2.2.2.2, ↓lt_e, ↓gd_e, ↓Option.bind_some, ↓reduceIte, if_true, if_false, if_pT, if_nF, decide_true, Bool.not_true, Bool.not_false, not_true_eq_false, not_false_eq_true, Bool.false_eq_true, Bool.true_eq_false, eq_self, n3_lit, n3_inb, n3_tn, ho, hi]
  simp (disch := omega) only [jn_X12_canLoad_125, jn_X12_canLoad_143, jn_X12_canLoad_162, jn_X12_canLoad_175, ↓ob (hR.1), ↓ob (hR.2.1), ↓ob (hR.2.2.1), ↓ob (hR.2.2.2.1), ↓ob (hR.2.2.2.2.1), ↓ob (hR.2.2.2.2.2.1), ↓ob (hR.2.2.2.2.2.2.1), ↓ob (hR.2.2.2.2.2.2.2.1), ↓ob (hR.2.2.2.2.2.2.2.2.1), ↓ob (hR.2.2.2.2.2.2.2.2.2.1), ↓ob (hR.2.2.2.2.2.2.2.2.2.2.1), ↓ob (hR.2.2.2.2.2.2.2.2.2.2.2.1), ↓ob (hR.2.2.2.2.2.2.2.2.2.2.2.2.1), ↓ob (hR.2.2.2.2.2.2.2.2.2.2.2.2.2.1), ↓ob (hR.2.2.2.2.2.2.2.2.2.2.2.2.2.2.1), ↓ob (hR.2.2.2.2.2.2.2.2.2.2.2.2.2.2.2.1), ↓ob (hR.2.2.2.2.2.2.2.2.2.2.2.2.2.2.2.2.1), ↓ob (hR.2.2.2.2.2.2.2.2.2.2.2.2.2.2.2.2.2.1), hR.2.2.2.2.2.2.2.2.2.2.2.2.2.2.2.2.2.2.1, hR.2.2.2.2.2.2.2.2.2.2.2.2.2.2.2.2.2.2.2.1, hR.2.2.2.2.2.2.2.2.2.2.2.2.2.2.2.2.2.2.2.2.1, hR.2.2.2.2.2.2.2.2.2.2.2.2.2.2.2.2.2.2.2.2.2.1, hR.2.2.2.2.2.2.2.2.2.2.2.2.2.2.2.2.2.2.2.2.2.2.1, hR.2.2.2.2.2.2.2.2.2.2.2.2.2.2.2.2.2.2.2.2.2.2.2.1, hR.2.2.2.2.2.2.2.2.2.2.2.2.2.2.2.2.2.2.2.2.2.2.2.2.1, hR.2.2.2.2.2.2.2.2.2.2.2.2.2.2.2.2.2.2.2.2.2.2.2.2.2.1, hR.2.2.2.2.2.2.2.2.2.2.2.2.2.2.2.2.2.2.2.2.2.2.2.2.2.2.1, hR.2.2.2.2.2.2.2.2.2.2.2.2.2.2.2.2.2.2.2.2.2.2.2.2.2.2.2.1, hR.2.2.2.2.2.2.2.2.2.2.2.2.2.2.2.2.2.2.2.2.2.2.2.2.2.2.2.2.1, hR.2.2.2.2.2.2.2.2.2.2.2.2.2.2.2.2.2.2.2.2.2.2.2.2.2.2.2.2.2.1, hR.2.2.2.2.2.2.2.2.2.2.2.2.2.2.2.2.2.2.2.2.2.2.2.2.2.2.2.2.2.2.1, hR.2.2.2.2.2.2.2.2.2.2.2.2.2.2.2.2.2.2.2.2.2.2.2.2.2.2.2.2.2.2.2.1, hR.2.2.2.2.2.2.2.2.2.2.2.2.2.2.2.2.2.2.2.2.2.2.2.2.2.2.2.2.2.2.2.2.1, hR.2.2.2.2.2.2.2.2.2.2.2.2.2.2.2.2.2.2.2.2.2.2.2.2.2.2.2.2.2.2.2.2.2.1, hR.2.2.2.2.2.2.2.2.2.2.2.2.2.2.2.2.2.2.2.2.2.2.2.2.2.2.2.2.2.2.2.2.2.2.1, hR.2.2.2.2.2.2.2.2.2.2.2.2.2.2.2.2.2.2.2.2.2.2.2.2.2.2.2.2.2.2.2.2.2.2.2, ↓lt_e, ↓gd_e, ↓Option.bind_some, ↓reduceIte, if_true, if_false, if_pT, if_nF, decide_true, Bool.not_true, Bool.not_false, not_true_eq_false, not_false_eq_true, Bool.false_eq_true, Bool.true_eq_false, eq_self, n3_lit, n3_inb, n3_tn, n3_le_t]
theorem r_cl_in {N : Nat} {Λ : Lay} {ad : Nat → Nat} {μ : Mem} {F : Nat → Nat} (hR : LyR Λ ad) (hW : Row μ (ad 182) 1222 F)  {k cnt v s x : Nat} (hv : v < cnt) (hc8 : cnt ≤ 8) (hs : s < 8) (hm : μ.1 (ad 190) v = n3 s) (hx : F (25 + 6 * s + 0) = x) (hro : μ.1 (ad 192) v = -n3 1) (k37 : Int32 × Mem → Option (Int32 × Mem)) : bd_X12_canLoad_37 N Λ μ k37 (ad 181) (n3 k) (n3 cnt) (n3 v) = jn_X12_canLoad_90 N Λ μ k37 (ad 181) (n3 k) (n3 cnt) (n3 v) (n3 x) := by
  have e0 := r_of (N := N) hR hW s 0 (by omega)
  rw [hx] at e0
  simp (disch := omega) only [bd_X12_canLoad_37, ↓ob (hR.1), ↓ob (hR.2.1), ↓ob (hR.2.2.1), ↓ob (hR.2.2.2.1), ↓ob (hR.2.2.2.2.1), ↓ob (hR.2.2.2.2.2.1), ↓ob (hR.2.2.2.2.2.2.1), ↓ob (hR.2.2.2.2.2.2.2.1), ↓ob (hR.2.2.2.2.2.2.2.2.1), ↓ob (hR.2.2.2.2.2.2.2.2.2.1), ↓ob (hR.2.2.2.2.2.2.2.2.2.2.1), ↓ob (hR.2.2.2.2.2.2.2.2.2.2.2.1), ↓ob (hR.2.2.2.2.2.2.2.2.2.2.2.2.1), ↓ob (hR.2.2.2.2.2.2.2.2.2.2.2.2.2.1), ↓ob (hR.2.2.2.2.2.2.2.2.2.2.2.2.2.2.1), ↓ob (hR.2.2.2.2.2.2.2.2.2.2.2.2.2.2.2.1), ↓ob (hR.2.2.2.2.2.2.2.2.2.2.2.2.2.2.2.2.1), ↓ob (hR.2.2.2.2.2.2.2.2.2.2.2.2.2.2.2.2.2.1), hR.2.2.2.2.2.2.2.2.2.2.2.2.2.2.2.2.2.2.1, hR.2.2.2.2.2.2.2.2.2.2.2.2.2.2.2.2.2.2.2.1, hR.2.2.2.2.2.2.2.2.2.2.2.2.2.2.2.2.2.2.2.2.1, hR.2.2.2.2.2.2.2.2.2.2.2.2.2.2.2.2.2.2.2.2.2.1, hR.2.2.2.2.2.2.2.2.2.2.2.2.2.2.2.2.2.2.2.2.2.2.1, hR.2.2.2.2.2.2.2.2.2.2.2.2.2.2.2.2.2.2.2.2.2.2.2.1, hR.2.2.2.2.2.2.2.2.2.2.2.2.2.2.2.2.2.2.2.2.2.2.2.2.1, hR.2.2.2.2.2.2.2.2.2.2.2.2.2.2.2.2.2.2.2.2.2.2.2.2.2.1, hR.2.2.2.2.2.2.2.2.2.2.2.2.2.2.2.2.2.2.2.2.2.2.2.2.2.2.1, hR.2.2.2.2.2.2.2.2.2.2.2.2.2.2.2.2.2.2.2.2.2.2.2.2.2.2.2.1, hR.2.2.2.2.2.2.2.2.2.2.2.2.2.2.2.2.2.2.2.2.2.2.2.2.2.2.2.2.1, hR.2.2.2.2.2.2.2.2.2.2.2.2.2.2.2.2.2.2.2.2.2.2.2.2.2.2.2.2.2.1, hR.2.2.2.2.2.2.2.2.2.2.2.2.2.2.2.2.2.2.2.2.2.2.2.2.2.2.2.2.2.2.1, hR.2.2.2.2.2.2.2.2.2.2.2.2.2.2.2.2.2.2.2.2.2.2.2.2.2.2.2.2.2.2.2.1, hR.2.2.2.2.2.2.2.2.2.2.2.2.2.2.2.2.2.2.2.2.2.2.2.2.2.2.2.2.2.2.2.2.1, hR.2.2.2.2.2.2.2.2.2.2.2.2.2.2.2.2.2.2.2.2.2.2.2.2.2.2.2.2.2.2.2.2.2.1, hR.2.2.2.2.2.2.2.2.2.2.2.2.2.2.2.2.2.2.2.2.2.2.2.2.2.2.2.2.2.2.2.2.2.2.1, hR.2.2.2.2.2.2.2.2.2.2.2.2.2.2.2.2.2.2.2.2.2.2.2.2.2.2.2.2.2.2.2.2.2.2.2, ↓lt_e, ↓gd_e, ↓Option.bind_some, ↓reduceIte, if_true, if_false, if_pT, if_nF, decide_true, Bool.not_true, Bool.not_false, not_true_eq_false, not_false_eq_true, Bool.false_eq_true, Bool.true_eq_false, eq_self, n3_lit, n3_lt_f, n3_le_f, n3_inb, n3_tn, hm, e0, hro]
theorem r_cl_back {N : Nat} {Λ : Lay} {ad : Nat → Nat} {μ : Mem} {F : Nat → Nat} (hR : LyR Λ ad) (hW : Row μ (ad 182) 1222 F)  {k cnt v s x o y : Nat} (hv : v < cnt) (hc8 : cnt ≤ 8) (hs : s < 8) (hm : μ.1 (ad 190) v = n3 s) (hx : F (25 + 6 * s + 0) = x) (ho : o < 24) (hro : μ.1 (ad 192) v = n3 o) (hy : μ.1 (ad 191) o = n3 y) (k37 : Int32 × Mem → Option (Int32 × Mem)) : bd_X12_canLoad_37 N Λ μ k37 (ad 181) (n3 k) (n3 cnt) (n3 v) = jn_X12_canLoad_90 N Λ (mset μ (ad 191) o (n3 (y + x))) k37 (ad 181) (n3 k) (n3 cnt) (n3 v) (n3 x) := by
  have e0 := r_of (N := N) hR hW s 0 (by omega)
  rw [hx] at e0
  have hne : (n3 o = -n3 1) = False := by
    rw [n3_neg1]; exact n3_eq_f (by omega) (by omega) (by omega)
  simp (disch := omega) only [bd_X12_canLoad_37, ↓ob (hR.1), ↓ob (hR.2.1), ↓ob (hR.2.2.1), ↓ob (hR.2.2.2.1), ↓ob (hR.2.2.2.2.1), ↓ob (hR.2.2.2.2.2.1), ↓ob (hR.2.2.2.2.2.2.1), ↓ob (hR.2.2.2.2.2.2.2.1), ↓ob (hR.2.2.2.2.2.2.2.2.1), ↓ob (hR.2.2.2.2.2.2.2.2.2.1), ↓ob (hR.2.2.2.2.2.2.2.2.2.2.1), ↓ob (hR.2.2.2.2.2.2.2.2.2.2.2.1), ↓ob (hR.2.2.2.2.2.2.2.2.2.2.2.2.1), ↓ob (hR.2.2.2.2.2.2.2.2.2.2.2.2.2.1), ↓ob (hR.2.2.2.2.2.2.2.2.2.2.2.2.2.2.1), ↓ob (hR.2.2.2.2.2.2.2.2.2.2.2.2.2.2.2.1), ↓ob (hR.2.2.2.2.2.2.2.2.2.2.2.2.2.2.2.2.1), ↓ob (hR.2.2.2.2.2.2.2.2.2.2.2.2.2.2.2.2.2.1), hR.2.2.2.2.2.2.2.2.2.2.2.2.2.2.2.2.2.2.1, hR.2.2.2.2.2.2.2.2.2.2.2.2.2.2.2.2.2.2.2.1, hR.2.2.2.2.2.2.2.2.2.2.2.2.2.2.2.2.2.2.2.2.1, hR.2.2.2.2.2.2.2.2.2.2.2.2.2.2.2.2.2.2.2.2.2.1, hR.2.2.2.2.2.2.2.2.2.2.2.2.2.2.2.2.2.2.2.2.2.2.1, hR.2.2.2.2.2.2.2.2.2.2.2.2.2.2.2.2.2.2.2.2.2.2.2.1, hR.2.2.2.2.2.2.2.2.2.2.2.2.2.2.2.2.2.2.2.2.2.2.2.2.1, hR.2.2.2.2.2.2.2.2.2.2.2.2.2.2.2.2.2.2.2.2.2.2.2.2.2.1, hR.2.2.2.2.2.2.2.2.2.2.2.2.2.2.2.2.2.2.2.2.2.2.2.2.2.2.1, hR.2.2.2.2.2.2.2.2.2.2.2.2.2.2.2.2.2.2.2.2.2.2.2.2.2.2.2.1, hR.2.2.2.2.2.2.2.2.2.2.2.2.2.2.2.2.2.2.2.2.2.2.2.2.2.2.2.2.1, hR.2.2.2.2.2.2.2.2.2.2.2.2.2.2.2.2.2.2.2.2.2.2.2.2.2.2.2.2.2.1, hR.2.2.2.2.2.2.2.2.2.2.2.2.2.2.2.2.2.2.2.2.2.2.2.2.2.2.2.2.2.2.1, hR.2.2.2.2.2.2.2.2.2.2.2.2.2.2.2.2.2.2.2.2.2.2.2.2.2.2.2.2.2.2.2.1, hR.2.2.2.2.2.2.2.2.2.2.2.2.2.2.2.2.2.2.2.2.2.2.2.2.2.2.2.2.2.2.2.2.1, hR.2.2.2.2.2.2.2.2.2.2.2.2.2.2.2.2.2.2.2.2.2.2.2.2.2.2.2.2.2.2.2.2.2.1, hR.2.2.2.2.2.2.2.2.2.2.2.2.2.2.2.2.2.2.2.2.2.2.2.2.2.2.2.2.2.2.2.2.2.2.1, hR.2.2.2.2.2.2.2.2.2.2.2.2.2.2.2.2.2.2.2.2.2.2.2.2.2.2.2.2.2.2.2.2.2.2.2, ↓lt_e, ↓gd_e, ↓Option.bind_some, ↓reduceIte, if_true, if_false, if_pT, if_nF, decide_true, Bool.not_true, Bool.not_false, not_true_eq_false, not_false_eq_true, Bool.false_eq_true, Bool.true_eq_false, eq_self, n3_lit, n3_lt_f, n3_le_f, n3_inb, n3_tn, hm, e0, hro, hne, hy, n3_add]
theorem r_cl_yes {N : Nat} {Λ : Lay} {μ : Mem} {ad : Nat → Nat} {k cnt : Nat} (hc8 : cnt ≤ 8) (k37 : Int32 × Mem → Option (Int32 × Mem)) : bd_X12_canLoad_37 N Λ μ k37 (ad 181) (n3 k) (n3 cnt) (n3 cnt) = some (n3 1, μ) := by
  simp (disch := omega) only [bd_X12_canLoad_37, jn_X12_canLoad_181, jn_X12_canLoad_192, ↓lt_e, ↓gd_e, ↓Option.bind_some, ↓reduceIte, if_true, if_false, if_pT, if_nF, decide_true, Bool.not_true, Bool.not_false, not_true_eq_false, not_false_eq_true, Bool.false_eq_true, Bool.true_eq_false, eq_self, n3_lit, n3_add, n3_mul, n3_sub, n3_tn, n3_le_t, n3_le_f, n3_lt_t, n3_lt_f, n3_eq_f, n3_eq_t, n3_inb, n3_rem, n3_div, n3_zb, bb_0, bb_1, zb_bb, bb_T, bb_F, n3_dec, n3_m1, n3_eqm, n3_eqmt, n3_ltm, n3_mlt, n3_lem, n3_mle, n3_neg_lt, n3_nlt_neg, n3_nle_neg, n3_neg_le]
theorem r_cl_no {N : Nat} {Λ : Lay} {μ : Mem} {ad : Nat → Nat} {k cnt : Nat} (hc8 : cnt ≤ 8) (k37 : Int32 × Mem → Option (Int32 × Mem)) : bd_X12_canLoad_37 N Λ μ k37 (ad 181) (n3 k) (n3 cnt) (-n3 1) = some (n3 0, μ) := by
  have h1 : (-n3 1 < n3 0) = True := eq_true (by decide)
  have h2 : (-n3 1 = n3 cnt) = False := by
    rw [n3_neg1]; exact n3_eq_f (by omega) (by omega) (by omega)
  simp (disch := omega) only [bd_X12_canLoad_37, jn_X12_canLoad_181, jn_X12_canLoad_192, ↓lt_e, ↓gd_e, ↓Option.bind_some, ↓reduceIte, if_true, if_false, if_pT, if_nF, decide_true, Bool.not_true, Bool.not_false, not_true_eq_false, not_false_eq_true, Bool.false_eq_true, Bool.true_eq_false, eq_self, n3_lit, h1, h2, n3_zb]
/-! the whole search -/
def Rms (ad : Nat → Nat) (μ : Mem) (k : Nat) (c : Nat → Nat) : Prop := ∀ j, j < k → μ.1 (ad 191) j = n3 (c j)
def Frs (ad : Nat → Nat) (μ : Mem) (v cnt : Nat) : Prop := ∀ w, v ≤ w → w < cnt → μ.1 (ad 192) w = -n3 1
def stL (N : Nat) (Λ : Lay) (ad : Nat → Nat) (k cnt : Nat) : (Int32 × Mem → Option (Int32 × Mem)) → Int32 × Mem → Option (Int32 × Mem) := fun kk s => bd_X12_canLoad_37 N Λ s.2 kk (ad 181) (n3 k) (n3 cnt) s.1
theorem stL_s (N : Nat) (Λ : Lay) (ad : Nat → Nat) (k cnt M : Nat) (v : Int32) (μ : Mem) : cw (stL N Λ ad k cnt) (M + 1) (v, μ) = bd_X12_canLoad_37 N Λ μ (cw (stL N Λ ad k cnt) M) (ad 181) (n3 k) (n3 cnt) v := rfl
theorem n3_vm (v : Nat) : n3 (v + 1) + -n3 1 = n3 v := by
  rw [← n3_add, Int32.add_assoc, show n3 1 + -n3 1 = n3 0 by decide, n3_add, Nat.add_zero]
theorem r_dfs_in {N : Nat} (hN : 1099511627776 ≤ N) {Λ : Lay} {ad : Nat → Nat} {μ0 : Mem} {F : Nat → Nat} (hR : LyR Λ ad) (hj : Inj ad) (hW0 : Row μ0 (ad 182) 1222 F) {k cnt v s B : Nat} {c : Nat → Nat} {r : List Nat} (hk : k ≤ 24) (hcnt : cnt ≤ 8) (hv : v < cnt) (hs : s < 8) (hms : μ0.1 (ad 190) v = n3 s) (hx : ln F s < 32) (hc : ∀ j, j < k → c j < 32)
    (ih : ∀ (c : Nat → Nat) (μ : Mem), (∀ j, j < k → c j < 32) → Rms ad μ k c → Frs ad μ (v + 1) cnt → Fr ad (fun i => i = 191 ∨ i = 192) μ0 μ → (fitL k (ln F) c r ∧ ∃ t μ', t ≤ B ∧ Fr ad (fun i => i = 191 ∨ i = 192) μ0 μ' ∧ ∀ M, cw (stL N Λ ad k cnt) (M + t) (n3 (v + 1), μ) = some (n3 1, μ')) ∨ (¬ fitL k (ln F) c r ∧ ∃ t μ', t ≤ B ∧ Fr ad (fun i => i = 191 ∨ i = 192) μ0 μ' ∧ Rms ad μ' k c ∧ Frs ad μ' (v + 1) cnt ∧ (∀ w, w < v + 1 → μ'.1 (ad 192) w = μ.1 (ad 192) w) ∧ ∀ M, cw (stL N Λ ad k cnt) (M + t) (n3 (v + 1), μ) = cw (stL N Λ ad k cnt) M (n3 (v + 1) + -n3 1, μ'))) :
    ∀ (d y : Nat) (μ : Mem), k - y ≤ d → y ≤ k → Rms ad μ k c → Frs ad μ (v + 1) cnt → Fr ad (fun i => i = 191 ∨ i = 192) μ0 μ → μ.1 (ad 192) v + n3 1 = n3 y →
      ((∃ j, y ≤ j ∧ j < k ∧ ln F s ≤ c j ∧ fitL k (ln F) (up c j (c j - ln F s)) r) ∧ ∃ t μ', t ≤ d * (1 + B) ∧ Fr ad (fun i => i = 191 ∨ i = 192) μ0 μ' ∧ ∀ M, jn_X12_canLoad_90 N Λ μ (cw (stL N Λ ad k cnt) (M + t)) (ad 181) (n3 k) (n3 cnt) (n3 v) (n3 (ln F s)) = some (n3 1, μ')) ∨
      ((¬ ∃ j, y ≤ j ∧ j < k ∧ ln F s ≤ c j ∧ fitL k (ln F) (up c j (c j - ln F s)) r) ∧ ∃ t μ', t ≤ d * (1 + B) ∧ Fr ad (fun i => i = 191 ∨ i = 192) μ0 μ' ∧ Rms ad μ' k c ∧ Frs ad μ' v cnt ∧ (∀ w, w < v → μ'.1 (ad 192) w = μ.1 (ad 192) w) ∧ ∀ M, jn_X12_canLoad_90 N Λ μ (cw (stL N Λ ad k cnt) (M + t)) (ad 181) (n3 k) (n3 cnt) (n3 v) (n3 (ln F s)) = cw (stL N Λ ad k cnt) M (n3 v + -n3 1, μ')) := by
  intro d
  induction d with
  | zero =>
    intro y μ hd hy hA hF hf ho
    have hyk : y = k := by omega
    have hJ : nx c (ln F s) y k = k := ff_eq (Nat.le_refl _) (fun i hi => decide_eq_false (by omega)) (Or.inl rfl)
    refine Or.inr ⟨fun ⟨j, h1, h2, _⟩ => by omega, 0, mset μ (ad 192) v (-n3 1), by omega, hf.set hj (Or.inr rfl), fun j hjk => by rw [mso hj (by omega)]; exact hA j hjk, fun w h1 h2 => ?_, fun w hw => by rw [msn (by omega)], fun M => r_clB hN hR (by omega) hk hc hA hx hy ho _ hJ⟩
    by_cases e : w = v
    · rw [e, mse]
    · rw [msn e]; exact hF w (by omega) h2
  | succ d ihd =>
    intro y μ hd hy hA hF hf ho
    have hle : nx c (ln F s) y k ≤ k := ff_le _ _
    by_cases hJ : nx c (ln F s) y k = k
    · refine Or.inr ⟨fun ⟨j, h1, h2, h3, _⟩ => ?_, 0, mset μ (ad 192) v (-n3 1), Nat.zero_le _, hf.set hj (Or.inr rfl), fun j hjk => by rw [mso hj (by omega)]; exact hA j hjk, fun w h1 h2 => ?_, fun w hw => by rw [msn (by omega)], fun M => r_clB hN hR (by omega) hk hc hA hx hy ho _ hJ⟩
      · have := ff_no (p := fun j => decide (y ≤ j ∧ ln F s ≤ c j)) (n := k) (i := j) (show j < nx c (ln F s) y k by omega)
        exact of_decide_eq_false this ⟨h1, h3⟩
      · by_cases e : w = v
        · rw [e, mse]
        · rw [msn e]; exact hF w (by omega) h2
    · have hlt : nx c (ln F s) y k < k := by omega
      have hyes := of_decide_eq_true (ff_yes (p := fun j => decide (y ≤ j ∧ ln F s ≤ c j)) hlt)
      have hy1 : y ≤ nx c (ln F s) y k := hyes.1
      have hy2 : ln F s ≤ c (nx c (ln F s) y k) := hyes.2
      have hno : ∀ j, j < nx c (ln F s) y k → y ≤ j → ¬ ln F s ≤ c j := fun j h1 h2 h3 => of_decide_eq_false (ff_no (p := fun j => decide (y ≤ j ∧ ln F s ≤ c j)) (n := k) (i := j) h1) ⟨h2, h3⟩
      have hst := fun K => r_clJ hN hR hj (cnt := cnt) (m1 := 4294967295) n3_neg1 (by omega) hk hc hA hx hy ho K hlt
      clear hyes
      generalize nx c (ln F s) y k = J at *
      have hcJ := hc J hlt
      generalize hμ2 : mset (mset μ (ad 192) v (n3 J)) (ad 191) J (n3 (c J - ln F s)) = μ2 at hst
      have f2 : Fr ad (fun i => i = 191 ∨ i = 192) μ0 μ2 := by rw [← hμ2]; exact (hf.set hj (Or.inr rfl)).set hj (Or.inl rfl)
      have r2 : Rms ad μ2 k (up c J (c J - ln F s)) := fun j hjk => by
        rw [← hμ2]
        by_cases e : j = J
        · rw [e, mse, up_e]
        · rw [msn e, up_n e, mso hj (by omega)]; exact hA j hjk
      have o2 : μ2.1 (ad 192) v = n3 J := by rw [← hμ2, mso hj (by omega), mse]
      have k2 : ∀ w, w ≠ v → μ2.1 (ad 192) w = μ.1 (ad 192) w := fun w hw => by rw [← hμ2, mso hj (by omega), msn hw]
      have hB : B + 1 + d * (1 + B) = (d + 1) * (1 + B) := by rw [Nat.add_mul, Nat.one_mul]; omega
      rcases ih (up c J (c J - ln F s)) μ2 (fun j hjk => by
        by_cases e : j = J
        · rw [e, up_e]; omega
        · rw [up_n e]; exact hc j hjk) r2 (fun w h1 h2 => by rw [k2 w (by omega)]; exact hF w h1 h2) f2 with ⟨hfit, t, μ', ht, hf', he⟩ | ⟨hfit, t, μ', ht, hf', hr', hF', hk', he⟩
      · exact Or.inl ⟨⟨J, hy1, hlt, hy2, hfit⟩, t, μ', by omega, hf', fun M => by rw [hst]; exact he M⟩
      · have o3 : μ'.1 (ad 192) v = n3 J := by rw [hk' v (by omega)]; exact o2
        have hW3 : Row μ' (ad 182) 1222 F := hW0.fr hf' (by omega)
        have hm3 : μ'.1 (ad 190) v = n3 s := by rw [(hf' 190 (by omega)).1]; exact hms
        have hv3 : μ'.1 (ad 191) J = n3 (c J - ln F s) := by rw [hr' J hlt, up_e]
        have hbk := fun K => r_cl_back (N := N) hR hW3 (k := k) hv hcnt hs hm3 (x := ln F s) rfl (by omega) o3 hv3 K
        rw [show c J - ln F s + ln F s = c J by omega] at hbk
        generalize hμ4 : mset μ' (ad 191) J (n3 (c J)) = μ4 at hbk
        have f4 : Fr ad (fun i => i = 191 ∨ i = 192) μ0 μ4 := by rw [← hμ4]; exact hf'.set hj (Or.inl rfl)
        have k4 : ∀ w, μ4.1 (ad 192) w = μ'.1 (ad 192) w := fun w => by rw [← hμ4, mso hj (by omega)]
        have hrun : ∀ M, jn_X12_canLoad_90 N Λ μ (cw (stL N Λ ad k cnt) (M + 1 + t)) (ad 181) (n3 k) (n3 cnt) (n3 v) (n3 (ln F s)) = jn_X12_canLoad_90 N Λ μ4 (cw (stL N Λ ad k cnt) M) (ad 181) (n3 k) (n3 cnt) (n3 v) (n3 (ln F s)) := fun M => by
          rw [hst, he (M + 1), n3_vm, stL_s, hbk]
        rcases ihd (J + 1) μ4 (by omega) (by omega) (fun j hjk => by
          rw [← hμ4]
          by_cases e : j = J
          · rw [e, mse]
          · rw [msn e, hr' j hjk, up_n e]) (fun w h1 h2 => by rw [k4]; exact hF' w h1 h2) f4 (by rw [k4, o3, n3_add]) with ⟨⟨j, a1, a2, a3, a4⟩, t2, μ5, ht2, hf5, he5⟩ | ⟨hnj, t2, μ5, ht2, hf5, hr5, hF5, hk5, he5⟩
        · refine Or.inl ⟨⟨j, by omega, a2, a3, a4⟩, t2 + 1 + t, μ5, by omega, hf5, fun M => ?_⟩
          rw [show M + (t2 + 1 + t) = M + t2 + 1 + t by omega, hrun, he5]
        · refine Or.inr ⟨fun ⟨j, a1, a2, a3, a4⟩ => ?_, t2 + 1 + t, μ5, by omega, hf5, hr5, hF5, fun w hw => by rw [hk5 w hw, k4, hk' w (by omega), k2 w (by omega)], fun M => ?_⟩
          · by_cases e1 : j < J
            · exact hno j e1 a1 a3
            · by_cases e2 : j = J
              · rw [e2] at a4; exact hfit a4
              · exact hnj ⟨j, by omega, a2, a3, a4⟩
          · rw [show M + (t2 + 1 + t) = M + t2 + 1 + t by omega, hrun, he5]
theorem r_dfs {N : Nat} (hN : 1099511627776 ≤ N) {Λ : Lay} {ad : Nat → Nat} {μ0 : Mem} {F : Nat → Nat} (hR : LyR Λ ad) (hj : Inj ad) (hW0 : Row μ0 (ad 182) 1222 F) {k : Nat} {ms : List Nat} (hk : k ≤ 24) (hcnt : ms.length ≤ 8) (hms : ∀ j x, ms[j]? = some x → μ0.1 (ad 190) j = n3 x ∧ x < 8 ∧ ln F x < 32) :
    ∀ (r : List Nat) (v : Nat) (c : Nat → Nat) (μ : Mem), ms.drop v = r → v ≤ ms.length → (∀ j, j < k → c j < 32) → Rms ad μ k c → Frs ad μ v ms.length → Fr ad (fun i => i = 191 ∨ i = 192) μ0 μ → (fitL k (ln F) c r ∧ ∃ t μ', t ≤ 2 * 26 ^ r.length - 1 ∧ Fr ad (fun i => i = 191 ∨ i = 192) μ0 μ' ∧ ∀ M, cw (stL N Λ ad k ms.length) (M + t) (n3 v, μ) = some (n3 1, μ')) ∨ (¬ fitL k (ln F) c r ∧ ∃ t μ', t ≤ 2 * 26 ^ r.length - 1 ∧ Fr ad (fun i => i = 191 ∨ i = 192) μ0 μ' ∧ Rms ad μ' k c ∧ Frs ad μ' v ms.length ∧ (∀ w, w < v → μ'.1 (ad 192) w = μ.1 (ad 192) w) ∧ ∀ M, cw (stL N Λ ad k ms.length) (M + t) (n3 v, μ) = cw (stL N Λ ad k ms.length) M (n3 v + -n3 1, μ')) := by
  intro r
  induction r with
  | nil =>
    intro v c μ hd hv hc hA hF hf
    have hle := List.drop_eq_nil_iff.1 hd
    have hv2 : v = ms.length := by omega
    subst hv2
    exact Or.inl ⟨trivial, 1, μ, by simp, hf, fun M => by rw [stL_s]; exact r_cl_yes hcnt _⟩
  | cons s r ih =>
    intro v c μ hd hv hc hA hF hf
    have hlt : v < ms.length := by
      by_cases h : v < ms.length
      · exact h
      · rw [List.drop_eq_nil_iff.2 (by omega)] at hd; cases hd
    have hd2 := List.drop_eq_getElem_cons hlt
    rw [hd2] at hd
    have hsv : ms[v] = s := (List.cons.inj hd).1
    have hdr : ms.drop (v + 1) = r := (List.cons.inj hd).2
    have hget : ms[v]? = some s := by rw [List.getElem?_eq_getElem hlt, hsv]
    obtain ⟨m1, m2, m3⟩ := hms v s hget
    have hin := r_dfs_in hN hR hj hW0 (s := s) (B := 2 * 26 ^ r.length - 1) (c := c) (r := r) hk hcnt hlt m2 m1 m3 hc (fun c μ a1 a2 a3 a4 => ih (v + 1) c μ hdr (by omega) a1 a2 a3 a4) k 0 μ (by omega) (by omega) hA (fun w h1 h2 => hF w (by omega) h2) hf (by rw [hF v (Nat.le_refl _) hlt]; decide)
    have hW1 : Row μ (ad 182) 1222 F := hW0.fr hf (by omega)
    have hm1 : μ.1 (ad 190) v = n3 s := by rw [(hf 190 (by omega)).1]; exact m1
    have hgo := fun K => r_cl_in (N := N) hR hW1 (k := k) hlt hcnt m2 hm1 (x := ln F s) rfl (hF v (Nat.le_refl _) hlt) K
    have hbd : ∀ t, t ≤ k * (1 + (2 * 26 ^ r.length - 1)) → t + 1 ≤ 2 * 26 ^ (s :: r).length - 1 := by
      intro t ht
      rw [List.length_cons, Nat.pow_succ]
      have hp : 0 < 26 ^ r.length := Nat.pow_pos (by omega)
      generalize 26 ^ r.length = Z at *
      have : k * (1 + (2 * Z - 1)) ≤ 24 * (1 + (2 * Z - 1)) := Nat.mul_le_mul_right _ hk
      omega
    have hfi : fitL k (ln F) c (s :: r) ↔ ∃ j, 0 ≤ j ∧ j < k ∧ ln F s ≤ c j ∧ fitL k (ln F) (up c j (c j - ln F s)) r := ⟨fun ⟨j, a, b, c⟩ => ⟨j, Nat.zero_le _, a, b, c⟩, fun ⟨j, _, a, b, c⟩ => ⟨j, a, b, c⟩⟩
    rw [hfi]
    rcases hin with ⟨h1, t, μ', ht, hf', he⟩ | ⟨h1, t, μ', ht, hf', hr', hF', hk', he⟩
    · exact Or.inl ⟨h1, t + 1, μ', hbd t ht, hf', fun M => by rw [show M + (t + 1) = M + t + 1 by omega, stL_s, hgo]; exact he M⟩
    · exact Or.inr ⟨h1, t + 1, μ', hbd t ht, hf', hr', hF', hk', fun M => by rw [show M + (t + 1) = M + t + 1 by omega, stL_s, hgo]; exact he M⟩
theorem ml_ge {F : Nat → Nat} {d : Nat} (hd : d < 2 ^ F 0) : ∀ n, F 0 ≤ n → ml d n = ml d (F 0)
  | 0, h => by rw [show F 0 = 0 by omega]
  | n + 1, h => by
    by_cases e : F 0 = n + 1
    · rw [e]
    · have hb : d.testBit n = false := Nat.testBit_lt_two_pow (Nat.lt_of_lt_of_le hd (Nat.pow_le_pow_right (n := 2) (by decide) (by omega)))
      show (if d.testBit n = true then ml d n ++ [n] else ml d n) = _
      rw [hb, if_neg (by simp)]; exact ml_ge hd n (by omega)
theorem r_canLoad {N : Nat} (hN : 1099511627776 ≤ N) {Λ : Lay} {ad : Nat → Nat} {μ : Mem} {F : Nat → Nat} (hR : LyR Λ ad) (hW : Row μ (ad 182) 1222 F)  (hj : Inj ad) (hw : WF F) {d : Nat} (hd : d < 256) (hdF : d < 2 ^ F 0) : ∃ μ', m_X12_canLoad N Λ μ (ad 181) (n3 d) = some (n3 (if flD F d = 1048576 then 0 else 1), μ') ∧ Fr ad (fun i => i = 190 ∨ i = 191 ∨ i = 192) μ μ' := by
  have hb := hw.1; unfold WB at hb
  have hk := kR_le (tkn F (F 0))
  have hz := zR_lt (tkn F (F 0))
  obtain ⟨μ1, e1, r1, f1⟩ := r_laysRuns hN hR hW hj hw
  have hW1 := hW.fr f1 (by omega)
  obtain ⟨μ2, e2, m2, f2⟩ := r_laysMembers hN hR hW1 hj hw hd
  have hiff := dF_iff (l := ln F) hk hz hd
  rw [ml_ge hdF 8 hb.1] at hiff
  have hl8 : (ml d (F 0)).length ≤ 8 := Nat.le_trans (ml_len d (F 0)) hb.1
  simp (disch := omega) only [m_X12_canLoad, e1, e2, ↓lt_e, ↓gd_e, ↓Option.bind_some, ↓reduceIte, if_true, if_false, if_pT, if_nF, decide_true, Bool.not_true, Bool.not_false, not_true_eq_false, not_false_eq_true, Bool.false_eq_true, Bool.true_eq_false, eq_self]
  have hfl : flD F d = dF (kR (tkn F (F 0))) (zR (tkn F (F 0))) (ln F) d := rfl
  rw [hfl]
  have hmem : ∀ x, x ∈ ml d (F 0) → x < F 0 := fun x hx => (ml_mem.1 hx).1
  generalize hms : ml d (F 0) = ms at *
  generalize kR (tkn F (F 0)) = k at *
  generalize zR (tkn F (F 0)) = z at *
  generalize dF k z (ln F) d = D at *
  unfold lp_X12_canLoad_17
  refine cw_iv (P := fun i x => ∃ μ3 : Mem, x = (n3 i, μ3) ∧ (∀ w, w < i → μ3.1 (ad 192) w = -n3 1) ∧ Fr ad (fun i => i = 192) μ2 μ3) (Q := fun X => ∃ μ', X = some (n3 (if D = 1048576 then 0 else 1), μ') ∧ Fr ad (fun i => i = 190 ∨ i = 191 ∨ i = 192) μ μ') ms.length ⟨μ2, rfl, fun w h => absurd h (Nat.not_lt_zero w), Fr.refl μ2⟩ (fun i hi x hx => ?_) (fun x hx => ?_) (show ms.length < N by omega)
  · obtain ⟨μ3, rfl, h3, f3⟩ := hx
    left
    refine ⟨_, ⟨mset μ3 (ad 192) i (-n3 1), rfl, fun w hw => ?_, f3.set hj (by rfl)⟩, fun kk => ?_⟩
    · by_cases e : w = i
      · rw [e, mse]
      · rw [msn e]; exact h3 w (by omega)
    · simp (disch := omega) only [bd_X12_canLoad_17, ↓ob (hR.1), ↓ob (hR.2.1), ↓ob (hR.2.2.1), ↓ob (hR.2.2.2.1), ↓ob (hR.2.2.2.2.1), ↓ob (hR.2.2.2.2.2.1), ↓ob (hR.2.2.2.2.2.2.1), ↓ob (hR.2.2.2.2.2.2.2.1), ↓ob (hR.2.2.2.2.2.2.2.2.1), ↓ob (hR.2.2.2.2.2.2.2.2.2.1), ↓ob (hR.2.2.2.2.2.2.2.2.2.2.1), ↓ob (hR.2.2.2.2.2.2.2.2.2.2.2.1), ↓ob (hR.2.2.2.2.2.2.2.2.2.2.2.2.1), ↓ob (hR.2.2.2.2.2.2.2.2.2.2.2.2.2.1), ↓ob (hR.2.2.2.2.2.2.2.2.2.2.2.2.2.2.1), ↓ob (hR.2.2.2.2.2.2.2.2.2.2.2.2.2.2.2.1), ↓ob (hR.2.2.2.2.2.2.2.2.2.2.2.2.2.2.2.2.1), ↓ob (hR.2.2.2.2.2.2.2.2.2.2.2.2.2.2.2.2.2.1), hR.2.2.2.2.2.2.2.2.2.2.2.2.2.2.2.2.2.2.1, hR.2.2.2.2.2.2.2.2.2.2.2.2.2.2.2.2.2.2.2.1, hR.2.2.2.2.2.2.2.2.2.2.2.2.2.2.2.2.2.2.2.2.1, hR.2.2.2.2.2.2.2.2.2.2.2.2.2.2.2.2.2.2.2.2.2.1, hR.2.2.2.2.2.2.2.2.2.2.2.2.2.2.2.2.2.2.2.2.2.2.1, hR.2.2.2.2.2.2.2.2.2.2.2.2.2.2.2.2.2.2.2.2.2.2.2.1, hR.2.2.2.2.2.2.2.2.2.2.2.2.2.2.2.2.2.2.2.2.2.2.2.2.1, hR.2.2.2.2.2.2.2.2.2.2.2.2.2.2.2.2.2.2.2.2.2.2.2.2.2.1, hR.2.2.2.2.2.2.2.2.2.2.2.2.2.2.2.2.2.2.2.2.2.2.2.2.2.2.1, hR.2.2.2.2.2.2.2.2.2.2.2.2.2.2.2.2.2.2.2.2.2.2.2.2.2.2.2.1, hR.2.2.2.2.2.2.2.2.2.2.2.2.2.2.2.2.2.2.2.2.2.2.2.2.2.2.2.2.1, hR.2.2.2.2.2.2.2.2.2.2.2.2.2.2.2.2.2.2.2.2.2.2.2.2.2.2.2.2.2.1, hR.2.2.2.2.2.2.2.2.2.2.2.2.2.2.2.2.2.2.2.2.2.2.2.2.2.2.2.2.2.2.1, hR.2.2.2.2.2.2.2.2.2.2.2.2.2.2.2.2.2.2.2.2.2.2.2.2.2.2.2.2.2.2.2.1, hR.2.2.2.2.2.2.2.2.2.2.2.2.2.2.2.2.2.2.2.2.2.2.2.2.2.2.2.2.2.2.2.2.1, hR.2.2.2.2.2.2.2.2.2.2.2.2.2.2.2.2.2.2.2.2.2.2.2.2.2.2.2.2.2.2.2.2.2.1, hR.2.2.2.2.2.2.2.2.2.2.2.2.2.2.2.2.2.2.2.2.2.2.2.2.2.2.2.2.2.2.2.2.2.2.1, hR.2.2.2.2.2.2.2.2.2.2.2.2.2.2.2.2.2.2.2.2.2.2.2.2.2.2.2.2.2.2.2.2.2.2.2, ↓lt_e, ↓gd_e, ↓Option.bind_some, ↓reduceIte, if_true, if_false, if_pT, if_nF, decide_true, Bool.not_true, Bool.not_false, not_true_eq_false, not_false_eq_true, Bool.false_eq_true, Bool.true_eq_false, eq_self, n3_lit, n3_le_f, n3_inb, n3_tn, n3_add]
  · obtain ⟨μ3, rfl, h3, f3⟩ := hx
    have f23 : Fr ad (fun i => i = 190 ∨ i = 191 ∨ i = 192) μ μ3 := (f1.mono (fun i hi => by omega)).trans ((f2.mono (fun i hi => by omega)).trans (f3.mono (fun i hi => by omega)))
    have hW3 : Row μ3 (ad 182) 1222 F := hW.fr f23 (by omega)
    refine ⟨lp_X12_canLoad_37 N Λ (ad 181) (n3 k) (n3 ms.length) (n3 0, μ3), ?_, fun kk => by simp (disch := omega) only [bd_X12_canLoad_17, ↓ob (hR.1), ↓ob (hR.2.1), ↓ob (hR.2.2.1), ↓ob (hR.2.2.2.1), ↓ob (hR.2.2.2.2.1), ↓ob (hR.2.2.2.2.2.1), ↓ob (hR.2.2.2.2.2.2.1), ↓ob (hR.2.2.2.2.2.2.2.1), ↓ob (hR.2.2.2.2.2.2.2.2.1), ↓ob (hR.2.2.2.2.2.2.2.2.2.1), ↓ob (hR.2.2.2.2.2.2.2.2.2.2.1), ↓ob (hR.2.2.2.2.2.2.2.2.2.2.2.1), ↓ob (hR.2.2.2.2.2.2.2.2.2.2.2.2.1), ↓ob (hR.2.2.2.2.2.2.2.2.2.2.2.2.2.1), ↓ob (hR.2.2.2.2.2.2.2.2.2.2.2.2.2.2.1), ↓ob (hR.2.2.2.2.2.2.2.2.2.2.2.2.2.2.2.1), ↓ob (hR.2.2.2.2.2.2.2.2.2.2.2.2.2.2.2.2.1), ↓ob (hR.2.2.2.2.2.2.2.2.2.2.2.2.2.2.2.2.2.1), hR.2.2.2.2.2.2.2.2.2.2.2.2.2.2.2.2.2.2.1, hR.2.2.2.2.2.2.2.2.2.2.2.2.2.2.2.2.2.2.2.1, hR.2.2.2.2.2.2.2.2.2.2.2.2.2.2.2.2.2.2.2.2.1, hR.2.2.2.2.2.2.2.2.2.2.2.2.2.2.2.2.2.2.2.2.2.1, hR.2.2.2.2.2.2.2.2.2.2.2.2.2.2.2.2.2.2.2.2.2.2.1, hR.2.2.2.2.2.2.2.2.2.2.2.2.2.2.2.2.2.2.2.2.2.2.2.1, hR.2.2.2.2.2.2.2.2.2.2.2.2.2.2.2.2.2.2.2.2.2.2.2.2.1, hR.2.2.2.2.2.2.2.2.2.2.2.2.2.2.2.2.2.2.2.2.2.2.2.2.2.1, hR.2.2.2.2.2.2.2.2.2.2.2.2.2.2.2.2.2.2.2.2.2.2.2.2.2.2.1, hR.2.2.2.2.2.2.2.2.2.2.2.2.2.2.2.2.2.2.2.2.2.2.2.2.2.2.2.1, hR.2.2.2.2.2.2.2.2.2.2.2.2.2.2.2.2.2.2.2.2.2.2.2.2.2.2.2.2.1, hR.2.2.2.2.2.2.2.2.2.2.2.2.2.2.2.2.2.2.2.2.2.2.2.2.2.2.2.2.2.1, hR.2.2.2.2.2.2.2.2.2.2.2.2.2.2.2.2.2.2.2.2.2.2.2.2.2.2.2.2.2.2.1, hR.2.2.2.2.2.2.2.2.2.2.2.2.2.2.2.2.2.2.2.2.2.2.2.2.2.2.2.2.2.2.2.1, hR.2.2.2.2.2.2.2.2.2.2.2.2.2.2.2.2.2.2.2.2.2.2.2.2.2.2.2.2.2.2.2.2.1, hR.2.2.2.2.2.2.2.2.2.2.2.2.2.2.2.2.2.2.2.2.2.2.2.2.2.2.2.2.2.2.2.2.2.1, hR.2.2.2.2.2.2.2.2.2.2.2.2.2.2.2.2.2.2.2.2.2.2.2.2.2.2.2.2.2.2.2.2.2.2.1, hR.2.2.2.2.2.2.2.2.2.2.2.2.2.2.2.2.2.2.2.2.2.2.2.2.2.2.2.2.2.2.2.2.2.2.2, ↓lt_e, ↓gd_e, ↓Option.bind_some, ↓reduceIte, if_true, if_false, if_pT, if_nF, decide_true, Bool.not_true, Bool.not_false, not_true_eq_false, not_false_eq_true, Bool.false_eq_true, Bool.true_eq_false, eq_self, n3_lit, n3_le_t]⟩
    have hlp : ∀ s, lp_X12_canLoad_37 N Λ (ad 181) (n3 k) (n3 ms.length) s = cw (stL N Λ ad k ms.length) N s := fun s => rfl
    rw [hlp]
    have hgo := r_dfs hN hR hj hW3 (k := k) (ms := ms) hk hl8 (fun j x hx => ?_) ms 0 z μ3 rfl (Nat.zero_le _) (fun j _ => hz j) (fun j hjk => by rw [(f3 191 (by omega)).1, (f2 191 (by omega)).1]; exact r1 j hjk) (fun w _ h => h3 w h) (Fr.refl μ3)
    · have hp : 26 ^ ms.length ≤ 26 ^ 8 := Nat.pow_le_pow_right (by omega) hl8
      rw [show (26 : Nat) ^ 8 = 208827064576 by decide] at hp
      rcases hgo with ⟨g, t, μ', ht, hf, he⟩ | ⟨g, t, μ', ht, hf, _, _, _, he⟩
      · have hD : D ≠ 1048576 := hiff.2 g
        rw [if_neg hD]
        refine ⟨μ', ?_, f23.trans (hf.mono (fun i hi => by omega))⟩
        have e := he (N - t)
        rw [show N - t + t = N by omega] at e
        exact e
      · have hD : D = 1048576 := Decidable.byContradiction (fun h => g (hiff.1 h))
        rw [if_pos hD]
        refine ⟨μ', ?_, f23.trans (hf.mono (fun i hi => by omega))⟩
        have e := he (N - t - 1 + 1)
        rw [show N - t - 1 + 1 + t = N by omega, show n3 0 + -n3 1 = -n3 1 by decide, stL_s, r_cl_no hl8] at e
        exact e
    · have hxm : x ∈ ms := List.mem_of_getElem? hx
      have hxF := hmem x hxm
      have hso := hw.2.2.1 x hxF
      unfold ShOk at hso
      exact ⟨by rw [(f3 190 (by omega)).1]; exact m2 j x hx, by omega, by unfold ln; omega⟩
theorem r_bestLoad {N : Nat} (hN : 1099511627776 ≤ N) {Λ : Lay} {ad : Nat → Nat} {μ : Mem} {F : Nat → Nat} (hR : LyR Λ ad) (hW : Row μ (ad 182) 1222 F)  (hj : Inj ad) (hw : WF F) (hl : LawOk F) : ∃ μ', m_X12_bestLoad N Λ μ (ad 181) = some (n3 (bst F 256).2, μ') ∧ Fr ad (fun i => i = 189 ∨ i = 190 ∨ i = 191 ∨ i = 192) μ μ' := by
  have hb := hw.1; unfold WB at hb
  have hm8 := (my_In F).lt hb.1
  have hme := r_mayEnter hN hR hW hw
  have hend : ∀ j, myA F + 1 + j ≤ 256 → bst F (myA F + 1 + j) = bst F (myA F + 1) := by
    intro j
    induction j with
    | zero => intro _; rfl
    | succ j ih =>
      intro h
      show bst F (myA F + 1 + j + 1) = _
      rw [bst_s, if_neg (fun hc => by have := Sub.le hc.1.1; omega)]
      exact ih (by omega)
  have e256 : bst F 256 = bst F (myA F + 1) := by
    have := hend (255 - myA F) (by omega)
    rw [show myA F + 1 + (255 - myA F) = 256 by omega] at this
    exact this
  rw [e256]
  simp (disch := omega) only [m_X12_bestLoad, hme, ↓lt_e, ↓gd_e, ↓Option.bind_some, ↓reduceIte, if_true, if_false, if_pT, if_nF, decide_true, Bool.not_true, Bool.not_false, not_true_eq_false, not_false_eq_true, Bool.false_eq_true, Bool.true_eq_false, eq_self, lp_X12_bestLoad_12]
  refine cw_iv (P := fun i x => ∃ μ1 : Mem, x = (n3 (bst F (i + 1)).2, n3 (bst F (i + 1)).1, n3 (i + 1), μ1) ∧ Fr ad (fun i => i = 189 ∨ i = 190 ∨ i = 191 ∨ i = 192) μ μ1) (Q := fun X => ∃ μ', X = some (n3 (bst F (myA F + 1)).2, μ') ∧ Fr ad (fun i => i = 189 ∨ i = 190 ∨ i = 191 ∨ i = 192) μ μ') (myA F) ⟨μ, by rw [bst_1]; rfl, Fr.refl μ⟩ (fun i hi x hx => ?_) (fun x hx => ?_) (show myA F < N by omega)
  · obtain ⟨μ1, rfl, hf⟩ := hx
    left
    have hW1 := hW.fr hf (by omega)
    have hbl := bst_le hw hl (i + 1) (by omega)
    by_cases hsub : Sub (i + 1) (myA F)
    · have hz0 : (n3 (i + 1) &&& (n3 (myA F) ^^^ -n3 1) = n3 0) = True := by rw [n3_sub0 (by omega)]; exact eq_true hsub
      have hdF : i + 1 < 2 ^ F 0 := Nat.lt_of_le_of_lt hsub.le (my_In F)
      have hfs := fsm_le hw hl hdF 8
      obtain ⟨μ2, e2, f2⟩ := r_feesOf hN hR hW1 hj hw hl (d := i + 1) (by omega) hdF
      have hW2 := hW1.fr f2 (by omega)
      have hf2 : Fr ad (fun i => i = 189 ∨ i = 190 ∨ i = 191 ∨ i = 192) μ μ2 := hf.trans (f2.mono (fun i hi => by omega))
      by_cases hgt : (bst F (i + 1)).1 < fsm F (i + 1) 8
      · obtain ⟨μ3, e3, f3⟩ := r_canLoad hN hR hW2 hj hw (d := i + 1) (by omega) hdF
        have hW3 := hW2.fr f3 (by omega)
        have hf3 : Fr ad (fun i => i = 189 ∨ i = 190 ∨ i = 191 ∨ i = 192) μ μ3 := hf2.trans (f3.mono (fun i hi => by omega))
        by_cases hfu : flD F (i + 1) = 1048576
        · have eb : bst F (i + 1 + 1) = bst F (i + 1) := by rw [bst_s, if_neg (fun h => h.1.2 hfu)]
          rw [if_pos hfu] at e3
          refine ⟨_, ⟨μ3, rfl, hf3⟩, fun k => ?_⟩
          rw [eb]
          simp (disch := omega) only [jn_X12_bestLoad_59, bd_X12_bestLoad_12, hz0, e2, e3, ↓lt_e, ↓gd_e, ↓Option.bind_some, ↓reduceIte, if_true, if_false, if_pT, if_nF, decide_true, Bool.not_true, Bool.not_false, not_true_eq_false, not_false_eq_true, Bool.false_eq_true, Bool.true_eq_false, eq_self, n3_lit, n3_lt_f, n3_le_f, n3_add]
        · have eb : bst F (i + 1 + 1) = (fsm F (i + 1) 8, i + 1) := by rw [bst_s, if_pos ⟨⟨hsub, hfu⟩, hgt⟩]
          rw [if_neg hfu] at e3
          obtain ⟨μ4, e4, f4⟩ := r_feesOf hN hR hW3 hj hw hl (d := i + 1) (by omega) hdF
          refine ⟨_, ⟨μ4, rfl, hf3.trans (f4.mono (fun i hi => by omega))⟩, fun k => ?_⟩
          rw [eb]
          simp (disch := omega) only [jn_X12_bestLoad_59, bd_X12_bestLoad_12, hz0, e2, e3, e4, ↓lt_e, ↓gd_e, ↓Option.bind_some, ↓reduceIte, if_true, if_false, if_pT, if_nF, decide_true, Bool.not_true, Bool.not_false, not_true_eq_false, not_false_eq_true, Bool.false_eq_true, Bool.true_eq_false, eq_self, n3_lit, n3_lt_f, n3_le_f, n3_eq_f, n3_add]
      · have eb : bst F (i + 1 + 1) = bst F (i + 1) := by rw [bst_s, if_neg (fun h => hgt h.2)]
        refine ⟨_, ⟨μ2, rfl, hf2⟩, fun k => ?_⟩
        rw [eb]
        simp (disch := omega) only [jn_X12_bestLoad_59, bd_X12_bestLoad_12, hz0, e2, ↓lt_e, ↓gd_e, ↓Option.bind_some, ↓reduceIte, if_true, if_false, if_pT, if_nF, decide_true, Bool.not_true, Bool.not_false, not_true_eq_false, not_false_eq_true, Bool.false_eq_true, Bool.true_eq_false, eq_self, n3_lit, n3_lt_f, n3_le_t, n3_add]
    · have hz0 : (n3 (i + 1) &&& (n3 (myA F) ^^^ -n3 1) = n3 0) = False := by rw [n3_sub0 (by omega)]; exact eq_false hsub
      have eb : bst F (i + 1 + 1) = bst F (i + 1) := by rw [bst_s, if_neg (fun h => hsub h.1.1)]
      refine ⟨_, ⟨μ1, rfl, hf⟩, fun k => ?_⟩
      rw [eb]
      simp (disch := omega) only [jn_X12_bestLoad_59, bd_X12_bestLoad_12, hz0, ↓lt_e, ↓gd_e, ↓Option.bind_some, ↓reduceIte, if_true, if_false, if_pT, if_nF, decide_true, Bool.not_true, Bool.not_false, not_true_eq_false, not_false_eq_true, Bool.false_eq_true, Bool.true_eq_false, eq_self, n3_lit, n3_lt_f, n3_add]
  · obtain ⟨μ1, rfl, hf⟩ := hx
    exact ⟨_, ⟨μ1, rfl, hf⟩, fun k => by simp (disch := omega) only [jn_X12_bestLoad_59, bd_X12_bestLoad_12, ↓lt_e, ↓gd_e, ↓Option.bind_some, ↓reduceIte, if_true, if_false, if_pT, if_nF, decide_true, Bool.not_true, Bool.not_false, not_true_eq_false, not_false_eq_true, Bool.false_eq_true, Bool.true_eq_false, eq_self, n3_lit, n3_lt_t]⟩
theorem R_load {N : Nat} (hN : 1099511627776 ≤ N) {Λ : Lay} {ad : Nat → Nat} {μ : Mem} {F : Nat → Nat} {m : Nat} {A : Nat → Nat → Nat} {b : Nat} {J : Nat → Nat} {T : Nat → Int32} {n : Nat} {f : Int32} (hY : Ly Λ ad) (h : RR ad μ F m A b J T n f) (ho : Ok F m A b J T n)  : RV ad μ (m_X12_load N Λ μ (ad 181)) 0 (n3 (bst F 256).1) F m A b J T n f := by
  have hj := hY.1
  have hR := hY.2.1
  have hW := h.1
  have hw := ho.1
  have hl := ho.2.1
  have hb := hw.1; unfold WB at hb
  unfold m_X12_load
  refine RV.start hY.1 h (fun μ0 h0 t0 => ?_)
  have hW0 := h0.1
  obtain ⟨μ1, e1, f1⟩ := r_bestLoad hN hR hW0 hj hw hl
  have hbl := bst_le hw hl 256 (Nat.le_refl _)
  obtain ⟨μ2, e2, f2⟩ := r_feesOf hN hR (hW0.fr f1 (by omega)) hj hw hl hbl.2.1 hbl.2.2.1
  rw [hbl.2.2.2] at e2
  exact RV.scr h0 t0 ((f1.trans (f2.mono (fun i hi => Or.inl hi))).mono (fun i hi => by unfold ScX; omega)) (by simp (disch := omega) only [e1, e2, ↓lt_e, ↓gd_e, ↓Option.bind_some, ↓reduceIte, if_true, if_false, if_pT, if_nF, decide_true, Bool.not_true, Bool.not_false, not_true_eq_false, not_false_eq_true, Bool.false_eq_true, Bool.true_eq_false, eq_self])
theorem R_which {N : Nat} (hN : 1099511627776 ≤ N) {Λ : Lay} {ad : Nat → Nat} {μ : Mem} {F : Nat → Nat} {m : Nat} {A : Nat → Nat → Nat} {b : Nat} {J : Nat → Nat} {T : Nat → Int32} {n : Nat} {f : Int32} (hY : Ly Λ ad) (h : RR ad μ F m A b J T n f) (ho : Ok F m A b J T n)  : RV ad μ (m_X12_which N Λ μ (ad 181)) 0 (n3 (bst F 256).2) F m A b J T n f := by
  have hj := hY.1
  have hR := hY.2.1
  have hW := h.1
  have hw := ho.1
  have hl := ho.2.1
  have hb := hw.1; unfold WB at hb
  unfold m_X12_which
  refine RV.start hY.1 h (fun μ0 h0 t0 => ?_)
  have hW0 := h0.1
  obtain ⟨μ1, e1, f1⟩ := r_bestLoad hN hR hW0 hj hw hl
  exact RV.scr h0 t0 (f1.mono (fun i hi => by unfold ScX; omega)) (by simp (disch := omega) only [e1, ↓lt_e, ↓gd_e, ↓Option.bind_some, ↓reduceIte, if_true, if_false, if_pT, if_nF, decide_true, Bool.not_true, Bool.not_false, not_true_eq_false, not_false_eq_true, Bool.false_eq_true, Bool.true_eq_false, eq_self])

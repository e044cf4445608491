/-! dock -/
theorem BT_all (T : Nat → Int32) (n : Nat) : ∀ k, (∃ m, m ≤ k ∧ BT T n m = n ∧ ∀ i, i < m → BT T n i < n) ∨ (∀ i, i ≤ k → BT T n i < n ∧ i ≤ BT T n i)
  | 0 => by
    have := BT_le T n 0
    by_cases h : BT T n 0 = n
    · exact Or.inl ⟨0, Nat.le_refl 0, h, fun i hi => absurd hi (Nat.not_lt_zero i)⟩
    · refine Or.inr (fun i hi => ?_)
      have : i = 0 := by omega
      subst this; omega
  | k + 1 => by
    rcases BT_all T n k with ⟨m, h1, h2, h3⟩ | h
    · exact Or.inl ⟨m, by omega, h2, h3⟩
    · have h1 := BT_le T n (k + 1)
      have h2 := BT_lt T (h k (Nat.le_refl k)).1
      by_cases e : BT T n (k + 1) = n
      · exact Or.inl ⟨k + 1, Nat.le_refl _, e, fun i hi => (h i (by omega)).1⟩
      · refine Or.inr (fun i hi => ?_)
        by_cases e2 : i = k + 1
        · subst e2
          have := (h k (Nat.le_refl k)).2
          omega
        · exact h i (by omega)
theorem Tm.ex (T : Nat → Int32) {n : Nat} (hn : n ≤ 400) : ∃ m, Tm T n m := by
  rcases BT_all T n n with ⟨m, h1, h2, h3⟩ | h
  · exact ⟨m, hn, h1, h2, h3⟩
  · have := h n (Nat.le_refl n); omega
theorem Tm.un {T : Nat → Int32} {n m m' : Nat} (h : Tm T n m) (h' : Tm T n m') : m' = m := by
  rcases Nat.lt_trichotomy m' m with h1 | h1 | h1
  · have := h.2.2.2 m' h1; have := h'.2.2.1; omega
  · exact h1
  · have := h'.2.2.2 m h1; have := h.2.2.1; omega
theorem d_read {N : Nat} (hN : 1099511627776 ≤ N) {Λ : Lay} {ad : Nat → Nat} (hY : Ly Λ ad) {T : Nat → Int32} {n : Nat} (hn : n ≤ 400) {F : Nat → Nat} (hw : WF F) : ∃ (ok : Bool) (v : Nat) (G : Nat → Nat), v ≤ 400 ∧ (ok = true → WF G ∧ LwE F G ∧ G 1 = F 1) ∧ (∀ μ, μ.1 (ad 1) 1 = n3 n → (∀ k, k < n → μ.1 (ad 2) k = T k) → CS ad μ 12 F → ∃ μ', m_X7_readLines_1 N Λ μ (ad 48) (n3 14) = some (n3 (if ok = true then 4294967295 else v), μ') ∧ (ok = true → CS ad μ' 12 G) ∧ Fr ad (fun j => (12 ≤ j ∧ j ≤ 20) ∨ (48 ≤ j ∧ j ≤ 51)) μ μ') ∧ (∀ μ m A b J f, RR ad μ F m A b J T n f → ∃ μ' c, m_X12_readAll N Λ μ (ad 181) (n3 1) = some (n3 (if ok = true then c else 4294967295), μ') ∧ c ≤ 14 ∧ (ok = true → Row μ' (ad 182) 1222 G) ∧ (ok = false → μ'.1 (ad 181) 12 = n3 v) ∧ Fr ad (fun j => j = 181 ∨ j = 182) μ μ' ∧ μ'.1 (ad 181) 0 = n3 0 ∧ μ'.1 (ad 181) 9 = n3 0 ∧ ∀ k, k ≠ 0 → k ≠ 9 → k ≠ 10 → k ≠ 11 → k ≠ 12 → k ≠ 16 → μ'.1 (ad 181) k = μ.1 (ad 181) k) := by
  have hj := hY.1
  have hP := hY.2.2.1
  have hR := hY.2.1
  have hD := hY.2.2.2.2.2.1
  have hS12 := hY.2.2.2.1 12 (Or.inr (Or.inl rfl))
  obtain ⟨m, hm⟩ := Tm.ex T hn
  have hmn := hm.2.1
  have csp : ∀ μ, μ.1 (ad 1) 1 = n3 n → (∀ k, k < n → μ.1 (ad 2) k = T k) → ∃ μ' v, m_X7_split N Λ μ (ad 48) = some (rd ad 48 μ' 0 v) ∧ TkC ad μ' 48 T n m ∧ Fr ad (fun i => 48 ≤ i ∧ i ≤ 51) μ μ' := fun μ h1 h2 => by
    obtain ⟨m', μ', v, e, t, f⟩ := c_split hN (Or.inl rfl) hj hP hD (m := 0) hn h1 h2
    have := hm.un t.tm
    subst this
    exact ⟨μ', v, e, t, f⟩
  have rst : ∀ μ m A b J f, RR ad μ F m A b J T n f → ∃ μ', TkR ad μ' T n ∧ Row μ' (ad 182) 1222 F ∧ Fr ad (fun j => j = 181) μ μ' ∧ μ'.1 (ad 181) 0 = n3 0 ∧ μ'.1 (ad 181) 9 = n3 0 ∧ (∀ k, k ≠ 0 → k ≠ 9 → k ≠ 10 → k ≠ 11 → k ≠ 12 → k ≠ 16 → μ'.1 (ad 181) k = μ.1 (ad 181) k) ∧ m_X12_readAll N Λ μ (ad 181) (n3 1) = (if BT T n 0 = n then some (n3 0, pt ad μ' (BT T n 0) (BT T n 0)) else lp_X12_readAll_28 N Λ (ad 181) (n3 1) (n3 0, pt ad μ' (BT T n 0) (BT T n 0))) := fun μ m A b J f h => by
    obtain ⟨μ1, e1, h1, t1, t2, t3, t4, f1⟩ := r_uses (N := N) (Λ := Λ) hj h
    have e9 := h1.2.2.2.1.1
    have ff : Fr ad (fun j => j = 181) μ (mset μ1 (ad 181) 16 (n3 0)) := f1.set hj (by rfl)
    have tk : TkR ad (mset μ1 (ad 181) 16 (n3 0)) T n := ⟨hn, by rw [msn (by omega)]; exact t2, by rw [mso hj (by omega)]; exact t4⟩
    have kk : ∀ k, k ≠ 0 → k ≠ 9 → k ≠ 10 → k ≠ 11 → k ≠ 16 → μ1.1 (ad 181) k = μ.1 (ad 181) k := fun k k0 k9 k10 k11 k16 => by
      have : m_X12_uses N Λ μ (ad 181) = some (mset (mset (mset (mset μ (ad 181) 0 0) (ad 181) 11 ((mset μ (ad 181) 0 0).1 (ad 181) 9)) (ad 181) 9 0) (ad 181) 10 0) := rfl
      rw [this] at e1
      have e1 := Option.some.inj e1
      rw [← e1, msn k10, msn k9, msn k11, msn k0]
    refine ⟨mset μ1 (ad 181) 16 (n3 0), tk, h1.1.off (mso hj (by omega)), ff, by rw [msn (by omega)]; exact t1, by rw [msn (by omega)]; exact e9, fun k k0 k9 k10 k11 k12 k16 => by rw [msn k16]; exact kk k k0 k9 k10 k11 k16, ?_⟩
    have ps : pt ad (mset μ1 (ad 181) 16 (n3 0)) 0 (u3 ((mset μ1 (ad 181) 16 (n3 0)).1 (ad 181) 12)) = mset μ1 (ad 181) 16 (n3 0) := pt_self (by rw [msn (by omega)]; exact t3) (n3_u3 _).symm
    have bl := r_blanks (N := N) hN hj hR tk (Nat.zero_le n) (u3 ((mset μ1 (ad 181) 16 (n3 0)).1 (ad 181) 12))
    rw [ps] at bl
    have bl : m_X12_blanks N Λ (mset μ1 (ad 181) 16 (n3 0)) (ad 181) = some (pt ad (mset μ1 (ad 181) 16 (n3 0)) (BT T n 0) (BT T n 0)) := bl
    have k11 : (pt ad (mset μ1 (ad 181) 16 (n3 0)) (BT T n 0) (BT T n 0)).1 (ad 181) 11 = n3 n := by rw [pt_k ad _ _ _ (by omega)]; exact tk.2.1
    have b0 := BT_le T n 0
    by_cases e : BT T n 0 = n
    · rw [if_pos e]
      simp (disch := omega) only [m_X12_readAll, e1, n3_lit, bl, pt_10, k11, ↓lt_e, ↓gd_e, ↓Option.bind_some, ↓reduceIte, if_true, if_false, if_pT, if_nF, decide_true, Bool.not_true, Bool.not_false, not_true_eq_false, not_false_eq_true, Bool.false_eq_true, Bool.true_eq_false, eq_self, n3_eq_t]
    · rw [if_neg e]
      simp (disch := omega) only [m_X12_readAll, e1, n3_lit, bl, pt_10, k11, ↓lt_e, ↓gd_e, ↓Option.bind_some, ↓reduceIte, if_true, if_false, if_pT, if_nF, decide_true, Bool.not_true, Bool.not_false, not_true_eq_false, not_false_eq_true, Bool.false_eq_true, Bool.true_eq_false, eq_self, n3_eq_f]
  by_cases hm0 : m = 0
  · subst hm0
    have hb0 : BT T n 0 = n := hm.2.2.1
    refine ⟨true, 0, F, by omega, fun _ => ⟨hw, LwE.refl F, rfl⟩, fun μ h1 h2 c => ?_, fun μ m A b J f h => ?_⟩
    · obtain ⟨μ1, v1, e1, t1, f1⟩ := csp μ h1 h2
      have e3 := t1.2.2.2.2.2.2.1
      refine ⟨rd ad 48 μ1 0 v1, ?_, fun _ => (c.fr f1 (fun j a b => by omega)).fr (rd_fr hj 48 μ1 0 v1) (fun j a b => by omega), (f1.mono (fun j hj => Or.inr hj)).trans ((rd_fr hj 48 μ1 0 v1).mono (fun j hj => by omega))⟩
      rw [if_pos rfl]
      simp (disch := omega) only [m_X7_readLines_1, e1, rd_3, e3, n3_neg1, ↓lt_e, ↓gd_e, ↓Option.bind_some, ↓reduceIte, if_true, if_false, if_pT, if_nF, decide_true, Bool.not_true, Bool.not_false, not_true_eq_false, not_false_eq_true, Bool.false_eq_true, Bool.true_eq_false, eq_self, n3_lit, n3_add, n3_mul, n3_sub, n3_tn, n3_le_t, n3_le_f, n3_lt_t, n3_lt_f, n3_eq_f, n3_eq_t, n3_inb, n3_rem, n3_div, n3_zb, bb_0, bb_1, zb_bb, bb_T, bb_F, n3_dec, n3_m1, n3_eqm, n3_eqmt, n3_ltm, n3_mlt, n3_lem, n3_mle, n3_neg_lt, n3_nlt_neg, n3_nle_neg, n3_neg_le]
    · obtain ⟨μ1, t1, r1, f1, z0, z9, kk, e1⟩ := rst μ m A b J f h
      rw [if_pos hb0] at e1
      refine ⟨pt ad μ1 (BT T n 0) (BT T n 0), 0, e1, by omega, fun _ => r1.off (pt_o hj (by omega) _ _ _), fun h => absurd h (by decide), (f1.mono (fun j hj => Or.inl hj)).trans ((pt_fr hj μ1 _ _).mono (fun j hj => Or.inl hj)), by rw [pt_k ad _ _ _ (by omega)]; exact z0, by rw [pt_k ad _ _ _ (by omega)]; exact z9, fun k k0 k9 k10 k11 k12 k16 => by rw [pt_k ad _ _ _ ⟨k10, k12⟩]; exact kk k k0 k9 k10 k11 k12 k16⟩
  · have hb0 : BT T n 0 < n := hm.2.2.2 0 (by omega)
    obtain ⟨ok, i', G', y1, y2, y3, y4⟩ := l_lines hN hj hP hD hR hm hS12 14 0 0 (BT T n 0) (BT T n 0) N N F hw rfl (by omega) (by omega) (by omega) (by omega) (BT_nb T n 0)
    have bi := BT_le T n i'
    refine ⟨ok, BT T n i', G', by omega, y2, fun μ h1 h2 c => ?_, fun μ m A b J f h => ?_⟩
    · obtain ⟨μ1, v1, e1, t1, f1⟩ := csp μ h1 h2
      have e3 := t1.2.2.2.2.2.2.1
      obtain ⟨μ2, v2, e2, t2, c2, f2⟩ := y3 μ1 v1 t1 (c.fr f1 (fun j a b => by omega))
      refine ⟨rd ad 48 μ2 i' v2, ?_, fun ho => (c2 ho).fr (rd_fr hj 48 μ2 i' v2) (fun j a b => by omega), (f1.mono (fun j hj => Or.inr hj)).trans ((f2.mono (fun j hj => by omega)).trans ((rd_fr hj 48 μ2 i' v2).mono (fun j hj => by omega)))⟩
      rw [← e2]
      simp (disch := omega) only [m_X7_readLines_1, e1, rd_3, e3, ↓lt_e, ↓gd_e, ↓Option.bind_some, ↓reduceIte, if_true, if_false, if_pT, if_nF, decide_true, Bool.not_true, Bool.not_false, not_true_eq_false, not_false_eq_true, Bool.false_eq_true, Bool.true_eq_false, eq_self, n3_lit, n3_eq_f]; rfl
    · obtain ⟨μ1, t1, r1, f1, z0, z9, kk, e1⟩ := rst μ m A b J f h
      rw [if_neg (by omega)] at e1
      obtain ⟨μ2, p2, b2, c, e2, hc, t2, c2, d2, f2, k2⟩ := y4 μ1 t1 r1
      refine ⟨pt ad μ2 p2 b2, c, e1.trans e2, hc, fun ho => (c2 ho).off (pt_o hj (by omega) _ _ _), fun ho => by rw [pt_12, d2 ho], (f1.mono (fun j hj => Or.inl hj)).trans (f2.trans ((pt_fr hj μ2 _ _).mono (fun j hj => Or.inl hj))), by rw [pt_k ad _ _ _ (by omega), k2 0 (by omega) (by omega)]; exact z0, by rw [pt_k ad _ _ _ (by omega), k2 9 (by omega) (by omega)]; exact z9, fun k k0 k9 k10 k11 k12 k16 => by rw [pt_k ad _ _ _ ⟨k10, k12⟩, k2 k k10 k12]; exact kk k k0 k9 k10 k11 k12 k16⟩

/-! law -/
theorem LX_0 (H : Nat → Nat) : LX H 0 0 := ⟨by omega, by omega, fun r hr => absurd hr (Nat.not_lt_zero r), fun _ => rfl, fun s hs => by omega, fun j hj => absurd hj (Nat.not_lt_zero j)⟩
theorem l_read {N : Nat} (hN : 1099511627776 ≤ N) {Λ : Lay} {ad : Nat → Nat} (hY : Ly Λ ad) {T : Nat → Int32} {n : Nat} (hn : n ≤ 400) (H : Nat → Nat) : ∃ (ok : Bool) (v q c : Nat) (H' : Nat → Nat), v ≤ 400 ∧ (ok = true → LX H' q c) ∧ (∀ μ, μ.1 (ad 1) 1 = n3 n → (∀ k, k < n → μ.1 (ad 2) k = T k) → μ.1 (ad 36) 0 = n3 0 → μ.1 (ad 36) 1 = n3 0 → ∃ μ', m_X7_readLines_3 N Λ μ (ad 52) (n3 12) = some (n3 (if ok = true then 4294967295 else v), μ') ∧ (ok = true → LQ ad μ' H' q c) ∧ Fr ad (fun j => (36 ≤ j ∧ j ≤ 40) ∨ (52 ≤ j ∧ j ≤ 55)) μ μ') ∧ (∀ μ F m A b J f, RR ad μ F m A b J T n f → Row μ (ad 182) 2071 H → ∃ μ', m_X12_readAll N Λ μ (ad 181) (n3 0) = some (n3 (if ok = true then q else 4294967295), μ') ∧ (ok = true → Row μ' (ad 182) 2071 H') ∧ (ok = false → μ'.1 (ad 181) 12 = n3 v) ∧ Fr ad (fun j => j = 181 ∨ j = 182) μ μ' ∧ (∀ k, k < 1222 → μ'.1 (ad 182) k = μ.1 (ad 182) k) ∧ μ'.1 (ad 181) 0 = n3 0 ∧ μ'.1 (ad 181) 9 = n3 0 ∧ ∀ k, k ≠ 0 → k ≠ 9 → k ≠ 10 → k ≠ 11 → k ≠ 12 → k ≠ 13 → k ≠ 16 → μ'.1 (ad 181) k = μ.1 (ad 181) k) := by
  have hj := hY.1
  have hP := hY.2.2.1
  have hR := hY.2.1
  have hD := hY.2.2.2.2.2.2.1
  have hL := hY.2.2.2.2.1 36 (Or.inr (Or.inl rfl))
  obtain ⟨m, hm⟩ := Tm.ex T hn
  have hmn := hm.2.1
  have csp : ∀ μ, μ.1 (ad 1) 1 = n3 n → (∀ k, k < n → μ.1 (ad 2) k = T k) → ∃ μ' v, m_X7_split N Λ μ (ad 52) = some (rd ad 52 μ' 0 v) ∧ TkC ad μ' 52 T n m ∧ Fr ad (fun i => 52 ≤ i ∧ i ≤ 55) μ μ' := fun μ h1 h2 => by
    obtain ⟨m', μ', v, e, t, f⟩ := c_split hN (Or.inr rfl) hj hP hD (m := 0) hn h1 h2
    have := hm.un t.tm
    subst this
    exact ⟨μ', v, e, t, f⟩
  have rst : ∀ μ F m A b J f, RR ad μ F m A b J T n f → Row μ (ad 182) 2071 H → ∃ μ', TkR ad μ' T n ∧ Row μ' (ad 182) 2071 H ∧ μ'.1 (ad 181) 16 = n3 0 ∧ Fr ad (fun j => j = 181) μ μ' ∧ μ'.1 (ad 181) 0 = n3 0 ∧ μ'.1 (ad 181) 9 = n3 0 ∧ (∀ k, k ≠ 0 → k ≠ 9 → k ≠ 10 → k ≠ 11 → k ≠ 12 → k ≠ 16 → μ'.1 (ad 181) k = μ.1 (ad 181) k) ∧ m_X12_readAll N Λ μ (ad 181) (n3 0) = (if BT T n 0 = n then some (n3 0, pt ad μ' (BT T n 0) (BT T n 0)) else lp_X12_readAll_28 N Λ (ad 181) (n3 0) (n3 0, pt ad μ' (BT T n 0) (BT T n 0))) := fun μ F m A b J f h hH => by
    obtain ⟨μ1, e1, h1, t1, t2, t3, t4, f1⟩ := r_uses (N := N) (Λ := Λ) hj h
    have e9 := h1.2.2.2.1.1
    have ff : Fr ad (fun j => j = 181) μ (mset μ1 (ad 181) 16 (n3 0)) := f1.set hj (by rfl)
    have tk : TkR ad (mset μ1 (ad 181) 16 (n3 0)) T n := ⟨hn, by rw [msn (by omega)]; exact t2, by rw [mso hj (by omega)]; exact t4⟩
    have kk : ∀ k, k ≠ 0 → k ≠ 9 → k ≠ 10 → k ≠ 11 → k ≠ 16 → μ1.1 (ad 181) k = μ.1 (ad 181) k := fun k k0 k9 k10 k11 k16 => by
      have : m_X12_uses N Λ μ (ad 181) = some (mset (mset (mset (mset μ (ad 181) 0 0) (ad 181) 11 ((mset μ (ad 181) 0 0).1 (ad 181) 9)) (ad 181) 9 0) (ad 181) 10 0) := rfl
      rw [this] at e1
      have e1 := Option.some.inj e1
      rw [← e1, msn k10, msn k9, msn k11, msn k0]
    refine ⟨mset μ1 (ad 181) 16 (n3 0), tk, hH.fr ff (by omega), mse _ _ _ _, ff, by rw [msn (by omega)]; exact t1, by rw [msn (by omega)]; exact e9, fun k k0 k9 k10 k11 k12 k16 => by rw [msn k16]; exact kk k k0 k9 k10 k11 k16, ?_⟩
    have ps : pt ad (mset μ1 (ad 181) 16 (n3 0)) 0 (u3 ((mset μ1 (ad 181) 16 (n3 0)).1 (ad 181) 12)) = mset μ1 (ad 181) 16 (n3 0) := pt_self (by rw [msn (by omega)]; exact t3) (n3_u3 _).symm
    have bl := r_blanks (N := N) hN hj hR tk (Nat.zero_le n) (u3 ((mset μ1 (ad 181) 16 (n3 0)).1 (ad 181) 12))
    rw [ps] at bl
    have bl : m_X12_blanks N Λ (mset μ1 (ad 181) 16 (n3 0)) (ad 181) = some (pt ad (mset μ1 (ad 181) 16 (n3 0)) (BT T n 0) (BT T n 0)) := bl
    have k11 : (pt ad (mset μ1 (ad 181) 16 (n3 0)) (BT T n 0) (BT T n 0)).1 (ad 181) 11 = n3 n := by rw [pt_k ad _ _ _ (by omega)]; exact tk.2.1
    have b0 := BT_le T n 0
    by_cases e : BT T n 0 = n
    · rw [if_pos e]
      simp (disch := omega) only [m_X12_readAll, e1, n3_lit, bl, pt_10, k11, ↓lt_e, ↓gd_e, ↓Option.bind_some, ↓reduceIte, if_true, if_false, if_pT, if_nF, decide_true, Bool.not_true, Bool.not_false, not_true_eq_false, not_false_eq_true, Bool.false_eq_true, Bool.true_eq_false, eq_self, n3_eq_t]
    · rw [if_neg e]
      simp (disch := omega) only [m_X12_readAll, e1, n3_lit, bl, pt_10, k11, ↓lt_e, ↓gd_e, ↓Option.bind_some, ↓reduceIte, if_true, if_false, if_pT, if_nF, decide_true, Bool.not_true, Bool.not_false, not_true_eq_false, not_false_eq_true, Bool.false_eq_true, Bool.true_eq_false, eq_self, n3_eq_f]
  have hlq : ∀ μ, μ.1 (ad 36) 0 = n3 0 → μ.1 (ad 36) 1 = n3 0 → LQ ad μ H 0 0 := fun μ h0 h1 => ⟨h0, ⟨h1, fun i hi => absurd hi (Nat.not_lt_zero i)⟩, fun r hr => absurd hr (Nat.not_lt_zero r)⟩
  by_cases hm0 : m = 0
  · subst hm0
    have hb0 : BT T n 0 = n := hm.2.2.1
    refine ⟨true, 0, 0, 0, H, by omega, fun _ => LX_0 H, fun μ h1 h2 l0 l1 => ?_, fun μ F m A b J f h hH => ?_⟩
    · obtain ⟨μ1, v1, e1, t1, f1⟩ := csp μ h1 h2
      have e3 := t1.2.2.2.2.2.2.1
      refine ⟨rd ad 52 μ1 0 v1, ?_, fun _ => hlq _ (by rw [rd_o hj (by omega), (f1 36 (by omega)).1]; exact l0) (by rw [rd_o hj (by omega), (f1 36 (by omega)).1]; exact l1), (f1.mono (fun j hj => Or.inr hj)).trans ((rd_fr hj 52 μ1 0 v1).mono (fun j hj => by omega))⟩
      rw [if_pos rfl]
      simp (disch := omega) only [m_X7_readLines_3, e1, rd_3, e3, n3_neg1, ↓lt_e, ↓gd_e, ↓Option.bind_some, ↓reduceIte, if_true, if_false, if_pT, if_nF, decide_true, Bool.not_true, Bool.not_false, not_true_eq_false, not_false_eq_true, Bool.false_eq_true, Bool.true_eq_false, eq_self, n3_lit, n3_add, n3_mul, n3_sub, n3_tn, n3_le_t, n3_le_f, n3_lt_t, n3_lt_f, n3_eq_f, n3_eq_t, n3_inb, n3_rem, n3_div, n3_zb, bb_0, bb_1, zb_bb, bb_T, bb_F, n3_dec, n3_m1, n3_eqm, n3_eqmt, n3_ltm, n3_mlt, n3_lem, n3_mle, n3_neg_lt, n3_nlt_neg, n3_nle_neg, n3_neg_le]
    · obtain ⟨μ1, t1, r1, e16, f1, z0, z9, kk, e1⟩ := rst μ F m A b J f h hH
      rw [if_pos hb0] at e1
      refine ⟨pt ad μ1 (BT T n 0) (BT T n 0), e1, fun _ => r1.off (pt_o hj (by omega) _ _ _), fun h => absurd h (by decide), (f1.mono (fun j hj => Or.inl hj)).trans ((pt_fr hj μ1 _ _).mono (fun j hj => Or.inl hj)), fun k hk => by rw [pt_o hj (by omega), (f1 182 (by omega)).1], by rw [pt_k ad _ _ _ (by omega)]; exact z0, by rw [pt_k ad _ _ _ (by omega)]; exact z9, fun k k0 k9 k10 k11 k12 k13 k16 => by rw [pt_k ad _ _ _ ⟨k10, k12⟩]; exact kk k k0 k9 k10 k11 k12 k16⟩
  · have hb0 : BT T n 0 < n := hm.2.2.2 0 (by omega)
    obtain ⟨ok, i', q', c', H', y1, y2, y3, y4⟩ := y_lines hN hj hP hD hR hL hm 12 0 0 0 (BT T n 0) (BT T n 0) N N H (LX_0 H) (by omega) rfl (by omega) (by omega) (by omega) (by omega) (BT_nb T n 0)
    have bi := BT_le T n i'
    refine ⟨ok, BT T n i', q', c', H', by omega, y2, fun μ h1 h2 l0 l1 => ?_, fun μ F m A b J f h hH => ?_⟩
    · obtain ⟨μ1, v1, e1, t1, f1⟩ := csp μ h1 h2
      have e3 := t1.2.2.2.2.2.2.1
      obtain ⟨μ2, v2, e2, t2, c2, f2⟩ := y3 μ1 v1 t1 (hlq _ (by rw [(f1 36 (by omega)).1]; exact l0) (by rw [(f1 36 (by omega)).1]; exact l1))
      refine ⟨rd ad 52 μ2 i' v2, ?_, fun ho => ?_, (f1.mono (fun j hj => Or.inr hj)).trans ((f2.mono (fun j hj => by omega)).trans ((rd_fr hj 52 μ2 i' v2).mono (fun j hj => by omega)))⟩
      · rw [← e2]
        simp (disch := omega) only [m_X7_readLines_3, e1, rd_3, e3, ↓lt_e, ↓gd_e, ↓Option.bind_some, ↓reduceIte, if_true, if_false, if_pT, if_nF, decide_true, Bool.not_true, Bool.not_false, not_true_eq_false, not_false_eq_true, Bool.false_eq_true, Bool.true_eq_false, eq_self, n3_lit, n3_eq_f]; rfl
      · have lq := c2 ho
        unfold LQ EC at lq ⊢
        rw [rd_o hj (by omega), rd_o hj (by omega), rd_o hj (by omega), rd_o hj (by omega), rd_o hj (by omega)]
        exact lq
    · obtain ⟨μ1, t1, r1, e16, f1, z0, z9, kk, e1⟩ := rst μ F m A b J f h hH
      rw [if_neg (by omega)] at e1
      obtain ⟨μ2, p2, b2, e2, c2, d2, f2, w2, k2⟩ := y4 μ1 t1 r1 e16
      refine ⟨pt ad μ2 p2 b2, e1.trans e2, fun ho => (c2 ho).off (pt_o hj (by omega) _ _ _), fun ho => by rw [pt_12, d2 ho], (f1.mono (fun j hj => Or.inl hj)).trans (f2.trans ((pt_fr hj μ2 _ _).mono (fun j hj => Or.inl hj))), fun k hk => by rw [pt_o hj (by omega), w2 k hk, (f1 182 (by omega)).1], by rw [pt_k ad _ _ _ (by omega), k2 0 (by omega) (by omega) (by omega) (by omega)]; exact z0, by rw [pt_k ad _ _ _ (by omega), k2 9 (by omega) (by omega) (by omega) (by omega)]; exact z9, fun k k0 k9 k10 k11 k12 k13 k16 => by rw [pt_k ad _ _ _ ⟨k10, k12⟩, k2 k k10 k12 k13 k16]; exact kk k k0 k9 k10 k11 k12 k16⟩
/-- the row with the new law -/
def lwF (F H : Nat → Nat) (q : Nat) : Nat → Nat := fun k => if k = 2 then 1 else if k < 373 then F k else if k = 373 then q else H (k + 849)
theorem lwF_2 (F H : Nat → Nat) (q : Nat) : lwF F H q 2 = 1 := if_pos rfl
theorem lwF_lo {F H : Nat → Nat} {q k : Nat} (h : k < 373) (h2 : k ≠ 2) : lwF F H q k = F k := by unfold lwF; rw [if_neg h2, if_pos h]
theorem lwF_q (F H : Nat → Nat) (q : Nat) : lwF F H q 373 = q := by unfold lwF; rw [if_neg (by omega), if_neg (by omega), if_pos rfl]
theorem lwF_hi {F H : Nat → Nat} {q k : Nat} (h : 373 < k) : lwF F H q k = H (k + 849) := by unfold lwF; rw [if_neg (by omega), if_neg (by omega), if_neg (by omega)]
theorem lwF_tys {F H : Nat → Nat} {q i : Nat} : ∀ n, tys (lwF F H q) i n = tyR H i n []
  | 0 => rfl
  | n + 1 => by
    show (tys (lwF F H q) i n).bind _ = (tyR H i n []).bind _
    rw [lwF_tys n, lwF_hi (by omega), show 422 + 2 * (i + n) + 849 = 1271 + 2 * (i + n) by omega]
theorem lwF_law {F H : Nat → Nat} {q c : Nat} (h : LX H q c) : LawOk (lwF F H q) := by
  intro _
  rw [lwF_q]
  obtain ⟨h1, h2, h3, h4, h5, h6⟩ := h
  refine ⟨h1, fun n hn => ?_⟩
  obtain ⟨g1, g2, g3, g4, g5, g6, g7⟩ := h3 n hn
  have s0 : lwF F H q (374 + 4 * n) = H (1223 + 4 * n) := by rw [lwF_hi (by omega)]; congr 1; omega
  have s1 : lwF F H q (374 + 4 * n + 1) = H (1223 + 4 * n + 1) := by rw [lwF_hi (by omega)]; congr 1; omega
  have s2 : lwF F H q (374 + 4 * n + 2) = H (1223 + 4 * n + 2) := by rw [lwF_hi (by omega)]; congr 1; omega
  have s3 : lwF F H q (374 + 4 * n + 3) = H (1223 + 4 * n + 3) := by rw [lwF_hi (by omega)]; congr 1; omega
  unfold LnOk
  rw [s0, s1, s2, s3, lwF_tys]
  refine ⟨g1, g2, g3, by omega, g5, g6, fun s hs => ?_, fun j hj => ?_⟩
  · rw [lwF_hi (by omega), g7 s hs]; congr 1; omega
  · rw [lwF_hi (by omega)]
    have := h6 j (by omega)
    rw [show 422 + 2 * j + 1 + 849 = 1271 + 2 * j + 1 by omega]; exact this
theorem lwF_CL {ad : Nat → Nat} {μ : Mem} {F H : Nat → Nat} {q c : Nat} (hx : LX H q c) (h : LQ ad μ H q c) : CL ad μ 36 (lwF F H q) := by
  obtain ⟨h1, h2, h3⟩ := h
  unfold CL
  rw [lwF_2, if_pos rfl, lwF_q]
  refine ⟨h1, fun _ n hn => ?_⟩
  have g := h3 n hn
  have s0 : lwF F H q (374 + 4 * n) = H (1223 + 4 * n) := by rw [lwF_hi (by omega)]; congr 1; omega
  have s1 : lwF F H q (374 + 4 * n + 1) = H (1223 + 4 * n + 1) := by rw [lwF_hi (by omega)]; congr 1; omega
  have s3 : lwF F H q (374 + 4 * n + 3) = H (1223 + 4 * n + 3) := by rw [lwF_hi (by omega)]; congr 1; omega
  rw [s0, s1, s3]
  refine ⟨g.1, g.2.1, g.2.2, fun i hi => ?_⟩
  have g4 := (hx.2.2.1 n hn).2.2.2.1
  rw [h2.2 i (by omega), lwF_hi (by omega), lwF_hi (by omega), show 422 + 2 * i + 849 = 1271 + 2 * i by omega, show 422 + 2 * i + 1 + 849 = 1271 + 2 * i + 1 by omega]
theorem lwF_WF {F H : Nat → Nat} {q : Nat} (h : WF F) : WF (lwF F H q) := by
  have hb := h.1
  have h1 : WF (up F 2 1) := h.up_lo (by omega) (by omega) (by unfold WB at *; simp (disch := omega) only [up_n, up_e]; omega)
  refine h1.congr (fun k hk => ?_)
  by_cases e : k = 2
  · subst e; rw [lwF_2, up_e]
  · rw [lwF_lo hk e, up_n e]
theorem lwF_CS {ad : Nat → Nat} {μ : Mem} {σ : Nat} {F H : Nat → Nat} {q : Nat} (h : CS ad μ σ F) (h8 : F 0 ≤ 8) (h60 : F 11 ≤ 60) : CS ad μ σ (lwF F H q) := by
  have h' := CS.iff.1 h
  refine CS.iff.2 ⟨fun k hk hl => ?_, ?_, ?_⟩
  · rw [lwF_lo (by omega) (by omega)] at hk
    rw [lwF_lo (by omega) hl.1]; exact h'.1 k hk hl
  · rw [lwF_lo (by omega) (by omega), hbt_congr (G := F) (fun s hs => lwF_lo (by omega) (by omega))]; exact h'.2.1
  · exact h'.2.2.fr rfl rfl (lwF_lo (by omega) (by omega)) (fun k h1 h2 => lwF_lo h2 (by omega)) h60

/-! the class and the reference stand for the same -/
theorem CS.congr {ad : Nat → Nat} {μ : Mem} {σ : Nat} {F G : Nat → Nat} (h : CS ad μ σ F) (h8 : F 0 ≤ 8) (h60 : F 11 ≤ 60) (e : ∀ k, k < 373 → G k = F k) : CS ad μ σ G := by
  have h' := CS.iff.1 h
  refine CS.iff.2 ⟨fun k hk hl => ?_, ?_, ?_⟩
  · rw [e 0 (by omega)] at hk
    rw [e k (by omega)]; exact h'.1 k hk hl
  · rw [e 0 (by omega), hbt_congr (G := F) (fun s hs => e _ (by omega))]; exact h'.2.1
  · exact h'.2.2.fr rfl rfl (e 11 (by omega)) (fun k h1 h2 => e k h2) h60
theorem WF.congr {F G : Nat → Nat} (h : WF F) (e : ∀ k, k < 373 → G k = F k) : WF G := by
  have hb := h.1
  have h8 : F 0 ≤ 8 := hb.1
  refine h.of ?_ (e 0 (by omega)) (fun k hk => by rw [e _ (by omega)]; exact h.2.1 k hk) (fun s hs => (h.2.2.1 s hs).congr (fun w hw => e _ (by omega))) (fun s hs => pl_congr (e _ (by omega)) (e _ (by omega)) (e _ (by omega)))
  unfold WB at *
  simp (disch := omega) only [e]
  exact hb
def mix (A F : Nat → Nat) : Nat → Nat := fun k => if k < 373 then A k else F k
theorem mix_LwE {A F : Nat → Nat} (h : A 2 = F 2) : LwE F (mix A F) := ⟨h, fun k hk => by unfold mix; rw [if_neg (by omega)]⟩
def PsC (ad : Nat → Nat) (μ : Mem) (m : Nat) (A : Nat → Nat → Nat) : Prop := ∃ nx, nx < 12 ∧ μ.1 (ad 56) 0 = n3 m ∧ μ.1 (ad 56) 1 = n3 nx ∧ ∀ j, j < m → CS ad μ (58 + 9 * ((nx + 11 - j) % 12)) (A j)
def PsR (ad : Nat → Nat) (μ : Mem) (m : Nat) (A : Nat → Nat → Nat) : Prop := μ.1 (ad 181) 7 = n3 m ∧ ∀ j, j < m → ∀ k, k < 373 → μ.1 (ad 186) (373 * (m - 1 - j) + k) = n3 (A j k)
def RC (ad : Nat → Nat) (μ : Mem) (F : Nat → Nat) (m : Nat) (A : Nat → Nat → Nat) (b : Nat) (J : Nat → Nat) (T : Nat → Int32) (n : Nat) (f : Int32) : Prop := CS ad μ 3 F ∧ CL ad μ 30 F ∧ PsC ad μ m A ∧ (μ.1 (ad 0) 13 = n3 b ∧ (b = 1 → CS ad μ 21 J ∧ CL ad μ 42 J)) ∧ (μ.1 (ad 1) 1 = n3 n ∧ ∀ k, k < n → μ.1 (ad 2) k = T k) ∧ μ.1 (ad 0) 14 = f
def RR (ad : Nat → Nat) (μ : Mem) (F : Nat → Nat) (m : Nat) (A : Nat → Nat → Nat) (b : Nat) (J : Nat → Nat) (T : Nat → Int32) (n : Nat) (f : Int32) : Prop := Row μ (ad 182) 1222 F ∧ PsR ad μ m A ∧ (μ.1 (ad 181) 6 = n3 b ∧ (b = 1 → Row μ (ad 183) 1222 J)) ∧ (μ.1 (ad 181) 9 = n3 n ∧ ∀ k, k < n → μ.1 (ad 187) k = T k) ∧ μ.1 (ad 181) 14 = f
def Byt (x : Int32) : Prop := (-128 : Int) ≤ x.toInt ∧ x.toInt ≤ 127
def Ok (F : Nat → Nat) (m : Nat) (A : Nat → Nat → Nat) (b : Nat) (J : Nat → Nat) (T : Nat → Int32) (n : Nat) : Prop := WF F ∧ LawOk F ∧ m ≤ 12 ∧ (∀ j, j < m → WF (A j) ∧ A j 2 = F 2) ∧ b ≤ 1 ∧ (b = 1 → WF J ∧ LawOk J) ∧ n ≤ 400 ∧ ∀ k, k < n → Byt (T k)
def ScC (i : Nat) : Prop := (12 ≤ i ∧ i ≤ 20) ∨ (35 ≤ i ∧ i ≤ 41) ∨ (47 ≤ i ∧ i ≤ 55) ∨ 166 ≤ i
theorem RC.fr {ad : Nat → Nat} {μ μ' : Mem} {F : Nat → Nat} {m : Nat} {A : Nat → Nat → Nat} {b : Nat} {J : Nat → Nat} {T : Nat → Int32} {n : Nat} {f : Int32} (h : RC ad μ F m A b J T n f) (hf : Fr ad ScC μ μ') : RC ad μ' F m A b J T n f := by
  have q : ∀ i, i < 12 ∨ (21 ≤ i ∧ i ≤ 34) ∨ (42 ≤ i ∧ i ≤ 46) ∨ (56 ≤ i ∧ i < 166) → μ'.1 (ad i) = μ.1 (ad i) := fun i hi => (hf i (by unfold ScC; omega)).1
  obtain ⟨h1, h2, ⟨nx, h3, h4, h5, h6⟩, ⟨h7, h8⟩, ⟨h9, h10⟩, h11⟩ := h
  refine ⟨h1.fr hf (fun i a b => by unfold ScC; omega), h2.fr hf (fun i a b => by unfold ScC; omega), ⟨nx, h3, by rw [q 56 (by omega)]; exact h4, by rw [q 56 (by omega)]; exact h5, fun j hj => (h6 j hj).fr hf (fun i a b => by unfold ScC; omega)⟩, ⟨by rw [q 0 (by omega)]; exact h7, fun hb => ⟨(h8 hb).1.fr hf (fun i a b => by unfold ScC; omega), (h8 hb).2.fr hf (fun i a b => by unfold ScC; omega)⟩⟩, ⟨by rw [q 1 (by omega)]; exact h9, by rw [q 2 (by omega)]; exact h10⟩, by rw [q 0 (by omega)]; exact h11⟩
def ScR (i : Nat) : Prop := i ≤ 181 ∨ i = 184 ∨ i = 185 ∨ 188 ≤ i
theorem RR.fr {ad : Nat → Nat} {μ μ' : Mem} {F : Nat → Nat} {m : Nat} {A : Nat → Nat → Nat} {b : Nat} {J : Nat → Nat} {T : Nat → Int32} {n : Nat} {f : Int32} (h : RR ad μ F m A b J T n f) (hf : Fr ad ScR μ μ') (e6 : μ'.1 (ad 181) 6 = μ.1 (ad 181) 6) (e7 : μ'.1 (ad 181) 7 = μ.1 (ad 181) 7) (e9 : μ'.1 (ad 181) 9 = μ.1 (ad 181) 9) (e14 : μ'.1 (ad 181) 14 = μ.1 (ad 181) 14) : RR ad μ' F m A b J T n f := by
  have q : ∀ i, 182 ≤ i ∧ i ≤ 183 ∨ 186 ≤ i ∧ i ≤ 187 → μ'.1 (ad i) = μ.1 (ad i) := fun i hi => (hf i (by unfold ScR; omega)).1
  unfold RR PsR Row at *
  rw [e6, e7, e9, e14, q 182 (by omega), q 183 (by omega), q 186 (by omega), q 187 (by omega)]
  exact h
/-- the reference's cells alone: the class's stay -/
theorem RR.frC {ad : Nat → Nat} {μ μ' : Mem} {F : Nat → Nat} {m : Nat} {A : Nat → Nat → Nat} {b : Nat} {J : Nat → Nat} {T : Nat → Int32} {n : Nat} {f : Int32} (h : RR ad μ F m A b J T n f) (hf : Fr ad (fun i => i < 181 ∨ i = 200) μ μ') : RR ad μ' F m A b J T n f := by
  have e := (hf 181 (by omega)).1
  exact h.fr (hf.mono (fun i hi => by unfold ScR; omega)) (by rw [e]) (by rw [e]) (by rw [e]) (by rw [e])
theorem RC.frR {ad : Nat → Nat} {μ μ' : Mem} {F : Nat → Nat} {m : Nat} {A : Nat → Nat → Nat} {b : Nat} {J : Nat → Nat} {T : Nat → Int32} {n : Nat} {f : Int32} (h : RC ad μ F m A b J T n f) (hf : Fr ad (fun i => 181 ≤ i) μ μ') : RC ad μ' F m A b J T n f := h.fr (hf.mono (fun i hi => by unfold ScC; omega))
/-! what is remembered -/
def rmA (F : Nat → Nat) (A : Nat → Nat → Nat) : Nat → Nat → Nat
  | 0 => F
  | j + 1 => A j
theorem c_remember {N : Nat} {Λ : Lay} {ad : Nat → Nat} {μ : Mem} {F : Nat → Nat} {m : Nat} {A : Nat → Nat → Nat} {b : Nat} {J : Nat → Nat} {T : Nat → Int32} {n : Nat} {f : Int32} (hY : Ly Λ ad) (h : RC ad μ F m A b J T n f) (ho : Ok F m A b J T n) : ∃ μ', m_X5_remember N Λ μ (ad 56) (ad 3) = some μ' ∧ RC ad μ' F (min (m + 1) 12) (rmA F A) b J T n f ∧ Fr ad (fun i => i < 181) μ μ' := by
  obtain ⟨h1, h2, ⟨nx, h3, h4, h5, h6⟩, ⟨h7, h8⟩, ⟨h9, h10⟩, h11⟩ := h
  have hj := hY.1
  have hm := ho.2.2.1
  have hY5 := hY.2.2.2.2.2.2.2.2
  obtain ⟨μ1, e1, hC1, f1⟩ := c_copy (N := N) (hY.2.2.2.1 3 (Or.inl rfl)) (hY.2.2.2.1 (58 + 9 * nx) (Or.inr (Or.inr (Or.inr ⟨nx, h3, rfl⟩)))) h1 hj ho.1 (by omega)
  have q : ∀ i, i < 58 ∨ 166 ≤ i → μ1.1 (ad i) = μ.1 (ad i) := fun i hi => (f1 i (by omega)).1
  have d1 := hY5.2.2.1 nx h3
  have m1 : μ1.1 (ad 56) 0 = n3 m := by rw [q 56 (by omega)]; exact h4
  have m2 : μ1.1 (ad 56) 1 = n3 nx := by rw [q 56 (by omega)]; exact h5
  have f3 : Fr ad (fun i => i = 56) μ1 (mset (mset μ1 (ad 56) 1 (n3 ((nx + 1) % 12))) (ad 56) 0 (n3 (min (m + 1) 12))) := ((Fr.refl μ1).set hj (by rfl)).set hj (by rfl)
  have f2 : Fr ad (fun i => i = 56 ∨ (58 + 9 * nx ≤ i ∧ i ≤ 58 + 9 * nx + 8)) μ (mset (mset μ1 (ad 56) 1 (n3 ((nx + 1) % 12))) (ad 56) 0 (n3 (min (m + 1) 12))) := Fr.trans (Fr.mono f1 (fun i hi => Or.inr hi)) (f3.mono (fun i hi => Or.inl hi))
  have hwF := ho.1
  refine ⟨_, ?_, ⟨h1.fr f2 (fun i a b => by omega), h2.fr f2 (fun i a b => by omega), ⟨(nx + 1) % 12, by omega, by rw [mse], by rw [msn (by omega), mse], fun j hjm => ?_⟩, ⟨by rw [(f2 0 (by omega)).1]; exact h7, fun hb => ⟨(h8 hb).1.fr f2 (fun i a b => by omega), (h8 hb).2.fr f2 (fun i a b => by omega)⟩⟩, ⟨by rw [(f2 1 (by omega)).1]; exact h9, by rw [(f2 2 (by omega)).1]; exact h10⟩, by rw [(f2 0 (by omega)).1]; exact h11⟩, f2.mono (fun i hi => by omega)⟩
  · simp (disch := omega) only [m_X5_remember, ↓ob (hY5.1), hY5.2.1, h5, ↓ob (d1), e1, m1, m2, ↓lt_e, ↓gd_e, ↓Option.bind_some, ↓reduceIte, if_true, if_false, if_pT, if_nF, decide_true, Bool.not_true, Bool.not_false, not_true_eq_false, not_false_eq_true, Bool.false_eq_true, Bool.true_eq_false, eq_self, n3_lit, n3_add, n3_mul, n3_sub, n3_tn, n3_le_t, n3_le_f, n3_lt_t, n3_lt_f, n3_eq_f, n3_eq_t, n3_inb, n3_rem, n3_div, n3_zb, bb_0, bb_1, zb_bb, bb_T, bb_F, n3_dec, n3_m1, n3_eqm, n3_eqmt, n3_ltm, n3_mlt, n3_lem, n3_mle, n3_neg_lt, n3_nlt_neg, n3_nle_neg, n3_neg_le, msn, n3_imin]
  · match j with
    | 0 =>
      rw [show (((nx + 1) % 12 + 11 - 0) % 12) = nx by omega]
      exact hC1.fr f3 (fun i a b => by omega)
    | j + 1 =>
      rw [show (((nx + 1) % 12 + 11 - (j + 1)) % 12) = (nx + 11 - j) % 12 by omega]
      exact (h6 j (by omega)).fr f2 (fun i a b => by omega)
theorem c_recall {N : Nat} {Λ : Lay} {ad : Nat → Nat} {μ : Mem} {F : Nat → Nat} {m : Nat} {A : Nat → Nat → Nat} {b : Nat} {J : Nat → Nat} {T : Nat → Int32} {n : Nat} {f : Int32} (hY : Ly Λ ad) (h : RC ad μ F (m + 1) A b J T n f) (ho : Ok F (m + 1) A b J T n) : ∃ μ', m_X5_recall N Λ μ (ad 56) (ad 3) = some (n3 1, μ') ∧ RC ad μ' (mix (A 0) F) m (fun j => A (j + 1)) b J T n f ∧ Fr ad (fun i => i < 181) μ μ' := by
  obtain ⟨h1, h2, ⟨nx, h3, h4, h5, h6⟩, ⟨h7, h8⟩, ⟨h9, h10⟩, h11⟩ := h
  have hj := hY.1
  have hm := ho.2.2.1
  have hA := ho.2.2.2.1 0 (by omega)
  have hY5 := hY.2.2.2.2.2.2.2.2
  have f0 : Fr ad (fun i => i = 56) μ (mset (mset μ (ad 56) 1 (n3 ((nx + 11) % 12))) (ad 56) 0 (n3 m)) := ((Fr.refl μ).set hj (by rfl)).set hj (by rfl)
  have hx : IsS (58 + 9 * ((nx + 11) % 12)) := Or.inr (Or.inr (Or.inr ⟨(nx + 11) % 12, by omega, rfl⟩))
  obtain ⟨μ1, e1, hC1, f1⟩ := c_copy (N := N) (hY.2.2.2.1 _ hx) (hY.2.2.2.1 3 (Or.inl rfl)) ((h6 0 (by omega)).fr f0 (fun i a b => by omega)) hj hA.1 (by omega)
  have d1 := hY5.2.2.1 ((nx + 11) % 12) (by omega)
  have f2 : Fr ad (fun i => i = 56 ∨ (3 ≤ i ∧ i ≤ 3 + 8)) μ μ1 := Fr.trans (f0.mono (fun i hi => Or.inl hi)) (Fr.mono f1 (fun i hi => Or.inr hi))
  have hb0 := hA.1.1; unfold WB at hb0
  have m1 : μ1.1 (ad 56) 0 = n3 m := by rw [(f1 56 (by omega)).1, mse]
  have m2 : μ1.1 (ad 56) 1 = n3 ((nx + 11) % 12) := by rw [(f1 56 (by omega)).1, msn (by omega), mse]
  refine ⟨μ1, ?_, ⟨hC1.congr hb0.1 hb0.2.2.2.2.2.2.2.2.2.2.2.1 (fun k hk => if_pos hk), (h2.of (mix_LwE hA.2)).fr f2 (fun i a b => by omega), ⟨(nx + 11) % 12, by omega, m1, m2, fun j hjm => ?_⟩, ⟨by rw [(f2 0 (by omega)).1]; exact h7, fun hb => ⟨(h8 hb).1.fr f2 (fun i a b => by omega), (h8 hb).2.fr f2 (fun i a b => by omega)⟩⟩, ⟨by rw [(f2 1 (by omega)).1]; exact h9, by rw [(f2 2 (by omega)).1]; exact h10⟩, by rw [(f2 0 (by omega)).1]; exact h11⟩, f2.mono (fun i hi => by omega)⟩
  · have e12 : nx + 12 - 1 = nx + 11 := by omega
    simp (disch := omega) only [m_X5_recall, ↓ob (hY5.1), hY5.2.1, h4, h5, ↓ob (d1), e1, ↓lt_e, ↓gd_e, ↓Option.bind_some, ↓reduceIte, if_true, if_false, if_pT, if_nF, decide_true, Bool.not_true, Bool.not_false, not_true_eq_false, not_false_eq_true, Bool.false_eq_true, Bool.true_eq_false, eq_self, n3_lit, n3_add, n3_mul, n3_sub, n3_tn, n3_le_t, n3_le_f, n3_lt_t, n3_lt_f, n3_eq_f, n3_eq_t, n3_inb, n3_rem, n3_div, n3_zb, bb_0, bb_1, zb_bb, bb_T, bb_F, n3_dec, n3_m1, n3_eqm, n3_eqmt, n3_ltm, n3_mlt, n3_lem, n3_mle, n3_neg_lt, n3_nlt_neg, n3_nle_neg, n3_neg_le, msn, mse, e12, Nat.add_sub_cancel]
  · rw [show (((nx + 11) % 12 + 11 - j) % 12) = (nx + 11 - (j + 1)) % 12 by omega]
    exact (h6 (j + 1) (by omega)).fr f2 (fun i a b => by omega)
/-! the reference: copies -/
theorem cp_loop {ρ : Type} {ad : Nat → Nat} {μ : Mem} {N : Nat} {stp : (Int32 × Mem → Option ρ) → Int32 × Mem → Option ρ} {Q : Option ρ → Prop} (hj : Inj ad) (b o n : Nat) (G : Nat → Int32) (hs : ∀ i, i < n → ∀ μ1 : Mem, Fr ad (fun j => j = b) μ μ1 → (∀ k, k < o ∨ o + i ≤ k → μ1.1 (ad b) k = μ.1 (ad b) k) → ∀ k, stp k (n3 i, μ1) = k (n3 (i + 1), mset μ1 (ad b) (o + i) (G i))) (he : ∀ μ1 : Mem, Fr ad (fun j => j = b) μ μ1 → (∀ k, k < n → μ1.1 (ad b) (o + k) = G k) → (∀ k, k < o ∨ o + n ≤ k → μ1.1 (ad b) k = μ.1 (ad b) k) → ∃ X, Q X ∧ ∀ k, stp k (n3 n, μ1) = X) (hN : n < N) : Q (cw stp N (n3 0, μ)) := by
  refine cw_iv (P := fun i x => ∃ μ1 : Mem, x = (n3 i, μ1) ∧ Fr ad (fun j => j = b) μ μ1 ∧ (∀ k, k < i → μ1.1 (ad b) (o + k) = G k) ∧ (∀ k, k < o ∨ o + i ≤ k → μ1.1 (ad b) k = μ.1 (ad b) k)) n ⟨μ, rfl, Fr.refl μ, fun k hk => by omega, fun k _ => rfl⟩ (fun i hi x hx => ?_) (fun x hx => ?_) hN
  · obtain ⟨μ1, rfl, hf, h1, h2⟩ := hx
    refine Or.inl ⟨_, ⟨_, rfl, hf.set hj rfl, fun k hk => ?_, fun k hk => ?_⟩, hs i hi μ1 hf h2⟩
    · by_cases e : k = i
      · subst e; rw [mse]
      · rw [msn (by omega)]; exact h1 k (by omega)
    · rw [msn (by omega)]; exact h2 k (by omega)
  · obtain ⟨μ1, rfl, hf, h1, h2⟩ := hx
    exact he μ1 hf h1 h2
theorem r_keepsAll {N : Nat} (hN : 1099511627776 ≤ N) {Λ : Lay} {ad : Nat → Nat} {μ : Mem} {F : Nat → Nat} (hR : LyR Λ ad) (hW : Row μ (ad 182) 1222 F)  (hj : Inj ad) : ∃ μ', m_X12_keepsAll N Λ μ (ad 181) = some μ' ∧ Row μ' (ad 185) 373 F ∧ Fr ad (fun i => i = 185) μ μ' := by
  unfold m_X12_keepsAll lp_X12_keepsAll_2
  refine cp_loop (Q := fun X => ∃ μ', X = some μ' ∧ Row μ' (ad 185) 373 F ∧ Fr ad (fun i => i = 185) μ μ') hj 185 0 373 (fun k => n3 (F k)) (fun i hi μ1 hf h2 k => ?_) (fun μ1 hf h1 h2 => ⟨_, ⟨μ1, rfl, fun k hk => by have := h1 k hk; rw [Nat.zero_add] at this; exact this, hf⟩, fun k => ?_⟩) (by omega)
  · have hW1 := hW.fr hf (by omega)
    simp (disch := omega) only [bd_X12_keepsAll_2, ↓ob (hR.1), ↓ob (hR.2.1), ↓ob (hR.2.2.1), ↓ob (hR.2.2.2.1), ↓ob (hR.2.2.2.2.1), ↓ob (hR.2.2.2.2.2.1), ↓ob (hR.2.2.2.2.2.2.1), ↓ob (hR.2.2.2.2.2.2.2.1), ↓ob (hR.2.2.2.2.2.2.2.2.1), ↓ob (hR.2.2.2.2.2.2.2.2.2.1), ↓ob (hR.2.2.2.2.2.2.2.2.2.2.1), ↓ob (hR.2.2.2.2.2.2.2.2.2.2.2.1), ↓ob (hR.2.2.2.2.2.2.2.2.2.2.2.2.1), ↓ob (hR.2.2.2.2.2.2.2.2.2.2.2.2.2.1), ↓ob (hR.2.2.2.2.2.2.2.2.2.2.2.2.2.2.1), ↓ob (hR.2.2.2.2.2.2.2.2.2.2.2.2.2.2.2.1), ↓ob (hR.2.2.2.2.2.2.2.2.2.2.2.2.2.2.2.2.1), ↓ob (hR.2.2.2.2.2.2.2.2.2.2.2.2.2.2.2.2.2.1), hR.2.2.2.2.2.2.2.2.2.2.2.2.2.2.2.2.2.2.1, hR.2.2.2.2.2.2.2.2.2.2.2.2.2.2.2.2.2.2.2.1, hR.2.2.2.2.2.2.2.2.2.2.2.2.2.2.2.2.2.2.2.2.1, hR.2.2.2.2.2.2.2.2.2.2.2.2.2.2.2.2.2.2.2.2.2.1, hR.2.2.2.2.2.2.2.2.2.2.2.2.2.2.2.2.2.2.2.2.2.2.1, hR.2.2.2.2.2.2.2.2.2.2.2.2.2.2.2.2.2.2.2.2.2.2.2.1, hR.2.2.2.2.2.2.2.2.2.2.2.2.2.2.2.2.2.2.2.2.2.2.2.2.1, hR.2.2.2.2.2.2.2.2.2.2.2.2.2.2.2.2.2.2.2.2.2.2.2.2.2.1, hR.2.2.2.2.2.2.2.2.2.2.2.2.2.2.2.2.2.2.2.2.2.2.2.2.2.2.1, hR.2.2.2.2.2.2.2.2.2.2.2.2.2.2.2.2.2.2.2.2.2.2.2.2.2.2.2.1, hR.2.2.2.2.2.2.2.2.2.2.2.2.2.2.2.2.2.2.2.2.2.2.2.2.2.2.2.2.1, hR.2.2.2.2.2.2.2.2.2.2.2.2.2.2.2.2.2.2.2.2.2.2.2.2.2.2.2.2.2.1, hR.2.2.2.2.2.2.2.2.2.2.2.2.2.2.2.2.2.2.2.2.2.2.2.2.2.2.2.2.2.2.1, hR.2.2.2.2.2.2.2.2.2.2.2.2.2.2.2.2.2.2.2.2.2.2.2.2.2.2.2.2.2.2.2.1, hR.2.2.2.2.2.2.2.2.2.2.2.2.2.2.2.2.2.2.2.2.2.2.2.2.2.2.2.2.2.2.2.2.1, hR.2.2.2.2.2.2.2.2.2.2.2.2.2.2.2.2.2.2.2.2.2.2.2.2.2.2.2.2.2.2.2.2.2.1, hR.2.2.2.2.2.2.2.2.2.2.2.2.2.2.2.2.2.2.2.2.2.2.2.2.2.2.2.2.2.2.2.2.2.2.1, hR.2.2.2.2.2.2.2.2.2.2.2.2.2.2.2.2.2.2.2.2.2.2.2.2.2.2.2.2.2.2.2.2.2.2.2, hW1, ↓lt_e, ↓gd_e, ↓Option.bind_some, ↓reduceIte, if_true, if_false, if_pT, if_nF, decide_true, Bool.not_true, Bool.not_false, not_true_eq_false, not_false_eq_true, Bool.false_eq_true, Bool.true_eq_false, eq_self, n3_lit, n3_add, n3_mul, n3_sub, n3_tn, n3_le_t, n3_le_f, n3_lt_t, n3_lt_f, n3_eq_f, n3_eq_t, n3_inb, n3_rem, n3_div, n3_zb, bb_0, bb_1, zb_bb, bb_T, bb_F, n3_dec, n3_m1, n3_eqm, n3_eqmt, n3_ltm, n3_mlt, n3_lem, n3_mle, n3_neg_lt, n3_nlt_neg, n3_nle_neg, n3_neg_le, Nat.zero_add]
  · simp (disch := omega) only [bd_X12_keepsAll_2, ↓lt_e, ↓gd_e, ↓Option.bind_some, ↓reduceIte, if_true, if_false, if_pT, if_nF, decide_true, Bool.not_true, Bool.not_false, not_true_eq_false, not_false_eq_true, Bool.false_eq_true, Bool.true_eq_false, eq_self, n3_lit, n3_add, n3_mul, n3_sub, n3_tn, n3_le_t, n3_le_f, n3_lt_t, n3_lt_f, n3_eq_f, n3_eq_t, n3_inb, n3_rem, n3_div, n3_zb, bb_0, bb_1, zb_bb, bb_T, bb_F, n3_dec, n3_m1, n3_eqm, n3_eqmt, n3_ltm, n3_mlt, n3_lem, n3_mle, n3_neg_lt, n3_nlt_neg, n3_nle_neg, n3_neg_le]
theorem r_bringsBack {N : Nat} (hN : 1099511627776 ≤ N) {Λ : Lay} {ad : Nat → Nat} {μ : Mem} {F : Nat → Nat} (hR : LyR Λ ad) (hW : Row μ (ad 182) 1222 F)  (hj : Inj ad) {G : Nat → Nat} (hG : Row μ (ad 185) 373 G) : ∃ μ', m_X12_bringsBack N Λ μ (ad 181) = some μ' ∧ Row μ' (ad 182) 1222 (mix G F) ∧ Fr ad (fun i => i = 182) μ μ' := by
  unfold m_X12_bringsBack lp_X12_bringsBack_2
  refine cp_loop (Q := fun X => ∃ μ', X = some μ' ∧ Row μ' (ad 182) 1222 (mix G F) ∧ Fr ad (fun i => i = 182) μ μ') hj 182 0 373 (fun k => n3 (G k)) (fun i hi μ1 hf h2 k => ?_) (fun μ1 hf h1 h2 => ⟨_, ⟨μ1, rfl, fun k hk => ?_, hf⟩, fun k => ?_⟩) (by omega)
  · have hG1 : ∀ k, k < 373 → μ1.1 (ad 185) k = n3 (G k) := fun k hk => by rw [(hf 185 (by omega)).1]; exact hG k hk
    simp (disch := omega) only [bd_X12_bringsBack_2, ↓ob (hR.1), ↓ob (hR.2.1), ↓ob (hR.2.2.1), ↓ob (hR.2.2.2.1), ↓ob (hR.2.2.2.2.1), ↓ob (hR.2.2.2.2.2.1), ↓ob (hR.2.2.2.2.2.2.1), ↓ob (hR.2.2.2.2.2.2.2.1), ↓ob (hR.2.2.2.2.2.2.2.2.1), ↓ob (hR.2.2.2.2.2.2.2.2.2.1), ↓ob (hR.2.2.2.2.2.2.2.2.2.2.1), ↓ob (hR.2.2.2.2.2.2.2.2.2.2.2.1), ↓ob (hR.2.2.2.2.2.2.2.2.2.2.2.2.1), ↓ob (hR.2.2.2.2.2.2.2.2.2.2.2.2.2.1), ↓ob (hR.2.2.2.2.2.2.2.2.2.2.2.2.2.2.1), ↓ob (hR.2.2.2.2.2.2.2.2.2.2.2.2.2.2.2.1), ↓ob (hR.2.2.2.2.2.2.2.2.2.2.2.2.2.2.2.2.1), ↓ob (hR.2.2.2.2.2.2.2.2.2.2.2.2.2.2.2.2.2.1), hR.2.2.2.2.2.2.2.2.2.2.2.2.2.2.2.2.2.2.1, hR.2.2.2.2.2.2.2.2.2.2.2.2.2.2.2.2.2.2.2.1, hR.2.2.2.2.2.2.2.2.2.2.2.2.2.2.2.2.2.2.2.2.1, hR.2.2.2.2.2.2.2.2.2.2.2.2.2.2.2.2.2.2.2.2.2.1, hR.2.2.2.2.2.2.2.2.2.2.2.2.2.2.2.2.2.2.2.2.2.2.1, hR.2.2.2.2.2.2.2.2.2.2.2.2.2.2.2.2.2.2.2.2.2.2.2.1, hR.2.2.2.2.2.2.2.2.2.2.2.2.2.2.2.2.2.2.2.2.2.2.2.2.1, hR.2.2.2.2.2.2.2.2.2.2.2.2.2.2.2.2.2.2.2.2.2.2.2.2.2.1, hR.2.2.2.2.2.2.2.2.2.2.2.2.2.2.2.2.2.2.2.2.2.2.2.2.2.2.1, hR.2.2.2.2.2.2.2.2.2.2.2.2.2.2.2.2.2.2.2.2.2.2.2.2.2.2.2.1, hR.2.2.2.2.2.2.2.2.2.2.2.2.2.2.2.2.2.2.2.2.2.2.2.2.2.2.2.2.1, hR.2.2.2.2.2.2.2.2.2.2.2.2.2.2.2.2.2.2.2.2.2.2.2.2.2.2.2.2.2.1, hR.2.2.2.2.2.2.2.2.2.2.2.2.2.2.2.2.2.2.2.2.2.2.2.2.2.2.2.2.2.2.1, hR.2.2.2.2.2.2.2.2.2.2.2.2.2.2.2.2.2.2.2.2.2.2.2.2.2.2.2.2.2.2.2.1, hR.2.2.2.2.2.2.2.2.2.2.2.2.2.2.2.2.2.2.2.2.2.2.2.2.2.2.2.2.2.2.2.2.1, hR.2.2.2.2.2.2.2.2.2.2.2.2.2.2.2.2.2.2.2.2.2.2.2.2.2.2.2.2.2.2.2.2.2.1, hR.2.2.2.2.2.2.2.2.2.2.2.2.2.2.2.2.2.2.2.2.2.2.2.2.2.2.2.2.2.2.2.2.2.2.1, hR.2.2.2.2.2.2.2.2.2.2.2.2.2.2.2.2.2.2.2.2.2.2.2.2.2.2.2.2.2.2.2.2.2.2.2, hG1, ↓lt_e, ↓gd_e, ↓Option.bind_some, ↓reduceIte, if_true, if_false, if_pT, if_nF, decide_true, Bool.not_true, Bool.not_false, not_true_eq_false, not_false_eq_true, Bool.false_eq_true, Bool.true_eq_false, eq_self, n3_lit, n3_add, n3_mul, n3_sub, n3_tn, n3_le_t, n3_le_f, n3_lt_t, n3_lt_f, n3_eq_f, n3_eq_t, n3_inb, n3_rem, n3_div, n3_zb, bb_0, bb_1, zb_bb, bb_T, bb_F, n3_dec, n3_m1, n3_eqm, n3_eqmt, n3_ltm, n3_mlt, n3_lem, n3_mle, n3_neg_lt, n3_nlt_neg, n3_nle_neg, n3_neg_le, Nat.zero_add]
  · unfold mix; split
    · next h => have := h1 k h; rw [Nat.zero_add] at this; exact this
    · next h => rw [h2 k (by omega)]; exact hW k hk
  · simp (disch := omega) only [bd_X12_bringsBack_2, ↓lt_e, ↓gd_e, ↓Option.bind_some, ↓reduceIte, if_true, if_false, if_pT, if_nF, decide_true, Bool.not_true, Bool.not_false, not_true_eq_false, not_false_eq_true, Bool.false_eq_true, Bool.true_eq_false, eq_self, n3_lit, n3_add, n3_mul, n3_sub, n3_tn, n3_le_t, n3_le_f, n3_lt_t, n3_lt_f, n3_eq_f, n3_eq_t, n3_inb, n3_rem, n3_div, n3_zb, bb_0, bb_1, zb_bb, bb_T, bb_F, n3_dec, n3_m1, n3_eqm, n3_eqmt, n3_ltm, n3_mlt, n3_lem, n3_mle, n3_neg_lt, n3_nlt_neg, n3_nle_neg, n3_neg_le]
/-! image, back -/
theorem r_image {N : Nat} (hN : 1099511627776 ≤ N) {Λ : Lay} {ad : Nat → Nat} {μ : Mem} {F : Nat → Nat} (hR : LyR Λ ad) (hW : Row μ (ad 182) 1222 F)  (hj : Inj ad) : ∃ μ', m_X12_image N Λ μ (ad 181) = some μ' ∧ Row μ' (ad 183) 1222 F ∧ μ'.1 (ad 181) 0 = n3 0 ∧ μ'.1 (ad 181) 6 = n3 1 ∧ (∀ k, k ≠ 0 → k ≠ 6 → μ'.1 (ad 181) k = μ.1 (ad 181) k) ∧ Fr ad (fun i => i = 181 ∨ i = 183) μ μ' := by
  simp only [m_X12_image, lp_X12_image_7, ↓lt_e, n3_lit]
  have f0 : Fr ad (fun i => i = 181) μ (mset μ (ad 181) 0 (n3 0)) := (Fr.refl μ).set hj (by rfl)
  have hW0 := hW.fr f0 (by omega)
  refine cp_loop (Q := fun X => ∃ μ', X = some μ' ∧ Row μ' (ad 183) 1222 F ∧ μ'.1 (ad 181) 0 = n3 0 ∧ μ'.1 (ad 181) 6 = n3 1 ∧ (∀ k, k ≠ 0 → k ≠ 6 → μ'.1 (ad 181) k = μ.1 (ad 181) k) ∧ Fr ad (fun i => i = 181 ∨ i = 183) μ μ') hj 183 0 1222 (fun k => n3 (F k)) (fun i hi μ1 hf h2 k => ?_) (fun μ1 hf h1 h2 => ⟨_, ⟨mset μ1 (ad 181) 6 (n3 1), rfl, fun k hk => ?_, ?_, mse _ _ _ _, fun k k0 k6 => ?_, ?_⟩, fun k => ?_⟩) (by omega)
  · have hW1 := hW0.fr hf (by omega)
    simp (disch := omega) only [bd_X12_image_7, ↓ob (hR.1), ↓ob (hR.2.1), ↓ob (hR.2.2.1), ↓ob (hR.2.2.2.1), ↓ob (hR.2.2.2.2.1), ↓ob (hR.2.2.2.2.2.1), ↓ob (hR.2.2.2.2.2.2.1), ↓ob (hR.2.2.2.2.2.2.2.1), ↓ob (hR.2.2.2.2.2.2.2.2.1), ↓ob (hR.2.2.2.2.2.2.2.2.2.1), ↓ob (hR.2.2.2.2.2.2.2.2.2.2.1), ↓ob (hR.2.2.2.2.2.2.2.2.2.2.2.1), ↓ob (hR.2.2.2.2.2.2.2.2.2.2.2.2.1), ↓ob (hR.2.2.2.2.2.2.2.2.2.2.2.2.2.1), ↓ob (hR.2.2.2.2.2.2.2.2.2.2.2.2.2.2.1), ↓ob (hR.2.2.2.2.2.2.2.2.2.2.2.2.2.2.2.1), ↓ob (hR.2.2.2.2.2.2.2.2.2.2.2.2.2.2.2.2.1), ↓ob (hR.2.2.2.2.2.2.2.2.2.2.2.2.2.2.2.2.2.1), hR.2.2.2.2.2.2.2.2.2.2.2.2.2.2.2.2.2.2.1, hR.2.2.2.2.2.2.2.2.2.2.2.2.2.2.2.2.2.2.2.1, hR.2.2.2.2.2.2.2.2.2.2.2.2.2.2.2.2.2.2.2.2.1, hR.2.2.2.2.2.2.2.2.2.2.2.2.2.2.2.2.2.2.2.2.2.1, hR.2.2.2.2.2.2.2.2.2.2.2.2.2.2.2.2.2.2.2.2.2.2.1, hR.2.2.2.2.2.2.2.2.2.2.2.2.2.2.2.2.2.2.2.2.2.2.2.1, hR.2.2.2.2.2.2.2.2.2.2.2.2.2.2.2.2.2.2.2.2.2.2.2.2.1, hR.2.2.2.2.2.2.2.2.2.2.2.2.2.2.2.2.2.2.2.2.2.2.2.2.2.1, hR.2.2.2.2.2.2.2.2.2.2.2.2.2.2.2.2.2.2.2.2.2.2.2.2.2.2.1, hR.2.2.2.2.2.2.2.2.2.2.2.2.2.2.2.2.2.2.2.2.2.2.2.2.2.2.2.1, hR.2.2.2.2.2.2.2.2.2.2.2.2.2.2.2.2.2.2.2.2.2.2.2.2.2.2.2.2.1, hR.2.2.2.2.2.2.2.2.2.2.2.2.2.2.2.2.2.2.2.2.2.2.2.2.2.2.2.2.2.1, hR.2.2.2.2.2.2.2.2.2.2.2.2.2.2.2.2.2.2.2.2.2.2.2.2.2.2.2.2.2.2.1, hR.2.2.2.2.2.2.2.2.2.2.2.2.2.2.2.2.2.2.2.2.2.2.2.2.2.2.2.2.2.2.2.1, hR.2.2.2.2.2.2.2.2.2.2.2.2.2.2.2.2.2.2.2.2.2.2.2.2.2.2.2.2.2.2.2.2.1, hR.2.2.2.2.2.2.2.2.2.2.2.2.2.2.2.2.2.2.2.2.2.2.2.2.2.2.2.2.2.2.2.2.2.1, hR.2.2.2.2.2.2.2.2.2.2.2.2.2.2.2.2.2.2.2.2.2.2.2.2.2.2.2.2.2.2.2.2.2.2.1, hR.2.2.2.2.2.2.2.2.2.2.2.2.2.2.2.2.2.2.2.2.2.2.2.2.2.2.2.2.2.2.2.2.2.2.2, hW1, ↓lt_e, ↓gd_e, ↓Option.bind_some, ↓reduceIte, if_true, if_false, if_pT, if_nF, decide_true, Bool.not_true, Bool.not_false, not_true_eq_false, not_false_eq_true, Bool.false_eq_true, Bool.true_eq_false, eq_self, n3_lit, n3_add, n3_mul, n3_sub, n3_tn, n3_le_t, n3_le_f, n3_lt_t, n3_lt_f, n3_eq_f, n3_eq_t, n3_inb, n3_rem, n3_div, n3_zb, bb_0, bb_1, zb_bb, bb_T, bb_F, n3_dec, n3_m1, n3_eqm, n3_eqmt, n3_ltm, n3_mlt, n3_lem, n3_mle, n3_neg_lt, n3_nlt_neg, n3_nle_neg, n3_neg_le, Nat.zero_add]
  · have := h1 k hk; rw [Nat.zero_add] at this; rw [mso hj (by omega)]; exact this
  · rw [msn (by omega), (hf 181 (by omega)).1, mse]
  · rw [msn k6, (hf 181 (by omega)).1, msn k0]
  · exact ((f0.mono (fun i h => Or.inl h)).trans (hf.mono (fun i h => Or.inr h))).set hj (Or.inl rfl)
  · simp (disch := omega) only [bd_X12_image_7, ↓lt_e, ↓gd_e, ↓Option.bind_some, ↓reduceIte, if_true, if_false, if_pT, if_nF, decide_true, Bool.not_true, Bool.not_false, not_true_eq_false, not_false_eq_true, Bool.false_eq_true, Bool.true_eq_false, eq_self, n3_lit, n3_add, n3_mul, n3_sub, n3_tn, n3_le_t, n3_le_f, n3_lt_t, n3_lt_f, n3_eq_f, n3_eq_t, n3_inb, n3_rem, n3_div, n3_zb, bb_0, bb_1, zb_bb, bb_T, bb_F, n3_dec, n3_m1, n3_eqm, n3_eqmt, n3_ltm, n3_mlt, n3_lem, n3_mle, n3_neg_lt, n3_nlt_neg, n3_nle_neg, n3_neg_le]
theorem r_back1 {N : Nat} (hN : 1099511627776 ≤ N) {Λ : Lay} {ad : Nat → Nat} {μ : Mem} {F : Nat → Nat} (hR : LyR Λ ad) (hW : Row μ (ad 182) 1222 F)  (hj : Inj ad) {J : Nat → Nat} (hJ : Row μ (ad 183) 1222 J) (h6 : μ.1 (ad 181) 6 = n3 1) : ∃ μ', m_X12_back N Λ μ (ad 181) = some (n3 1, μ') ∧ Row μ' (ad 182) 1222 J ∧ μ'.1 (ad 181) 0 = n3 0 ∧ μ'.1 (ad 181) 7 = n3 0 ∧ (∀ k, k ≠ 0 → k ≠ 7 → μ'.1 (ad 181) k = μ.1 (ad 181) k) ∧ Fr ad (fun i => i = 181 ∨ i = 182) μ μ' := by
  have f0 : Fr ad (fun i => i = 181) μ (mset μ (ad 181) 0 (n3 0)) := (Fr.refl μ).set hj (by rfl)
  have hJ0 : Row (mset μ (ad 181) 0 (n3 0)) (ad 183) 1222 J := Row.fr hJ f0 (by omega)
  simp (disch := omega) only [m_X12_back, lp_X12_back_16, ↓lt_e, ↓gd_e, ↓Option.bind_some, ↓reduceIte, if_true, if_false, if_pT, if_nF, decide_true, Bool.not_true, Bool.not_false, not_true_eq_false, not_false_eq_true, Bool.false_eq_true, Bool.true_eq_false, eq_self, n3_lit, n3_add, n3_mul, n3_sub, n3_tn, n3_le_t, n3_le_f, n3_lt_t, n3_lt_f, n3_eq_f, n3_eq_t, n3_inb, n3_rem, n3_div, n3_zb, bb_0, bb_1, zb_bb, bb_T, bb_F, n3_dec, n3_m1, n3_eqm, n3_eqmt, n3_ltm, n3_mlt, n3_lem, n3_mle, n3_neg_lt, n3_nlt_neg, n3_nle_neg, n3_neg_le, msn, h6]
  refine cp_loop (Q := fun X => ∃ μ', X = some (n3 1, μ') ∧ Row μ' (ad 182) 1222 J ∧ μ'.1 (ad 181) 0 = n3 0 ∧ μ'.1 (ad 181) 7 = n3 0 ∧ (∀ k, k ≠ 0 → k ≠ 7 → μ'.1 (ad 181) k = μ.1 (ad 181) k) ∧ Fr ad (fun i => i = 181 ∨ i = 182) μ μ') hj 182 0 1222 (fun k => n3 (J k)) (fun i hi μ1 hf h2 k => ?_) (fun μ1 hf h1 h2 => ⟨_, ⟨mset μ1 (ad 181) 7 (n3 0), rfl, fun k hk => ?_, ?_, mse _ _ _ _, fun k k0 k6 => ?_, ?_⟩, fun k => ?_⟩) (by omega)
  · have hJ1 : ∀ k, k < 1222 → μ1.1 (ad 183) k = n3 (J k) := fun k hk => by rw [(hf 183 (by omega)).1]; exact hJ0 k hk
    simp (disch := omega) only [bd_X12_back_16, ↓ob (hR.1), ↓ob (hR.2.1), ↓ob (hR.2.2.1), ↓ob (hR.2.2.2.1), ↓ob (hR.2.2.2.2.1), ↓ob (hR.2.2.2.2.2.1), ↓ob (hR.2.2.2.2.2.2.1), ↓ob (hR.2.2.2.2.2.2.2.1), ↓ob (hR.2.2.2.2.2.2.2.2.1), ↓ob (hR.2.2.2.2.2.2.2.2.2.1), ↓ob (hR.2.2.2.2.2.2.2.2.2.2.1), ↓ob (hR.2.2.2.2.2.2.2.2.2.2.2.1), ↓ob (hR.2.2.2.2.2.2.2.2.2.2.2.2.1), ↓ob (hR.2.2.2.2.2.2.2.2.2.2.2.2.2.1), ↓ob (hR.2.2.2.2.2.2.2.2.2.2.2.2.2.2.1), ↓ob (hR.2.2.2.2.2.2.2.2.2.2.2.2.2.2.2.1), ↓ob (hR.2.2.2.2.2.2.2.2.2.2.2.2.2.2.2.2.1), ↓ob (hR.2.2.2.2.2.2.2.2.2.2.2.2.2.2.2.2.2.1), hR.2.2.2.2.2.2.2.2.2.2.2.2.2.2.2.2.2.2.1, hR.2.2.2.2.2.2.2.2.2.2.2.2.2.2.2.2.2.2.2.1, hR.2.2.2.2.2.2.2.2.2.2.2.2.2.2.2.2.2.2.2.2.1, hR.2.2.2.2.2.2.2.2.2.2.2.2.2.2.2.2.2.2.2.2.2.1, hR.2.2.2.2.2.2.2.2.2.2.2.2.2.2.2.2.2.2.2.2.2.2.1, hR.2.2.2.2.2.2.2.2.2.2.2.2.2.2.2.2.2.2.2.2.2.2.2.1, hR.2.2.2.2.2.2.2.2.2.2.2.2.2.2.2.2.2.2.2.2.2.2.2.2.1, hR.2.2.2.2.2.2.2.2.2.2.2.2.2.2.2.2.2.2.2.2.2.2.2.2.2.1, hR.2.2.2.2.2.2.2.2.2.2.2.2.2.2.2.2.2.2.2.2.2.2.2.2.2.2.1, hR.2.2.2.2.2.2.2.2.2.2.2.2.2.2.2.2.2.2.2.2.2.2.2.2.2.2.2.1, hR.2.2.2.2.2.2.2.2.2.2.2.2.2.2.2.2.2.2.2.2.2.2.2.2.2.2.2.2.1, hR.2.2.2.2.2.2.2.2.2.2.2.2.2.2.2.2.2.2.2.2.2.2.2.2.2.2.2.2.2.1, hR.2.2.2.2.2.2.2.2.2.2.2.2.2.2.2.2.2.2.2.2.2.2.2.2.2.2.2.2.2.2.1, hR.2.2.2.2.2.2.2.2.2.2.2.2.2.2.2.2.2.2.2.2.2.2.2.2.2.2.2.2.2.2.2.1, hR.2.2.2.2.2.2.2.2.2.2.2.2.2.2.2.2.2.2.2.2.2.2.2.2.2.2.2.2.2.2.2.2.1, hR.2.2.2.2.2.2.2.2.2.2.2.2.2.2.2.2.2.2.2.2.2.2.2.2.2.2.2.2.2.2.2.2.2.1, hR.2.2.2.2.2.2.2.2.2.2.2.2.2.2.2.2.2.2.2.2.2.2.2.2.2.2.2.2.2.2.2.2.2.2.1, hR.2.2.2.2.2.2.2.2.2.2.2.2.2.2.2.2.2.2.2.2.2.2.2.2.2.2.2.2.2.2.2.2.2.2.2, hJ1, ↓lt_e, ↓gd_e, ↓Option.bind_some, ↓reduceIte, if_true, if_false, if_pT, if_nF, decide_true, Bool.not_true, Bool.not_false, not_true_eq_false, not_false_eq_true, Bool.false_eq_true, Bool.true_eq_false, eq_self, n3_lit, n3_add, n3_mul, n3_sub, n3_tn, n3_le_t, n3_le_f, n3_lt_t, n3_lt_f, n3_eq_f, n3_eq_t, n3_inb, n3_rem, n3_div, n3_zb, bb_0, bb_1, zb_bb, bb_T, bb_F, n3_dec, n3_m1, n3_eqm, n3_eqmt, n3_ltm, n3_mlt, n3_lem, n3_mle, n3_neg_lt, n3_nlt_neg, n3_nle_neg, n3_neg_le, Nat.zero_add]
  · have := h1 k hk; rw [Nat.zero_add] at this; rw [mso hj (by omega)]; exact this
  · rw [msn (by omega), (hf 181 (by omega)).1, mse]
  · rw [msn k6, (hf 181 (by omega)).1, msn k0]
  · exact ((f0.mono (fun i h => Or.inl h)).trans (hf.mono (fun i h => Or.inr h))).set hj (Or.inl rfl)
  · simp (disch := omega) only [bd_X12_back_16, ↓lt_e, ↓gd_e, ↓Option.bind_some, ↓reduceIte, if_true, if_false, if_pT, if_nF, decide_true, Bool.not_true, Bool.not_false, not_true_eq_false, not_false_eq_true, Bool.false_eq_true, Bool.true_eq_false, eq_self, n3_lit, n3_add, n3_mul, n3_sub, n3_tn, n3_le_t, n3_le_f, n3_lt_t, n3_lt_f, n3_eq_f, n3_eq_t, n3_inb, n3_rem, n3_div, n3_zb, bb_0, bb_1, zb_bb, bb_T, bb_F, n3_dec, n3_m1, n3_eqm, n3_eqmt, n3_ltm, n3_mlt, n3_lem, n3_mle, n3_neg_lt, n3_nlt_neg, n3_nle_neg, n3_neg_le]
/-! acts remembered, undone -/
theorem r_rem55 {N : Nat} (hN : 1099511627776 ≤ N) {Λ : Lay} {ad : Nat → Nat} {μ : Mem} {F : Nat → Nat} (hR : LyR Λ ad) (hW : Row μ (ad 182) 1222 F)  (hj : Inj ad) {m : Nat} (hm : m < 12) (h7 : μ.1 (ad 181) 7 = n3 (m + 1)) : ∃ μ', lp_X12_remembers_55 N Λ (ad 181) (n3 0, μ) = some μ' ∧ (∀ k, k < 373 → μ'.1 (ad 186) (373 * m + k) = n3 (F k)) ∧ (∀ k, k < 373 * m ∨ 373 * m + 373 ≤ k → μ'.1 (ad 186) k = μ.1 (ad 186) k) ∧ Fr ad (fun i => i = 186) μ μ' := by
  unfold lp_X12_remembers_55
  refine cp_loop (Q := fun X => ∃ μ', X = some μ' ∧ (∀ k, k < 373 → μ'.1 (ad 186) (373 * m + k) = n3 (F k)) ∧ (∀ k, k < 373 * m ∨ 373 * m + 373 ≤ k → μ'.1 (ad 186) k = μ.1 (ad 186) k) ∧ Fr ad (fun i => i = 186) μ μ') hj 186 (373 * m) 373 (fun k => n3 (F k)) (fun i hi μ1 hf h2 k => ?_) (fun μ1 hf h1 h2 => ⟨_, ⟨μ1, rfl, h1, h2, hf⟩, fun k => ?_⟩) (by omega)
  · have hW1 := hW.fr hf (by omega)
    have h71 : μ1.1 (ad 181) 7 = n3 (m + 1) := by rw [(hf 181 (by omega)).1]; exact h7
    simp (disch := omega) only [bd_X12_remembers_55, ↓ob (hR.1), ↓ob (hR.2.1), ↓ob (hR.2.2.1), ↓ob (hR.2.2.2.1), ↓ob (hR.2.2.2.2.1), ↓ob (hR.2.2.2.2.2.1), ↓ob (hR.2.2.2.2.2.2.1), ↓ob (hR.2.2.2.2.2.2.2.1), ↓ob (hR.2.2.2.2.2.2.2.2.1), ↓ob (hR.2.2.2.2.2.2.2.2.2.1), ↓ob (hR.2.2.2.2.2.2.2.2.2.2.1), ↓ob (hR.2.2.2.2.2.2.2.2.2.2.2.1), ↓ob (hR.2.2.2.2.2.2.2.2.2.2.2.2.1), ↓ob (hR.2.2.2.2.2.2.2.2.2.2.2.2.2.1), ↓ob (hR.2.2.2.2.2.2.2.2.2.2.2.2.2.2.1), ↓ob (hR.2.2.2.2.2.2.2.2.2.2.2.2.2.2.2.1), ↓ob (hR.2.2.2.2.2.2.2.2.2.2.2.2.2.2.2.2.1), ↓ob (hR.2.2.2.2.2.2.2.2.2.2.2.2.2.2.2.2.2.1), hR.2.2.2.2.2.2.2.2.2.2.2.2.2.2.2.2.2.2.1, hR.2.2.2.2.2.2.2.2.2.2.2.2.2.2.2.2.2.2.2.1, hR.2.2.2.2.2.2.2.2.2.2.2.2.2.2.2.2.2.2.2.2.1, hR.2.2.2.2.2.2.2.2.2.2.2.2.2.2.2.2.2.2.2.2.2.1, hR.2.2.2.2.2.2.2.2.2.2.2.2.2.2.2.2.2.2.2.2.2.2.1, hR.2.2.2.2.2.2.2.2.2.2.2.2.2.2.2.2.2.2.2.2.2.2.2.1, hR.2.2.2.2.2.2.2.2.2.2.2.2.2.2.2.2.2.2.2.2.2.2.2.2.1, hR.2.2.2.2.2.2.2.2.2.2.2.2.2.2.2.2.2.2.2.2.2.2.2.2.2.1, hR.2.2.2.2.2.2.2.2.2.2.2.2.2.2.2.2.2.2.2.2.2.2.2.2.2.2.1, hR.2.2.2.2.2.2.2.2.2.2.2.2.2.2.2.2.2.2.2.2.2.2.2.2.2.2.2.1, hR.2.2.2.2.2.2.2.2.2.2.2.2.2.2.2.2.2.2.2.2.2.2.2.2.2.2.2.2.1, hR.2.2.2.2.2.2.2.2.2.2.2.2.2.2.2.2.2.2.2.2.2.2.2.2.2.2.2.2.2.1, hR.2.2.2.2.2.2.2.2.2.2.2.2.2.2.2.2.2.2.2.2.2.2.2.2.2.2.2.2.2.2.1, hR.2.2.2.2.2.2.2.2.2.2.2.2.2.2.2.2.2.2.2.2.2.2.2.2.2.2.2.2.2.2.2.1, hR.2.2.2.2.2.2.2.2.2.2.2.2.2.2.2.2.2.2.2.2.2.2.2.2.2.2.2.2.2.2.2.2.1, hR.2.2.2.2.2.2.2.2.2.2.2.2.2.2.2.2.2.2.2.2.2.2.2.2.2.2.2.2.2.2.2.2.2.1, hR.2.2.2.2.2.2.2.2.2.2.2.2.2.2.2.2.2.2.2.2.2.2.2.2.2.2.2.2.2.2.2.2.2.2.1, hR.2.2.2.2.2.2.2.2.2.2.2.2.2.2.2.2.2.2.2.2.2.2.2.2.2.2.2.2.2.2.2.2.2.2.2, hW1, h71, ↓lt_e, ↓gd_e, ↓Option.bind_some, ↓reduceIte, if_true, if_false, if_pT, if_nF, decide_true, Bool.not_true, Bool.not_false, not_true_eq_false, not_false_eq_true, Bool.false_eq_true, Bool.true_eq_false, eq_self, n3_lit, n3_add, n3_mul, n3_sub, n3_tn, n3_le_t, n3_le_f, n3_lt_t, n3_lt_f, n3_eq_f, n3_eq_t, n3_inb, n3_rem, n3_div, n3_zb, bb_0, bb_1, zb_bb, bb_T, bb_F, n3_dec, n3_m1, n3_eqm, n3_eqmt, n3_ltm, n3_mlt, n3_lem, n3_mle, n3_neg_lt, n3_nlt_neg, n3_nle_neg, n3_neg_le, Nat.add_sub_cancel]
  · simp (disch := omega) only [bd_X12_remembers_55, ↓lt_e, ↓gd_e, ↓Option.bind_some, ↓reduceIte, if_true, if_false, if_pT, if_nF, decide_true, Bool.not_true, Bool.not_false, not_true_eq_false, not_false_eq_true, Bool.false_eq_true, Bool.true_eq_false, eq_self, n3_lit, n3_add, n3_mul, n3_sub, n3_tn, n3_le_t, n3_le_f, n3_lt_t, n3_lt_f, n3_eq_f, n3_eq_t, n3_inb, n3_rem, n3_div, n3_zb, bb_0, bb_1, zb_bb, bb_T, bb_F, n3_dec, n3_m1, n3_eqm, n3_eqmt, n3_ltm, n3_mlt, n3_lem, n3_mle, n3_neg_lt, n3_nlt_neg, n3_nle_neg, n3_neg_le]
theorem r_remembers {N : Nat} (hN : 1099511627776 ≤ N) {Λ : Lay} {ad : Nat → Nat} {μ : Mem} {F : Nat → Nat} (hR : LyR Λ ad) (hW : Row μ (ad 182) 1222 F)  (hj : Inj ad) {m : Nat} {A : Nat → Nat → Nat} (hm : m ≤ 12) (hP : PsR ad μ m A) : ∃ μ', m_X12_remembers N Λ μ (ad 181) = some μ' ∧ PsR ad μ' (min (m + 1) 12) (rmA F A) ∧ (∀ k, k ≠ 7 → μ'.1 (ad 181) k = μ.1 (ad 181) k) ∧ Fr ad (fun i => i = 181 ∨ i = 186) μ μ' := by
  obtain ⟨h7, hA⟩ := hP
  by_cases e : m = 12
  · subst e
    unfold m_X12_remembers
    rw [h7, if_pos (show n3 12 = (12 : Int32) from rfl)]
    unfold lp_X12_remembers_11
    refine cp_loop (Q := fun X => ∃ μ', X = some μ' ∧ PsR ad μ' (min (12 + 1) 12) (rmA F A) ∧ (∀ k, k ≠ 7 → μ'.1 (ad 181) k = μ.1 (ad 181) k) ∧ Fr ad (fun i => i = 181 ∨ i = 186) μ μ') hj 186 0 4103 (fun k => μ.1 (ad 186) (k + 373)) (fun i hi μ1 hf h2 k => ?_) (fun μ1 hf h1 h2 => ?_) (by omega)
    · have h2' := h2 (i + 373) (by omega)
      simp (disch := omega) only [bd_X12_remembers_11, ↓ob (hR.1), ↓ob (hR.2.1), ↓ob (hR.2.2.1), ↓ob (hR.2.2.2.1), ↓ob (hR.2.2.2.2.1), ↓ob (hR.2.2.2.2.2.1), ↓ob (hR.2.2.2.2.2.2.1), ↓ob (hR.2.2.2.2.2.2.2.1), ↓ob (hR.2.2.2.2.2.2.2.2.1), ↓ob (hR.2.2.2.2.2.2.2.2.2.1), ↓ob (hR.2.2.2.2.2.2.2.2.2.2.1), ↓ob (hR.2.2.2.2.2.2.2.2.2.2.2.1), ↓ob (hR.2.2.2.2.2.2.2.2.2.2.2.2.1), ↓ob (hR.2.2.2.2.2.2.2.2.2.2.2.2.2.1), ↓ob (hR.2.2.2.2.2.2.2.2.2.2.2.2.2.2.1), ↓ob (hR.2.2.2.2.2.2.2.2.2.2.2.2.2.2.2.1), ↓ob (hR.2.2.2.2.2.2.2.2.2.2.2.2.2.2.2.2.1), ↓ob (hR.2.2.2.2.2.2.2.2.2.2.2.2.2.2.2.2.2.1), hR.2.2.2.2.2.2.2.2.2.2.2.2.2.2.2.2.2.2.1, hR.2.2.2.2.2.2.2.2.2.2.2.2.2.2.2.2.2.2.2.1, hR.2.2.2.2.2.2.2.2.2.2.2.2.2.2.2.2.2.2.2.2.1, hR.2.2.2.2.2.2.2.2.2.2.2.2.2.2.2.2.2.2.2.2.2.1, hR.2.2.2.2.2.2.2.2.2.2.2.2.2.2.2.2.2.2.2.2.2.2.1, hR.2.2.2.2.2.2.2.2.2.2.2.2.2.2.2.2.2.2.2.2.2.2.2.1, hR.2.2.2.2.2.2.2.2.2.2.2.2.2.2.2.2.2.2.2.2.2.2.2.2.1, hR.2.2.2.2.2.2.2.2.2.2.2.2.2.2.2.2.2.2.2.2.2.2.2.2.2.1, hR.2.2.2.2.2.2.2.2.2.2.2.2.2.2.2.2.2.2.2.2.2.2.2.2.2.2.1, hR.2.2.2.2.2.2.2.2.2.2.2.2.2.2.2.2.2.2.2.2.2.2.2.2.2.2.2.1, hR.2.2.2.2.2.2.2.2.2.2.2.2.2.2.2.2.2.2.2.2.2.2.2.2.2.2.2.2.1, hR.2.2.2.2.2.2.2.2.2.2.2.2.2.2.2.2.2.2.2.2.2.2.2.2.2.2.2.2.2.1, hR.2.2.2.2.2.2.2.2.2.2.2.2.2.2.2.2.2.2.2.2.2.2.2.2.2.2.2.2.2.2.1, hR.2.2.2.2.2.2.2.2.2.2.2.2.2.2.2.2.2.2.2.2.2.2.2.2.2.2.2.2.2.2.2.1, hR.2.2.2.2.2.2.2.2.2.2.2.2.2.2.2.2.2.2.2.2.2.2.2.2.2.2.2.2.2.2.2.2.1, hR.2.2.2.2.2.2.2.2.2.2.2.2.2.2.2.2.2.2.2.2.2.2.2.2.2.2.2.2.2.2.2.2.2.1, hR.2.2.2.2.2.2.2.2.2.2.2.2.2.2.2.2.2.2.2.2.2.2.2.2.2.2.2.2.2.2.2.2.2.2.1, hR.2.2.2.2.2.2.2.2.2.2.2.2.2.2.2.2.2.2.2.2.2.2.2.2.2.2.2.2.2.2.2.2.2.2.2, h2', ↓lt_e, ↓gd_e, ↓Option.bind_some, ↓reduceIte, if_true, if_false, if_pT, if_nF, decide_true, Bool.not_true, Bool.not_false, not_true_eq_false, not_false_eq_true, Bool.false_eq_true, Bool.true_eq_false, eq_self, n3_lit, n3_add, n3_mul, n3_sub, n3_tn, n3_le_t, n3_le_f, n3_lt_t, n3_lt_f, n3_eq_f, n3_eq_t, n3_inb, n3_rem, n3_div, n3_zb, bb_0, bb_1, zb_bb, bb_T, bb_F, n3_dec, n3_m1, n3_eqm, n3_eqmt, n3_ltm, n3_mlt, n3_lem, n3_mle, n3_neg_lt, n3_nlt_neg, n3_nle_neg, n3_neg_le, Nat.zero_add]
    · have hW1 := hW.fr hf (by omega)
      have h71 : μ1.1 (ad 181) 7 = n3 (11 + 1) := by rw [(hf 181 (by omega)).1]; exact h7
      obtain ⟨μ2, e2, g1, g2, f2⟩ := r_rem55 hN hR hW1 hj (by omega) h71
      refine ⟨_, ⟨μ2, rfl, ⟨by rw [(f2 181 (by omega)).1, (hf 181 (by omega)).1]; exact h7, fun j hj k hk => ?_⟩, fun k hk => by rw [(f2 181 (by omega)).1, (hf 181 (by omega)).1], (hf.trans f2).mono (fun i h => Or.inr h)⟩, fun k => ?_⟩
      · match j with
        | 0 => exact g1 k hk
        | j + 1 =>
          have hh := h1 (373 * (12 - 1 - (j + 1)) + k) (by omega)
          rw [Nat.zero_add] at hh
          rw [show min (12 + 1) 12 - 1 - (j + 1) = 12 - 1 - (j + 1) from rfl, g2 _ (by omega), hh, show 373 * (12 - 1 - (j + 1)) + k + 373 = 373 * (12 - 1 - j) + k by omega]
          exact hA j (by omega) k hk
      · simp (disch := omega) only [bd_X12_remembers_11, jn_X12_remembers_53, n3_lit, ↓lt_e, ↓gd_e, ↓Option.bind_some, ↓reduceIte, if_true, if_false, if_pT, if_nF, decide_true, Bool.not_true, Bool.not_false, not_true_eq_false, not_false_eq_true, Bool.false_eq_true, Bool.true_eq_false, eq_self, n3_lit, n3_add, n3_mul, n3_sub, n3_tn, n3_le_t, n3_le_f, n3_lt_t, n3_lt_f, n3_eq_f, n3_eq_t, n3_inb, n3_rem, n3_div, n3_zb, bb_0, bb_1, zb_bb, bb_T, bb_F, n3_dec, n3_m1, n3_eqm, n3_eqmt, n3_ltm, n3_mlt, n3_lem, n3_mle, n3_neg_lt, n3_nlt_neg, n3_nle_neg, n3_neg_le, e2]
  · have f0 : Fr ad (fun i => i = 181) μ (mset μ (ad 181) 7 (n3 (m + 1))) := (Fr.refl μ).set hj (by rfl)
    have hW0 := hW.fr f0 (by omega)
    obtain ⟨μ2, e2, g1, g2, f2⟩ := r_rem55 hN hR hW0 hj (m := m) (by omega) (mse _ _ _ _)
    refine ⟨μ2, ?_, ⟨?_, fun j hj k hk => ?_⟩, fun k hk => by rw [(f2 181 (by omega)).1, msn hk], (f0.mono (fun i h => Or.inl h)).trans (f2.mono (fun i h => Or.inr h))⟩
    · simp (disch := omega) only [m_X12_remembers, jn_X12_remembers_53, h7, ↓lt_e, ↓gd_e, ↓Option.bind_some, ↓reduceIte, if_true, if_false, if_pT, if_nF, decide_true, Bool.not_true, Bool.not_false, not_true_eq_false, not_false_eq_true, Bool.false_eq_true, Bool.true_eq_false, eq_self, n3_lit, n3_add, n3_mul, n3_sub, n3_tn, n3_le_t, n3_le_f, n3_lt_t, n3_lt_f, n3_eq_f, n3_eq_t, n3_inb, n3_rem, n3_div, n3_zb, bb_0, bb_1, zb_bb, bb_T, bb_F, n3_dec, n3_m1, n3_eqm, n3_eqmt, n3_ltm, n3_mlt, n3_lem, n3_mle, n3_neg_lt, n3_nlt_neg, n3_nle_neg, n3_neg_le, e2]
    · rw [(f2 181 (by omega)).1, mse]; congr 1; omega
    · match j with
      | 0 => rw [show min (m + 1) 12 - 1 - 0 = m by omega]; exact g1 k hk
      | j + 1 =>
        rw [show min (m + 1) 12 - 1 - (j + 1) = m - 1 - j by omega, g2 _ (by omega), (f0 186 (by omega)).1]
        exact hA j (by omega) k hk
theorem r_undo1 {N : Nat} (hN : 1099511627776 ≤ N) {Λ : Lay} {ad : Nat → Nat} {μ : Mem} {F : Nat → Nat} (hR : LyR Λ ad) (hW : Row μ (ad 182) 1222 F)  (hj : Inj ad) {m : Nat} {A : Nat → Nat → Nat} (hm : m < 12) (hP : PsR ad μ (m + 1) A) : ∃ μ', m_X12_undo N Λ μ (ad 181) = some (n3 1, μ') ∧ Row μ' (ad 182) 1222 (mix (A 0) F) ∧ PsR ad μ' m (fun j => A (j + 1)) ∧ μ'.1 (ad 181) 0 = n3 0 ∧ (∀ k, k ≠ 0 → k ≠ 7 → μ'.1 (ad 181) k = μ.1 (ad 181) k) ∧ Fr ad (fun i => i = 181 ∨ i = 182) μ μ' := by
  obtain ⟨h7, hA⟩ := hP
  have f0 : Fr ad (fun i => i = 181) μ (mset (mset μ (ad 181) 0 (n3 0)) (ad 181) 7 (n3 m)) := ((Fr.refl μ).set hj (by rfl)).set hj (by rfl)
  have hA0 : ∀ k, k < 373 → (mset (mset μ (ad 181) 0 (n3 0)) (ad 181) 7 (n3 m)).1 (ad 186) (373 * m + k) = n3 (A 0 k) := fun k hk => by rw [(f0 186 (by omega)).1]; exact hA 0 (by omega) k hk
  simp (disch := omega) only [m_X12_undo, lp_X12_undo_26, ↓lt_e, ↓gd_e, ↓Option.bind_some, ↓reduceIte, if_true, if_false, if_pT, if_nF, decide_true, Bool.not_true, Bool.not_false, not_true_eq_false, not_false_eq_true, Bool.false_eq_true, Bool.true_eq_false, eq_self, n3_lit, n3_add, n3_mul, n3_sub, n3_tn, n3_le_t, n3_le_f, n3_lt_t, n3_lt_f, n3_eq_f, n3_eq_t, n3_inb, n3_rem, n3_div, n3_zb, bb_0, bb_1, zb_bb, bb_T, bb_F, n3_dec, n3_m1, n3_eqm, n3_eqmt, n3_ltm, n3_mlt, n3_lem, n3_mle, n3_neg_lt, n3_nlt_neg, n3_nle_neg, n3_neg_le, msn, h7, Nat.add_sub_cancel]
  refine cp_loop (Q := fun X => ∃ μ', X = some (n3 1, μ') ∧ Row μ' (ad 182) 1222 (mix (A 0) F) ∧ PsR ad μ' m (fun j => A (j + 1)) ∧ μ'.1 (ad 181) 0 = n3 0 ∧ (∀ k, k ≠ 0 → k ≠ 7 → μ'.1 (ad 181) k = μ.1 (ad 181) k) ∧ Fr ad (fun i => i = 181 ∨ i = 182) μ μ') hj 182 0 373 (fun k => n3 (A 0 k)) (fun i hi μ1 hf h2 k => ?_) (fun μ1 hf h1 h2 => ⟨_, ⟨μ1, rfl, fun k hk => ?_, ⟨?_, fun j hjm k hk => ?_⟩, ?_, fun k k0 k6 => ?_, ?_⟩, fun k => ?_⟩) (by omega)
  · have hJ1 : ∀ k, k < 373 → μ1.1 (ad 186) (373 * m + k) = n3 (A 0 k) := fun k hk => by rw [(hf 186 (by omega)).1]; exact hA0 k hk
    have h71 : μ1.1 (ad 181) 7 = n3 m := by rw [(hf 181 (by omega)).1, mse]
    simp (disch := omega) only [bd_X12_undo_26, ↓ob (hR.1), ↓ob (hR.2.1), ↓ob (hR.2.2.1), ↓ob (hR.2.2.2.1), ↓ob (hR.2.2.2.2.1), ↓ob (hR.2.2.2.2.2.1), ↓ob (hR.2.2.2.2.2.2.1), ↓ob (hR.2.2.2.2.2.2.2.1), ↓ob (hR.2.2.2.2.2.2.2.2.1), ↓ob (hR.2.2.2.2.2.2.2.2.2.1), ↓ob (hR.2.2.2.2.2.2.2.2.2.2.1), ↓ob (hR.2.2.2.2.2.2.2.2.2.2.2.1), ↓ob (hR.2.2.2.2.2.2.2.2.2.2.2.2.1), ↓ob (hR.2.2.2.2.2.2.2.2.2.2.2.2.2.1), ↓ob (hR.2.2.2.2.2.2.2.2.2.2.2.2.2.2.1), ↓ob (hR.2.2.2.2.2.2.2.2.2.2.2.2.2.2.2.1), ↓ob (hR.2.2.2.2.2.2.2.2.2.2.2.2.2.2.2.2.1), ↓ob (hR.2.2.2.2.2.2.2.2.2.2.2.2.2.2.2.2.2.1), hR.2.2.2.2.2.2.2.2.2.2.2.2.2.2.2.2.2.2.1, hR.2.2.2.2.2.2.2.2.2.2.2.2.2.2.2.2.2.2.2.1, hR.2.2.2.2.2.2.2.2.2.2.2.2.2.2.2.2.2.2.2.2.1, hR.2.2.2.2.2.2.2.2.2.2.2.2.2.2.2.2.2.2.2.2.2.1, hR.2.2.2.2.2.2.2.2.2.2.2.2.2.2.2.2.2.2.2.2.2.2.1, hR.2.2.2.2.2.2.2.2.2.2.2.2.2.2.2.2.2.2.2.2.2.2.2.1, hR.2.2.2.2.2.2.2.2.2.2.2.2.2.2.2.2.2.2.2.2.2.2.2.2.1, hR.2.2.2.2.2.2.2.2.2.2.2.2.2.2.2.2.2.2.2.2.2.2.2.2.2.1, hR.2.2.2.2.2.2.2.2.2.2.2.2.2.2.2.2.2.2.2.2.2.2.2.2.2.2.1, hR.2.2.2.2.2.2.2.2.2.2.2.2.2.2.2.2.2.2.2.2.2.2.2.2.2.2.2.1, hR.2.2.2.2.2.2.2.2.2.2.2.2.2.2.2.2.2.2.2.2.2.2.2.2.2.2.2.2.1, hR.2.2.2.2.2.2.2.2.2.2.2.2.2.2.2.2.2.2.2.2.2.2.2.2.2.2.2.2.2.1, hR.2.2.2.2.2.2.2.2.2.2.2.2.2.2.2.2.2.2.2.2.2.2.2.2.2.2.2.2.2.2.1, hR.2.2.2.2.2.2.2.2.2.2.2.2.2.2.2.2.2.2.2.2.2.2.2.2.2.2.2.2.2.2.2.1, hR.2.2.2.2.2.2.2.2.2.2.2.2.2.2.2.2.2.2.2.2.2.2.2.2.2.2.2.2.2.2.2.2.1, hR.2.2.2.2.2.2.2.2.2.2.2.2.2.2.2.2.2.2.2.2.2.2.2.2.2.2.2.2.2.2.2.2.2.1, hR.2.2.2.2.2.2.2.2.2.2.2.2.2.2.2.2.2.2.2.2.2.2.2.2.2.2.2.2.2.2.2.2.2.2.1, hR.2.2.2.2.2.2.2.2.2.2.2.2.2.2.2.2.2.2.2.2.2.2.2.2.2.2.2.2.2.2.2.2.2.2.2, hJ1, h71, ↓lt_e, ↓gd_e, ↓Option.bind_some, ↓reduceIte, if_true, if_false, if_pT, if_nF, decide_true, Bool.not_true, Bool.not_false, not_true_eq_false, not_false_eq_true, Bool.false_eq_true, Bool.true_eq_false, eq_self, n3_lit, n3_add, n3_mul, n3_sub, n3_tn, n3_le_t, n3_le_f, n3_lt_t, n3_lt_f, n3_eq_f, n3_eq_t, n3_inb, n3_rem, n3_div, n3_zb, bb_0, bb_1, zb_bb, bb_T, bb_F, n3_dec, n3_m1, n3_eqm, n3_eqmt, n3_ltm, n3_mlt, n3_lem, n3_mle, n3_neg_lt, n3_nlt_neg, n3_nle_neg, n3_neg_le, Nat.zero_add]
  · unfold mix; split
    · next h => have := h1 k h; rw [Nat.zero_add] at this; exact this
    · next h => rw [h2 k (by omega), (f0 182 (by omega)).1]; exact hW k hk
  · rw [(hf 181 (by omega)).1, mse]
  · rw [(hf 186 (by omega)).1, (f0 186 (by omega)).1, show 373 * (m - 1 - j) + k = 373 * (m + 1 - 1 - (j + 1)) + k by omega]
    exact hA (j + 1) (by omega) k hk
  · rw [(hf 181 (by omega)).1, msn (by omega), mse]
  · rw [(hf 181 (by omega)).1, msn k6, msn k0]
  · exact (f0.mono (fun i h => Or.inl h)).trans (hf.mono (fun i h => Or.inr h))
  · simp (disch := omega) only [bd_X12_undo_26, ↓lt_e, ↓gd_e, ↓Option.bind_some, ↓reduceIte, if_true, if_false, if_pT, if_nF, decide_true, Bool.not_true, Bool.not_false, not_true_eq_false, not_false_eq_true, Bool.false_eq_true, Bool.true_eq_false, eq_self, n3_lit, n3_add, n3_mul, n3_sub, n3_tn, n3_le_t, n3_le_f, n3_lt_t, n3_lt_f, n3_eq_f, n3_eq_t, n3_inb, n3_rem, n3_div, n3_zb, bb_0, bb_1, zb_bb, bb_T, bb_F, n3_dec, n3_m1, n3_eqm, n3_eqmt, n3_ltm, n3_mlt, n3_lem, n3_mle, n3_neg_lt, n3_nlt_neg, n3_nle_neg, n3_neg_le]
/-! the calls: forms -/
def CT (ad : Nat → Nat) (μ : Mem) (r : Option RX_) (c : Nat) (v : Int32) (F : Nat → Nat) (m : Nat) (A : Nat → Nat → Nat) (b : Nat) (J : Nat → Nat) (T : Nat → Int32) (n : Nat) (f : Int32) : Prop := ∃ μ', r = some (c, v, μ') ∧ RC ad μ' F m A b J T n f ∧ Fr ad (fun i => i < 181) μ μ'
def CV (ad : Nat → Nat) (μ : Mem) (r : Option (Int32 × Mem)) (v : Int32) (F : Nat → Nat) (m : Nat) (A : Nat → Nat → Nat) (b : Nat) (J : Nat → Nat) (T : Nat → Int32) (n : Nat) (f : Int32) : Prop := ∃ μ', r = some (v, μ') ∧ RC ad μ' F m A b J T n f ∧ Fr ad (fun i => i < 181) μ μ'
def RV (ad : Nat → Nat) (μ : Mem) (r : Option (Int32 × Mem)) (t : Nat) (v : Int32) (F : Nat → Nat) (m : Nat) (A : Nat → Nat → Nat) (b : Nat) (J : Nat → Nat) (T : Nat → Int32) (n : Nat) (f : Int32) : Prop := ∃ μ', r = some (v, μ') ∧ μ'.1 (ad 181) 0 = n3 t ∧ RR ad μ' F m A b J T n f ∧ Fr ad (fun i => 181 ≤ i ∧ i < 200) μ μ'
theorem RR.thr {ad : Nat → Nat} {μ : Mem} {F : Nat → Nat} {m : Nat} {A : Nat → Nat → Nat} {b : Nat} {J : Nat → Nat} {T : Nat → Int32} {n : Nat} {f : Int32} (hj : Inj ad) (h : RR ad μ F m A b J T n f) (v : Int32) : RR ad (mset μ (ad 181) 0 v) F m A b J T n f :=
  h.fr ((Fr.refl μ).set hj (by unfold ScR; omega)) (msn (by omega)) (msn (by omega)) (msn (by omega)) (msn (by omega))
theorem RV.start {ad : Nat → Nat} {μ : Mem} {F : Nat → Nat} {m : Nat} {A : Nat → Nat → Nat} {b : Nat} {J : Nat → Nat} {T : Nat → Int32} {n : Nat} {f : Int32} {g : Mem → Option (Int32 × Mem)} {t : Nat} {v : Int32} {F' : Nat → Nat} {m' : Nat} {A' : Nat → Nat → Nat} {b' : Nat} {J' : Nat → Nat} {T' : Nat → Int32} {n' : Nat} {f' : Int32} (hj : Inj ad) (h : RR ad μ F m A b J T n f) (hg : ∀ μ0, RR ad μ0 F m A b J T n f → μ0.1 (ad 181) 0 = n3 0 → RV ad μ0 (g μ0) t v F' m' A' b' J' T' n' f') : RV ad μ (lt (mset μ (ad 181) 0 0) g) t v F' m' A' b' J' T' n' f' := by
  obtain ⟨μ', e, h1, h2, h3⟩ := hg _ (h.thr hj (n3 0)) (mse _ _ _ _)
  exact ⟨μ', e, h1, h2, ((Fr.refl μ).set hj (by omega)).trans h3⟩
theorem RV.same {ad : Nat → Nat} {μ : Mem} {F : Nat → Nat} {m : Nat} {A : Nat → Nat → Nat} {b : Nat} {J : Nat → Nat} {T : Nat → Int32} {n : Nat} {f : Int32} {r : Option (Int32 × Mem)} {t : Nat} {v : Int32} (h : RR ad μ F m A b J T n f) (ht : μ.1 (ad 181) 0 = n3 t) (e : r = some (v, μ)) : RV ad μ r t v F m A b J T n f := ⟨μ, e, ht, h, Fr.refl μ⟩
theorem RV.thrown {ad : Nat → Nat} {μ : Mem} {F : Nat → Nat} {m : Nat} {A : Nat → Nat → Nat} {b : Nat} {J : Nat → Nat} {T : Nat → Int32} {n : Nat} {f : Int32} {r : Option (Int32 × Mem)} {t : Nat} {v : Int32} (hj : Inj ad) (h : RR ad μ F m A b J T n f) (e : r = some (v, mset μ (ad 181) 0 (n3 t))) : RV ad μ r t v F m A b J T n f := ⟨_, e, mse _ _ _ _, h.thr hj _, (Fr.refl μ).set hj (by omega)⟩
/-- what the reference writes for itself -/
def ScX (i : Nat) : Prop := i = 184 ∨ i = 185 ∨ (188 ≤ i ∧ i < 200)
theorem RV.scr {ad : Nat → Nat} {μ μ' : Mem} {F : Nat → Nat} {m : Nat} {A : Nat → Nat → Nat} {b : Nat} {J : Nat → Nat} {T : Nat → Int32} {n : Nat} {f : Int32} {r : Option (Int32 × Mem)} {t : Nat} {v : Int32} (h : RR ad μ F m A b J T n f) (ht : μ.1 (ad 181) 0 = n3 t) (hf : Fr ad ScX μ μ') (e : r = some (v, μ')) : RV ad μ r t v F m A b J T n f := by
  have e1 := (hf 181 (by unfold ScX; omega)).1
  exact ⟨μ', e, by rw [e1]; exact ht, h.fr (hf.mono (fun i hi => by unfold ScX at hi; unfold ScR; omega)) (by rw [e1]) (by rw [e1]) (by rw [e1]) (by rw [e1]), hf.mono (fun i hi => by unfold ScX at hi; omega)⟩
theorem CT.same {ad : Nat → Nat} {μ : Mem} {F : Nat → Nat} {m : Nat} {A : Nat → Nat → Nat} {b : Nat} {J : Nat → Nat} {T : Nat → Int32} {n : Nat} {f : Int32} {r : Option RX_} {c : Nat} {v : Int32} (h : RC ad μ F m A b J T n f) (e : r = some (c, v, μ)) : CT ad μ r c v F m A b J T n f := ⟨μ, e, h, Fr.refl μ⟩
theorem CT.scr {ad : Nat → Nat} {μ μ' : Mem} {F : Nat → Nat} {m : Nat} {A : Nat → Nat → Nat} {b : Nat} {J : Nat → Nat} {T : Nat → Int32} {n : Nat} {f : Int32} {r : Option RX_} {c : Nat} {v : Int32} (h : RC ad μ F m A b J T n f) (hf : Fr ad (fun i => ScC i ∧ i < 181) μ μ') (e : r = some (c, v, μ')) : CT ad μ r c v F m A b J T n f := ⟨μ', e, h.fr (hf.mono (fun i hi => hi.1)), hf.mono (fun i hi => hi.2)⟩
theorem CV.scr {ad : Nat → Nat} {μ μ' : Mem} {F : Nat → Nat} {m : Nat} {A : Nat → Nat → Nat} {b : Nat} {J : Nat → Nat} {T : Nat → Int32} {n : Nat} {f : Int32} {r : Option (Int32 × Mem)} {v : Int32} (h : RC ad μ F m A b J T n f) (hf : Fr ad (fun i => ScC i ∧ i < 181) μ μ') (e : r = some (v, μ')) : CV ad μ r v F m A b J T n f := ⟨μ', e, h.fr (hf.mono (fun i hi => hi.1)), hf.mono (fun i hi => hi.2)⟩
/-! whether an int lies in bounds -/
def inr (x : Int32) (b : Nat) : Bool := decide (n3 0 ≤ x) && decide (x < n3 b)
theorem inr_iff {x : Int32} {b : Nat} : inr x b = true ↔ n3 0 ≤ x ∧ x < n3 b := by simp [inr]
theorem inr_t {x : Int32} {b : Nat} (hb : b < 2147483648) (h : inr x b = true) : ∃ s, s < b ∧ x = n3 s := n3_of_lt hb (inr_iff.1 h).1 (inr_iff.1 h).2
theorem inr_n3 {s b : Nat} (h : s < b) (hb : b < 2147483648) : inr (n3 s) b = true := inr_iff.2 ⟨by rw [n3_le_c (by omega) (by omega)]; omega, by rw [n3_lt_c (by omega) hb]; exact h⟩
theorem le_lt {x : Int32} {c : Nat} (hc : c + 1 < 2147483648) : (x ≤ n3 c) = (x < n3 (c + 1)) := by
  apply propext
  rw [Int32.le_iff_toInt_le, Int32.lt_iff_toInt_lt, n3_toInt (by omega), n3_toInt hc]; omega
theorem r_in0 {N : Nat} {Λ : Lay} {μ : Mem} (x : Int32) {c : Nat} (hc : c + 1 < 2147483648) : m_X12_in N Λ μ x (n3 0) (n3 c) = some (n3 (bb (inr x (c + 1) = true))) := by
  rw [r_in]; exact congrArg (fun k => some (n3 k)) (bb_c (by rw [le_lt hc]; exact inr_iff.symm))
theorem r_noPl {N : Nat} {Λ : Lay} {μ : Mem} (x : Int32) : m_X12_noPlace N Λ μ x = some (n3 (bb (inr x 24 = false))) := by
  rw [r_noPlace]; exact congrArg (fun k => some (n3 k)) (bb_c (by rw [le_lt (by omega), ← inr_iff, Bool.not_eq_true]))
theorem r_noSh {N : Nat} {Λ : Lay} {ad : Nat → Nat} {μ : Mem} {F : Nat → Nat} (hR : LyR Λ ad) (hW : Row μ (ad 182) 1222 F)  (h8 : F 0 ≤ 8) (x : Int32) : m_X12_noShip N Λ μ (ad 181) x = some (n3 (bb (inr x (F 0) = false))) := by
  rw [r_noShip hR hW]
  have e : (n3 0 ≤ x ∧ x ≤ n3 (F 0) - n3 1) ↔ (n3 0 ≤ x ∧ x < n3 (F 0)) := by
    by_cases h0 : F 0 = 0
    · rw [h0, n3_m1, Int32.le_iff_toInt_le, Int32.le_iff_toInt_le, Int32.lt_iff_toInt_lt, n3_toInt (by omega)]
      have : (n3 4294967295).toInt = -1 := by decide
      omega
    · rw [n3_sub (by omega), le_lt (by omega), show F 0 - 1 + 1 = F 0 by omega]
  exact congrArg (fun k => some (n3 k)) (bb_c (by rw [e, ← inr_iff, Bool.not_eq_true]))
theorem c_need1 {N : Nat} {Λ : Lay} {ad : Nat → Nat} {μ : Mem} {F : Nat → Nat} (hP : LyP Λ ad) (hC : CS ad μ 3 F) (x : Int32) : m_X11_needShip N Λ μ (ad 0) x = some (if inr x (F 0) = true then 0 else 3, 0, μ) := by
  have q8 : μ.1 (ad 3) 8 = n3 (F 0) := hC.2.2.2.2.2.2.2.2.1
  unfold m_X11_needShip jn_X11_needShip_15
  rw [n3_lit 0]
  by_cases h1 : x < n3 0
  · rw [if_pos h1, if_neg (fun h => Int32.not_le.2 h1 (inr_iff.1 h).1)]
  · rw [if_neg h1, ob hP.2.1, q8]
    by_cases h2 : x < n3 (F 0)
    · rw [if_pos h2, if_pos (inr_iff.2 ⟨Int32.not_lt.1 h1, h2⟩)]
    · rw [if_neg h2, if_neg (fun h => h2 (inr_iff.1 h).2)]
theorem c_need2 {N : Nat} {Λ : Lay} {ad : Nat → Nat} {μ : Mem} (x : Int32) : m_X11_needPlace N Λ μ (ad 0) x = some (if inr x 24 = true then 0 else 3, 0, μ) := by
  by_cases h1 : x < n3 0
  · have hb : inr x 24 = false := Bool.eq_false_iff.2 (fun h => Int32.not_le.2 h1 (inr_iff.1 h).1)
    simp only [m_X11_needPlace, jn_X11_needPlace_10, n3_lit, h1, hb, Bool.false_eq_true, ↓reduceIte]
  · by_cases h2 : x < n3 24
    · have hb : inr x 24 = true := inr_iff.2 ⟨Int32.not_lt.1 h1, h2⟩
      simp only [m_X11_needPlace, jn_X11_needPlace_10, n3_lit, h1, h2, hb, ↓reduceIte]
    · have hb : inr x 24 = false := Bool.eq_false_iff.2 (fun h => h2 (inr_iff.1 h).2)
      simp only [m_X11_needPlace, jn_X11_needPlace_10, n3_lit, h1, h2, hb, Bool.false_eq_true, ↓reduceIte]
theorem c_need3 {N : Nat} {Λ : Lay} {ad : Nat → Nat} {μ : Mem} (x : Int32) : m_X11_needTide N Λ μ (ad 0) x = some (if inr x 12 = true then 0 else 3, 0, μ) := by
  by_cases h1 : x < n3 0
  · have hb : inr x 12 = false := Bool.eq_false_iff.2 (fun h => Int32.not_le.2 h1 (inr_iff.1 h).1)
    simp only [m_X11_needTide, jn_X11_needTide_10, n3_lit, h1, hb, Bool.false_eq_true, ↓reduceIte]
  · by_cases h2 : x < n3 12
    · have hb : inr x 12 = true := inr_iff.2 ⟨Int32.not_lt.1 h1, h2⟩
      simp only [m_X11_needTide, jn_X11_needTide_10, n3_lit, h1, h2, hb, ↓reduceIte]
    · have hb : inr x 12 = false := Bool.eq_false_iff.2 (fun h => h2 (inr_iff.1 h).2)
      simp only [m_X11_needTide, jn_X11_needTide_10, n3_lit, h1, h2, hb, Bool.false_eq_true, ↓reduceIte]
theorem c_need4 {N : Nat} {Λ : Lay} {ad : Nat → Nat} {μ : Mem} (x : Int32) {c : Nat} (hc : c + 1 < 2147483648) : m_X11_needNumber N Λ μ (ad 0) x (n3 c) = some (if inr x (c + 1) = true then 0 else 1, 0, μ) := by
  by_cases h1 : x < n3 0
  · have hb : inr x (c + 1) = false := Bool.eq_false_iff.2 (fun h => Int32.not_le.2 h1 (inr_iff.1 h).1)
    simp only [m_X11_needNumber, jn_X11_needNumber_9, n3_lit, le_lt hc, h1, hb, Bool.false_eq_true, ↓reduceIte]
  · by_cases h2 : x < n3 (c + 1)
    · have hb : inr x (c + 1) = true := inr_iff.2 ⟨Int32.not_lt.1 h1, h2⟩
      simp only [m_X11_needNumber, jn_X11_needNumber_9, n3_lit, le_lt hc, h1, h2, hb, ↓reduceIte]
    · have hb : inr x (c + 1) = false := Bool.eq_false_iff.2 (fun h => h2 (inr_iff.1 h).2)
      simp only [m_X11_needNumber, jn_X11_needNumber_9, n3_lit, le_lt hc, h1, h2, hb, Bool.false_eq_true, ↓reduceIte]
theorem r_thr0 {N : Nat} {Λ : Lay} {μ : Mem} {a : Nat} (c : Int32) : m_X12_throwsIf N Λ μ a (n3 0) c = some (n3 0, μ) := by
  simp (disch := omega) only [jn_X12_throwsIf_9, m_X12_throwsIf, ↓lt_e, ↓gd_e, ↓Option.bind_some, ↓reduceIte, if_true, if_false, if_pT, if_nF, decide_true, Bool.not_true, Bool.not_false, not_true_eq_false, not_false_eq_true, Bool.false_eq_true, Bool.true_eq_false, eq_self, n3_lit, n3_add, n3_mul, n3_sub, n3_tn, n3_le_t, n3_le_f, n3_lt_t, n3_lt_f, n3_eq_f, n3_eq_t, n3_inb, n3_rem, n3_div, n3_zb, bb_0, bb_1, zb_bb, bb_T, bb_F, n3_dec, n3_m1, n3_eqm, n3_eqmt, n3_ltm, n3_mlt, n3_lem, n3_mle, n3_neg_lt, n3_nlt_neg, n3_nle_neg, n3_neg_le]
theorem r_thr1 {N : Nat} {Λ : Lay} {μ : Mem} {a : Nat} (c : Int32) : m_X12_throwsIf N Λ μ a (n3 1) c = some (n3 1, mset μ a 0 c) := by
  simp (disch := omega) only [jn_X12_throwsIf_9, m_X12_throwsIf, ↓lt_e, ↓gd_e, ↓Option.bind_some, ↓reduceIte, if_true, if_false, if_pT, if_nF, decide_true, Bool.not_true, Bool.not_false, not_true_eq_false, not_false_eq_true, Bool.false_eq_true, Bool.true_eq_false, eq_self, n3_lit, n3_add, n3_mul, n3_sub, n3_tn, n3_le_t, n3_le_f, n3_lt_t, n3_lt_f, n3_eq_f, n3_eq_t, n3_inb, n3_rem, n3_div, n3_zb, bb_0, bb_1, zb_bb, bb_T, bb_F, n3_dec, n3_m1, n3_eqm, n3_eqmt, n3_ltm, n3_mlt, n3_lem, n3_mle, n3_neg_lt, n3_nlt_neg, n3_nle_neg, n3_neg_le]
theorem thn_t {α : Type} {p : Prop} [Decidable p] {e t : Option α} (h : p) : thn p e t = t := if_pos h
theorem thn_e {α : Type} {p : Prop} [Decidable p] (e t : Option α) : thn p e t = if p then t else e := rfl
/-! single figures told -/
theorem RR.up {ad : Nat → Nat} {μ : Mem} {F : Nat → Nat} {m : Nat} {A : Nat → Nat → Nat} {b : Nat} {J : Nat → Nat} {T : Nat → Int32} {n : Nat} {f : Int32} (hj : Inj ad) (h : RR ad μ F m A b J T n f) (k v : Nat) : RR ad (mset μ (ad 182) k (n3 v)) (up F k v) m A b J T n f := by
  obtain ⟨h1, h2, h3, h4, h5⟩ := h
  unfold PsR at *
  exact ⟨h1.set k v, ⟨by rw [mso hj (by omega)]; exact h2.1, by rw [mso hj (by omega)]; exact h2.2⟩, ⟨by rw [mso hj (by omega)]; exact h3.1, by unfold Row; rw [mso hj (by omega)]; exact h3.2⟩, ⟨by rw [mso hj (by omega)]; exact h4.1, by rw [mso hj (by omega)]; exact h4.2⟩, by rw [mso hj (by omega)]; exact h5⟩
theorem RC.wr {ad : Nat → Nat} {μ : Mem} {F : Nat → Nat} {m : Nat} {A : Nat → Nat → Nat} {b : Nat} {J : Nat → Nat} {T : Nat → Int32} {n : Nat} {f : Int32} (hj : Inj ad) (h : RC ad μ F m A b J T n f) (hw : WF F) (k v : Nat) (hk : k < 25 + 6 * F 0) (hl : liv k) (h0 : k ≠ 0) (h11 : k ≠ 11) (a i : Nat) (ha : a = 3 + lcO k) (hi : i = lcI k) : RC ad (mset μ (ad a) i (n3 v)) (up F k v) m A b J T n f ∧ (3 ≤ a ∧ a ≤ 11) := by
  have hb := hw.1; unfold WB at hb
  have hC := h.1.wr hj hb.1 hb.2.2.2.2.2.2.2.2.2.2.2.1 k v hk hl h0 h11 a i ha hi
  have ha2 : 3 ≤ a ∧ a ≤ 11 := by
    have : ∀ k, k < 73 → lcO k ≤ 8 := by decide +kernel
    have := this k (by omega)
    omega
  have f0 : Fr ad (fun j => 3 ≤ j ∧ j ≤ 11) μ (mset μ (ad a) i (n3 v)) := (Fr.refl μ).set hj ha2
  obtain ⟨h1, h2, ⟨nx, h3, h4, h5, h6⟩, ⟨h7, h8⟩, ⟨h9, h10⟩, h11'⟩ := h
  refine ⟨⟨hC, (h2.of ((LwE.refl F).up hl.1 (by omega))).fr f0 (fun i a b => by omega), ⟨nx, h3, by rw [(f0 56 (by omega)).1]; exact h4, by rw [(f0 56 (by omega)).1]; exact h5, fun j hj => (h6 j hj).fr f0 (fun i a b => by omega)⟩, ⟨by rw [(f0 0 (by omega)).1]; exact h7, fun hb => ⟨(h8 hb).1.fr f0 (fun i a b => by omega), (h8 hb).2.fr f0 (fun i a b => by omega)⟩⟩, ⟨by rw [(f0 1 (by omega)).1]; exact h9, by rw [(f0 2 (by omega)).1]; exact h10⟩, by rw [(f0 0 (by omega)).1]; exact h11'⟩, ha2⟩
/-- any change of the present state -/
theorem RC.to {ad : Nat → Nat} {μ μ' : Mem} {F : Nat → Nat} {m : Nat} {A : Nat → Nat → Nat} {b : Nat} {J : Nat → Nat} {T : Nat → Int32} {n : Nat} {f : Int32} (h : RC ad μ F m A b J T n f) {G : Nat → Nat} (hC : CS ad μ' 3 G) (e : LwE F G) (hf : Fr ad (fun i => (3 ≤ i ∧ i ≤ 11) ∨ ScC i) μ μ') : RC ad μ' G m A b J T n f := by
  obtain ⟨h1, h2, ⟨nx, h3, h4, h5, h6⟩, ⟨h7, h8⟩, ⟨h9, h10⟩, h11'⟩ := h
  refine ⟨hC, (h2.of e).fr hf (fun i a b => by unfold ScC; omega), ⟨nx, h3, by rw [(hf 56 (by unfold ScC; omega)).1]; exact h4, by rw [(hf 56 (by unfold ScC; omega)).1]; exact h5, fun j hj => (h6 j hj).fr hf (fun i a b => by unfold ScC; omega)⟩, ⟨by rw [(hf 0 (by unfold ScC; omega)).1]; exact h7, fun hb => ⟨(h8 hb).1.fr hf (fun i a b => by unfold ScC; omega), (h8 hb).2.fr hf (fun i a b => by unfold ScC; omega)⟩⟩, ⟨by rw [(hf 1 (by unfold ScC; omega)).1]; exact h9, by rw [(hf 2 (by unfold ScC; omega)).1]; exact h10⟩, by rw [(hf 0 (by unfold ScC; omega)).1]; exact h11'⟩
theorem RR.to {ad : Nat → Nat} {μ μ' : Mem} {F : Nat → Nat} {m : Nat} {A : Nat → Nat → Nat} {b : Nat} {J : Nat → Nat} {T : Nat → Int32} {n : Nat} {f : Int32} (h : RR ad μ F m A b J T n f) {G : Nat → Nat} (hW : Row μ' (ad 182) 1222 G) (hf : Fr ad (fun i => i = 182 ∨ ScX i) μ μ') : RR ad μ' G m A b J T n f := by
  have q : ∀ i, i = 181 ∨ i = 183 ∨ 186 ≤ i ∧ i ≤ 187 → μ'.1 (ad i) = μ.1 (ad i) := fun i hi => (hf i (by unfold ScX; omega)).1
  unfold RR PsR Row at *
  rw [q 181 (by omega), q 183 (by omega), q 186 (by omega), q 187 (by omega)]
  exact ⟨hW, h.2⟩
theorem r_rem {N : Nat} (hN : 1099511627776 ≤ N) {Λ : Lay} {ad : Nat → Nat} {μ : Mem} {F : Nat → Nat} {m : Nat} {A : Nat → Nat → Nat} {b : Nat} {J : Nat → Nat} {T : Nat → Int32} {n : Nat} {f : Int32} (hY : Ly Λ ad) (h : RR ad μ F m A b J T n f) (ho : Ok F m A b J T n)  : ∃ μ', m_X12_remembers N Λ μ (ad 181) = some μ' ∧ RR ad μ' F (min (m + 1) 12) (rmA F A) b J T n f ∧ μ'.1 (ad 181) 0 = μ.1 (ad 181) 0 ∧ Fr ad (fun i => 181 ≤ i ∧ i < 200) μ μ' := by
  obtain ⟨μ1, e1, h1, h2, h3⟩ := r_remembers hN hY.2.1 h.1 hY.1 ho.2.2.1 h.2.1
  refine ⟨μ1, e1, ⟨h.1.fr h3 (by omega), h1, ⟨by rw [h2 6 (by omega)]; exact h.2.2.1.1, fun hb => Row.fr (h.2.2.1.2 hb) h3 (by omega)⟩, ⟨by rw [h2 9 (by omega)]; exact h.2.2.2.1.1, by rw [(h3 187 (by omega)).1]; exact h.2.2.2.1.2⟩, by rw [h2 14 (by omega)]; exact h.2.2.2.2⟩, h2 0 (by omega), h3.mono (fun i hi => by omega)⟩
theorem Ok.rem {F : Nat → Nat} {m : Nat} {A : Nat → Nat → Nat} {b : Nat} {J : Nat → Nat} {T : Nat → Int32} {n : Nat} (ho : Ok F m A b J T n) : Ok F (min (m + 1) 12) (rmA F A) b J T n := by
  obtain ⟨h1, h2, h3, h4, h5⟩ := ho
  refine ⟨h1, h2, by omega, fun j hj => ?_, h5⟩
  match j with
  | 0 => exact ⟨h1, rfl⟩
  | j + 1 => exact h4 j (by omega)
theorem Ok.to {F G : Nat → Nat} {m : Nat} {A : Nat → Nat → Nat} {b : Nat} {J : Nat → Nat} {T : Nat → Int32} {n : Nat} (ho : Ok F m A b J T n) (hw : WF G) (hl : LwE F G) : Ok G m A b J T n :=
  ⟨hw, ho.2.1.of hl, ho.2.2.1, fun j hj => ⟨(ho.2.2.2.1 j hj).1, by rw [hl.1]; exact (ho.2.2.2.1 j hj).2⟩, ho.2.2.2.2⟩

/-! writing to a state of the class; the log -/
def lcO (k : Nat) : Nat := if k < 25 then (if 13 ≤ k then 1 else if k = 11 then 7 else 0) else (k - 25) % 6 + 2
def lcI (k : Nat) : Nat := if k < 25 then (if 13 ≤ k then k - 13 else [8, 7, 99, 0, 11, 2, 3, 4, 5, 1, 9, 0, 6].getD k 99) else (k - 25) / 6
def liv (k : Nat) : Prop := k ≠ 2 ∧ ¬ (25 ≤ k ∧ (k - 25) % 6 = 5)
theorem lc_inj0 : ∀ k, k < 73 → ∀ j, j < 73 → (k ≠ 2 ∧ j ≠ 2 ∧ ¬ (25 ≤ k ∧ (k - 25) % 6 = 5) ∧ ¬ (25 ≤ j ∧ (j - 25) % 6 = 5) ∧ lcO k = lcO j ∧ lcI k = lcI j) → k = j := by decide +kernel
theorem lc_inj (k : Nat) (hk : k < 73) (j : Nat) (hj : j < 73) (h1 : k ≠ 2) (h2 : j ≠ 2) (h3 : ¬ (25 ≤ k ∧ (k - 25) % 6 = 5)) (h4 : ¬ (25 ≤ j ∧ (j - 25) % 6 = 5)) (h5 : lcO k = lcO j) (h6 : lcI k = lcI j) : k = j := lc_inj0 k hk j hj ⟨h1, h2, h3, h4, h5, h6⟩
theorem lc_s {s w : Nat} (hw : w < 5) : lcO (25 + 6 * s + w) = w + 2 ∧ lcI (25 + 6 * s + w) = s ∧ liv (25 + 6 * s + w) := by
  unfold lcO lcI liv
  rw [if_neg (by omega), if_neg (by omega)]
  omega
theorem lc_t {k : Nat} (hk : k < 12) : lcO (13 + k) = 1 ∧ lcI (13 + k) = k ∧ liv (13 + k) := by
  unfold lcO lcI liv
  rw [if_pos (by omega), if_pos (by omega), if_pos (by omega), if_pos (by omega)]
  omega
theorem CS.iff {ad : Nat → Nat} {μ : Mem} {σ : Nat} {F : Nat → Nat} : CS ad μ σ F ↔ (∀ k, k < 25 + 6 * F 0 → liv k → μ.1 (ad (σ + lcO k)) (lcI k) = n3 (F k)) ∧ μ.1 (ad σ) 10 = n3 (hbt F (F 0)) ∧ LgR ad μ σ F := by
  constructor
  · intro hC
    obtain ⟨h0, h1, h2, h3, h4, h5, h6, h7, h8, h9, h10, h11, h12, h13, h14, h15, h16, h17, h18, h19⟩ := hC
    refine ⟨fun k hk hl => ?_, h17, h19⟩
    by_cases hk1 : k < 13
    · match k, hk1, hl with
      | 0, _, _ => exact h8
      | 1, _, _ => exact h7
      | 3, _, _ => exact h0
      | 4, _, _ => exact h10
      | 5, _, _ => exact h2
      | 6, _, _ => exact h3
      | 7, _, _ => exact h4
      | 8, _, _ => exact h5
      | 9, _, _ => exact h1
      | 10, _, _ => exact h9
      | 11, _, _ => exact h18
      | 12, _, _ => exact h6
      | 2, _, hl => exact absurd rfl hl.1
    · by_cases hk2 : k < 25
      · obtain ⟨j, rfl⟩ : ∃ j, k = 13 + j := ⟨k - 13, by omega⟩
        rw [(lc_t (by omega)).1, (lc_t (by omega)).2.1]; exact h11 j (by omega)
      · have hl2 := hl.2
        obtain ⟨s, w, rfl, hw⟩ : ∃ s w, k = 25 + 6 * s + w ∧ w < 5 := ⟨(k - 25) / 6, (k - 25) % 6, by omega, by omega⟩
        rw [(lc_s hw).1, (lc_s hw).2.1]
        match w, hw with
        | 0, _ => exact h12 s (by omega)
        | 1, _ => exact h13 s (by omega)
        | 2, _ => exact h14 s (by omega)
        | 3, _ => exact h15 s (by omega)
        | 4, _ => exact h16 s (by omega)
  · intro ⟨h, h17, h19⟩
    have hs : ∀ w, w < 5 → ∀ s, s < F 0 → μ.1 (ad (σ + (w + 2))) s = n3 (F (25 + 6 * s + w)) := fun w hw s hs => by
      have := h (25 + 6 * s + w) (by omega) (lc_s hw).2.2
      rw [(lc_s hw).1, (lc_s hw).2.1] at this; exact this
    have hl : ∀ k, k < 25 → k ≠ 2 → liv k := fun k h1 h2 => ⟨h2, by omega⟩
    exact ⟨h 3 (by omega) (hl 3 (by omega) (by omega)), h 9 (by omega) (hl 9 (by omega) (by omega)), h 5 (by omega) (hl 5 (by omega) (by omega)), h 6 (by omega) (hl 6 (by omega) (by omega)), h 7 (by omega) (hl 7 (by omega) (by omega)), h 8 (by omega) (hl 8 (by omega) (by omega)), h 12 (by omega) (hl 12 (by omega) (by omega)), h 1 (by omega) (hl 1 (by omega) (by omega)), h 0 (by omega) (hl 0 (by omega) (by omega)), h 10 (by omega) (hl 10 (by omega) (by omega)), h 4 (by omega) (hl 4 (by omega) (by omega)), fun k hk => by
      have := h (13 + k) (by omega) (lc_t hk).2.2
      rw [(lc_t hk).1, (lc_t hk).2.1] at this; exact this, hs 0 (by omega), hs 1 (by omega), hs 2 (by omega), hs 3 (by omega), hs 4 (by omega), h17, h 11 (by omega) (hl 11 (by omega) (by omega)), h19⟩
theorem hbt_congr {F G : Nat → Nat} : ∀ {n : Nat}, (∀ s, s < n → F (25 + 6 * s + 5) = G (25 + 6 * s + 5)) → hbt F n = hbt G n
  | 0, _ => rfl
  | n + 1, h => by unfold hbt; rw [hbt_congr (fun s hs => h s (by omega)), h n (by omega)]
theorem LgR.fr {ad : Nat → Nat} {μ μ' : Mem} {σ : Nat} {F G : Nat → Nat} (h : LgR ad μ σ F) (e7 : μ'.1 (ad (σ + 7)) = μ.1 (ad (σ + 7))) (e8 : μ'.1 (ad (σ + 8)) = μ.1 (ad (σ + 8))) (h11 : G 11 = F 11) (hg : ∀ k, 73 ≤ k → k < 373 → G k = F k) (h60 : F 11 ≤ 60) : LgR ad μ' σ G := by
  obtain ⟨nx, h1, h2, h3⟩ := h
  refine ⟨nx, h1, by rw [e7]; exact h2, fun k w hk hw => ?_⟩
  rw [e8, hg _ (by omega) (by omega), h3 k w (by omega) hw]
theorem CS.wr {ad : Nat → Nat} (hj : Inj ad) {μ : Mem} {σ : Nat} {F : Nat → Nat} (hC : CS ad μ σ F) (h8 : F 0 ≤ 8) (h60 : F 11 ≤ 60) (k v : Nat) (hk : k < 25 + 6 * F 0) (hl : liv k) (h0 : k ≠ 0) (h11 : k ≠ 11) (a i : Nat) (ha : a = σ + lcO k) (hi : i = lcI k) : CS ad (mset μ (ad a) i (n3 v)) σ (up F k v) := by
  subst ha hi
  have hC' := CS.iff.1 hC
  have hx : ∀ k, k < 73 → liv k → k ≠ 11 → lcO k < 7 := by
    intro k hk hl hne
    unfold lcO liv at *
    split
    · split
      · omega
      · first | omega | (rw [if_neg hne]; omega)
    · omega
  have h7 := hx k (by omega) hl h11
  have u0 : up F k v 0 = F 0 := up_n (Ne.symm h0)
  refine CS.iff.2 ⟨fun j hj1 hjl => ?_, ?_, ?_⟩
  · rw [u0] at hj1
    by_cases e : j = k
    · subst e; rw [mse, up_e]
    · rw [up_n e, ← hC'.1 j hj1 hjl]
      by_cases eo : lcO j = lcO k
      · have : lcI j ≠ lcI k := fun ei => e (lc_inj j (by omega) k (by omega) hjl.1 hl.1 hjl.2 hl.2 eo ei)
        rw [eo, msn this]
      · rw [mso hj (by omega)]
  · rw [u0, hbt_congr (G := F) (fun s hs => up_n (by have := hl.2; omega)), ← hC'.2.1]
    by_cases eo : lcO k = 0
    · rw [eo]; refine msn (fun e => ?_)
      have : ∀ k, k < 73 → lcI k = 10 → ¬ lcO k = 0 := by decide +kernel
      exact this k (by omega) e.symm eo
    · rw [mso hj (by omega)]
  · have hkk : k < 73 := by omega
    refine hC'.2.2.fr (mso hj (by omega)) (mso hj (by omega)) (up_n (Ne.symm h11)) (fun q h1 h2 => up_n (by omega)) h60
/-- a row of the log more -/
def logF (F : Nat → Nat) (s kd p : Nat) : Nat → Nat := fun k => if k = 11 then min 60 (F 11 + 1) else if 78 ≤ k ∧ k < 373 then F (k - 5) else if k = 73 then F 9 else if k = 74 then s else if k = 75 then kd else if k = 76 then p else if k = 77 then F 3 else F k
def mset5 (μ : Mem) (a b : Nat) (v0 v1 v2 v3 v4 : Int32) : Mem := mset (mset (mset (mset (mset μ a b v0) a (b + 1) v1) a (b + 2) v2) a (b + 3) v3) a (b + 4) v4
theorem m5_out {μ : Mem} {a b j : Nat} {v0 v1 v2 v3 v4 : Int32} (h : j < b ∨ b + 5 ≤ j) : (mset5 μ a b v0 v1 v2 v3 v4).1 a j = μ.1 a j := by
  unfold mset5; simp (disch := omega) only [msn]
theorem m5_in {μ : Mem} {a b w : Nat} {v0 v1 v2 v3 v4 : Int32} (h : w < 5) : (mset5 μ a b v0 v1 v2 v3 v4).1 a (b + w) = [v0, v1, v2, v3, v4].getD w 0 := by
  unfold mset5
  match w, h with
  | 0, _ => simp (disch := omega) only [msn, mse, Nat.add_zero]; rfl
  | 1, _ => simp (disch := omega) only [msn, mse]; rfl
  | 2, _ => simp (disch := omega) only [msn, mse]; rfl
  | 3, _ => simp (disch := omega) only [msn, mse]; rfl
  | 4, _ => simp (disch := omega) only [msn, mse]; rfl
theorem m5_o {ad : Nat → Nat} (hj : Inj ad) {μ : Mem} {i j b : Nat} {v0 v1 v2 v3 v4 : Int32} (h : j ≠ i) : (mset5 μ (ad i) b v0 v1 v2 v3 v4).1 (ad j) = μ.1 (ad j) := by
  unfold mset5; simp (disch := omega) only [mso hj]
theorem c_logadd {N : Nat} {Λ : Lay} {ad : Nat → Nat} {σ : Nat} {μ : Mem} {F : Nat → Nat} (hS : LyS Λ ad σ) (hC : CS ad μ σ F)  (hj : Inj ad) (h60 : F 11 ≤ 60) (h8 : F 0 ≤ 8) (s kd p : Nat) : ∃ μ', m_X4_add N Λ μ (ad (σ + 7)) (n3 (F 9)) (n3 s) (n3 kd) (n3 p) (n3 (F 3)) = some μ' ∧ CS ad μ' σ (logF F s kd p) ∧ Fr ad (fun i => i = σ + 7 ∨ i = σ + 8) μ μ' := by
  have hC' := CS.iff.1 hC
  obtain ⟨nx, hn, hx, hr⟩ := hC'.2.2
  have h11 := hC.2.2.2.2.2.2.2.2.2.2.2.2.2.2.2.2.2.2.1
  refine ⟨mset (mset (mset5 μ (ad (σ + 8)) (nx * 5) (n3 (F 9)) (n3 s) (n3 kd) (n3 p) (n3 (F 3))) (ad (σ + 7)) 1 (n3 ((nx + 1) % 60))) (ad (σ + 7)) 0 (n3 (min (F 11 + 1) 60)), ?_, ?_, ?_⟩
  · simp (disch := omega) only [m_X4_add, ↓ob (hS.1), ↓ob (hS.2.1), ↓ob (hS.2.2.1), ↓ob (hS.2.2.2.1), ↓ob (hS.2.2.2.2.1), ↓ob (hS.2.2.2.2.2.1), ↓ob (hS.2.2.2.2.2.2.1), ↓ob (hS.2.2.2.2.2.2.2.1), hS.2.2.2.2.2.2.2.2.1, hS.2.2.2.2.2.2.2.2.2.1, hS.2.2.2.2.2.2.2.2.2.2.1, hS.2.2.2.2.2.2.2.2.2.2.2.1, hS.2.2.2.2.2.2.2.2.2.2.2.2.1, hS.2.2.2.2.2.2.2.2.2.2.2.2.2.1, hS.2.2.2.2.2.2.2.2.2.2.2.2.2.2, hx, ↓lt_e, ↓gd_e, ↓Option.bind_some, ↓reduceIte, if_true, if_false, if_pT, if_nF, decide_true, Bool.not_true, Bool.not_false, not_true_eq_false, not_false_eq_true, Bool.false_eq_true, Bool.true_eq_false, eq_self, n3_lit, n3_add, n3_mul, n3_sub, n3_tn, n3_le_t, n3_le_f, n3_lt_t, n3_lt_f, n3_eq_f, n3_eq_t, n3_inb, n3_rem, n3_div, n3_zb, bb_0, bb_1, zb_bb, bb_T, bb_F, n3_dec, n3_m1, n3_eqm, n3_eqmt, n3_ltm, n3_mlt, n3_lem, n3_mle, n3_neg_lt, n3_nlt_neg, n3_nle_neg, n3_neg_le, mso hj, msn, h11, n3_imin]; rfl
  · have e : ∀ j, j ≠ σ + 7 → j ≠ σ + 8 → (mset (mset (mset5 μ (ad (σ + 8)) (nx * 5) (n3 (F 9)) (n3 s) (n3 kd) (n3 p) (n3 (F 3))) (ad (σ + 7)) 1 (n3 ((nx + 1) % 60))) (ad (σ + 7)) 0 (n3 (min (F 11 + 1) 60))).1 (ad j) = μ.1 (ad j) := fun j h1 h2 => by rw [mso hj h1, mso hj h1, m5_o hj h2]
    have hlo : ∀ k, k < 73 → k ≠ 11 → logF F s kd p k = F k := fun k h1 h2 => by
      unfold logF
      rw [if_neg h2, if_neg (by omega), if_neg (by omega), if_neg (by omega), if_neg (by omega), if_neg (by omega), if_neg (by omega)]
    refine CS.iff.2 ⟨fun k hk hl => ?_, ?_, ?_⟩
    · rw [hlo 0 (by omega) (by omega)] at hk
      by_cases e11 : k = 11
      · subst e11
        show (mset _ (ad (σ + 7)) 0 _).1 (ad (σ + 7)) 0 = _
        rw [mse]; unfold logF; rw [if_pos rfl, Nat.min_comm]
      · rw [hlo k (by omega) e11, ← hC'.1 k hk hl]
        have h7 : lcO k ≠ 7 := by
          unfold lcO liv at *
          split
          · split
            · omega
            · first | omega | (rw [if_neg e11]; omega)
          · omega
        have h8 : lcO k ≠ 8 := by
          unfold lcO liv at *
          split
          · split
            · omega
            · first | omega | (rw [if_neg e11]; omega)
          · omega
        rw [e _ (by omega) (by omega)]
    · rw [e σ (by omega) (by omega), hlo 0 (by omega) (by omega), hbt_congr (G := F) (fun t ht => hlo _ (by omega) (by omega))]; exact hC'.2.1
    · refine ⟨(nx + 1) % 60, by omega, by rw [msn (by omega), mse], fun k w hk hw => ?_⟩
      have e11 : logF F s kd p 11 = min 60 (F 11 + 1) := if_pos rfl
      rw [e11] at hk
      rw [mso hj (by omega), mso hj (by omega)]
      by_cases k0 : k = 0
      · subst k0
        rw [show ((nx + 1) % 60 + 59 - 0) % 60 * 5 + w = nx * 5 + w by omega, m5_in hw]
        match w, hw with
        | 0, _ => rfl
        | 1, _ => rfl
        | 2, _ => rfl
        | 3, _ => rfl
        | 4, _ => rfl
      · rw [m5_out (by omega), show ((nx + 1) % 60 + 59 - k) % 60 * 5 + w = (nx + 59 - (k - 1)) % 60 * 5 + w by omega, hr (k - 1) w (by omega) hw]
        unfold logF
        rw [if_neg (by omega), if_pos (by omega)]
        congr 2; omega
  · intro j hjn
    exact ⟨by rw [mso hj (by omega), mso hj (by omega), m5_o hj (by omega)], rfl⟩
def shf (F : Nat → Nat) (i : Nat) : Nat → Nat := fun k => if 373 - i ≤ k ∧ k < 373 then F (k - 5) else F k
theorem r_isTold {N : Nat} (hN : 1099511627776 ≤ N) {Λ : Lay} {ad : Nat → Nat} {μ : Mem} {F : Nat → Nat} (hR : LyR Λ ad) (hW : Row μ (ad 182) 1222 F)  (hj : Inj ad) (h60 : F 11 ≤ 60) (s kd p : Nat) : ∃ μ', m_X12_isTold N Λ μ (ad 181) (n3 s) (n3 kd) (n3 p) = some μ' ∧ Row μ' (ad 182) 1222 (logF F s kd p) ∧ Fr ad (fun i => i = 182) μ μ' := by
  unfold m_X12_isTold lp_X12_isTold_5
  refine cw_iv (P := fun i x => ∃ μ1 : Mem, x = (n3 (299 - i), μ1) ∧ Row μ1 (ad 182) 1222 (shf F i) ∧ Fr ad (fun i => i = 182) μ μ1) (Q := fun X => ∃ μ', X = some μ' ∧ Row μ' (ad 182) 1222 (logF F s kd p) ∧ Fr ad (fun i => i = 182) μ μ') 295 ⟨μ, rfl, hW.to (Nat.le_refl _) (fun k hk => by unfold shf; rw [if_neg (by omega)]), Fr.refl μ⟩ (fun i hi x hx => ?_) (fun x hx => ?_) (by omega)
  · obtain ⟨μ1, rfl, hW1, hf⟩ := hx
    left
    refine ⟨_, ⟨mset μ1 (ad 182) (73 + (299 - i)) (n3 (F (73 + (299 - i) - 5))), rfl, ?_, hf.set hj rfl⟩, fun k => ?_⟩
    · refine (hW1.set (73 + (299 - i)) (F (73 + (299 - i) - 5))).to (Nat.le_refl _) (fun k hk => ?_)
      unfold up shf
      split
      · next e => rw [if_pos (by omega), e]
      · next e =>
        split
        · next h => rw [if_pos (by omega)]
        · next h => rw [if_neg (by omega)]
    · have e : shf F i (73 + (299 - i) - 5) = F (73 + (299 - i) - 5) := if_neg (by omega)
      simp (disch := omega) only [bd_X12_isTold_5, ↓ob (hR.1), ↓ob (hR.2.1), ↓ob (hR.2.2.1), ↓ob (hR.2.2.2.1), ↓ob (hR.2.2.2.2.1), ↓ob (hR.2.2.2.2.2.1), ↓ob (hR.2.2.2.2.2.2.1), ↓ob (hR.2.2.2.2.2.2.2.1), ↓ob (hR.2.2.2.2.2.2.2.2.1), ↓ob (hR.2.2.2.2.2.2.2.2.2.1), ↓ob (hR.2.2.2.2.2.2.2.2.2.2.1), ↓ob (hR.2.2.2.2.2.2.2.2.2.2.2.1), ↓ob (hR.2.2.2.2.2.2.2.2.2.2.2.2.1), ↓ob (hR.2.2.2.2.2.2.2.2.2.2.2.2.2.1), ↓ob (hR.2.2.2.2.2.2.2.2.2.2.2.2.2.2.1), ↓ob (hR.2.2.2.2.2.2.2.2.2.2.2.2.2.2.2.1), ↓ob (hR.2.2.2.2.2.2.2.2.2.2.2.2.2.2.2.2.1), ↓ob (hR.2.2.2.2.2.2.2.2.2.2.2.2.2.2.2.2.2.1), hR.2.2.2.2.2.2.2.2.2.2.2.2.2.2.2.2.2.2.1, hR.2.2.2.2.2.2.2.2.2.2.2.2.2.2.2.2.2.2.2.1, hR.2.2.2.2.2.2.2.2.2.2.2.2.2.2.2.2.2.2.2.2.1, hR.2.2.2.2.2.2.2.2.2.2.2.2.2.2.2.2.2.2.2.2.2.1, hR.2.2.2.2.2.2.2.2.2.2.2.2.2.2.2.2.2.2.2.2.2.2.1, hR.2.2.2.2.2.2.2.2.2.2.2.2.2.2.2.2.2.2.2.2.2.2.2.1, hR.2.2.2.2.2.2.2.2.2.2.2.2.2.2.2.2.2.2.2.2.2.2.2.2.1, hR.2.2.2.2.2.2.2.2.2.2.2.2.2.2.2.2.2.2.2.2.2.2.2.2.2.1, hR.2.2.2.2.2.2.2.2.2.2.2.2.2.2.2.2.2.2.2.2.2.2.2.2.2.2.1, hR.2.2.2.2.2.2.2.2.2.2.2.2.2.2.2.2.2.2.2.2.2.2.2.2.2.2.2.1, hR.2.2.2.2.2.2.2.2.2.2.2.2.2.2.2.2.2.2.2.2.2.2.2.2.2.2.2.2.1, hR.2.2.2.2.2.2.2.2.2.2.2.2.2.2.2.2.2.2.2.2.2.2.2.2.2.2.2.2.2.1, hR.2.2.2.2.2.2.2.2.2.2.2.2.2.2.2.2.2.2.2.2.2.2.2.2.2.2.2.2.2.2.1, hR.2.2.2.2.2.2.2.2.2.2.2.2.2.2.2.2.2.2.2.2.2.2.2.2.2.2.2.2.2.2.2.1, hR.2.2.2.2.2.2.2.2.2.2.2.2.2.2.2.2.2.2.2.2.2.2.2.2.2.2.2.2.2.2.2.2.1, hR.2.2.2.2.2.2.2.2.2.2.2.2.2.2.2.2.2.2.2.2.2.2.2.2.2.2.2.2.2.2.2.2.2.1, hR.2.2.2.2.2.2.2.2.2.2.2.2.2.2.2.2.2.2.2.2.2.2.2.2.2.2.2.2.2.2.2.2.2.2.1, hR.2.2.2.2.2.2.2.2.2.2.2.2.2.2.2.2.2.2.2.2.2.2.2.2.2.2.2.2.2.2.2.2.2.2.2, hW1, e, ↓lt_e, ↓gd_e, ↓Option.bind_some, ↓reduceIte, if_true, if_false, if_pT, if_nF, decide_true, Bool.not_true, Bool.not_false, not_true_eq_false, not_false_eq_true, Bool.false_eq_true, Bool.true_eq_false, eq_self, n3_lit, n3_add, n3_mul, n3_sub, n3_tn, n3_le_t, n3_le_f, n3_lt_t, n3_lt_f, n3_eq_f, n3_eq_t, n3_inb, n3_rem, n3_div, n3_zb, bb_0, bb_1, zb_bb, bb_T, bb_F, n3_dec, n3_m1, n3_eqm, n3_eqmt, n3_ltm, n3_mlt, n3_lem, n3_mle, n3_neg_lt, n3_nlt_neg, n3_nle_neg, n3_neg_le, Nat.sub_sub]
  · obtain ⟨μ1, rfl, hW1, hf⟩ := hx
    have e9 : shf F 295 9 = F 9 := if_neg (by omega)
    have e3 : shf F 295 3 = F 3 := if_neg (by omega)
    have e11 : shf F 295 11 = F 11 := if_neg (by omega)
    refine ⟨_, ⟨mset (mset5 μ1 (ad 182) 73 (n3 (F 9)) (n3 s) (n3 kd) (n3 p) (n3 (F 3))) (ad 182) 11 (n3 (min 60 (F 11 + 1))), rfl, fun k hk => ?_, ?_⟩, fun k => ?_⟩
    · unfold logF
      split
      · next e => rw [e, mse]
      · next e =>
        rw [msn e]
        by_cases h5 : 73 ≤ k ∧ k < 78
        · obtain ⟨w, rfl, hw⟩ : ∃ w, k = 73 + w ∧ w < 5 := ⟨k - 73, by omega, by omega⟩
          rw [m5_in hw]
          match w, hw with
          | 0, _ => rfl
          | 1, _ => rfl
          | 2, _ => rfl
          | 3, _ => rfl
          | 4, _ => rfl
        · rw [m5_out (by omega), hW1 k hk]
          unfold shf
          split
          · next h => rfl
          · next h => first | rfl | (rw [if_neg (by omega), if_neg (by omega), if_neg (by omega), if_neg (by omega), if_neg (by omega)])
    · unfold mset5; exact (((((hf.set hj rfl).set hj rfl).set hj rfl).set hj rfl).set hj rfl).set hj rfl
    · simp (disch := omega) only [bd_X12_isTold_5, ↓ob (hR.1), ↓ob (hR.2.1), ↓ob (hR.2.2.1), ↓ob (hR.2.2.2.1), ↓ob (hR.2.2.2.2.1), ↓ob (hR.2.2.2.2.2.1), ↓ob (hR.2.2.2.2.2.2.1), ↓ob (hR.2.2.2.2.2.2.2.1), ↓ob (hR.2.2.2.2.2.2.2.2.1), ↓ob (hR.2.2.2.2.2.2.2.2.2.1), ↓ob (hR.2.2.2.2.2.2.2.2.2.2.1), ↓ob (hR.2.2.2.2.2.2.2.2.2.2.2.1), ↓ob (hR.2.2.2.2.2.2.2.2.2.2.2.2.1), ↓ob (hR.2.2.2.2.2.2.2.2.2.2.2.2.2.1), ↓ob (hR.2.2.2.2.2.2.2.2.2.2.2.2.2.2.1), ↓ob (hR.2.2.2.2.2.2.2.2.2.2.2.2.2.2.2.1), ↓ob (hR.2.2.2.2.2.2.2.2.2.2.2.2.2.2.2.2.1), ↓ob (hR.2.2.2.2.2.2.2.2.2.2.2.2.2.2.2.2.2.1), hR.2.2.2.2.2.2.2.2.2.2.2.2.2.2.2.2.2.2.1, hR.2.2.2.2.2.2.2.2.2.2.2.2.2.2.2.2.2.2.2.1, hR.2.2.2.2.2.2.2.2.2.2.2.2.2.2.2.2.2.2.2.2.1, hR.2.2.2.2.2.2.2.2.2.2.2.2.2.2.2.2.2.2.2.2.2.1, hR.2.2.2.2.2.2.2.2.2.2.2.2.2.2.2.2.2.2.2.2.2.2.1, hR.2.2.2.2.2.2.2.2.2.2.2.2.2.2.2.2.2.2.2.2.2.2.2.1, hR.2.2.2.2.2.2.2.2.2.2.2.2.2.2.2.2.2.2.2.2.2.2.2.2.1, hR.2.2.2.2.2.2.2.2.2.2.2.2.2.2.2.2.2.2.2.2.2.2.2.2.2.1, hR.2.2.2.2.2.2.2.2.2.2.2.2.2.2.2.2.2.2.2.2.2.2.2.2.2.2.1, hR.2.2.2.2.2.2.2.2.2.2.2.2.2.2.2.2.2.2.2.2.2.2.2.2.2.2.2.1, hR.2.2.2.2.2.2.2.2.2.2.2.2.2.2.2.2.2.2.2.2.2.2.2.2.2.2.2.2.1, hR.2.2.2.2.2.2.2.2.2.2.2.2.2.2.2.2.2.2.2.2.2.2.2.2.2.2.2.2.2.1, hR.2.2.2.2.2.2.2.2.2.2.2.2.2.2.2.2.2.2.2.2.2.2.2.2.2.2.2.2.2.2.1, hR.2.2.2.2.2.2.2.2.2.2.2.2.2.2.2.2.2.2.2.2.2.2.2.2.2.2.2.2.2.2.2.1, hR.2.2.2.2.2.2.2.2.2.2.2.2.2.2.2.2.2.2.2.2.2.2.2.2.2.2.2.2.2.2.2.2.1, hR.2.2.2.2.2.2.2.2.2.2.2.2.2.2.2.2.2.2.2.2.2.2.2.2.2.2.2.2.2.2.2.2.2.1, hR.2.2.2.2.2.2.2.2.2.2.2.2.2.2.2.2.2.2.2.2.2.2.2.2.2.2.2.2.2.2.2.2.2.2.1, hR.2.2.2.2.2.2.2.2.2.2.2.2.2.2.2.2.2.2.2.2.2.2.2.2.2.2.2.2.2.2.2.2.2.2.2, hW1, e9, e3, e11, ↓lt_e, ↓gd_e, ↓Option.bind_some, ↓reduceIte, if_true, if_false, if_pT, if_nF, decide_true, Bool.not_true, Bool.not_false, not_true_eq_false, not_false_eq_true, Bool.false_eq_true, Bool.true_eq_false, eq_self, n3_lit, n3_add, n3_mul, n3_sub, n3_tn, n3_le_t, n3_le_f, n3_lt_t, n3_lt_f, n3_eq_f, n3_eq_t, n3_inb, n3_rem, n3_div, n3_zb, bb_0, bb_1, zb_bb, bb_T, bb_F, n3_dec, n3_m1, n3_eqm, n3_eqmt, n3_ltm, n3_mlt, n3_lem, n3_mle, n3_neg_lt, n3_nlt_neg, n3_nle_neg, n3_neg_le, msn, n3_imin]; rfl
/-! hours: what an hour does to a row -/
theorem bv_dr (x : BitVec 32) : x.sshiftRight 16 &&& 32767#32 = x >>> 16 &&& 32767#32 := by
  apply BitVec.eq_of_getLsbD_eq
  intro i hi
  simp only [BitVec.getLsbD_and, BitVec.getLsbD_sshiftRight, BitVec.getLsbD_ushiftRight]
  by_cases h : i < 15
  · have h1 : 16 + i < 32 := by omega
    have h2 : ¬ 32 ≤ i := by omega
    simp [h1, h2]
  · have : ∀ i, i < 32 → ¬ i < 15 → (32767#32).getLsbD i = false := by decide
    rw [this i hi h, Bool.and_false, Bool.and_false]
theorem n3_ushr {a : Nat} (ha : a < 4294967296) : iushr (n3 a) (n3 16) = n3 (a / 65536) := by
  apply Int32.toBitVec_inj.1
  show (BitVec.ofNat 32 a) >>> (16#32 : BitVec 32) = BitVec.ofNat 32 (a / 65536)
  apply BitVec.eq_of_toNat_eq
  have h1 : a / 65536 < 4294967296 := by omega
  simp [BitVec.toNat_ofNat, Nat.shiftRight_eq_div_pow, Nat.mod_eq_of_lt ha, Nat.mod_eq_of_lt h1]
theorem n3_m15 (a : Nat) : n3 a &&& n3 32767 = n3 (a % 32768) := by
  rw [n3_and]
  congr 1
  rw [show (32767 : Nat) = 2 ^ 15 - 1 from rfl, Nat.and_two_pow_sub_one_eq_mod]
theorem n3_udr {a : Nat} (ha : a < 4294967296) : iushr (n3 a) (n3 16) &&& n3 32767 = n3 (a / 65536 % 32768) := by
  rw [n3_ushr ha, n3_m15]
theorem n3_sdr {a : Nat} (ha : a < 4294967296) : ishr (n3 a) (n3 16) &&& n3 32767 = n3 (a / 65536 % 32768) := by
  rw [← n3_udr ha]
  apply Int32.toBitVec_inj.1
  show (BitVec.ofNat 32 a).sshiftRight 16 &&& 32767#32 = (BitVec.ofNat 32 a) >>> 16 &&& 32767#32
  exact bv_dr _
/-! what stays -/
def LwE (F F' : Nat → Nat) : Prop := F' 2 = F 2 ∧ ∀ k, 373 ≤ k → F' k = F k
theorem LwE.refl (F : Nat → Nat) : LwE F F := ⟨rfl, fun _ _ => rfl⟩
theorem LwE.trans {F G H : Nat → Nat} (h : LwE F G) (h' : LwE G H) : LwE F H := ⟨h'.1.trans h.1, fun k hk => (h'.2 k hk).trans (h.2 k hk)⟩
theorem LwE.up {F G : Nat → Nat} (h : LwE F G) {j v : Nat} (h2 : j ≠ 2) (hj : j < 373) : LwE F (up G j v) := ⟨(up_n (Ne.symm h2)).trans h.1, fun k hk => (up_n (by omega)).trans (h.2 k hk)⟩
theorem LwE.log {F G : Nat → Nat} (h : LwE F G) {s kd p : Nat} : LwE F (logF G s kd p) := ⟨h.1, fun k hk => by
  rw [← h.2 k hk]; unfold logF
  rw [if_neg (by omega), if_neg (by omega), if_neg (by omega), if_neg (by omega), if_neg (by omega), if_neg (by omega), if_neg (by omega)]⟩
theorem tys_congr {F G : Nat → Nat} (h : ∀ k, 373 ≤ k → G k = F k) (i : Nat) : ∀ n, tys G i n = tys F i n
  | 0 => rfl
  | n + 1 => by unfold tys; rw [tys_congr h i n, h _ (by omega)]
theorem LawOk.of {F G : Nat → Nat} (h : LawOk F) (e : LwE F G) : LawOk G := by
  unfold LawOk LnOk at *
  have e2 := e.2
  simp (disch := omega) only [tys_congr e2, e.1, e2]
  exact h
theorem CL.of {ad : Nat → Nat} {μ : Mem} {r : Nat} {F G : Nat → Nat} (h : CL ad μ r F) (e : LwE F G) : CL ad μ r G := by
  unfold CL at *
  have e2 := e.2
  simp (disch := omega) only [e.1, e2]
  exact h
theorem pl_congr {F G : Nat → Nat} {s : Nat} (h0 : G (25 + 6 * s) = F (25 + 6 * s)) (h3 : G (25 + 6 * s + 3) = F (25 + 6 * s + 3)) (h4 : G (25 + 6 * s + 4) = F (25 + 6 * s + 4)) : pl G s = pl F s := by
  unfold pl; rw [h0, h3, h4]
theorem WF.of {F G : Nat → Nat} (h : WF F) (hb : WB G) (h0 : G 0 = F 0) (ht : ∀ k, k < 12 → G (13 + k) ≤ 30) (hs : ∀ s, s < F 0 → ShOk G s) (hp : ∀ s, s < F 0 → pl G s = pl F s) : WF G :=
  ⟨hb, ht, fun s h1 => hs s (by omega), fun s t h1 h2 => by rw [hp s (by omega), hp t (by omega)]; exact h.2.2.2 s t h1 (by omega)⟩
theorem ShOk.congr {F G : Nat → Nat} {s : Nat} (h : ShOk F s) (e : ∀ w, w < 6 → G (25 + 6 * s + w) = F (25 + 6 * s + w)) : ShOk G s := by
  have e0 : G (25 + 6 * s) = F (25 + 6 * s) := e 0 (by omega)
  unfold ShOk at *
  rw [e0, e 1 (by omega), e 2 (by omega), e 3 (by omega), e 4 (by omega), e 5 (by omega)]; exact h
theorem WF.up_lo {F : Nat → Nat} (h : WF F) {k v : Nat} (hk : k < 13) (h0 : k ≠ 0) (hb : WB (up F k v)) : WF (up F k v) :=
  h.of hb (up_n (Ne.symm h0)) (fun j hj => by rw [up_n (by omega)]; exact h.2.1 j hj) (fun s hs => (h.2.2.1 s hs).congr (fun w hw => up_n (by omega))) (fun s _ => pl_congr (up_n (by omega)) (up_n (by omega)) (up_n (by omega)))
theorem WF.up_t {F : Nat → Nat} (h : WF F) {k v : Nat} (hk : k < 12) (hv : v ≤ 30) : WF (up F (13 + k) v) := by
  have hb := h.1
  refine h.of ?_ (up_n (by omega)) (fun j hj => ?_) (fun s hs => (h.2.2.1 s hs).congr (fun w hw => up_n (by omega))) (fun s _ => pl_congr (up_n (by omega)) (up_n (by omega)) (up_n (by omega)))
  · unfold WB at *; simp (disch := omega) only [up_n]; exact hb
  · unfold up; split
    · exact hv
    · exact h.2.1 j hj
theorem WF.up_w {F : Nat → Nat} (h : WF F) {s v : Nat} (hv : v ≤ 99) : WF (up F (25 + 6 * s + 2) v) := by
  have hb := h.1
  refine h.of ?_ (up_n (by omega)) (fun j hj => by rw [up_n (by omega)]; exact h.2.1 j hj) (fun t ht => ?_) (fun t _ => pl_congr (up_n (by omega)) (up_n (by omega)) (up_n (by omega)))
  · unfold WB at *; simp (disch := omega) only [up_n]; exact hb
  · have := h.2.2.1 t ht
    by_cases e : t = s
    · subst e; unfold ShOk at *; simp (disch := omega) only [up_n, up_e]; omega
    · exact this.congr (fun w hw => up_n (by omega))
theorem WF.up_h {F : Nat → Nat} (h : WF F) {s v : Nat} (hv : v ≤ 1) : WF (up F (25 + 6 * s + 5) v) := by
  have hb := h.1
  refine h.of ?_ (up_n (by omega)) (fun j hj => by rw [up_n (by omega)]; exact h.2.1 j hj) (fun t ht => ?_) (fun t _ => pl_congr (up_n (by omega)) (up_n (by omega)) (up_n (by omega)))
  · unfold WB at *; simp (disch := omega) only [up_n]; exact hb
  · have := h.2.2.1 t ht
    by_cases e : t = s
    · subst e; unfold ShOk at *; simp (disch := omega) only [up_n, up_e]; omega
    · exact this.congr (fun w hw => up_n (by omega))
theorem log_lo {F : Nat → Nat} {s kd p k : Nat} (h1 : k < 73) (h2 : k ≠ 11) : logF F s kd p k = F k := by
  unfold logF
  rw [if_neg h2, if_neg (by omega), if_neg (by omega), if_neg (by omega), if_neg (by omega), if_neg (by omega), if_neg (by omega)]
theorem WF.log {F : Nat → Nat} (h : WF F) {s kd p : Nat} : WF (logF F s kd p) := by
  have hb := h.1
  have h8 : F 0 ≤ 8 := hb.1
  refine h.of ?_ rfl (fun j hj => by rw [log_lo (by omega) (by omega)]; exact h.2.1 j hj) (fun t ht => (h.2.2.1 t ht).congr (fun w hw => log_lo (by omega) (by omega))) (fun t ht => pl_congr (log_lo (by omega) (by omega)) (log_lo (by omega) (by omega)) (log_lo (by omega) (by omega)))
  have e11 : logF F s kd p 11 = min 60 (F 11 + 1) := rfl
  unfold WB at *
  simp (disch := omega) only [log_lo, e11]
  omega
/-! the hour -/
def sdF (F : Nat → Nat) : Nat := (1103515245 * F 12 + 12345) % 4294967296
def drF (F : Nat → Nat) : Nat := sdF F / 65536 % 32768
def hr1 (F : Nat → Nat) : Nat → Nat := up F 9 (min 9999 (F 9 + 1))
def levF (calm : Bool) (F : Nat → Nat) : Nat → Nat := if F 4 = 1 then (if calm = true then up (hr1 F) 3 (td (hr1 F) 0) else up (up (hr1 F) 12 (sdF F)) 3 (td (hr1 F) 0 + drF F % (F 7 + 1))) else up (hr1 F) 3 (min 40 (F 3 + lekF (hr1 F) - pulF (hr1 F)))
def hut1 (F : Nat → Nat) (s : Nat) : Nat → Nat := if sitb F s = true ∧ F (25 + 6 * s + 5) = 0 ∧ wdg F s ≠ 0 then logF (up (up F (25 + 6 * s + 5) 1) (25 + 6 * s + 2) (min 99 (F (25 + 6 * s + 2) + 5))) s 2 (F (25 + 6 * s + 4)) else F
def hutN (F : Nat → Nat) : Nat → Nat → Nat
  | 0 => F
  | n + 1 => hut1 (hutN F n) n
def wrk1 (x : Nat × (Nat → Nat)) (s : Nat) : Nat × (Nat → Nat) :=
  if sitb x.2 s = true then
    (if min x.1 (x.2 (25 + 6 * s + 2)) = 0 then x
    else (x.1 - min x.1 (x.2 (25 + 6 * s + 2)), if x.2 (25 + 6 * s + 2) - min x.1 (x.2 (25 + 6 * s + 2)) = 0 then logF (up x.2 (25 + 6 * s + 2) (x.2 (25 + 6 * s + 2) - min x.1 (x.2 (25 + 6 * s + 2)))) s 3 (x.2 (25 + 6 * s + 4)) else up x.2 (25 + 6 * s + 2) (x.2 (25 + 6 * s + 2) - min x.1 (x.2 (25 + 6 * s + 2)))))
  else x
def wrkN (x : Nat × (Nat → Nat)) : Nat → Nat × (Nat → Nat)
  | 0 => x
  | n + 1 => wrk1 (wrkN x n) n
def hourF (calm : Bool) (F : Nat → Nat) : Nat → Nat := if hutN (levF calm F) (F 0) 3 ≤ 2 then (wrkN (F 6, hutN (levF calm F) (F 0)) (F 0)).2 else hutN (levF calm F) (F 0)
def dnF (calm : Bool) (F : Nat → Nat) : Nat := if hutN (levF calm F) (F 0) 3 ≤ 2 then F 6 - (wrkN (F 6, hutN (levF calm F) (F 0)) (F 0)).1 else 0
/-- what an hour leaves: numbers of ships, pumps and the like -/
def Kp (F G : Nat → Nat) : Prop := G 0 = F 0 ∧ G 1 = F 1 ∧ G 4 = F 4 ∧ G 5 = F 5 ∧ G 6 = F 6 ∧ G 7 = F 7 ∧ G 8 = F 8 ∧ G 10 = F 10 ∧ LwE F G
theorem Kp.refl (F : Nat → Nat) : Kp F F := ⟨rfl, rfl, rfl, rfl, rfl, rfl, rfl, rfl, LwE.refl F⟩
theorem Kp.trans {F G H : Nat → Nat} (h : Kp F G) (h' : Kp G H) : Kp F H := by
  unfold Kp at *
  exact ⟨h'.1.trans h.1, h'.2.1.trans h.2.1, h'.2.2.1.trans h.2.2.1, h'.2.2.2.1.trans h.2.2.2.1, h'.2.2.2.2.1.trans h.2.2.2.2.1, h'.2.2.2.2.2.1.trans h.2.2.2.2.2.1, h'.2.2.2.2.2.2.1.trans h.2.2.2.2.2.2.1, h'.2.2.2.2.2.2.2.1.trans h.2.2.2.2.2.2.2.1, h.2.2.2.2.2.2.2.2.trans h'.2.2.2.2.2.2.2.2⟩
theorem Kp.up {F G : Nat → Nat} (h : Kp F G) {j v : Nat} (hj : j = 3 ∨ j = 9 ∨ 12 ≤ j ∧ j < 373) : Kp F (up G j v) := by
  refine h.trans ?_
  unfold Kp
  simp (disch := omega) only [up_n, true_and]
  exact (LwE.refl G).up (by omega) (by omega)
theorem Kp.log {F G : Nat → Nat} (h : Kp F G) {s kd p : Nat} : Kp F (logF G s kd p) := by
  refine h.trans ?_
  unfold Kp
  simp (disch := omega) only [log_lo, true_and]
  exact (LwE.refl G).log
theorem hr1_WF {F : Nat → Nat} (h : WF F) : WF (hr1 F) := by
  refine h.up_lo (by omega) (by omega) ?_
  have hb := h.1
  unfold WB at *; simp (disch := omega) only [up_n, up_e]; omega
theorem hr1_Kp (F : Nat → Nat) : Kp F (hr1 F) := (Kp.refl F).up (by omega)
theorem levF_Kp (calm : Bool) (F : Nat → Nat) : Kp F (levF calm F) := by
  unfold levF
  split
  · split
    · exact (hr1_Kp F).up (by omega)
    · exact ((hr1_Kp F).up (by omega)).up (by omega)
  · exact (hr1_Kp F).up (by omega)
theorem levF_WF {F : Nat → Nat} (h : WF F) (calm : Bool) : WF (levF calm F) := by
  have h1 := hr1_WF h
  have ht := td_le h1 0
  have hb := h1.1
  have h7 : F 7 ≤ 5 := h.1.2.2.2.2.2.2.2.1
  unfold levF
  split
  · split
    · refine h1.up_lo (by omega) (by omega) ?_
      unfold WB at *; simp (disch := omega) only [up_n, up_e]; omega
    · have h2 : WF (up (hr1 F) 12 (sdF F)) := by
        refine h1.up_lo (by omega) (by omega) ?_
        have : sdF F < 4294967296 := Nat.mod_lt _ (by decide)
        unfold WB at *; simp (disch := omega) only [up_n, up_e]; omega
      refine h2.up_lo (by omega) (by omega) ?_
      have hb2 := h2.1
      have : drF F % (F 7 + 1) < F 7 + 1 := Nat.mod_lt _ (by omega)
      unfold WB at *; simp (disch := omega) only [up_n, up_e] at hb2 ⊢; omega
  · refine h1.up_lo (by omega) (by omega) ?_
    unfold WB at *; simp (disch := omega) only [up_n, up_e]; omega
theorem hut1_Kp {F : Nat → Nat} {s : Nat} (hs : s < 8) : Kp F (hut1 F s) := by
  unfold hut1; split
  · exact (((Kp.refl F).up (by omega)).up (by omega)).log
  · exact Kp.refl F
theorem hut1_WF {F : Nat → Nat} (h : WF F) (s : Nat) : WF (hut1 F s) := by
  unfold hut1; split
  · exact ((h.up_h (by omega)).up_w (by omega)).log
  · exact h
theorem hutN_Kp {F : Nat → Nat} : ∀ n, n ≤ 8 → Kp F (hutN F n)
  | 0, _ => Kp.refl F
  | n + 1, h => (hutN_Kp n (by omega)).trans (hut1_Kp (by omega))
theorem hutN_WF {F : Nat → Nat} (h : WF F) : ∀ n, WF (hutN F n)
  | 0 => h
  | n + 1 => hut1_WF (hutN_WF h n) n
theorem wrk1_Kp {x : Nat × (Nat → Nat)} {s : Nat} (hs : s < 8) : Kp x.2 (wrk1 x s).2 ∧ (wrk1 x s).1 ≤ x.1 := by
  unfold wrk1; split
  · split
    · exact ⟨Kp.refl _, Nat.le_refl _⟩
    · refine ⟨?_, by show x.1 - _ ≤ x.1; omega⟩
      show Kp x.2 (if _ then _ else _)
      split
      · exact ((Kp.refl x.2).up (by omega)).log
      · exact (Kp.refl x.2).up (by omega)
  · exact ⟨Kp.refl _, Nat.le_refl _⟩
theorem wrk1_WF {x : Nat × (Nat → Nat)} (h : WF x.2) {s : Nat} (hs : s < x.2 0) : WF (wrk1 x s).2 := by
  have hk := h.2.2.1 s hs
  unfold ShOk at hk
  unfold wrk1; split
  · split
    · exact h
    · show WF (if _ then _ else _)
      split
      · exact (h.up_w (by omega)).log
      · exact h.up_w (by omega)
  · exact h
theorem wrkN_Kp {x : Nat × (Nat → Nat)} : ∀ n, n ≤ 8 → Kp x.2 (wrkN x n).2 ∧ (wrkN x n).1 ≤ x.1
  | 0, _ => ⟨Kp.refl _, Nat.le_refl _⟩
  | n + 1, h => ⟨(wrkN_Kp n (by omega)).1.trans (wrk1_Kp (by omega)).1, Nat.le_trans (wrk1_Kp (s := n) (by omega)).2 (wrkN_Kp n (by omega)).2⟩
theorem wrkN_WF {x : Nat × (Nat → Nat)} (h : WF x.2) : ∀ n, n ≤ x.2 0 → n ≤ 8 → WF (wrkN x n).2
  | 0, _, _ => h
  | n + 1, h1, h8 => wrk1_WF (wrkN_WF h n (by omega) (by omega)) (by have := (wrkN_Kp (x := x) n (by omega)).1.1; omega)
theorem hourF_Kp {F : Nat → Nat} (h8 : F 0 ≤ 8) (calm : Bool) : Kp F (hourF calm F) := by
  have h1 := (levF_Kp calm F).trans (hutN_Kp (F 0) h8)
  unfold hourF; split
  · exact h1.trans (wrkN_Kp (x := (F 6, hutN (levF calm F) (F 0))) (F 0) h8).1
  · exact h1
theorem hourF_WF {F : Nat → Nat} (h : WF F) (calm : Bool) : WF (hourF calm F) := by
  have h8 : F 0 ≤ 8 := h.1.1
  have h1 := hutN_WF (levF_WF h calm) (F 0)
  have h2 := (levF_Kp calm F).trans (hutN_Kp (F 0) h8)
  unfold hourF; split
  · exact wrkN_WF (x := (F 6, hutN (levF calm F) (F 0))) h1 (F 0) (by have := h2.1; show F 0 ≤ hutN (levF calm F) (F 0) 0; omega) h8
  · exact h1
/-! hours: the reference -/
theorem r_someHurt {N : Nat} (hN : 1099511627776 ≤ N) {Λ : Lay} {ad : Nat → Nat} {μ : Mem} {F : Nat → Nat} (hR : LyR Λ ad) (hW : Row μ (ad 182) 1222 F)  (hj : Inj ad) (hw : WF F) : ∃ μ', m_X12_someHurt N Λ μ (ad 181) = some μ' ∧ Row μ' (ad 182) 1222 (hutN F (F 0)) ∧ Fr ad (fun i => i = 182) μ μ' := by
  have hb := hw.1; unfold WB at hb
  unfold m_X12_someHurt lp_X12_someHurt_2
  refine cw_iv (P := fun i x => ∃ μ1 : Mem, x = (n3 i, μ1) ∧ Row μ1 (ad 182) 1222 (hutN F i) ∧ Fr ad (fun i => i = 182) μ μ1) (Q := fun X => ∃ μ', X = some μ' ∧ Row μ' (ad 182) 1222 (hutN F (F 0)) ∧ Fr ad (fun i => i = 182) μ μ') (F 0) ⟨μ, rfl, hW, Fr.refl μ⟩ (fun i hi x hx => ?_) (fun x hx => ?_) (by omega)
  · obtain ⟨μ1, rfl, hW1, hf⟩ := hx
    left
    have hk := hutN_Kp (F := F) i (by omega)
    have hw1 := hutN_WF hw i
    have e : hutN F (i + 1) = hut1 (hutN F i) i := rfl
    rw [e]
    generalize hutN F i = G at hW1 hk hw1 ⊢
    have hb1 := hw1.1; unfold WB at hb1
    have hG0 := hk.1
    have hso := hw1.2.2.1 i (by omega)
    have r0 : m_X12_ships N Λ μ1 (ad 181) = some (n3 (G 0)) := r_ships hR hW1
    have r1 := r_sits (N := N) hR hW1 hb1.2.2.2.1 i (by omega) hso
    have r2 := r_borne hN hR hW1 hb1.2.2.2.2.2.2.2.2.2.2.1 i (by omega) hso
    by_cases h1 : sitb G i = true
    · have h1' := sitb_iff.1 h1
      by_cases h2 : wdg G i = 0
      · refine ⟨_, ⟨μ1, rfl, ?_, hf⟩, fun k => ?_⟩
        · unfold hut1; rw [if_neg (fun h => h.2.2 h2)]; exact hW1
        · simp (disch := omega) only [jn_X12_someHurt_85, bd_X12_someHurt_2, r0, r1, r2, h1, h1'.1, h2, and_self, ↓lt_e, ↓gd_e, ↓Option.bind_some, ↓reduceIte, if_true, if_false, if_pT, if_nF, decide_true, Bool.not_true, Bool.not_false, not_true_eq_false, not_false_eq_true, Bool.false_eq_true, Bool.true_eq_false, eq_self, n3_lit, n3_add, n3_mul, n3_sub, n3_tn, n3_le_t, n3_le_f, n3_lt_t, n3_lt_f, n3_eq_f, n3_eq_t, n3_inb, n3_rem, n3_div, n3_zb, bb_0, bb_1, zb_bb, bb_T, bb_F, n3_dec, n3_m1, n3_eqm, n3_eqmt, n3_ltm, n3_mlt, n3_lem, n3_mle, n3_neg_lt, n3_nlt_neg, n3_nle_neg, n3_neg_le]
      · unfold ShOk at hso
        by_cases h3 : G (25 + 6 * i + 5) = 1
        · refine ⟨_, ⟨μ1, rfl, ?_, hf⟩, fun k => ?_⟩
          · unfold hut1; rw [if_neg (fun h => by omega)]; exact hW1
          · simp (disch := omega) only [jn_X12_someHurt_85, bd_X12_someHurt_2, r0, r1, r2, r_of hR hW1, h1, h1'.1, h2, h3, and_false, ↓lt_e, ↓gd_e, ↓Option.bind_some, ↓reduceIte, if_true, if_false, if_pT, if_nF, decide_true, Bool.not_true, Bool.not_false, not_true_eq_false, not_false_eq_true, Bool.false_eq_true, Bool.true_eq_false, eq_self, n3_lit, n3_add, n3_mul, n3_sub, n3_tn, n3_le_t, n3_le_f, n3_lt_t, n3_lt_f, n3_eq_f, n3_eq_t, n3_inb, n3_rem, n3_div, n3_zb, bb_0, bb_1, zb_bb, bb_T, bb_F, n3_dec, n3_m1, n3_eqm, n3_eqmt, n3_ltm, n3_mlt, n3_lem, n3_mle, n3_neg_lt, n3_nlt_neg, n3_nle_neg, n3_neg_le]
        · have h4 : G (25 + 6 * i + 5) = 0 := by omega
          have hW2 := hW1.set (25 + 6 * i + 5) 1
          have hW3 := hW2.set (25 + 6 * i + 2) (min 99 (G (25 + 6 * i + 2) + 5))
          obtain ⟨μ4, e4, hW4, f4⟩ := r_isTold hN hR hW3 hj (by simp (disch := omega) only [up_n]; omega) i 2 (G (25 + 6 * i + 4))
          refine ⟨_, ⟨μ4, rfl, ?_, ((hf.set hj rfl).set hj rfl).trans f4⟩, fun k => ?_⟩
          · unfold hut1; rw [if_pos ⟨h1, h4, h2⟩]; exact hW4
          · simp (disch := omega) only [jn_X12_someHurt_85, bd_X12_someHurt_2, ↓ob (hR.1), ↓ob (hR.2.1), ↓ob (hR.2.2.1), ↓ob (hR.2.2.2.1), ↓ob (hR.2.2.2.2.1), ↓ob (hR.2.2.2.2.2.1), ↓ob (hR.2.2.2.2.2.2.1), ↓ob (hR.2.2.2.2.2.2.2.1), ↓ob (hR.2.2.2.2.2.2.2.2.1), ↓ob (hR.2.2.2.2.2.2.2.2.2.1), ↓ob (hR.2.2.2.2.2.2.2.2.2.2.1), ↓ob (hR.2.2.2.2.2.2.2.2.2.2.2.1), ↓ob (hR.2.2.2.2.2.2.2.2.2.2.2.2.1), ↓ob (hR.2.2.2.2.2.2.2.2.2.2.2.2.2.1), ↓ob (hR.2.2.2.2.2.2.2.2.2.2.2.2.2.2.1), ↓ob (hR.2.2.2.2.2.2.2.2.2.2.2.2.2.2.2.1), ↓ob (hR.2.2.2.2.2.2.2.2.2.2.2.2.2.2.2.2.1), ↓ob (hR.2.2.2.2.2.2.2.2.2.2.2.2.2.2.2.2.2.1), hR.2.2.2.2.2.2.2.2.2.2.2.2.2.2.2.2.2.2.1, hR.2.2.2.2.2.2.2.2.2.2.2.2.2.2.2.2.2.2.2.1, hR.2.2.2.2.2.2.2.2.2.2.2.2.2.2.2.2.2.2.2.2.1, hR.2.2.2.2.2.2.2.2.2.2.2.2.2.2.2.2.2.2.2.2.2.1, hR.2.2.2.2.2.2.2.2.2.2.2.2.2.2.2.2.2.2.2.2.2.2.1, hR.2.2.2.2.2.2.2.2.2.2.2.2.2.2.2.2.2.2.2.2.2.2.2.1, hR.2.2.2.2.2.2.2.2.2.2.2.2.2.2.2.2.2.2.2.2.2.2.2.2.1, hR.2.2.2.2.2.2.2.2.2.2.2.2.2.2.2.2.2.2.2.2.2.2.2.2.2.1, hR.2.2.2.2.2.2.2.2.2.2.2.2.2.2.2.2.2.2.2.2.2.2.2.2.2.2.1, hR.2.2.2.2.2.2.2.2.2.2.2.2.2.2.2.2.2.2.2.2.2.2.2.2.2.2.2.1, hR.2.2.2.2.2.2.2.2.2.2.2.2.2.2.2.2.2.2.2.2.2.2.2.2.2.2.2.2.1, hR.2.2.2.2.2.2.2.2.2.2.2.2.2.2.2.2.2.2.2.2.2.2.2.2.2.2.2.2.2.1, hR.2.2.2.2.2.2.2.2.2.2.2.2.2.2.2.2.2.2.2.2.2.2.2.2.2.2.2.2.2.2.1, hR.2.2.2.2.2.2.2.2.2.2.2.2.2.2.2.2.2.2.2.2.2.2.2.2.2.2.2.2.2.2.2.1, hR.2.2.2.2.2.2.2.2.2.2.2.2.2.2.2.2.2.2.2.2.2.2.2.2.2.2.2.2.2.2.2.2.1, hR.2.2.2.2.2.2.2.2.2.2.2.2.2.2.2.2.2.2.2.2.2.2.2.2.2.2.2.2.2.2.2.2.2.1, hR.2.2.2.2.2.2.2.2.2.2.2.2.2.2.2.2.2.2.2.2.2.2.2.2.2.2.2.2.2.2.2.2.2.2.1, hR.2.2.2.2.2.2.2.2.2.2.2.2.2.2.2.2.2.2.2.2.2.2.2.2.2.2.2.2.2.2.2.2.2.2.2, r0, r1, r2, r_shipAt, r_of hR hW1, r_of hR hW2, r_of hR hW3, h1, h1'.1, h2, h4, e4, and_false, up_n, n3_imin, ↓lt_e, ↓gd_e, ↓Option.bind_some, ↓reduceIte, if_true, if_false, if_pT, if_nF, decide_true, Bool.not_true, Bool.not_false, not_true_eq_false, not_false_eq_true, Bool.false_eq_true, Bool.true_eq_false, eq_self, n3_lit, n3_add, n3_mul, n3_sub, n3_tn, n3_le_t, n3_le_f, n3_lt_t, n3_lt_f, n3_eq_f, n3_eq_t, n3_inb, n3_rem, n3_div, n3_zb, bb_0, bb_1, zb_bb, bb_T, bb_F, n3_dec, n3_m1, n3_eqm, n3_eqmt, n3_ltm, n3_mlt, n3_lem, n3_mle, n3_neg_lt, n3_nlt_neg, n3_nle_neg, n3_neg_le]
    · refine ⟨_, ⟨μ1, rfl, ?_, hf⟩, fun k => ?_⟩
      · unfold hut1; rw [if_neg (fun h => h1 h.1)]; exact hW1
      · simp (disch := omega) only [jn_X12_someHurt_85, bd_X12_someHurt_2, r0, r1, h1, ↓lt_e, ↓gd_e, ↓Option.bind_some, ↓reduceIte, if_true, if_false, if_pT, if_nF, decide_true, Bool.not_true, Bool.not_false, not_true_eq_false, not_false_eq_true, Bool.false_eq_true, Bool.true_eq_false, eq_self, n3_lit, n3_add, n3_mul, n3_sub, n3_tn, n3_le_t, n3_le_f, n3_lt_t, n3_lt_f, n3_eq_f, n3_eq_t, n3_inb, n3_rem, n3_div, n3_zb, bb_0, bb_1, zb_bb, bb_T, bb_F, n3_dec, n3_m1, n3_eqm, n3_eqmt, n3_ltm, n3_mlt, n3_lem, n3_mle, n3_neg_lt, n3_nlt_neg, n3_nle_neg, n3_neg_le]
  · obtain ⟨μ1, rfl, hW1, hf⟩ := hx
    have hk := hutN_Kp (F := F) (F 0) (by omega)
    have r0 : m_X12_ships N Λ μ1 (ad 181) = some (n3 (hutN F (F 0) 0)) := r_ships hR hW1
    rw [hk.1] at r0
    exact ⟨_, ⟨μ1, rfl, hW1, hf⟩, fun k => by simp (disch := omega) only [jn_X12_someHurt_85, bd_X12_someHurt_2, r0, ↓lt_e, ↓gd_e, ↓Option.bind_some, ↓reduceIte, if_true, if_false, if_pT, if_nF, decide_true, Bool.not_true, Bool.not_false, not_true_eq_false, not_false_eq_true, Bool.false_eq_true, Bool.true_eq_false, eq_self, n3_lit, n3_add, n3_mul, n3_sub, n3_tn, n3_le_t, n3_le_f, n3_lt_t, n3_lt_f, n3_eq_f, n3_eq_t, n3_inb, n3_rem, n3_div, n3_zb, bb_0, bb_1, zb_bb, bb_T, bb_F, n3_dec, n3_m1, n3_eqm, n3_eqmt, n3_ltm, n3_mlt, n3_lem, n3_mle, n3_neg_lt, n3_nlt_neg, n3_nle_neg, n3_neg_le]⟩
theorem r_allWork {N : Nat} (hN : 1099511627776 ≤ N) {Λ : Lay} {ad : Nat → Nat} {μ : Mem} {F : Nat → Nat} (hR : LyR Λ ad) (hW : Row μ (ad 182) 1222 F)  (hj : Inj ad) (hw : WF F) : ∃ μ', m_X12_allWork N Λ μ (ad 181) = some (n3 (F 6 - (wrkN (F 6, F) (F 0)).1), μ') ∧ Row μ' (ad 182) 1222 (wrkN (F 6, F) (F 0)).2 ∧ Fr ad (fun i => i = 182) μ μ' := by
  have hb := hw.1; unfold WB at hb
  simp (disch := omega) only [m_X12_allWork, lp_X12_allWork_12, ↓ob (hR.1), ↓ob (hR.2.1), ↓ob (hR.2.2.1), ↓ob (hR.2.2.2.1), ↓ob (hR.2.2.2.2.1), ↓ob (hR.2.2.2.2.2.1), ↓ob (hR.2.2.2.2.2.2.1), ↓ob (hR.2.2.2.2.2.2.2.1), ↓ob (hR.2.2.2.2.2.2.2.2.1), ↓ob (hR.2.2.2.2.2.2.2.2.2.1), ↓ob (hR.2.2.2.2.2.2.2.2.2.2.1), ↓ob (hR.2.2.2.2.2.2.2.2.2.2.2.1), ↓ob (hR.2.2.2.2.2.2.2.2.2.2.2.2.1), ↓ob (hR.2.2.2.2.2.2.2.2.2.2.2.2.2.1), ↓ob (hR.2.2.2.2.2.2.2.2.2.2.2.2.2.2.1), ↓ob (hR.2.2.2.2.2.2.2.2.2.2.2.2.2.2.2.1), ↓ob (hR.2.2.2.2.2.2.2.2.2.2.2.2.2.2.2.2.1), ↓ob (hR.2.2.2.2.2.2.2.2.2.2.2.2.2.2.2.2.2.1), hR.2.2.2.2.2.2.2.2.2.2.2.2.2.2.2.2.2.2.1, hR.2.2.2.2.2.2.2.2.2.2.2.2.2.2.2.2.2.2.2.1, hR.2.2.2.2.2.2.2.2.2.2.2.2.2.2.2.2.2.2.2.2.1, hR.2.2.2.2.2.2.2.2.2.2.2.2.2.2.2.2.2.2.2.2.2.1, hR.2.2.2.2.2.2.2.2.2.2.2.2.2.2.2.2.2.2.2.2.2.2.1, hR.2.2.2.2.2.2.2.2.2.2.2.2.2.2.2.2.2.2.2.2.2.2.2.1, hR.2.2.2.2.2.2.2.2.2.2.2.2.2.2.2.2.2.2.2.2.2.2.2.2.1, hR.2.2.2.2.2.2.2.2.2.2.2.2.2.2.2.2.2.2.2.2.2.2.2.2.2.1, hR.2.2.2.2.2.2.2.2.2.2.2.2.2.2.2.2.2.2.2.2.2.2.2.2.2.2.1, hR.2.2.2.2.2.2.2.2.2.2.2.2.2.2.2.2.2.2.2.2.2.2.2.2.2.2.2.1, hR.2.2.2.2.2.2.2.2.2.2.2.2.2.2.2.2.2.2.2.2.2.2.2.2.2.2.2.2.1, hR.2.2.2.2.2.2.2.2.2.2.2.2.2.2.2.2.2.2.2.2.2.2.2.2.2.2.2.2.2.1, hR.2.2.2.2.2.2.2.2.2.2.2.2.2.2.2.2.2.2.2.2.2.2.2.2.2.2.2.2.2.2.1, hR.2.2.2.2.2.2.2.2.2.2.2.2.2.2.2.2.2.2.2.2.2.2.2.2.2.2.2.2.2.2.2.1, hR.2.2.2.2.2.2.2.2.2.2.2.2.2.2.2.2.2.2.2.2.2.2.2.2.2.2.2.2.2.2.2.2.1, hR.2.2.2.2.2.2.2.2.2.2.2.2.2.2.2.2.2.2.2.2.2.2.2.2.2.2.2.2.2.2.2.2.2.1, hR.2.2.2.2.2.2.2.2.2.2.2.2.2.2.2.2.2.2.2.2.2.2.2.2.2.2.2.2.2.2.2.2.2.2.1, hR.2.2.2.2.2.2.2.2.2.2.2.2.2.2.2.2.2.2.2.2.2.2.2.2.2.2.2.2.2.2.2.2.2.2.2, hW, ↓lt_e, ↓gd_e, ↓Option.bind_some, ↓reduceIte, if_true, if_false, if_pT, if_nF, decide_true, Bool.not_true, Bool.not_false, not_true_eq_false, not_false_eq_true, Bool.false_eq_true, Bool.true_eq_false, eq_self, n3_lit, n3_add, n3_mul, n3_sub, n3_tn, n3_le_t, n3_le_f, n3_lt_t, n3_lt_f, n3_eq_f, n3_eq_t, n3_inb, n3_rem, n3_div, n3_zb, bb_0, bb_1, zb_bb, bb_T, bb_F, n3_dec, n3_m1, n3_eqm, n3_eqmt, n3_ltm, n3_mlt, n3_lem, n3_mle, n3_neg_lt, n3_nlt_neg, n3_nle_neg, n3_neg_le]
  refine cw_iv (P := fun i x => ∃ μ1 : Mem, x = (n3 (wrkN (F 6, F) i).1, n3 (F 6 - (wrkN (F 6, F) i).1), n3 i, μ1) ∧ Row μ1 (ad 182) 1222 (wrkN (F 6, F) i).2 ∧ Fr ad (fun i => i = 182) μ μ1) (Q := fun X => ∃ μ', X = some (n3 (F 6 - (wrkN (F 6, F) (F 0)).1), μ') ∧ Row μ' (ad 182) 1222 (wrkN (F 6, F) (F 0)).2 ∧ Fr ad (fun i => i = 182) μ μ') (F 0) ⟨μ, by show _ = (n3 (F 6), n3 (F 6 - F 6), n3 0, μ); rw [Nat.sub_self], hW, Fr.refl μ⟩ (fun i hi x hx => ?_) (fun x hx => ?_) (by omega)
  · obtain ⟨μ1, rfl, hW1, hf⟩ := hx
    left
    obtain ⟨hk, hle⟩ := wrkN_Kp (x := (F 6, F)) i (by omega)
    have hw1 := wrkN_WF (x := (F 6, F)) hw i (by show i ≤ F 0; omega) (by omega)
    have e : wrkN (F 6, F) (i + 1) = wrk1 (wrkN (F 6, F) i) i := rfl
    rw [e]
    generalize wrkN (F 6, F) i = G at hW1 hk hw1 hle ⊢
    obtain ⟨l, G⟩ := G
    simp only at hW1 hk hw1 hle ⊢
    have hb1 := hw1.1; unfold WB at hb1
    have hso := hw1.2.2.1 i (by have := hk.1; omega)
    have r0 : m_X12_ships N Λ μ1 (ad 181) = some (n3 (F 0)) := by rw [r_ships hR hW1, hk.1]
    have r1 := r_sits (N := N) hR hW1 hb1.2.2.2.1 i (by omega) hso
    unfold ShOk at hso
    by_cases h1 : sitb G i = true
    · by_cases h2 : min l (G (25 + 6 * i + 2)) = 0
      · have ew : wrk1 (l, G) i = (l, G) := by unfold wrk1; rw [if_pos h1, if_pos h2]
        rw [ew]
        refine ⟨_, ⟨μ1, rfl, hW1, hf⟩, fun k => ?_⟩
        simp (disch := omega) only [jn_X12_allWork_98, jn_X12_allWork_42, bd_X12_allWork_12, r0, r1, r_of hR hW1, h1, h2, n3_imin, ↓lt_e, ↓gd_e, ↓Option.bind_some, ↓reduceIte, if_true, if_false, if_pT, if_nF, decide_true, Bool.not_true, Bool.not_false, not_true_eq_false, not_false_eq_true, Bool.false_eq_true, Bool.true_eq_false, eq_self, n3_lit, n3_add, n3_mul, n3_sub, n3_tn, n3_le_t, n3_le_f, n3_lt_t, n3_lt_f, n3_eq_f, n3_eq_t, n3_inb, n3_rem, n3_div, n3_zb, bb_0, bb_1, zb_bb, bb_T, bb_F, n3_dec, n3_m1, n3_eqm, n3_eqmt, n3_ltm, n3_mlt, n3_lem, n3_mle, n3_neg_lt, n3_nlt_neg, n3_nle_neg, n3_neg_le]
      · have hW2 := hW1.set (25 + 6 * i + 2) (G (25 + 6 * i + 2) - min l (G (25 + 6 * i + 2)))
        by_cases h3 : G (25 + 6 * i + 2) - min l (G (25 + 6 * i + 2)) = 0
        · obtain ⟨μ4, e4, hW4, f4⟩ := r_isTold hN hR hW2 hj (by simp (disch := omega) only [up_n]; omega) i 3 (G (25 + 6 * i + 4))
          have ew : wrk1 (l, G) i = (l - min l (G (25 + 6 * i + 2)), logF (up G (25 + 6 * i + 2) (G (25 + 6 * i + 2) - min l (G (25 + 6 * i + 2)))) i 3 (G (25 + 6 * i + 4))) := by unfold wrk1; rw [if_pos h1, if_neg h2]; simp only; rw [if_pos h3]
          rw [ew]
          refine ⟨_, ⟨μ4, rfl, hW4, (hf.set hj rfl).trans f4⟩, fun k => ?_⟩
          simp (disch := omega) only [jn_X12_allWork_98, jn_X12_allWork_42, bd_X12_allWork_12, ↓ob (hR.1), ↓ob (hR.2.1), ↓ob (hR.2.2.1), ↓ob (hR.2.2.2.1), ↓ob (hR.2.2.2.2.1), ↓ob (hR.2.2.2.2.2.1), ↓ob (hR.2.2.2.2.2.2.1), ↓ob (hR.2.2.2.2.2.2.2.1), ↓ob (hR.2.2.2.2.2.2.2.2.1), ↓ob (hR.2.2.2.2.2.2.2.2.2.1), ↓ob (hR.2.2.2.2.2.2.2.2.2.2.1), ↓ob (hR.2.2.2.2.2.2.2.2.2.2.2.1), ↓ob (hR.2.2.2.2.2.2.2.2.2.2.2.2.1), ↓ob (hR.2.2.2.2.2.2.2.2.2.2.2.2.2.1), ↓ob (hR.2.2.2.2.2.2.2.2.2.2.2.2.2.2.1), ↓ob (hR.2.2.2.2.2.2.2.2.2.2.2.2.2.2.2.1), ↓ob (hR.2.2.2.2.2.2.2.2.2.2.2.2.2.2.2.2.1), ↓ob (hR.2.2.2.2.2.2.2.2.2.2.2.2.2.2.2.2.2.1), hR.2.2.2.2.2.2.2.2.2.2.2.2.2.2.2.2.2.2.1, hR.2.2.2.2.2.2.2.2.2.2.2.2.2.2.2.2.2.2.2.1, hR.2.2.2.2.2.2.2.2.2.2.2.2.2.2.2.2.2.2.2.2.1, hR.2.2.2.2.2.2.2.2.2.2.2.2.2.2.2.2.2.2.2.2.2.1, hR.2.2.2.2.2.2.2.2.2.2.2.2.2.2.2.2.2.2.2.2.2.2.1, hR.2.2.2.2.2.2.2.2.2.2.2.2.2.2.2.2.2.2.2.2.2.2.2.1, hR.2.2.2.2.2.2.2.2.2.2.2.2.2.2.2.2.2.2.2.2.2.2.2.2.1, hR.2.2.2.2.2.2.2.2.2.2.2.2.2.2.2.2.2.2.2.2.2.2.2.2.2.1, hR.2.2.2.2.2.2.2.2.2.2.2.2.2.2.2.2.2.2.2.2.2.2.2.2.2.2.1, hR.2.2.2.2.2.2.2.2.2.2.2.2.2.2.2.2.2.2.2.2.2.2.2.2.2.2.2.1, hR.2.2.2.2.2.2.2.2.2.2.2.2.2.2.2.2.2.2.2.2.2.2.2.2.2.2.2.2.1, hR.2.2.2.2.2.2.2.2.2.2.2.2.2.2.2.2.2.2.2.2.2.2.2.2.2.2.2.2.2.1, hR.2.2.2.2.2.2.2.2.2.2.2.2.2.2.2.2.2.2.2.2.2.2.2.2.2.2.2.2.2.2.1, hR.2.2.2.2.2.2.2.2.2.2.2.2.2.2.2.2.2.2.2.2.2.2.2.2.2.2.2.2.2.2.2.1, hR.2.2.2.2.2.2.2.2.2.2.2.2.2.2.2.2.2.2.2.2.2.2.2.2.2.2.2.2.2.2.2.2.1, hR.2.2.2.2.2.2.2.2.2.2.2.2.2.2.2.2.2.2.2.2.2.2.2.2.2.2.2.2.2.2.2.2.2.1, hR.2.2.2.2.2.2.2.2.2.2.2.2.2.2.2.2.2.2.2.2.2.2.2.2.2.2.2.2.2.2.2.2.2.2.1, hR.2.2.2.2.2.2.2.2.2.2.2.2.2.2.2.2.2.2.2.2.2.2.2.2.2.2.2.2.2.2.2.2.2.2.2, hW1, r0, r1, r_shipAt, r_of hR hW1, r_of hR hW2, h1, h2, n3_imin, up_n, up_e, e4, ↓lt_e, ↓gd_e, ↓Option.bind_some, ↓reduceIte, if_true, if_false, if_pT, if_nF, decide_true, Bool.not_true, Bool.not_false, not_true_eq_false, not_false_eq_true, Bool.false_eq_true, Bool.true_eq_false, eq_self, n3_lit, n3_add, n3_mul, n3_sub, n3_tn, n3_le_t, n3_le_f, n3_lt_t, n3_lt_f, n3_eq_f, n3_eq_t, n3_inb, n3_rem, n3_div, n3_zb, bb_0, bb_1, zb_bb, bb_T, bb_F, n3_dec, n3_m1, n3_eqm, n3_eqmt, n3_ltm, n3_mlt, n3_lem, n3_mle, n3_neg_lt, n3_nlt_neg, n3_nle_neg, n3_neg_le]
          rw [show F 6 - l + min l (G (25 + 6 * i + 2)) = F 6 - (l - min l (G (25 + 6 * i + 2))) by omega]
        · have ew : wrk1 (l, G) i = (l - min l (G (25 + 6 * i + 2)), up G (25 + 6 * i + 2) (G (25 + 6 * i + 2) - min l (G (25 + 6 * i + 2)))) := by unfold wrk1; rw [if_pos h1, if_neg h2]; simp only; rw [if_neg h3]
          rw [ew]
          refine ⟨_, ⟨_, rfl, hW2, hf.set hj rfl⟩, fun k => ?_⟩
          simp (disch := omega) only [jn_X12_allWork_98, jn_X12_allWork_42, bd_X12_allWork_12, ↓ob (hR.1), ↓ob (hR.2.1), ↓ob (hR.2.2.1), ↓ob (hR.2.2.2.1), ↓ob (hR.2.2.2.2.1), ↓ob (hR.2.2.2.2.2.1), ↓ob (hR.2.2.2.2.2.2.1), ↓ob (hR.2.2.2.2.2.2.2.1), ↓ob (hR.2.2.2.2.2.2.2.2.1), ↓ob (hR.2.2.2.2.2.2.2.2.2.1), ↓ob (hR.2.2.2.2.2.2.2.2.2.2.1), ↓ob (hR.2.2.2.2.2.2.2.2.2.2.2.1), ↓ob (hR.2.2.2.2.2.2.2.2.2.2.2.2.1), ↓ob (hR.2.2.2.2.2.2.2.2.2.2.2.2.2.1), ↓ob (hR.2.2.2.2.2.2.2.2.2.2.2.2.2.2.1), ↓ob (hR.2.2.2.2.2.2.2.2.2.2.2.2.2.2.2.1), ↓ob (hR.2.2.2.2.2.2.2.2.2.2.2.2.2.2.2.2.1), ↓ob (hR.2.2.2.2.2.2.2.2.2.2.2.2.2.2.2.2.2.1), hR.2.2.2.2.2.2.2.2.2.2.2.2.2.2.2.2.2.2.1, hR.2.2.2.2.2.2.2.2.2.2.2.2.2.2.2.2.2.2.2.1, hR.2.2.2.2.2.2.2.2.2.2.2.2.2.2.2.2.2.2.2.2.1, hR.2.2.2.2.2.2.2.2.2.2.2.2.2.2.2.2.2.2.2.2.2.1, hR.2.2.2.2.2.2.2.2.2.2.2.2.2.2.2.2.2.2.2.2.2.2.1, hR.2.2.2.2.2.2.2.2.2.2.2.2.2.2.2.2.2.2.2.2.2.2.2.1, hR.2.2.2.2.2.2.2.2.2.2.2.2.2.2.2.2.2.2.2.2.2.2.2.2.1, hR.2.2.2.2.2.2.2.2.2.2.2.2.2.2.2.2.2.2.2.2.2.2.2.2.2.1, hR.2.2.2.2.2.2.2.2.2.2.2.2.2.2.2.2.2.2.2.2.2.2.2.2.2.2.1, hR.2.2.2.2.2.2.2.2.2.2.2.2.2.2.2.2.2.2.2.2.2.2.2.2.2.2.2.1, hR.2.2.2.2.2.2.2.2.2.2.2.2.2.2.2.2.2.2.2.2.2.2.2.2.2.2.2.2.1, hR.2.2.2.2.2.2.2.2.2.2.2.2.2.2.2.2.2.2.2.2.2.2.2.2.2.2.2.2.2.1, hR.2.2.2.2.2.2.2.2.2.2.2.2.2.2.2.2.2.2.2.2.2.2.2.2.2.2.2.2.2.2.1, hR.2.2.2.2.2.2.2.2.2.2.2.2.2.2.2.2.2.2.2.2.2.2.2.2.2.2.2.2.2.2.2.1, hR.2.2.2.2.2.2.2.2.2.2.2.2.2.2.2.2.2.2.2.2.2.2.2.2.2.2.2.2.2.2.2.2.1, hR.2.2.2.2.2.2.2.2.2.2.2.2.2.2.2.2.2.2.2.2.2.2.2.2.2.2.2.2.2.2.2.2.2.1, hR.2.2.2.2.2.2.2.2.2.2.2.2.2.2.2.2.2.2.2.2.2.2.2.2.2.2.2.2.2.2.2.2.2.2.1, hR.2.2.2.2.2.2.2.2.2.2.2.2.2.2.2.2.2.2.2.2.2.2.2.2.2.2.2.2.2.2.2.2.2.2.2, hW1, r0, r1, r_shipAt, r_of hR hW1, r_of hR hW2, h1, h2, n3_imin, up_n, up_e, ↓lt_e, ↓gd_e, ↓Option.bind_some, ↓reduceIte, if_true, if_false, if_pT, if_nF, decide_true, Bool.not_true, Bool.not_false, not_true_eq_false, not_false_eq_true, Bool.false_eq_true, Bool.true_eq_false, eq_self, n3_lit, n3_add, n3_mul, n3_sub, n3_tn, n3_le_t, n3_le_f, n3_lt_t, n3_lt_f, n3_eq_f, n3_eq_t, n3_inb, n3_rem, n3_div, n3_zb, bb_0, bb_1, zb_bb, bb_T, bb_F, n3_dec, n3_m1, n3_eqm, n3_eqmt, n3_ltm, n3_mlt, n3_lem, n3_mle, n3_neg_lt, n3_nlt_neg, n3_nle_neg, n3_neg_le]
          rw [show F 6 - l + min l (G (25 + 6 * i + 2)) = F 6 - (l - min l (G (25 + 6 * i + 2))) by omega]
    · have ew : wrk1 (l, G) i = (l, G) := by unfold wrk1; rw [if_neg h1]
      rw [ew]
      refine ⟨_, ⟨μ1, rfl, hW1, hf⟩, fun k => ?_⟩
      simp (disch := omega) only [jn_X12_allWork_98, jn_X12_allWork_42, bd_X12_allWork_12, r0, r1, h1, ↓lt_e, ↓gd_e, ↓Option.bind_some, ↓reduceIte, if_true, if_false, if_pT, if_nF, decide_true, Bool.not_true, Bool.not_false, not_true_eq_false, not_false_eq_true, Bool.false_eq_true, Bool.true_eq_false, eq_self, n3_lit, n3_add, n3_mul, n3_sub, n3_tn, n3_le_t, n3_le_f, n3_lt_t, n3_lt_f, n3_eq_f, n3_eq_t, n3_inb, n3_rem, n3_div, n3_zb, bb_0, bb_1, zb_bb, bb_T, bb_F, n3_dec, n3_m1, n3_eqm, n3_eqmt, n3_ltm, n3_mlt, n3_lem, n3_mle, n3_neg_lt, n3_nlt_neg, n3_nle_neg, n3_neg_le]
  · obtain ⟨μ1, rfl, hW1, hf⟩ := hx
    have hk := (wrkN_Kp (x := (F 6, F)) (F 0) (by omega)).1
    have r0 : m_X12_ships N Λ μ1 (ad 181) = some (n3 (F 0)) := by rw [r_ships hR hW1, hk.1]
    exact ⟨_, ⟨μ1, rfl, hW1, hf⟩, fun k => by simp (disch := omega) only [jn_X12_allWork_98, jn_X12_allWork_42, bd_X12_allWork_12, r0, ↓lt_e, ↓gd_e, ↓Option.bind_some, ↓reduceIte, if_true, if_false, if_pT, if_nF, decide_true, Bool.not_true, Bool.not_false, not_true_eq_false, not_false_eq_true, Bool.false_eq_true, Bool.true_eq_false, eq_self, n3_lit, n3_add, n3_mul, n3_sub, n3_tn, n3_le_t, n3_le_f, n3_lt_t, n3_lt_f, n3_eq_f, n3_eq_t, n3_inb, n3_rem, n3_div, n3_zb, bb_0, bb_1, zb_bb, bb_T, bb_F, n3_dec, n3_m1, n3_eqm, n3_eqmt, n3_ltm, n3_mlt, n3_lem, n3_mle, n3_neg_lt, n3_nlt_neg, n3_nle_neg, n3_neg_le]⟩
theorem n3_clip {a b : Nat} (ha : a < 1073741824) (hb : b < 1073741824) : imax (n3 0) (imin (n3 40) (n3 a - n3 b)) = n3 (min 40 (a - b)) := by
  by_cases h : b ≤ a
  · rw [n3_sub h, n3_imin (by omega) (by omega), n3_imax (by omega) (by omega)]; congr 1 <;> omega
  · have hs := n3_sub_toInt ha hb
    have h1 : n3 a - n3 b < n3 40 := by rw [Int32.lt_iff_toInt_lt, hs, n3_toInt (by omega)]; omega
    have h2 : ¬ n3 0 < n3 a - n3 b := by rw [Int32.lt_iff_toInt_lt, hs, n3_toInt (by omega)]; omega
    unfold imin; rw [if_pos h1]; unfold imax; rw [if_neg h2]; congr 1 <;> omega
theorem hourF_of {calm : Bool} {F : Nat → Nat} (hw : WF F) : (hutN (levF calm F) (F 0)) 6 = F 6 ∧ (hutN (levF calm F) (F 0)) 0 = F 0 ∧ (levF calm F) 0 = F 0 := by
  have h2 := (levF_Kp calm F).trans (hutN_Kp (F 0) hw.1.1)
  exact ⟨h2.2.2.2.2.1, h2.1, (levF_Kp calm F).1⟩
/-- behind the level -/
theorem r_rest {N : Nat} (hN : 1099511627776 ≤ N) {Λ : Lay} {ad : Nat → Nat} {μ : Mem} {F : Nat → Nat} (hR : LyR Λ ad) (hW : Row μ (ad 182) 1222 F)  (hj : Inj ad) {G : Nat → Nat} {calm : Bool} (hw : WF G) (e : F = levF calm G) : ∃ μ', jn_X12_oneHour_99 N Λ μ (ad 181) = some (n3 (dnF calm G), μ') ∧ Row μ' (ad 182) 1222 (hourF calm G) ∧ Fr ad (fun i => i = 182) μ μ' := by
  subst e
  have hb := hw.1; unfold WB at hb
  have hw1 := levF_WF hw calm
  obtain ⟨e6, e0, e00⟩ := hourF_of (calm := calm) hw
  obtain ⟨μ1, e1, hW1, f1⟩ := r_someHurt hN hR hW hj hw1
  rw [e00] at hW1
  have hw2 := hutN_WF hw1 (G 0)
  have hb2 := hw2.1; unfold WB at hb2
  obtain ⟨μ2, e2, hW2, f2⟩ := r_allWork hN hR hW1 hj hw2
  rw [e6, e0] at e2 hW2
  by_cases h : hutN (levF calm G) (G 0) 3 ≤ 2
  · refine ⟨μ2, ?_, ?_, f1.trans f2⟩
    · simp (disch := omega) only [jn_X12_oneHour_99, jn_X12_oneHour_121, ↓ob (hR.1), ↓ob (hR.2.1), ↓ob (hR.2.2.1), ↓ob (hR.2.2.2.1), ↓ob (hR.2.2.2.2.1), ↓ob (hR.2.2.2.2.2.1), ↓ob (hR.2.2.2.2.2.2.1), ↓ob (hR.2.2.2.2.2.2.2.1), ↓ob (hR.2.2.2.2.2.2.2.2.1), ↓ob (hR.2.2.2.2.2.2.2.2.2.1), ↓ob (hR.2.2.2.2.2.2.2.2.2.2.1), ↓ob (hR.2.2.2.2.2.2.2.2.2.2.2.1), ↓ob (hR.2.2.2.2.2.2.2.2.2.2.2.2.1), ↓ob (hR.2.2.2.2.2.2.2.2.2.2.2.2.2.1), ↓ob (hR.2.2.2.2.2.2.2.2.2.2.2.2.2.2.1), ↓ob (hR.2.2.2.2.2.2.2.2.2.2.2.2.2.2.2.1), ↓ob (hR.2.2.2.2.2.2.2.2.2.2.2.2.2.2.2.2.1), ↓ob (hR.2.2.2.2.2.2.2.2.2.2.2.2.2.2.2.2.2.1), hR.2.2.2.2.2.2.2.2.2.2.2.2.2.2.2.2.2.2.1, hR.2.2.2.2.2.2.2.2.2.2.2.2.2.2.2.2.2.2.2.1, hR.2.2.2.2.2.2.2.2.2.2.2.2.2.2.2.2.2.2.2.2.1, hR.2.2.2.2.2.2.2.2.2.2.2.2.2.2.2.2.2.2.2.2.2.1, hR.2.2.2.2.2.2.2.2.2.2.2.2.2.2.2.2.2.2.2.2.2.2.1, hR.2.2.2.2.2.2.2.2.2.2.2.2.2.2.2.2.2.2.2.2.2.2.2.1, hR.2.2.2.2.2.2.2.2.2.2.2.2.2.2.2.2.2.2.2.2.2.2.2.2.1, hR.2.2.2.2.2.2.2.2.2.2.2.2.2.2.2.2.2.2.2.2.2.2.2.2.2.1, hR.2.2.2.2.2.2.2.2.2.2.2.2.2.2.2.2.2.2.2.2.2.2.2.2.2.2.1, hR.2.2.2.2.2.2.2.2.2.2.2.2.2.2.2.2.2.2.2.2.2.2.2.2.2.2.2.1, hR.2.2.2.2.2.2.2.2.2.2.2.2.2.2.2.2.2.2.2.2.2.2.2.2.2.2.2.2.1, hR.2.2.2.2.2.2.2.2.2.2.2.2.2.2.2.2.2.2.2.2.2.2.2.2.2.2.2.2.2.1, hR.2.2.2.2.2.2.2.2.2.2.2.2.2.2.2.2.2.2.2.2.2.2.2.2.2.2.2.2.2.2.1, hR.2.2.2.2.2.2.2.2.2.2.2.2.2.2.2.2.2.2.2.2.2.2.2.2.2.2.2.2.2.2.2.1, hR.2.2.2.2.2.2.2.2.2.2.2.2.2.2.2.2.2.2.2.2.2.2.2.2.2.2.2.2.2.2.2.2.1, hR.2.2.2.2.2.2.2.2.2.2.2.2.2.2.2.2.2.2.2.2.2.2.2.2.2.2.2.2.2.2.2.2.2.1, hR.2.2.2.2.2.2.2.2.2.2.2.2.2.2.2.2.2.2.2.2.2.2.2.2.2.2.2.2.2.2.2.2.2.2.1, hR.2.2.2.2.2.2.2.2.2.2.2.2.2.2.2.2.2.2.2.2.2.2.2.2.2.2.2.2.2.2.2.2.2.2.2, e1, e2, hW1, h, dnF, ↓lt_e, ↓gd_e, ↓Option.bind_some, ↓reduceIte, if_true, if_false, if_pT, if_nF, decide_true, Bool.not_true, Bool.not_false, not_true_eq_false, not_false_eq_true, Bool.false_eq_true, Bool.true_eq_false, eq_self, n3_lit, n3_add, n3_mul, n3_sub, n3_tn, n3_le_t, n3_le_f, n3_lt_t, n3_lt_f, n3_eq_f, n3_eq_t, n3_inb, n3_rem, n3_div, n3_zb, bb_0, bb_1, zb_bb, bb_T, bb_F, n3_dec, n3_m1, n3_eqm, n3_eqmt, n3_ltm, n3_mlt, n3_lem, n3_mle, n3_neg_lt, n3_nlt_neg, n3_nle_neg, n3_neg_le]
    · unfold hourF; rw [if_pos h]; exact hW2
  · refine ⟨μ1, ?_, ?_, f1⟩
    · simp (disch := omega) only [jn_X12_oneHour_99, jn_X12_oneHour_121, ↓ob (hR.1), ↓ob (hR.2.1), ↓ob (hR.2.2.1), ↓ob (hR.2.2.2.1), ↓ob (hR.2.2.2.2.1), ↓ob (hR.2.2.2.2.2.1), ↓ob (hR.2.2.2.2.2.2.1), ↓ob (hR.2.2.2.2.2.2.2.1), ↓ob (hR.2.2.2.2.2.2.2.2.1), ↓ob (hR.2.2.2.2.2.2.2.2.2.1), ↓ob (hR.2.2.2.2.2.2.2.2.2.2.1), ↓ob (hR.2.2.2.2.2.2.2.2.2.2.2.1), ↓ob (hR.2.2.2.2.2.2.2.2.2.2.2.2.1), ↓ob (hR.2.2.2.2.2.2.2.2.2.2.2.2.2.1), ↓ob (hR.2.2.2.2.2.2.2.2.2.2.2.2.2.2.1), ↓ob (hR.2.2.2.2.2.2.2.2.2.2.2.2.2.2.2.1), ↓ob (hR.2.2.2.2.2.2.2.2.2.2.2.2.2.2.2.2.1), ↓ob (hR.2.2.2.2.2.2.2.2.2.2.2.2.2.2.2.2.2.1), hR.2.2.2.2.2.2.2.2.2.2.2.2.2.2.2.2.2.2.1, hR.2.2.2.2.2.2.2.2.2.2.2.2.2.2.2.2.2.2.2.1, hR.2.2.2.2.2.2.2.2.2.2.2.2.2.2.2.2.2.2.2.2.1, hR.2.2.2.2.2.2.2.2.2.2.2.2.2.2.2.2.2.2.2.2.2.1, hR.2.2.2.2.2.2.2.2.2.2.2.2.2.2.2.2.2.2.2.2.2.2.1, hR.2.2.2.2.2.2.2.2.2.2.2.2.2.2.2.2.2.2.2.2.2.2.2.1, hR.2.2.2.2.2.2.2.2.2.2.2.2.2.2.2.2.2.2.2.2.2.2.2.2.1, hR.2.2.2.2.2.2.2.2.2.2.2.2.2.2.2.2.2.2.2.2.2.2.2.2.2.1, hR.2.2.2.2.2.2.2.2.2.2.2.2.2.2.2.2.2.2.2.2.2.2.2.2.2.2.1, hR.2.2.2.2.2.2.2.2.2.2.2.2.2.2.2.2.2.2.2.2.2.2.2.2.2.2.2.1, hR.2.2.2.2.2.2.2.2.2.2.2.2.2.2.2.2.2.2.2.2.2.2.2.2.2.2.2.2.1, hR.2.2.2.2.2.2.2.2.2.2.2.2.2.2.2.2.2.2.2.2.2.2.2.2.2.2.2.2.2.1, hR.2.2.2.2.2.2.2.2.2.2.2.2.2.2.2.2.2.2.2.2.2.2.2.2.2.2.2.2.2.2.1, hR.2.2.2.2.2.2.2.2.2.2.2.2.2.2.2.2.2.2.2.2.2.2.2.2.2.2.2.2.2.2.2.1, hR.2.2.2.2.2.2.2.2.2.2.2.2.2.2.2.2.2.2.2.2.2.2.2.2.2.2.2.2.2.2.2.2.1, hR.2.2.2.2.2.2.2.2.2.2.2.2.2.2.2.2.2.2.2.2.2.2.2.2.2.2.2.2.2.2.2.2.2.1, hR.2.2.2.2.2.2.2.2.2.2.2.2.2.2.2.2.2.2.2.2.2.2.2.2.2.2.2.2.2.2.2.2.2.2.1, hR.2.2.2.2.2.2.2.2.2.2.2.2.2.2.2.2.2.2.2.2.2.2.2.2.2.2.2.2.2.2.2.2.2.2.2, e1, hW1, h, dnF, ↓lt_e, ↓gd_e, ↓Option.bind_some, ↓reduceIte, if_true, if_false, if_pT, if_nF, decide_true, Bool.not_true, Bool.not_false, not_true_eq_false, not_false_eq_true, Bool.false_eq_true, Bool.true_eq_false, eq_self, n3_lit, n3_add, n3_mul, n3_sub, n3_tn, n3_le_t, n3_le_f, n3_lt_t, n3_lt_f, n3_eq_f, n3_eq_t, n3_inb, n3_rem, n3_div, n3_zb, bb_0, bb_1, zb_bb, bb_T, bb_F, n3_dec, n3_m1, n3_eqm, n3_eqmt, n3_ltm, n3_mlt, n3_lem, n3_mle, n3_neg_lt, n3_nlt_neg, n3_nle_neg, n3_neg_le]
    · unfold hourF; rw [if_neg h]; exact hW1
theorem r_drawn {N : Nat} {Λ : Lay} {ad : Nat → Nat} {μ : Mem} {F : Nat → Nat} (hR : LyR Λ ad) (hW : Row μ (ad 182) 1222 F)  (hj : Inj ad) (n : Nat) (hn : 0 < n) (hn6 : n ≤ 6) (h12 : F 12 < 4294967296) : ∃ μ', m_X12_drawn N Λ μ (ad 181) (n3 n) = some (n3 (drF F % n), μ') ∧ Row μ' (ad 182) 1222 (up F 12 (sdF F)) ∧ Fr ad (fun i => i = 182) μ μ' := by
  have h0 : n3 1103515245 * n3 (F 12) + n3 12345 = n3 (sdF F) := by
    rw [n3_mul, n3_add, ← n3_mod]; rfl
  have hs : sdF F < 4294967296 := Nat.mod_lt _ (by decide)
  have hd : drF F < 32768 := Nat.mod_lt _ (by decide)
  have hW1 := hW.set 12 (sdF F)
  refine ⟨_, ?_, hW1, (Fr.refl μ).set hj rfl⟩
  have ed : sdF F / 65536 % 32768 = drF F := rfl
  simp (disch := omega) only [m_X12_drawn, ↓ob (hR.1), ↓ob (hR.2.1), ↓ob (hR.2.2.1), ↓ob (hR.2.2.2.1), ↓ob (hR.2.2.2.2.1), ↓ob (hR.2.2.2.2.2.1), ↓ob (hR.2.2.2.2.2.2.1), ↓ob (hR.2.2.2.2.2.2.2.1), ↓ob (hR.2.2.2.2.2.2.2.2.1), ↓ob (hR.2.2.2.2.2.2.2.2.2.1), ↓ob (hR.2.2.2.2.2.2.2.2.2.2.1), ↓ob (hR.2.2.2.2.2.2.2.2.2.2.2.1), ↓ob (hR.2.2.2.2.2.2.2.2.2.2.2.2.1), ↓ob (hR.2.2.2.2.2.2.2.2.2.2.2.2.2.1), ↓ob (hR.2.2.2.2.2.2.2.2.2.2.2.2.2.2.1), ↓ob (hR.2.2.2.2.2.2.2.2.2.2.2.2.2.2.2.1), ↓ob (hR.2.2.2.2.2.2.2.2.2.2.2.2.2.2.2.2.1), ↓ob (hR.2.2.2.2.2.2.2.2.2.2.2.2.2.2.2.2.2.1), hR.2.2.2.2.2.2.2.2.2.2.2.2.2.2.2.2.2.2.1, hR.2.2.2.2.2.2.2.2.2.2.2.2.2.2.2.2.2.2.2.1, hR.2.2.2.2.2.2.2.2.2.2.2.2.2.2.2.2.2.2.2.2.1, hR.2.2.2.2.2.2.2.2.2.2.2.2.2.2.2.2.2.2.2.2.2.1, hR.2.2.2.2.2.2.2.2.2.2.2.2.2.2.2.2.2.2.2.2.2.2.1, hR.2.2.2.2.2.2.2.2.2.2.2.2.2.2.2.2.2.2.2.2.2.2.2.1, hR.2.2.2.2.2.2.2.2.2.2.2.2.2.2.2.2.2.2.2.2.2.2.2.2.1, hR.2.2.2.2.2.2.2.2.2.2.2.2.2.2.2.2.2.2.2.2.2.2.2.2.2.1, hR.2.2.2.2.2.2.2.2.2.2.2.2.2.2.2.2.2.2.2.2.2.2.2.2.2.2.1, hR.2.2.2.2.2.2.2.2.2.2.2.2.2.2.2.2.2.2.2.2.2.2.2.2.2.2.2.1, hR.2.2.2.2.2.2.2.2.2.2.2.2.2.2.2.2.2.2.2.2.2.2.2.2.2.2.2.2.1, hR.2.2.2.2.2.2.2.2.2.2.2.2.2.2.2.2.2.2.2.2.2.2.2.2.2.2.2.2.2.1, hR.2.2.2.2.2.2.2.2.2.2.2.2.2.2.2.2.2.2.2.2.2.2.2.2.2.2.2.2.2.2.1, hR.2.2.2.2.2.2.2.2.2.2.2.2.2.2.2.2.2.2.2.2.2.2.2.2.2.2.2.2.2.2.2.1, hR.2.2.2.2.2.2.2.2.2.2.2.2.2.2.2.2.2.2.2.2.2.2.2.2.2.2.2.2.2.2.2.2.1, hR.2.2.2.2.2.2.2.2.2.2.2.2.2.2.2.2.2.2.2.2.2.2.2.2.2.2.2.2.2.2.2.2.2.1, hR.2.2.2.2.2.2.2.2.2.2.2.2.2.2.2.2.2.2.2.2.2.2.2.2.2.2.2.2.2.2.2.2.2.2.1, hR.2.2.2.2.2.2.2.2.2.2.2.2.2.2.2.2.2.2.2.2.2.2.2.2.2.2.2.2.2.2.2.2.2.2.2, hW, ↓lt_e, ↓gd_e, ↓Option.bind_some, ↓reduceIte, if_true, if_false, if_pT, if_nF, decide_true, Bool.not_true, Bool.not_false, not_true_eq_false, not_false_eq_true, Bool.false_eq_true, Bool.true_eq_false, eq_self, n3_lit, n3_tn, n3_inb, n3_eq_f, h0, mse, n3_sdr, ed, n3_rem]
theorem r_oneHour {N : Nat} (hN : 1099511627776 ≤ N) {Λ : Lay} {ad : Nat → Nat} {μ : Mem} {F : Nat → Nat} (hR : LyR Λ ad) (hW : Row μ (ad 182) 1222 F)  (hj : Inj ad) (hw : WF F) (hl : LawOk F) (calm : Bool) (v : Int32) (hv : v = n3 (bb (calm = true))) : ∃ μ', m_X12_oneHour N Λ μ (ad 181) v = some (n3 (dnF calm F), μ') ∧ Row μ' (ad 182) 1222 (hourF calm F) ∧ Fr ad (fun i => i = 182 ∨ i = 189) μ μ' := by
  subst hv
  have hb := hw.1; unfold WB at hb
  have hW1 := hW.set 9 (min 9999 (F 9 + 1))
  have f1 : Fr ad (fun i => i = 182 ∨ i = 189) μ (mset μ (ad 182) 9 (n3 (min 9999 (F 9 + 1)))) := (Fr.refl μ).set hj (Or.inl rfl)
  have hw1 := hr1_WF hw
  have hl1 : LawOk (hr1 F) := hl.of (hr1_Kp F).2.2.2.2.2.2.2.2
  have ht := td_le hw1 0
  have hb1 := hw1.1; unfold WB at hb1
  have u4 : hr1 F 4 = F 4 := up_n (by omega)
  have u3' : hr1 F 3 = F 3 := up_n (by omega)
  have u7 : hr1 F 7 = F 7 := up_n (by omega)
  have u12 : hr1 F 12 = F 12 := up_n (by omega)
  change Row _ _ _ (hr1 F) at hW1
  have r1 : m_X12_tideIn N Λ (mset μ (ad 182) 9 (n3 (min 9999 (F 9 + 1)))) (ad 181) (n3 0) = some (n3 (td (hr1 F) 0)) := r_tideIn hR hW1 0 (by omega) (by omega)
  by_cases h4 : F 4 = 1
  · cases calm
    · obtain ⟨μ2, e2, hW2, f2⟩ := r_drawn (N := N) hR hW1 hj (F 7 + 1) (by omega) (by omega) (by omega)
      have es : sdF (hr1 F) = sdF F := by unfold sdF; rw [u12]
      have ed : drF (hr1 F) = drF F := by unfold drF; rw [es]
      rw [es] at hW2
      rw [ed] at e2
      have hW3 := hW2.set 3 (td (hr1 F) 0 + drF F % (F 7 + 1))
      obtain ⟨μ4, e4, hW4, f4⟩ := r_rest hN hR hW3 hj (calm := false) hw (by unfold levF; rw [if_pos h4, if_neg (by decide)])
      refine ⟨μ4, ?_, hW4, f1.trans (((f2.mono (fun i => Or.inl)).set hj (Or.inl rfl)).trans (f4.mono (fun i => Or.inl)))⟩
      simp (disch := omega) only [m_X12_oneHour, jn_X12_oneHour_63, ↓ob (hR.1), ↓ob (hR.2.1), ↓ob (hR.2.2.1), ↓ob (hR.2.2.2.1), ↓ob (hR.2.2.2.2.1), ↓ob (hR.2.2.2.2.2.1), ↓ob (hR.2.2.2.2.2.2.1), ↓ob (hR.2.2.2.2.2.2.2.1), ↓ob (hR.2.2.2.2.2.2.2.2.1), ↓ob (hR.2.2.2.2.2.2.2.2.2.1), ↓ob (hR.2.2.2.2.2.2.2.2.2.2.1), ↓ob (hR.2.2.2.2.2.2.2.2.2.2.2.1), ↓ob (hR.2.2.2.2.2.2.2.2.2.2.2.2.1), ↓ob (hR.2.2.2.2.2.2.2.2.2.2.2.2.2.1), ↓ob (hR.2.2.2.2.2.2.2.2.2.2.2.2.2.2.1), ↓ob (hR.2.2.2.2.2.2.2.2.2.2.2.2.2.2.2.1), ↓ob (hR.2.2.2.2.2.2.2.2.2.2.2.2.2.2.2.2.1), ↓ob (hR.2.2.2.2.2.2.2.2.2.2.2.2.2.2.2.2.2.1), hR.2.2.2.2.2.2.2.2.2.2.2.2.2.2.2.2.2.2.1, hR.2.2.2.2.2.2.2.2.2.2.2.2.2.2.2.2.2.2.2.1, hR.2.2.2.2.2.2.2.2.2.2.2.2.2.2.2.2.2.2.2.2.1, hR.2.2.2.2.2.2.2.2.2.2.2.2.2.2.2.2.2.2.2.2.2.1, hR.2.2.2.2.2.2.2.2.2.2.2.2.2.2.2.2.2.2.2.2.2.2.1, hR.2.2.2.2.2.2.2.2.2.2.2.2.2.2.2.2.2.2.2.2.2.2.2.1, hR.2.2.2.2.2.2.2.2.2.2.2.2.2.2.2.2.2.2.2.2.2.2.2.2.1, hR.2.2.2.2.2.2.2.2.2.2.2.2.2.2.2.2.2.2.2.2.2.2.2.2.2.1, hR.2.2.2.2.2.2.2.2.2.2.2.2.2.2.2.2.2.2.2.2.2.2.2.2.2.2.1, hR.2.2.2.2.2.2.2.2.2.2.2.2.2.2.2.2.2.2.2.2.2.2.2.2.2.2.2.1, hR.2.2.2.2.2.2.2.2.2.2.2.2.2.2.2.2.2.2.2.2.2.2.2.2.2.2.2.2.1, hR.2.2.2.2.2.2.2.2.2.2.2.2.2.2.2.2.2.2.2.2.2.2.2.2.2.2.2.2.2.1, hR.2.2.2.2.2.2.2.2.2.2.2.2.2.2.2.2.2.2.2.2.2.2.2.2.2.2.2.2.2.2.1, hR.2.2.2.2.2.2.2.2.2.2.2.2.2.2.2.2.2.2.2.2.2.2.2.2.2.2.2.2.2.2.2.1, hR.2.2.2.2.2.2.2.2.2.2.2.2.2.2.2.2.2.2.2.2.2.2.2.2.2.2.2.2.2.2.2.2.1, hR.2.2.2.2.2.2.2.2.2.2.2.2.2.2.2.2.2.2.2.2.2.2.2.2.2.2.2.2.2.2.2.2.2.1, hR.2.2.2.2.2.2.2.2.2.2.2.2.2.2.2.2.2.2.2.2.2.2.2.2.2.2.2.2.2.2.2.2.2.2.1, hR.2.2.2.2.2.2.2.2.2.2.2.2.2.2.2.2.2.2.2.2.2.2.2.2.2.2.2.2.2.2.2.2.2.2.2, hW, hW1, r1, e2, e4, n3_imin, u4, h4, u7, ↓lt_e, ↓gd_e, ↓Option.bind_some, ↓reduceIte, if_true, if_false, if_pT, if_nF, decide_true, Bool.not_true, Bool.not_false, not_true_eq_false, not_false_eq_true, Bool.false_eq_true, Bool.true_eq_false, eq_self, n3_lit, n3_add, n3_mul, n3_sub, n3_tn, n3_le_t, n3_le_f, n3_lt_t, n3_lt_f, n3_eq_f, n3_eq_t, n3_inb, n3_rem, n3_div, n3_zb, bb_0, bb_1, zb_bb, bb_T, bb_F, n3_dec, n3_m1, n3_eqm, n3_eqmt, n3_ltm, n3_mlt, n3_lem, n3_mle, n3_neg_lt, n3_nlt_neg, n3_nle_neg, n3_neg_le]
    · have hW3 := hW1.set 3 (td (hr1 F) 0)
      obtain ⟨μ4, e4, hW4, f4⟩ := r_rest hN hR hW3 hj (calm := true) hw (by unfold levF; rw [if_pos h4, if_pos rfl])
      refine ⟨μ4, ?_, hW4, (f1.set hj (Or.inl rfl)).trans (f4.mono (fun i => Or.inl))⟩
      simp (disch := omega) only [m_X12_oneHour, jn_X12_oneHour_63, ↓ob (hR.1), ↓ob (hR.2.1), ↓ob (hR.2.2.1), ↓ob (hR.2.2.2.1), ↓ob (hR.2.2.2.2.1), ↓ob (hR.2.2.2.2.2.1), ↓ob (hR.2.2.2.2.2.2.1), ↓ob (hR.2.2.2.2.2.2.2.1), ↓ob (hR.2.2.2.2.2.2.2.2.1), ↓ob (hR.2.2.2.2.2.2.2.2.2.1), ↓ob (hR.2.2.2.2.2.2.2.2.2.2.1), ↓ob (hR.2.2.2.2.2.2.2.2.2.2.2.1), ↓ob (hR.2.2.2.2.2.2.2.2.2.2.2.2.1), ↓ob (hR.2.2.2.2.2.2.2.2.2.2.2.2.2.1), ↓ob (hR.2.2.2.2.2.2.2.2.2.2.2.2.2.2.1), ↓ob (hR.2.2.2.2.2.2.2.2.2.2.2.2.2.2.2.1), ↓ob (hR.2.2.2.2.2.2.2.2.2.2.2.2.2.2.2.2.1), ↓ob (hR.2.2.2.2.2.2.2.2.2.2.2.2.2.2.2.2.2.1), hR.2.2.2.2.2.2.2.2.2.2.2.2.2.2.2.2.2.2.1, hR.2.2.2.2.2.2.2.2.2.2.2.2.2.2.2.2.2.2.2.1, hR.2.2.2.2.2.2.2.2.2.2.2.2.2.2.2.2.2.2.2.2.1, hR.2.2.2.2.2.2.2.2.2.2.2.2.2.2.2.2.2.2.2.2.2.1, hR.2.2.2.2.2.2.2.2.2.2.2.2.2.2.2.2.2.2.2.2.2.2.1, hR.2.2.2.2.2.2.2.2.2.2.2.2.2.2.2.2.2.2.2.2.2.2.2.1, hR.2.2.2.2.2.2.2.2.2.2.2.2.2.2.2.2.2.2.2.2.2.2.2.2.1, hR.2.2.2.2.2.2.2.2.2.2.2.2.2.2.2.2.2.2.2.2.2.2.2.2.2.1, hR.2.2.2.2.2.2.2.2.2.2.2.2.2.2.2.2.2.2.2.2.2.2.2.2.2.2.1, hR.2.2.2.2.2.2.2.2.2.2.2.2.2.2.2.2.2.2.2.2.2.2.2.2.2.2.2.1, hR.2.2.2.2.2.2.2.2.2.2.2.2.2.2.2.2.2.2.2.2.2.2.2.2.2.2.2.2.1, hR.2.2.2.2.2.2.2.2.2.2.2.2.2.2.2.2.2.2.2.2.2.2.2.2.2.2.2.2.2.1, hR.2.2.2.2.2.2.2.2.2.2.2.2.2.2.2.2.2.2.2.2.2.2.2.2.2.2.2.2.2.2.1, hR.2.2.2.2.2.2.2.2.2.2.2.2.2.2.2.2.2.2.2.2.2.2.2.2.2.2.2.2.2.2.2.1, hR.2.2.2.2.2.2.2.2.2.2.2.2.2.2.2.2.2.2.2.2.2.2.2.2.2.2.2.2.2.2.2.2.1, hR.2.2.2.2.2.2.2.2.2.2.2.2.2.2.2.2.2.2.2.2.2.2.2.2.2.2.2.2.2.2.2.2.2.1, hR.2.2.2.2.2.2.2.2.2.2.2.2.2.2.2.2.2.2.2.2.2.2.2.2.2.2.2.2.2.2.2.2.2.2.1, hR.2.2.2.2.2.2.2.2.2.2.2.2.2.2.2.2.2.2.2.2.2.2.2.2.2.2.2.2.2.2.2.2.2.2.2, hW, hW1, r1, e4, n3_imin, u4, h4, ↓lt_e, ↓gd_e, ↓Option.bind_some, ↓reduceIte, if_true, if_false, if_pT, if_nF, decide_true, Bool.not_true, Bool.not_false, not_true_eq_false, not_false_eq_true, Bool.false_eq_true, Bool.true_eq_false, eq_self, n3_lit, n3_add, n3_mul, n3_sub, n3_tn, n3_le_t, n3_le_f, n3_lt_t, n3_lt_f, n3_eq_f, n3_eq_t, n3_inb, n3_rem, n3_div, n3_zb, bb_0, bb_1, zb_bb, bb_T, bb_F, n3_dec, n3_m1, n3_eqm, n3_eqmt, n3_ltm, n3_mlt, n3_lem, n3_mle, n3_neg_lt, n3_nlt_neg, n3_nle_neg, n3_neg_le, Nat.add_zero]
  · obtain ⟨μ2, e2, f2⟩ := r_leaksNow hN hR hW1 hj hw1 hl1
    have hW2 := hW1.fr f2 (by omega)
    obtain ⟨μ3, e3, f3⟩ := r_pullsNow hN hR hW2 hj hw1 hl1
    have hW3 := hW2.fr f3 (by omega)
    have hW4 := hW3.set 3 (min 40 (F 3 + lekF (hr1 F) - pulF (hr1 F)))
    obtain ⟨μ5, e5, hW5, f5⟩ := r_rest hN hR hW4 hj (calm := calm) hw (by unfold levF; rw [if_neg h4])
    have s1 := smf_le (kd := 0) (s := 4294967295) hl1
    have s2 := smf_le (kd := 1) (s := 4294967295) hl1
    have p1 : pulF (hr1 F) < 1073741824 := by unfold pulF; omega
    have p2 : F 3 + lekF (hr1 F) < 1073741824 := by unfold lekF; have := bb_le (hr1 F 3 < td (hr1 F) 0); omega
    refine ⟨μ5, ?_, hW5, f1.trans ((f2.mono (fun i => Or.inr)).trans ((f3.mono (fun i => Or.inr)).trans (((Fr.refl μ3).set hj (Or.inl rfl)).trans (f5.mono (fun i => Or.inl)))))⟩
    simp (disch := omega) only [m_X12_oneHour, ↓ob (hR.1), ↓ob (hR.2.1), ↓ob (hR.2.2.1), ↓ob (hR.2.2.2.1), ↓ob (hR.2.2.2.2.1), ↓ob (hR.2.2.2.2.2.1), ↓ob (hR.2.2.2.2.2.2.1), ↓ob (hR.2.2.2.2.2.2.2.1), ↓ob (hR.2.2.2.2.2.2.2.2.1), ↓ob (hR.2.2.2.2.2.2.2.2.2.1), ↓ob (hR.2.2.2.2.2.2.2.2.2.2.1), ↓ob (hR.2.2.2.2.2.2.2.2.2.2.2.1), ↓ob (hR.2.2.2.2.2.2.2.2.2.2.2.2.1), ↓ob (hR.2.2.2.2.2.2.2.2.2.2.2.2.2.1), ↓ob (hR.2.2.2.2.2.2.2.2.2.2.2.2.2.2.1), ↓ob (hR.2.2.2.2.2.2.2.2.2.2.2.2.2.2.2.1), ↓ob (hR.2.2.2.2.2.2.2.2.2.2.2.2.2.2.2.2.1), ↓ob (hR.2.2.2.2.2.2.2.2.2.2.2.2.2.2.2.2.2.1), hR.2.2.2.2.2.2.2.2.2.2.2.2.2.2.2.2.2.2.1, hR.2.2.2.2.2.2.2.2.2.2.2.2.2.2.2.2.2.2.2.1, hR.2.2.2.2.2.2.2.2.2.2.2.2.2.2.2.2.2.2.2.2.1, hR.2.2.2.2.2.2.2.2.2.2.2.2.2.2.2.2.2.2.2.2.2.1, hR.2.2.2.2.2.2.2.2.2.2.2.2.2.2.2.2.2.2.2.2.2.2.1, hR.2.2.2.2.2.2.2.2.2.2.2.2.2.2.2.2.2.2.2.2.2.2.2.1, hR.2.2.2.2.2.2.2.2.2.2.2.2.2.2.2.2.2.2.2.2.2.2.2.2.1, hR.2.2.2.2.2.2.2.2.2.2.2.2.2.2.2.2.2.2.2.2.2.2.2.2.2.1, hR.2.2.2.2.2.2.2.2.2.2.2.2.2.2.2.2.2.2.2.2.2.2.2.2.2.2.1, hR.2.2.2.2.2.2.2.2.2.2.2.2.2.2.2.2.2.2.2.2.2.2.2.2.2.2.2.1, hR.2.2.2.2.2.2.2.2.2.2.2.2.2.2.2.2.2.2.2.2.2.2.2.2.2.2.2.2.1, hR.2.2.2.2.2.2.2.2.2.2.2.2.2.2.2.2.2.2.2.2.2.2.2.2.2.2.2.2.2.1, hR.2.2.2.2.2.2.2.2.2.2.2.2.2.2.2.2.2.2.2.2.2.2.2.2.2.2.2.2.2.2.1, hR.2.2.2.2.2.2.2.2.2.2.2.2.2.2.2.2.2.2.2.2.2.2.2.2.2.2.2.2.2.2.2.1, hR.2.2.2.2.2.2.2.2.2.2.2.2.2.2.2.2.2.2.2.2.2.2.2.2.2.2.2.2.2.2.2.2.1, hR.2.2.2.2.2.2.2.2.2.2.2.2.2.2.2.2.2.2.2.2.2.2.2.2.2.2.2.2.2.2.2.2.2.1, hR.2.2.2.2.2.2.2.2.2.2.2.2.2.2.2.2.2.2.2.2.2.2.2.2.2.2.2.2.2.2.2.2.2.2.1, hR.2.2.2.2.2.2.2.2.2.2.2.2.2.2.2.2.2.2.2.2.2.2.2.2.2.2.2.2.2.2.2.2.2.2.2, hW, hW1, e2, e3, e5, n3_imin, u4, u3', h4, n3_clip, ↓lt_e, ↓gd_e, ↓Option.bind_some, ↓reduceIte, if_true, if_false, if_pT, if_nF, decide_true, Bool.not_true, Bool.not_false, not_true_eq_false, not_false_eq_true, Bool.false_eq_true, Bool.true_eq_false, eq_self, n3_lit, n3_add, n3_mul, n3_sub, n3_tn, n3_le_t, n3_le_f, n3_lt_t, n3_lt_f, n3_eq_f, n3_eq_t, n3_inb, n3_rem, n3_div, n3_zb, bb_0, bb_1, zb_bb, bb_T, bb_F, n3_dec, n3_m1, n3_eqm, n3_eqmt, n3_ltm, n3_mlt, n3_lem, n3_mle, n3_neg_lt, n3_nlt_neg, n3_nle_neg, n3_neg_le]
/-! hours: the class -/
theorem hbt_set {F : Nat → Nat} {s : Nat} : ∀ {n : Nat}, s < n → hbt (up F (25 + 6 * s + 5) 1) n = hbt F n ||| 2 ^ s
  | n + 1, h => by
    unfold hbt
    by_cases e : s = n
    · subst e
      rw [hbt_congr (G := F) (fun t ht => up_n (by omega)), up_e, if_pos (by decide)]
      by_cases h1 : F (25 + 6 * s + 5) = 1
      · rw [if_pos (decide_eq_true h1), Nat.or_assoc, Nat.or_self]
      · rw [if_neg (fun hc => h1 (of_decide_eq_true hc)), Nat.or_zero]
    · rw [hbt_set (n := n) (by omega), up_n (by omega), Nat.or_assoc, Nat.or_assoc, Nat.or_comm (2 ^ s)]
theorem CS.hurt {ad : Nat → Nat} (hj : Inj ad) {μ : Mem} {σ : Nat} {F : Nat → Nat} (hC : CS ad μ σ F) (h8 : F 0 ≤ 8) (h60 : F 11 ≤ 60) (s : Nat) (hs : s < F 0) : CS ad (mset μ (ad σ) 10 (n3 (hbt F (F 0) ||| 2 ^ s))) σ (up F (25 + 6 * s + 5) 1) := by
  have hC' := CS.iff.1 hC
  have u0 : up F (25 + 6 * s + 5) 1 0 = F 0 := up_n (by omega)
  refine CS.iff.2 ⟨fun k hk hl => ?_, ?_, ?_⟩
  · rw [u0] at hk
    have hl2 := hl.2
    rw [up_n (by omega), ← hC'.1 k hk hl]
    by_cases eo : lcO k = 0
    · rw [eo]; refine msn (fun e => ?_)
      have : ∀ k, k < 73 → lcI k = 10 → ¬ lcO k = 0 := by decide +kernel
      exact this k (by omega) e eo
    · rw [mso hj (by omega)]
  · rw [u0, mse, hbt_set hs]
  · exact hC'.2.2.fr (mso hj (by omega)) (mso hj (by omega)) (up_n (by omega)) (fun q h1 h2 => up_n (by omega)) h60
theorem c_isHurt {N : Nat} {Λ : Lay} {ad : Nat → Nat} {σ : Nat} {μ : Mem} {F : Nat → Nat} (hS : LyS Λ ad σ) (hC : CS ad μ σ F)  (hw : WF F) (s : Nat) (hs : s < F 0) : m_X9_isHurt N Λ μ (ad σ) (n3 s) = some (n3 (bb (F (25 + 6 * s + 5) = 1))) := by
  have h := hw.2.2.1 s hs; unfold ShOk at h
  have hh : ishr (μ.1 (ad σ) 10) (n3 s) &&& n3 1 = n3 (F (25 + 6 * s + 5)) := by rw [hC.2.2.2.2.2.2.2.2.2.2.2.2.2.2.2.2.2.1]; exact hb_bit hw hs
  by_cases e : F (25 + 6 * s + 5) = 1
  · simp (disch := omega) only [jn_X9_isHurt_17, m_X9_isHurt, ↓lt_e, ↓gd_e, ↓Option.bind_some, ↓reduceIte, if_true, if_false, if_pT, if_nF, decide_true, Bool.not_true, Bool.not_false, not_true_eq_false, not_false_eq_true, Bool.false_eq_true, Bool.true_eq_false, eq_self, n3_lit, hh, e, bb_T, n3_zb]
  · have e0 : F (25 + 6 * s + 5) = 0 := by omega
    simp (disch := omega) only [jn_X9_isHurt_17, m_X9_isHurt, ↓lt_e, ↓gd_e, ↓Option.bind_some, ↓reduceIte, if_true, if_false, if_pT, if_nF, decide_true, Bool.not_true, Bool.not_false, not_true_eq_false, not_false_eq_true, Bool.false_eq_true, Bool.true_eq_false, eq_self, n3_lit, hh, e0, bb_f, n3_zb, n3_eq_f]
def FrS (ad : Nat → Nat) (σ : Nat) (μ μ' : Mem) : Prop := Fr ad (fun i => σ ≤ i ∧ i ≤ σ + 8) μ μ'
theorem c_hurtUnborne {N : Nat} (hN : 1099511627776 ≤ N) {Λ : Lay} {ad : Nat → Nat} {σ : Nat} {μ : Mem} {F : Nat → Nat} (hS : LyS Λ ad σ) (hC : CS ad μ σ F)  (hj : Inj ad) (hw : WF F) : ∃ μ', m_X9_hurtUnborne N Λ μ (ad σ) = some μ' ∧ CS ad μ' σ (hutN F (F 0)) ∧ FrS ad σ μ μ' := by
  have hb := hw.1; unfold WB at hb
  unfold m_X9_hurtUnborne lp_X9_hurtUnborne_2
  refine cw_iv (P := fun i x => ∃ μ1 : Mem, x = (n3 i, μ1) ∧ CS ad μ1 σ (hutN F i) ∧ FrS ad σ μ μ1) (Q := fun X => ∃ μ', X = some μ' ∧ CS ad μ' σ (hutN F (F 0)) ∧ FrS ad σ μ μ') (F 0) ⟨μ, rfl, hC, Fr.refl μ⟩ (fun i hi x hx => ?_) (fun x hx => ?_) (by omega)
  · obtain ⟨μ1, rfl, hC1, hf⟩ := hx
    left
    have hk := hutN_Kp (F := F) i (by omega)
    have hw1 := hutN_WF hw i
    have e : hutN F (i + 1) = hut1 (hutN F i) i := rfl
    rw [e]
    generalize hutN F i = G at hC1 hk hw1 ⊢
    have hb1 := hw1.1; unfold WB at hb1
    have hG0 := hk.1
    have hso := hw1.2.2.1 i (by omega)
    have c0 : μ1.1 (ad σ) 8 = n3 (G 0) := hC1.2.2.2.2.2.2.2.2.1
    have c1 := c_sits (N := N) hS hC1 hb1.2.2.2.1 i (by omega) (by omega) hso
    have c2 := c_borne hN hS hC1 hb1.2.2.2.2.2.2.2.2.2.2.1 i (by omega) (by omega) hso
    have c3 := c_isHurt (N := N) hS hC1 hw1 i (by omega)
    unfold ShOk at hso
    by_cases h1 : sitb G i = true
    · have h1' := sitb_iff.1 h1
      by_cases h3 : G (25 + 6 * i + 5) = 1
      · refine ⟨_, ⟨μ1, rfl, ?_, hf⟩, fun k => ?_⟩
        · unfold hut1; rw [if_neg (fun h => by omega)]; exact hC1
        · simp (disch := omega) only [jn_X9_hurtUnborne_88, bd_X9_hurtUnborne_2, c0, c1, c3, h1, h3, ↓lt_e, ↓gd_e, ↓Option.bind_some, ↓reduceIte, if_true, if_false, if_pT, if_nF, decide_true, Bool.not_true, Bool.not_false, not_true_eq_false, not_false_eq_true, Bool.false_eq_true, Bool.true_eq_false, eq_self, n3_lit, n3_add, n3_mul, n3_sub, n3_tn, n3_le_t, n3_le_f, n3_lt_t, n3_lt_f, n3_eq_f, n3_eq_t, n3_inb, n3_rem, n3_div, n3_zb, bb_0, bb_1, zb_bb, bb_T, bb_F, n3_dec, n3_m1, n3_eqm, n3_eqmt, n3_ltm, n3_mlt, n3_lem, n3_mle, n3_neg_lt, n3_nlt_neg, n3_nle_neg, n3_neg_le]
      · by_cases h2 : wdg G i = 0
        · refine ⟨_, ⟨μ1, rfl, ?_, hf⟩, fun k => ?_⟩
          · unfold hut1; rw [if_neg (fun h => h.2.2 h2)]; exact hC1
          · simp (disch := omega) only [jn_X9_hurtUnborne_88, bd_X9_hurtUnborne_2, c0, c1, c2, c3, h1, h1'.1, h2, h3, and_self, ↓lt_e, ↓gd_e, ↓Option.bind_some, ↓reduceIte, if_true, if_false, if_pT, if_nF, decide_true, Bool.not_true, Bool.not_false, not_true_eq_false, not_false_eq_true, Bool.false_eq_true, Bool.true_eq_false, eq_self, n3_lit, n3_add, n3_mul, n3_sub, n3_tn, n3_le_t, n3_le_f, n3_lt_t, n3_lt_f, n3_eq_f, n3_eq_t, n3_inb, n3_rem, n3_div, n3_zb, bb_0, bb_1, zb_bb, bb_T, bb_F, n3_dec, n3_m1, n3_eqm, n3_eqmt, n3_ltm, n3_mlt, n3_lem, n3_mle, n3_neg_lt, n3_nlt_neg, n3_nle_neg, n3_neg_le]
        · have h4 : G (25 + 6 * i + 5) = 0 := by omega
          have hC2 := hC1.hurt hj hb1.1 hb1.2.2.2.2.2.2.2.2.2.2.2.1 i (by omega)
          have hC3 := hC2.wr hj (by simp (disch := omega) only [up_n]; omega) (by simp (disch := omega) only [up_n]; omega) (25 + 6 * i + 2) (min 99 (G (25 + 6 * i + 2) + 5)) (by simp (disch := omega) only [up_n]; omega) (lc_s (by omega)).2.2 (by omega) (by omega) (σ + 4) i (by rw [(lc_s (by omega)).1]) (by rw [(lc_s (by omega)).2.1])
          obtain ⟨μ4, e4, hC4, f4⟩ := c_logadd (N := N) hS hC3 hj (by simp (disch := omega) only [up_n]; omega) (by simp (disch := omega) only [up_n]; omega) i 2 (G (25 + 6 * i + 4))
          refine ⟨_, ⟨μ4, rfl, ?_, ((hf.set hj ⟨by omega, by omega⟩).set hj ⟨by omega, by omega⟩).trans (f4.mono (fun i h => by omega))⟩, fun k => ?_⟩
          · unfold hut1; rw [if_pos ⟨h1, h4, h2⟩]; exact hC4
          · have cb : μ1.1 (ad σ) 10 = n3 (hbt G (G 0)) := hC1.2.2.2.2.2.2.2.2.2.2.2.2.2.2.2.2.2.1
            have q1 : μ1.1 (ad (σ + 4)) i = n3 (G (25 + 6 * i + 2)) := hC1.2.2.2.2.2.2.2.2.2.2.2.2.2.2.1 i (by omega)
            have q2 : μ1.1 (ad (σ + 6)) i = n3 (G (25 + 6 * i + 4)) := hC1.2.2.2.2.2.2.2.2.2.2.2.2.2.2.2.2.1 i (by omega)
            have q3 : μ1.1 (ad σ) 1 = n3 (G 9) := hC1.2.1
            have q4 : μ1.1 (ad σ) 0 = n3 (G 3) := hC1.1
            simp (disch := omega) only [up_n] at e4
            rw [Nat.min_comm] at e4
            simp (disch := omega) only [jn_X9_hurtUnborne_88, bd_X9_hurtUnborne_2, ↓ob (hS.1), ↓ob (hS.2.1), ↓ob (hS.2.2.1), ↓ob (hS.2.2.2.1), ↓ob (hS.2.2.2.2.1), ↓ob (hS.2.2.2.2.2.1), ↓ob (hS.2.2.2.2.2.2.1), ↓ob (hS.2.2.2.2.2.2.2.1), hS.2.2.2.2.2.2.2.2.1, hS.2.2.2.2.2.2.2.2.2.1, hS.2.2.2.2.2.2.2.2.2.2.1, hS.2.2.2.2.2.2.2.2.2.2.2.1, hS.2.2.2.2.2.2.2.2.2.2.2.2.1, hS.2.2.2.2.2.2.2.2.2.2.2.2.2.1, hS.2.2.2.2.2.2.2.2.2.2.2.2.2.2, c0, c1, c2, c3, h1, h1'.1, h2, h3, and_false, ↓lt_e, ↓gd_e, ↓Option.bind_some, ↓reduceIte, if_true, if_false, if_pT, if_nF, decide_true, Bool.not_true, Bool.not_false, not_true_eq_false, not_false_eq_true, Bool.false_eq_true, Bool.true_eq_false, eq_self, n3_lit, n3_add, n3_mul, n3_sub, n3_tn, n3_le_t, n3_le_f, n3_lt_t, n3_lt_f, n3_eq_f, n3_eq_t, n3_inb, n3_rem, n3_div, n3_zb, bb_0, bb_1, zb_bb, bb_T, bb_F, n3_dec, n3_m1, n3_eqm, n3_eqmt, n3_ltm, n3_mlt, n3_lem, n3_mle, n3_neg_lt, n3_nlt_neg, n3_nle_neg, n3_neg_le, cb, n3_shl, n3_or, Nat.one_mul, mso hj, msn, mse, q1, q2, q3, q4, n3_imin, e4]
    · refine ⟨_, ⟨μ1, rfl, ?_, hf⟩, fun k => ?_⟩
      · unfold hut1; rw [if_neg (fun h => h1 h.1)]; exact hC1
      · simp (disch := omega) only [jn_X9_hurtUnborne_88, bd_X9_hurtUnborne_2, c0, c1, h1, ↓lt_e, ↓gd_e, ↓Option.bind_some, ↓reduceIte, if_true, if_false, if_pT, if_nF, decide_true, Bool.not_true, Bool.not_false, not_true_eq_false, not_false_eq_true, Bool.false_eq_true, Bool.true_eq_false, eq_self, n3_lit, n3_add, n3_mul, n3_sub, n3_tn, n3_le_t, n3_le_f, n3_lt_t, n3_lt_f, n3_eq_f, n3_eq_t, n3_inb, n3_rem, n3_div, n3_zb, bb_0, bb_1, zb_bb, bb_T, bb_F, n3_dec, n3_m1, n3_eqm, n3_eqmt, n3_ltm, n3_mlt, n3_lem, n3_mle, n3_neg_lt, n3_nlt_neg, n3_nle_neg, n3_neg_le]
  · obtain ⟨μ1, rfl, hC1, hf⟩ := hx
    have hk := hutN_Kp (F := F) (F 0) (by omega)
    have c0 : μ1.1 (ad σ) 8 = n3 (F 0) := by rw [← hk.1]; exact hC1.2.2.2.2.2.2.2.2.1
    exact ⟨_, ⟨μ1, rfl, hC1, hf⟩, fun k => by simp (disch := omega) only [jn_X9_hurtUnborne_88, bd_X9_hurtUnborne_2, c0, ↓lt_e, ↓gd_e, ↓Option.bind_some, ↓reduceIte, if_true, if_false, if_pT, if_nF, decide_true, Bool.not_true, Bool.not_false, not_true_eq_false, not_false_eq_true, Bool.false_eq_true, Bool.true_eq_false, eq_self, n3_lit, n3_add, n3_mul, n3_sub, n3_tn, n3_le_t, n3_le_f, n3_lt_t, n3_lt_f, n3_eq_f, n3_eq_t, n3_inb, n3_rem, n3_div, n3_zb, bb_0, bb_1, zb_bb, bb_T, bb_F, n3_dec, n3_m1, n3_eqm, n3_eqmt, n3_ltm, n3_mlt, n3_lem, n3_mle, n3_neg_lt, n3_nlt_neg, n3_nle_neg, n3_neg_le]⟩
theorem up_same {F : Nat → Nat} {k v : Nat} (h : v = F k) : up F k v = F := by
  funext j; unfold up; split
  · next e => rw [h, e]
  · rfl
theorem c_workHands {N : Nat} (hN : 1099511627776 ≤ N) {Λ : Lay} {ad : Nat → Nat} {σ : Nat} {μ : Mem} {F : Nat → Nat} (hS : LyS Λ ad σ) (hC : CS ad μ σ F)  (hj : Inj ad) (hw : WF F) : ∃ μ', m_X9_workHands N Λ μ (ad σ) = some (n3 (F 6 - (wrkN (F 6, F) (F 0)).1), μ') ∧ CS ad μ' σ (wrkN (F 6, F) (F 0)).2 ∧ FrS ad σ μ μ' := by
  have hb := hw.1; unfold WB at hb
  have hh : μ.1 (ad σ) 3 = n3 (F 6) := hC.2.2.2.1
  simp (disch := omega) only [m_X9_workHands, lp_X9_workHands_7, hh, ↓lt_e, ↓gd_e, ↓Option.bind_some, ↓reduceIte, if_true, if_false, if_pT, if_nF, decide_true, Bool.not_true, Bool.not_false, not_true_eq_false, not_false_eq_true, Bool.false_eq_true, Bool.true_eq_false, eq_self, n3_lit, n3_add, n3_mul, n3_sub, n3_tn, n3_le_t, n3_le_f, n3_lt_t, n3_lt_f, n3_eq_f, n3_eq_t, n3_inb, n3_rem, n3_div, n3_zb, bb_0, bb_1, zb_bb, bb_T, bb_F, n3_dec, n3_m1, n3_eqm, n3_eqmt, n3_ltm, n3_mlt, n3_lem, n3_mle, n3_neg_lt, n3_nlt_neg, n3_nle_neg, n3_neg_le]
  refine cw_iv (P := fun i x => ∃ μ1 : Mem, x = (n3 (wrkN (F 6, F) i).1, n3 i, μ1) ∧ CS ad μ1 σ (wrkN (F 6, F) i).2 ∧ FrS ad σ μ μ1) (Q := fun X => ∃ μ', X = some (n3 (F 6 - (wrkN (F 6, F) (F 0)).1), μ') ∧ CS ad μ' σ (wrkN (F 6, F) (F 0)).2 ∧ FrS ad σ μ μ') (F 0) ⟨μ, rfl, hC, Fr.refl μ⟩ (fun i hi x hx => ?_) (fun x hx => ?_) (by omega)
  · obtain ⟨μ1, rfl, hC1, hf⟩ := hx
    left
    obtain ⟨hk, hle⟩ := wrkN_Kp (x := (F 6, F)) i (by omega)
    have hw1 := wrkN_WF (x := (F 6, F)) hw i (by show i ≤ F 0; omega) (by omega)
    have e : wrkN (F 6, F) (i + 1) = wrk1 (wrkN (F 6, F) i) i := rfl
    rw [e]
    generalize wrkN (F 6, F) i = G at hC1 hk hw1 hle ⊢
    obtain ⟨l, G⟩ := G
    simp only at hC1 hk hw1 hle ⊢
    have hb1 := hw1.1; unfold WB at hb1
    have hG0 : G 0 = F 0 := hk.1
    have hso := hw1.2.2.1 i (by omega)
    have c0 : μ1.1 (ad σ) 8 = n3 (G 0) := hC1.2.2.2.2.2.2.2.2.1
    have c1 := c_sits (N := N) hS hC1 hb1.2.2.2.1 i (by omega) (by omega) hso
    unfold ShOk at hso
    have q1 : μ1.1 (ad (σ + 4)) i = n3 (G (25 + 6 * i + 2)) := hC1.2.2.2.2.2.2.2.2.2.2.2.2.2.2.1 i (by omega)
    have q2 : μ1.1 (ad (σ + 6)) i = n3 (G (25 + 6 * i + 4)) := hC1.2.2.2.2.2.2.2.2.2.2.2.2.2.2.2.2.1 i (by omega)
    have q3 : μ1.1 (ad σ) 1 = n3 (G 9) := hC1.2.1
    have q4 : μ1.1 (ad σ) 0 = n3 (G 3) := hC1.1
    by_cases h1 : sitb G i = true
    · have hC2 := hC1.wr hj hb1.1 hb1.2.2.2.2.2.2.2.2.2.2.2.1 (25 + 6 * i + 2) (G (25 + 6 * i + 2) - min l (G (25 + 6 * i + 2))) (by omega) (lc_s (by omega)).2.2 (by omega) (by omega) (σ + 4) i (by rw [(lc_s (by omega)).1]) (by rw [(lc_s (by omega)).2.1])
      have f2 := Fr.set hj hf (i := σ + 4) (k := i) (v := n3 (G (25 + 6 * i + 2) - min l (G (25 + 6 * i + 2)))) (by omega)
      by_cases h2 : min l (G (25 + 6 * i + 2)) = 0
      · have ew : wrk1 (l, G) i = (l, G) := by unfold wrk1; rw [if_pos h1, if_pos h2]
        rw [ew]
        rw [up_same (by omega)] at hC2
        refine ⟨_, ⟨_, rfl, hC2, f2⟩, fun k => ?_⟩
        simp (disch := omega) only [jn_X9_workHands_84, bd_X9_workHands_7, ↓ob (hS.1), ↓ob (hS.2.1), ↓ob (hS.2.2.1), ↓ob (hS.2.2.2.1), ↓ob (hS.2.2.2.2.1), ↓ob (hS.2.2.2.2.2.1), ↓ob (hS.2.2.2.2.2.2.1), ↓ob (hS.2.2.2.2.2.2.2.1), hS.2.2.2.2.2.2.2.2.1, hS.2.2.2.2.2.2.2.2.2.1, hS.2.2.2.2.2.2.2.2.2.2.1, hS.2.2.2.2.2.2.2.2.2.2.2.1, hS.2.2.2.2.2.2.2.2.2.2.2.2.1, hS.2.2.2.2.2.2.2.2.2.2.2.2.2.1, hS.2.2.2.2.2.2.2.2.2.2.2.2.2.2, c0, c1, h1, q1, h2, n3_imin, ↓lt_e, ↓gd_e, ↓Option.bind_some, ↓reduceIte, if_true, if_false, if_pT, if_nF, decide_true, Bool.not_true, Bool.not_false, not_true_eq_false, not_false_eq_true, Bool.false_eq_true, Bool.true_eq_false, eq_self, n3_lit, n3_add, n3_mul, n3_sub, n3_tn, n3_le_t, n3_le_f, n3_lt_t, n3_lt_f, n3_eq_f, n3_eq_t, n3_inb, n3_rem, n3_div, n3_zb, bb_0, bb_1, zb_bb, bb_T, bb_F, n3_dec, n3_m1, n3_eqm, n3_eqmt, n3_ltm, n3_mlt, n3_lem, n3_mle, n3_neg_lt, n3_nlt_neg, n3_nle_neg, n3_neg_le, Nat.sub_zero]
      · by_cases h3 : G (25 + 6 * i + 2) - min l (G (25 + 6 * i + 2)) = 0
        · obtain ⟨μ4, e4, hC4, f4⟩ := c_logadd (N := N) hS hC2 hj (by simp (disch := omega) only [up_n]; omega) (by simp (disch := omega) only [up_n]; omega) i 3 (G (25 + 6 * i + 4))
          have ew : wrk1 (l, G) i = (l - min l (G (25 + 6 * i + 2)), logF (up G (25 + 6 * i + 2) (G (25 + 6 * i + 2) - min l (G (25 + 6 * i + 2)))) i 3 (G (25 + 6 * i + 4))) := by unfold wrk1; rw [if_pos h1, if_neg h2]; simp only; rw [if_pos h3]
          rw [ew]
          refine ⟨_, ⟨μ4, rfl, hC4, f2.trans (f4.mono (fun i h => by omega))⟩, fun k => ?_⟩
          simp (disch := omega) only [up_n] at e4
          simp (disch := omega) only [jn_X9_workHands_84, bd_X9_workHands_7, ↓ob (hS.1), ↓ob (hS.2.1), ↓ob (hS.2.2.1), ↓ob (hS.2.2.2.1), ↓ob (hS.2.2.2.2.1), ↓ob (hS.2.2.2.2.2.1), ↓ob (hS.2.2.2.2.2.2.1), ↓ob (hS.2.2.2.2.2.2.2.1), hS.2.2.2.2.2.2.2.2.1, hS.2.2.2.2.2.2.2.2.2.1, hS.2.2.2.2.2.2.2.2.2.2.1, hS.2.2.2.2.2.2.2.2.2.2.2.1, hS.2.2.2.2.2.2.2.2.2.2.2.2.1, hS.2.2.2.2.2.2.2.2.2.2.2.2.2.1, hS.2.2.2.2.2.2.2.2.2.2.2.2.2.2, c0, c1, h1, q1, q2, q3, q4, h2, n3_imin, ↓lt_e, ↓gd_e, ↓Option.bind_some, ↓reduceIte, if_true, if_false, if_pT, if_nF, decide_true, Bool.not_true, Bool.not_false, not_true_eq_false, not_false_eq_true, Bool.false_eq_true, Bool.true_eq_false, eq_self, n3_lit, n3_add, n3_mul, n3_sub, n3_tn, n3_le_t, n3_le_f, n3_lt_t, n3_lt_f, n3_eq_f, n3_eq_t, n3_inb, n3_rem, n3_div, n3_zb, bb_0, bb_1, zb_bb, bb_T, bb_F, n3_dec, n3_m1, n3_eqm, n3_eqmt, n3_ltm, n3_mlt, n3_lem, n3_mle, n3_neg_lt, n3_nlt_neg, n3_nle_neg, n3_neg_le, mso hj, msn, mse, e4]
        · have ew : wrk1 (l, G) i = (l - min l (G (25 + 6 * i + 2)), up G (25 + 6 * i + 2) (G (25 + 6 * i + 2) - min l (G (25 + 6 * i + 2)))) := by unfold wrk1; rw [if_pos h1, if_neg h2]; simp only; rw [if_neg h3]
          rw [ew]
          refine ⟨_, ⟨_, rfl, hC2, f2⟩, fun k => ?_⟩
          simp (disch := omega) only [jn_X9_workHands_84, bd_X9_workHands_7, ↓ob (hS.1), ↓ob (hS.2.1), ↓ob (hS.2.2.1), ↓ob (hS.2.2.2.1), ↓ob (hS.2.2.2.2.1), ↓ob (hS.2.2.2.2.2.1), ↓ob (hS.2.2.2.2.2.2.1), ↓ob (hS.2.2.2.2.2.2.2.1), hS.2.2.2.2.2.2.2.2.1, hS.2.2.2.2.2.2.2.2.2.1, hS.2.2.2.2.2.2.2.2.2.2.1, hS.2.2.2.2.2.2.2.2.2.2.2.1, hS.2.2.2.2.2.2.2.2.2.2.2.2.1, hS.2.2.2.2.2.2.2.2.2.2.2.2.2.1, hS.2.2.2.2.2.2.2.2.2.2.2.2.2.2, c0, c1, h1, q1, q2, q3, q4, h2, n3_imin, ↓lt_e, ↓gd_e, ↓Option.bind_some, ↓reduceIte, if_true, if_false, if_pT, if_nF, decide_true, Bool.not_true, Bool.not_false, not_true_eq_false, not_false_eq_true, Bool.false_eq_true, Bool.true_eq_false, eq_self, n3_lit, n3_add, n3_mul, n3_sub, n3_tn, n3_le_t, n3_le_f, n3_lt_t, n3_lt_f, n3_eq_f, n3_eq_t, n3_inb, n3_rem, n3_div, n3_zb, bb_0, bb_1, zb_bb, bb_T, bb_F, n3_dec, n3_m1, n3_eqm, n3_eqmt, n3_ltm, n3_mlt, n3_lem, n3_mle, n3_neg_lt, n3_nlt_neg, n3_nle_neg, n3_neg_le, mso hj, msn, mse]
    · have ew : wrk1 (l, G) i = (l, G) := by unfold wrk1; rw [if_neg h1]
      rw [ew]
      refine ⟨_, ⟨μ1, rfl, hC1, hf⟩, fun k => ?_⟩
      simp (disch := omega) only [bd_X9_workHands_7, jn_X9_workHands_84, ↓ob (hS.1), ↓ob (hS.2.1), ↓ob (hS.2.2.1), ↓ob (hS.2.2.2.1), ↓ob (hS.2.2.2.2.1), ↓ob (hS.2.2.2.2.2.1), ↓ob (hS.2.2.2.2.2.2.1), ↓ob (hS.2.2.2.2.2.2.2.1), hS.2.2.2.2.2.2.2.2.1, hS.2.2.2.2.2.2.2.2.2.1, hS.2.2.2.2.2.2.2.2.2.2.1, hS.2.2.2.2.2.2.2.2.2.2.2.1, hS.2.2.2.2.2.2.2.2.2.2.2.2.1, hS.2.2.2.2.2.2.2.2.2.2.2.2.2.1, hS.2.2.2.2.2.2.2.2.2.2.2.2.2.2, c0, c1, h1, ↓lt_e, ↓gd_e, ↓Option.bind_some, ↓reduceIte, if_true, if_false, if_pT, if_nF, decide_true, Bool.not_true, Bool.not_false, not_true_eq_false, not_false_eq_true, Bool.false_eq_true, Bool.true_eq_false, eq_self, bb_0, n3_lit, n3_le_f, n3_add, ite_true]
  · obtain ⟨μ1, rfl, hC1, hf⟩ := hx
    obtain ⟨hk, hle⟩ := wrkN_Kp (x := (F 6, F)) (F 0) (by omega)
    simp only at hle
    have e0 : (wrkN (F 6, F) (F 0)).2 0 = F 0 := hk.1
    have e6 : (wrkN (F 6, F) (F 0)).2 6 = F 6 := hk.2.2.2.2.1
    have c0 : μ1.1 (ad σ) 8 = n3 (F 0) := by have := hC1.2.2.2.2.2.2.2.2.1; rw [e0] at this; exact this
    have c3 : μ1.1 (ad σ) 3 = n3 (F 6) := by have := hC1.2.2.2.1; rw [e6] at this; exact this
    exact ⟨_, ⟨μ1, rfl, hC1, hf⟩, fun k => by simp (disch := omega) only [jn_X9_workHands_84, bd_X9_workHands_7, c0, c3, ↓lt_e, ↓gd_e, ↓Option.bind_some, ↓reduceIte, if_true, if_false, if_pT, if_nF, decide_true, Bool.not_true, Bool.not_false, not_true_eq_false, not_false_eq_true, Bool.false_eq_true, Bool.true_eq_false, eq_self, n3_lit, n3_add, n3_mul, n3_sub, n3_tn, n3_le_t, n3_le_f, n3_lt_t, n3_lt_f, n3_eq_f, n3_eq_t, n3_inb, n3_rem, n3_div, n3_zb, bb_0, bb_1, zb_bb, bb_T, bb_F, n3_dec, n3_m1, n3_eqm, n3_eqmt, n3_ltm, n3_mlt, n3_lem, n3_mle, n3_neg_lt, n3_nlt_neg, n3_nle_neg, n3_neg_le]⟩
theorem c_rest {N : Nat} (hN : 1099511627776 ≤ N) {Λ : Lay} {ad : Nat → Nat} {σ : Nat} {μ : Mem} {F : Nat → Nat} (hS : LyS Λ ad σ) (hC : CS ad μ σ F)  (hj : Inj ad) {G : Nat → Nat} {calm : Bool} (hw : WF G) (e : F = levF calm G) : ∃ μ', jn_X9_step_76 N Λ μ (ad σ) = some (n3 (dnF calm G), μ') ∧ CS ad μ' σ (hourF calm G) ∧ FrS ad σ μ μ' := by
  subst e
  have hb := hw.1; unfold WB at hb
  have hw1 := levF_WF hw calm
  obtain ⟨e6, e0, e00⟩ := hourF_of (calm := calm) hw
  obtain ⟨μ1, e1, hC1, f1⟩ := c_hurtUnborne hN hS hC hj hw1
  rw [e00] at hC1
  have hw2 := hutN_WF hw1 (G 0)
  have hb2 := hw2.1; unfold WB at hb2
  obtain ⟨μ2, e2, hC2, f2⟩ := c_workHands hN hS hC1 hj hw2
  rw [e6, e0] at e2 hC2
  have q4 : μ1.1 (ad σ) 0 = n3 (hutN (levF calm G) (G 0) 3) := hC1.1
  by_cases h : hutN (levF calm G) (G 0) 3 ≤ 2
  · refine ⟨μ2, ?_, ?_, f1.trans f2⟩
    · simp (disch := omega) only [jn_X9_step_76, jn_X9_step_96, e1, e2, q4, h, dnF, ↓lt_e, ↓gd_e, ↓Option.bind_some, ↓reduceIte, if_true, if_false, if_pT, if_nF, decide_true, Bool.not_true, Bool.not_false, not_true_eq_false, not_false_eq_true, Bool.false_eq_true, Bool.true_eq_false, eq_self, n3_lit, n3_add, n3_mul, n3_sub, n3_tn, n3_le_t, n3_le_f, n3_lt_t, n3_lt_f, n3_eq_f, n3_eq_t, n3_inb, n3_rem, n3_div, n3_zb, bb_0, bb_1, zb_bb, bb_T, bb_F, n3_dec, n3_m1, n3_eqm, n3_eqmt, n3_ltm, n3_mlt, n3_lem, n3_mle, n3_neg_lt, n3_nlt_neg, n3_nle_neg, n3_neg_le]
    · unfold hourF; rw [if_pos h]; exact hC2
  · refine ⟨μ1, ?_, ?_, f1⟩
    · simp (disch := omega) only [jn_X9_step_76, jn_X9_step_96, e1, q4, h, dnF, ↓lt_e, ↓gd_e, ↓Option.bind_some, ↓reduceIte, if_true, if_false, if_pT, if_nF, decide_true, Bool.not_true, Bool.not_false, not_true_eq_false, not_false_eq_true, Bool.false_eq_true, Bool.true_eq_false, eq_self, n3_lit, n3_add, n3_mul, n3_sub, n3_tn, n3_le_t, n3_le_f, n3_lt_t, n3_lt_f, n3_eq_f, n3_eq_t, n3_inb, n3_rem, n3_div, n3_zb, bb_0, bb_1, zb_bb, bb_T, bb_F, n3_dec, n3_m1, n3_eqm, n3_eqmt, n3_ltm, n3_mlt, n3_lem, n3_mle, n3_neg_lt, n3_nlt_neg, n3_nle_neg, n3_neg_le]
    · unfold hourF; rw [if_neg h]; exact hC1
theorem c_nextSurge {N : Nat} {Λ : Lay} {ad : Nat → Nat} {σ : Nat} {μ : Mem} {F : Nat → Nat} (hS : LyS Λ ad σ) (hC : CS ad μ σ F)  (hj : Inj ad) (hw : WF F) : m_X9_nextSurge N Λ μ (ad σ) = some (n3 (drF F % (F 7 + 1)), mset μ (ad σ) 6 (n3 (sdF F))) := by
  have hb := hw.1; unfold WB at hb
  have h0 : n3 1103515245 * n3 (F 12) + n3 12345 = n3 (sdF F) := by
    rw [n3_mul, n3_add, ← n3_mod]; rfl
  have hs : sdF F < 4294967296 := Nat.mod_lt _ (by decide)
  have hd : drF F < 32768 := Nat.mod_lt _ (by decide)
  have q6 : μ.1 (ad σ) 6 = n3 (F 12) := hC.2.2.2.2.2.2.1
  have q4 : μ.1 (ad σ) 4 = n3 (F 7) := hC.2.2.2.2.1
  have ed : sdF F / 65536 % 32768 = drF F := rfl
  by_cases h7 : F 7 = 0
  · simp (disch := omega) only [jn_X9_nextSurge_46, m_X9_nextSurge, ↓lt_e, ↓gd_e, ↓Option.bind_some, ↓reduceIte, if_true, if_false, if_pT, if_nF, decide_true, Bool.not_true, Bool.not_false, not_true_eq_false, not_false_eq_true, Bool.false_eq_true, Bool.true_eq_false, eq_self, n3_lit, q6, h0, msn, q4, h7, n3_le_t, Nat.zero_add, Nat.mod_one]
  · simp (disch := omega) only [jn_X9_nextSurge_46, m_X9_nextSurge, ↓lt_e, ↓gd_e, ↓Option.bind_some, ↓reduceIte, if_true, if_false, if_pT, if_nF, decide_true, Bool.not_true, Bool.not_false, not_true_eq_false, not_false_eq_true, Bool.false_eq_true, Bool.true_eq_false, eq_self, n3_lit, q6, h0, msn, mse, q4, n3_le_f, n3_add, n3_eq_f, n3_udr, ed, n3_rem]
theorem c_step {N : Nat} (hN : 1099511627776 ≤ N) {Λ : Lay} {ad : Nat → Nat} {σ : Nat} {μ : Mem} {F : Nat → Nat} (hS : LyS Λ ad σ) (hC : CS ad μ σ F)  {r : Nat} (hL : LyL Λ ad r) (hj : Inj ad) (hw : WF F) (hl : LawOk F) (hd : r + 5 < σ ∨ σ + 8 < r) (hc : CL ad μ r F) (calm : Bool) (v : Int32) (hv : v = n3 (bb (calm = false))) : ∃ μ', m_X9_step N Λ μ (ad σ) (ad r) v = some (n3 (dnF calm F), μ') ∧ CS ad μ' σ (hourF calm F) ∧ Fr ad (fun i => (σ ≤ i ∧ i ≤ σ + 8) ∨ i = r + 5) μ μ' := by
  subst hv
  have hb := hw.1; unfold WB at hb
  have h60 : F 11 ≤ 60 := hb.2.2.2.2.2.2.2.2.2.2.2.1
  have hC1 := hC.wr hj hb.1 h60 9 (min 9999 (F 9 + 1)) (by omega) ⟨by omega, by omega⟩ (by omega) (by omega) σ 1 rfl rfl
  change CS ad _ σ (hr1 F) at hC1
  have f1 : Fr ad (fun i => (σ ≤ i ∧ i ≤ σ + 8) ∨ i = r + 5) μ (mset μ (ad σ) 1 (n3 (min 9999 (F 9 + 1)))) := (Fr.refl μ).set hj (by omega)
  have hw1 := hr1_WF hw
  have hl1 : LawOk (hr1 F) := hl.of (hr1_Kp F).2.2.2.2.2.2.2.2
  have hc1 : CL ad (mset μ (ad σ) 1 (n3 (min 9999 (F 9 + 1)))) r (hr1 F) := (hc.of (hr1_Kp F).2.2.2.2.2.2.2.2).fr f1 (fun i h1 h2 => by omega)
  have ht := td_le hw1 0
  have hb1 := hw1.1; unfold WB at hb1
  have u4 : hr1 F 4 = F 4 := up_n (by omega)
  have u3' : hr1 F 3 = F 3 := up_n (by omega)
  have u7 : hr1 F 7 = F 7 := up_n (by omega)
  have u12 : hr1 F 12 = F 12 := up_n (by omega)
  have u0 : hr1 F 0 = F 0 := up_n (by omega)
  have u11 : hr1 F 11 = F 11 := up_n (by omega)
  have q1 : μ.1 (ad σ) 1 = n3 (F 9) := hC.2.1
  have q11 : (mset μ (ad σ) 1 (n3 (min 9999 (F 9 + 1)))).1 (ad σ) 11 = n3 (F 4) := by rw [← u4]; exact hC1.2.2.2.2.2.2.2.2.2.2.1
  have q0 : (mset μ (ad σ) 1 (n3 (min 9999 (F 9 + 1)))).1 (ad σ) 0 = n3 (F 3) := by rw [← u3']; exact hC1.1
  have r1 := c_tideNow (N := N) hS hC1 (by omega)
  have ew : min (F 9 + 1) 9999 = min 9999 (F 9 + 1) := Nat.min_comm _ _
  by_cases h4 : F 4 = 1
  · cases calm
    · have e2 := c_nextSurge (N := N) hS hC1 hj hw1
      have es : sdF (hr1 F) = sdF F := by unfold sdF; rw [u12]
      have ed : drF (hr1 F) = drF F := by unfold drF; rw [es]
      rw [es, ed, u7] at e2
      have hC2 := hC1.wr hj (by omega) (by omega) 12 (sdF F) (by omega) ⟨by omega, by omega⟩ (by omega) (by omega) σ 6 rfl rfl
      have hC3 := hC2.wr hj (by simp (disch := omega) only [up_n]; omega) (by simp (disch := omega) only [up_n]; omega) 3 (td (hr1 F) 0 + drF F % (F 7 + 1)) (by simp (disch := omega) only [up_n]; omega) ⟨by omega, by omega⟩ (by omega) (by omega) σ 0 rfl rfl
      obtain ⟨μ4, e4, hC4, f4⟩ := c_rest hN hS hC3 hj (calm := false) hw (by unfold levF; rw [if_pos h4, if_neg (by decide)])
      refine ⟨μ4, ?_, hC4, ((f1.set hj (by omega)).set hj (by omega)).trans (f4.mono (fun i => Or.inl))⟩
      simp (disch := omega) only [m_X9_step, jn_X9_step_40, q1, q11, r1, e2, e4, n3_imin, ew, h4, ↓lt_e, ↓gd_e, ↓Option.bind_some, ↓reduceIte, if_true, if_false, if_pT, if_nF, decide_true, Bool.not_true, Bool.not_false, not_true_eq_false, not_false_eq_true, Bool.false_eq_true, Bool.true_eq_false, eq_self, n3_lit, n3_add, n3_mul, n3_sub, n3_tn, n3_le_t, n3_le_f, n3_lt_t, n3_lt_f, n3_eq_f, n3_eq_t, n3_inb, n3_rem, n3_div, n3_zb, bb_0, bb_1, zb_bb, bb_T, bb_F, n3_dec, n3_m1, n3_eqm, n3_eqmt, n3_ltm, n3_mlt, n3_lem, n3_mle, n3_neg_lt, n3_nlt_neg, n3_nle_neg, n3_neg_le]
    · have hC3 := hC1.wr hj (by omega) (by omega) 3 (td (hr1 F) 0) (by omega) ⟨by omega, by omega⟩ (by omega) (by omega) σ 0 rfl rfl
      obtain ⟨μ4, e4, hC4, f4⟩ := c_rest hN hS hC3 hj (calm := true) hw (by unfold levF; rw [if_pos h4, if_pos rfl])
      refine ⟨μ4, ?_, hC4, (f1.set hj (by omega)).trans (f4.mono (fun i => Or.inl))⟩
      simp (disch := omega) only [m_X9_step, jn_X9_step_40, q1, q11, r1, e4, n3_imin, ew, h4, ↓lt_e, ↓gd_e, ↓Option.bind_some, ↓reduceIte, if_true, if_false, if_pT, if_nF, decide_true, Bool.not_true, Bool.not_false, not_true_eq_false, not_false_eq_true, Bool.false_eq_true, Bool.true_eq_false, eq_self, n3_lit, n3_add, n3_mul, n3_sub, n3_tn, n3_le_t, n3_le_f, n3_lt_t, n3_lt_f, n3_eq_f, n3_eq_t, n3_inb, n3_rem, n3_div, n3_zb, bb_0, bb_1, zb_bb, bb_T, bb_F, n3_dec, n3_m1, n3_eqm, n3_eqmt, n3_ltm, n3_mlt, n3_lem, n3_mle, n3_neg_lt, n3_nlt_neg, n3_nle_neg, n3_neg_le, Nat.add_zero]
  · have h40 : F 4 = 0 := by omega
    obtain ⟨μ2, e2, f2⟩ := c_leaking hN hS hC1 hL hj hw1 hl1 (by omega) hc1
    have hC2 := hC1.fr f2 (fun i h1 h2 => by omega)
    have hc2 := hc1.fr f2 (fun i h1 h2 => by omega)
    obtain ⟨μ3, e3, f3⟩ := c_pulling hN hS hC2 hL hj hw1 hl1 (by omega) hc2
    have hC3 := hC2.fr f3 (fun i h1 h2 => by omega)
    have hC4 := hC3.wr hj (by omega) (by omega) 3 (min 40 (F 3 + lekF (hr1 F) - pulF (hr1 F))) (by omega) ⟨by omega, by omega⟩ (by omega) (by omega) σ 0 rfl rfl
    obtain ⟨μ5, e5, hC5, f5⟩ := c_rest hN hS hC4 hj (calm := calm) hw (by unfold levF; rw [if_neg h4])
    have s1 := smf_le (kd := 0) (s := 4294967295) hl1
    have s2 := smf_le (kd := 1) (s := 4294967295) hl1
    have p1 : pulF (hr1 F) < 1073741824 := by unfold pulF; omega
    have p2 : F 3 + lekF (hr1 F) < 1073741824 := by unfold lekF; have := bb_le (hr1 F 3 < td (hr1 F) 0); omega
    refine ⟨μ5, ?_, hC5, f1.trans ((f2.mono (fun i => Or.inr)).trans ((f3.mono (fun i => Or.inr)).trans (((Fr.refl μ3).set hj (by omega)).trans (f5.mono (fun i => Or.inl)))))⟩
    simp (disch := omega) only [m_X9_step, q1, q11, q0, e2, e3, e5, n3_imin, ew, h40, n3_clip, ↓lt_e, ↓gd_e, ↓Option.bind_some, ↓reduceIte, if_true, if_false, if_pT, if_nF, decide_true, Bool.not_true, Bool.not_false, not_true_eq_false, not_false_eq_true, Bool.false_eq_true, Bool.true_eq_false, eq_self, n3_lit, n3_add, n3_mul, n3_sub, n3_tn, n3_le_t, n3_le_f, n3_lt_t, n3_lt_f, n3_eq_f, n3_eq_t, n3_inb, n3_rem, n3_div, n3_zb, bb_0, bb_1, zb_bb, bb_T, bb_F, n3_dec, n3_m1, n3_eqm, n3_eqmt, n3_ltm, n3_mlt, n3_lem, n3_mle, n3_neg_lt, n3_nlt_neg, n3_nle_neg, n3_neg_le]
/-! several hours -/
def hrsF (calm : Bool) (F : Nat → Nat) : Nat → Nat → Nat
  | 0 => F
  | n + 1 => hourF calm (hrsF calm F n)
def dnsF (calm : Bool) (F : Nat → Nat) : Nat → Nat
  | 0 => 0
  | n + 1 => dnsF calm F n + dnF calm (hrsF calm F n)
theorem hrsF_WF {F : Nat → Nat} (h : WF F) (calm : Bool) : ∀ n, WF (hrsF calm F n)
  | 0 => h
  | n + 1 => hourF_WF (hrsF_WF h calm n) calm
theorem hrsF_Kp {F : Nat → Nat} (h : WF F) (calm : Bool) : ∀ n, Kp F (hrsF calm F n)
  | 0 => Kp.refl F
  | n + 1 => (hrsF_Kp h calm n).trans (hourF_Kp (hrsF_WF h calm n).1.1 calm)
theorem hrsF_Law {F : Nat → Nat} (h : WF F) (hl : LawOk F) (calm : Bool) (n : Nat) : LawOk (hrsF calm F n) := hl.of (hrsF_Kp h calm n).2.2.2.2.2.2.2.2
theorem dnF_le {F : Nat → Nat} (h : WF F) (calm : Bool) : dnF calm F ≤ 9 := by
  have hb := h.1; unfold WB at hb
  unfold dnF; split <;> omega
theorem dnsF_le {F : Nat → Nat} (h : WF F) (calm : Bool) : ∀ n, dnsF calm F n ≤ 9 * n
  | 0 => by simp [dnsF]
  | n + 1 => by
    have := dnsF_le h calm n
    have := dnF_le (hrsF_WF h calm n) calm
    unfold dnsF; omega
theorem r_goesOn {N : Nat} (hN : 1099511627776 ≤ N) {Λ : Lay} {ad : Nat → Nat} {μ : Mem} {F : Nat → Nat} (hR : LyR Λ ad) (hW : Row μ (ad 182) 1222 F)  (hj : Inj ad) (hw : WF F) (hl : LawOk F) (calm : Bool) (v : Int32) (hv : v = n3 (bb (calm = true))) (n : Nat) (hn : n ≤ 1000) : ∃ μ', m_X12_goesOn N Λ μ (ad 181) (n3 n) v = some (n3 (dnsF calm F n), μ') ∧ Row μ' (ad 182) 1222 (hrsF calm F n) ∧ Fr ad (fun i => i = 182 ∨ i = 189) μ μ' := by
  unfold m_X12_goesOn lp_X12_goesOn_5
  refine cw_iv (P := fun i x => ∃ μ1 : Mem, x = (n3 (dnsF calm F i), n3 i, μ1) ∧ Row μ1 (ad 182) 1222 (hrsF calm F i) ∧ Fr ad (fun i => i = 182 ∨ i = 189) μ μ1) (Q := fun X => ∃ μ', X = some (n3 (dnsF calm F n), μ') ∧ Row μ' (ad 182) 1222 (hrsF calm F n) ∧ Fr ad (fun i => i = 182 ∨ i = 189) μ μ') n ⟨μ, rfl, hW, Fr.refl μ⟩ (fun i hi x hx => ?_) (fun x hx => ?_) (by omega)
  · obtain ⟨μ1, rfl, hW1, hf⟩ := hx
    obtain ⟨μ2, e2, hW2, f2⟩ := r_oneHour hN hR hW1 hj (hrsF_WF hw calm i) (hrsF_Law hw hl calm i) calm v hv
    exact Or.inl ⟨_, ⟨μ2, rfl, hW2, hf.trans f2⟩, fun k => by simp (disch := omega) only [bd_X12_goesOn_5, e2, ↓lt_e, ↓gd_e, ↓Option.bind_some, ↓reduceIte, if_true, if_false, if_pT, if_nF, decide_true, Bool.not_true, Bool.not_false, not_true_eq_false, not_false_eq_true, Bool.false_eq_true, Bool.true_eq_false, eq_self, n3_lit, n3_add, n3_mul, n3_sub, n3_tn, n3_le_t, n3_le_f, n3_lt_t, n3_lt_f, n3_eq_f, n3_eq_t, n3_inb, n3_rem, n3_div, n3_zb, bb_0, bb_1, zb_bb, bb_T, bb_F, n3_dec, n3_m1, n3_eqm, n3_eqmt, n3_ltm, n3_mlt, n3_lem, n3_mle, n3_neg_lt, n3_nlt_neg, n3_nle_neg, n3_neg_le, dnsF]⟩
  · obtain ⟨μ1, rfl, hW1, hf⟩ := hx
    exact ⟨_, ⟨μ1, rfl, hW1, hf⟩, fun k => by simp (disch := omega) only [bd_X12_goesOn_5, ↓lt_e, ↓gd_e, ↓Option.bind_some, ↓reduceIte, if_true, if_false, if_pT, if_nF, decide_true, Bool.not_true, Bool.not_false, not_true_eq_false, not_false_eq_true, Bool.false_eq_true, Bool.true_eq_false, eq_self, n3_lit, n3_add, n3_mul, n3_sub, n3_tn, n3_le_t, n3_le_f, n3_lt_t, n3_lt_f, n3_eq_f, n3_eq_t, n3_inb, n3_rem, n3_div, n3_zb, bb_0, bb_1, zb_bb, bb_T, bb_F, n3_dec, n3_m1, n3_eqm, n3_eqmt, n3_ltm, n3_mlt, n3_lem, n3_mle, n3_neg_lt, n3_nlt_neg, n3_nle_neg, n3_neg_le]⟩
theorem c_pass {N : Nat} (hN : 1099511627776 ≤ N) {Λ : Lay} {ad : Nat → Nat} {σ : Nat} {μ : Mem} {F : Nat → Nat} (hS : LyS Λ ad σ) (hC : CS ad μ σ F)  {r : Nat} (hL : LyL Λ ad r) (hj : Inj ad) (hw : WF F) (hl : LawOk F) (hd : r + 5 < σ ∨ σ + 8 < r) (hc : CL ad μ r F) (calm : Bool) (v : Int32) (hv : v = n3 (bb (calm = false))) (n : Nat) (hn : n ≤ 1000) : ∃ μ', m_X9_pass N Λ μ (ad σ) (n3 n) (ad r) v = some (n3 (dnsF calm F n), μ') ∧ CS ad μ' σ (hrsF calm F n) ∧ Fr ad (fun i => (σ ≤ i ∧ i ≤ σ + 8) ∨ i = r + 5) μ μ' := by
  unfold m_X9_pass lp_X9_pass_6
  refine cw_iv (P := fun i x => ∃ μ1 : Mem, x = (n3 (dnsF calm F i), n3 i, μ1) ∧ CS ad μ1 σ (hrsF calm F i) ∧ Fr ad (fun i => (σ ≤ i ∧ i ≤ σ + 8) ∨ i = r + 5) μ μ1) (Q := fun X => ∃ μ', X = some (n3 (dnsF calm F n), μ') ∧ CS ad μ' σ (hrsF calm F n) ∧ Fr ad (fun i => (σ ≤ i ∧ i ≤ σ + 8) ∨ i = r + 5) μ μ') n ⟨μ, rfl, hC, Fr.refl μ⟩ (fun i hi x hx => ?_) (fun x hx => ?_) (by omega)
  · obtain ⟨μ1, rfl, hC1, hf⟩ := hx
    have hc1 : CL ad μ1 r (hrsF calm F i) := (hc.of (hrsF_Kp hw calm i).2.2.2.2.2.2.2.2).fr hf (fun i h1 h2 => by omega)
    obtain ⟨μ2, e2, hC2, f2⟩ := c_step hN hS hC1 hL hj (hrsF_WF hw calm i) (hrsF_Law hw hl calm i) hd hc1 calm v hv
    exact Or.inl ⟨_, ⟨μ2, rfl, hC2, hf.trans f2⟩, fun k => by simp (disch := omega) only [bd_X9_pass_6, e2, ↓lt_e, ↓gd_e, ↓Option.bind_some, ↓reduceIte, if_true, if_false, if_pT, if_nF, decide_true, Bool.not_true, Bool.not_false, not_true_eq_false, not_false_eq_true, Bool.false_eq_true, Bool.true_eq_false, eq_self, n3_lit, n3_add, n3_mul, n3_sub, n3_tn, n3_le_t, n3_le_f, n3_lt_t, n3_lt_f, n3_eq_f, n3_eq_t, n3_inb, n3_rem, n3_div, n3_zb, bb_0, bb_1, zb_bb, bb_T, bb_F, n3_dec, n3_m1, n3_eqm, n3_eqmt, n3_ltm, n3_mlt, n3_lem, n3_mle, n3_neg_lt, n3_nlt_neg, n3_nle_neg, n3_neg_le, dnsF]⟩
  · obtain ⟨μ1, rfl, hC1, hf⟩ := hx
    exact ⟨_, ⟨μ1, rfl, hC1, hf⟩, fun k => by simp (disch := omega) only [bd_X9_pass_6, ↓lt_e, ↓gd_e, ↓Option.bind_some, ↓reduceIte, if_true, if_false, if_pT, if_nF, decide_true, Bool.not_true, Bool.not_false, not_true_eq_false, not_false_eq_true, Bool.false_eq_true, Bool.true_eq_false, eq_self, n3_lit, n3_add, n3_mul, n3_sub, n3_tn, n3_le_t, n3_le_f, n3_lt_t, n3_lt_f, n3_eq_f, n3_eq_t, n3_inb, n3_rem, n3_div, n3_zb, bb_0, bb_1, zb_bb, bb_T, bb_F, n3_dec, n3_m1, n3_eqm, n3_eqmt, n3_ltm, n3_mlt, n3_lem, n3_mle, n3_neg_lt, n3_nlt_neg, n3_nle_neg, n3_neg_le]⟩
/-! copies -/
theorem cpy_ok {Λ : Lay} {a b n : Nat} (ha : aZ Λ a = n) (hb : aZ Λ b = n) (hn : n < 2147483648) : cpyOk Λ a b (n3 0) (n3 0) (n3 n) = true := by
  have a0 : ¬ n3 0 < n3 0 := by rw [n3_lt_f (Nat.le_refl 0) (by omega)]; exact id
  have a1 : ¬ n3 n < n3 0 := by rw [n3_lt_f (Nat.zero_le n) hn]; exact id
  exact decide_eq_true ⟨a0, a0, a1, by rw [ha, n3_tn hn]; show 0 + n ≤ n; omega, by rw [hb, n3_tn hn]; show 0 + n ≤ n; omega⟩
theorem mre (μ : Mem) (a : Nat) (f : Nat → Int32) : (mrow μ a f).1 a = f := va_up_self _ _ _
theorem mro {ad : Nat → Nat} (hj : Inj ad) {μ : Mem} {i j : Nat} {f : Nat → Int32} (h : j ≠ i) : (mrow μ (ad i) f).1 (ad j) = μ.1 (ad j) := va_up_ne _ _ (fun e => h (hj _ _ e))
theorem cpy_in {f g : Nat → Int32} {n k : Nat} (h : k < n) : va_cpy f g 0 0 n k = f k := by
  unfold va_cpy; rw [if_pos (by omega)]; congr 1; omega
theorem Fr.mse {ad : Nat → Nat} (hj : Inj ad) {I : Nat → Prop} {μ : Mem} {i k : Nat} {v : Int32} (hi : I i) : Fr ad I μ (mset μ (ad i) k v) := (Fr.refl μ).set hj hi
/-- a copy: fields and rows -/
theorem c_copy {N : Nat} {Λ : Lay} {ad : Nat → Nat} {σ τ : Nat} {μ : Mem} {F : Nat → Nat} (hS : LyS Λ ad σ) (hT : LyS Λ ad τ) (hC : CS ad μ σ F) (hj : Inj ad) (hw : WF F) (hd : τ + 8 < σ ∨ σ + 8 < τ) : ∃ μ', m_X9_copy N Λ μ (ad τ) (ad σ) = some μ' ∧ CS ad μ' τ F ∧ FrS ad τ μ μ' := by
  have hb := hw.1; unfold WB at hb
  have hz : zb (μ.1 (ad σ) 11) = true := by rw [hC.2.2.2.2.2.2.2.2.2.2.1]; exact n3_zb (by omega)
  have k1 := cpy_ok (Λ := Λ) hS.2.2.2.2.2.2.2.2.1 hT.2.2.2.2.2.2.2.2.1 (by omega)
  have k2 := cpy_ok (Λ := Λ) hS.2.2.2.2.2.2.2.2.2.1 hT.2.2.2.2.2.2.2.2.2.1 (by omega)
  have k3 := cpy_ok (Λ := Λ) hS.2.2.2.2.2.2.2.2.2.2.1 hT.2.2.2.2.2.2.2.2.2.2.1 (by omega)
  have k4 := cpy_ok (Λ := Λ) hS.2.2.2.2.2.2.2.2.2.2.2.1 hT.2.2.2.2.2.2.2.2.2.2.2.1 (by omega)
  have k5 := cpy_ok (Λ := Λ) hS.2.2.2.2.2.2.2.2.2.2.2.2.1 hT.2.2.2.2.2.2.2.2.2.2.2.2.1 (by omega)
  have k6 := cpy_ok (Λ := Λ) hS.2.2.2.2.2.2.2.2.2.2.2.2.2.1 hT.2.2.2.2.2.2.2.2.2.2.2.2.2.1 (by omega)
  have k8 := cpy_ok (Λ := Λ) hS.2.2.2.2.2.2.2.2.2.2.2.2.2.2 hT.2.2.2.2.2.2.2.2.2.2.2.2.2.2 (by omega)
  have d0 : ((n3 0).toNatClampNeg) = 0 := rfl
  suffices h : ∃ μ', m_X9_copy N Λ μ (ad τ) (ad σ) = some μ' ∧ (∀ j, j < 12 → μ'.1 (ad τ) j = μ.1 (ad σ) j) ∧ (∀ k, k < 12 → μ'.1 (ad (τ + 1)) k = μ.1 (ad (σ + 1)) k) ∧ (∀ k, k < 8 → μ'.1 (ad (τ + 2)) k = μ.1 (ad (σ + 2)) k) ∧ (∀ k, k < 8 → μ'.1 (ad (τ + 3)) k = μ.1 (ad (σ + 3)) k) ∧ (∀ k, k < 8 → μ'.1 (ad (τ + 4)) k = μ.1 (ad (σ + 4)) k) ∧ (∀ k, k < 8 → μ'.1 (ad (τ + 5)) k = μ.1 (ad (σ + 5)) k) ∧ (∀ k, k < 8 → μ'.1 (ad (τ + 6)) k = μ.1 (ad (σ + 6)) k) ∧ μ'.1 (ad (τ + 7)) 0 = μ.1 (ad (σ + 7)) 0 ∧ μ'.1 (ad (τ + 7)) 1 = μ.1 (ad (σ + 7)) 1 ∧ (∀ k, k < 300 → μ'.1 (ad (τ + 8)) k = μ.1 (ad (σ + 8)) k) ∧ FrS ad τ μ μ' by
    obtain ⟨μ', e, g0, g1, g2, g3, g4, g5, g6, g7, g7', g8, hf⟩ := h
    refine ⟨μ', e, ?_, hf⟩
    obtain ⟨h0, h1, h2, h3, h4, h5, h6, h7, h8, h9, h10, h11, h12, h13, h14, h15, h16, h17, h18, nx, hn, hx, hr⟩ := hC
    refine ⟨by rw [g0 _ (by omega)]; exact h0, by rw [g0 _ (by omega)]; exact h1, by rw [g0 _ (by omega)]; exact h2, by rw [g0 _ (by omega)]; exact h3, by rw [g0 _ (by omega)]; exact h4, by rw [g0 _ (by omega)]; exact h5, by rw [g0 _ (by omega)]; exact h6, by rw [g0 _ (by omega)]; exact h7, by rw [g0 _ (by omega)]; exact h8, by rw [g0 _ (by omega)]; exact h9, by rw [g0 _ (by omega)]; exact h10, fun k hk => by rw [g1 k hk]; exact h11 k hk, fun k hk => by rw [g2 k (by omega)]; exact h12 k hk, fun k hk => by rw [g3 k (by omega)]; exact h13 k hk, fun k hk => by rw [g4 k (by omega)]; exact h14 k hk, fun k hk => by rw [g5 k (by omega)]; exact h15 k hk, fun k hk => by rw [g6 k (by omega)]; exact h16 k hk, by rw [g0 _ (by omega)]; exact h17, by rw [g7]; exact h18, nx, hn, by rw [g7']; exact hx, fun k w hk hw => by rw [g8 _ (by omega)]; exact hr k w hk hw⟩
  have T := hT
  unfold LyS at T
  refine ⟨mrow (mset (mset (mrow (mrow (mrow (mrow (mrow (mrow (mset (mset (mset (mset (mset (mset (mset (mset (mset (mset (mset (mset μ (ad τ) 0 (μ.1 (ad σ) 0)) (ad τ) 1 (μ.1 (ad σ) 1)) (ad τ) 2 (μ.1 (ad σ) 2)) (ad τ) 3 (μ.1 (ad σ) 3)) (ad τ) 4 (μ.1 (ad σ) 4)) (ad τ) 5 (μ.1 (ad σ) 5)) (ad τ) 6 (μ.1 (ad σ) 6)) (ad τ) 7 (μ.1 (ad σ) 7)) (ad τ) 8 (μ.1 (ad σ) 8)) (ad τ) 9 (μ.1 (ad σ) 9)) (ad τ) 10 (μ.1 (ad σ) 10)) (ad τ) 11 (μ.1 (ad σ) 11)) (ad (τ + 1)) (va_cpy (μ.1 (ad (σ + 1))) (μ.1 (ad (τ + 1))) 0 0 12)) (ad (τ + 2)) (va_cpy (μ.1 (ad (σ + 2))) (μ.1 (ad (τ + 2))) 0 0 8)) (ad (τ + 3)) (va_cpy (μ.1 (ad (σ + 3))) (μ.1 (ad (τ + 3))) 0 0 8)) (ad (τ + 4)) (va_cpy (μ.1 (ad (σ + 4))) (μ.1 (ad (τ + 4))) 0 0 8)) (ad (τ + 5)) (va_cpy (μ.1 (ad (σ + 5))) (μ.1 (ad (τ + 5))) 0 0 8)) (ad (τ + 6)) (va_cpy (μ.1 (ad (σ + 6))) (μ.1 (ad (τ + 6))) 0 0 8)) (ad (τ + 7)) 0 (μ.1 (ad (σ + 7)) 0)) (ad (τ + 7)) 1 (μ.1 (ad (σ + 7)) 1)) (ad (τ + 8)) (va_cpy (μ.1 (ad (σ + 8))) (μ.1 (ad (τ + 8))) 0 0 300), ?_, ?_, ?_, ?_, ?_, ?_, ?_, ?_, ?_, ?_, ?_, ?_⟩
  · simp (disch := omega) only [m_X9_copy, m_X4_copy, ↓ob (hS.1), ↓ob (hS.2.1), ↓ob (hS.2.2.1), ↓ob (hS.2.2.2.1), ↓ob (hS.2.2.2.2.1), ↓ob (hS.2.2.2.2.2.1), ↓ob (hS.2.2.2.2.2.2.1), ↓ob (hS.2.2.2.2.2.2.2.1), hS.2.2.2.2.2.2.2.2.1, hS.2.2.2.2.2.2.2.2.2.1, hS.2.2.2.2.2.2.2.2.2.2.1, hS.2.2.2.2.2.2.2.2.2.2.2.1, hS.2.2.2.2.2.2.2.2.2.2.2.2.1, hS.2.2.2.2.2.2.2.2.2.2.2.2.2.1, hS.2.2.2.2.2.2.2.2.2.2.2.2.2.2, ↓ob (T.1), ↓ob (T.2.1), ↓ob (T.2.2.1), ↓ob (T.2.2.2.1), ↓ob (T.2.2.2.2.1), ↓ob (T.2.2.2.2.2.1), ↓ob (T.2.2.2.2.2.2.1), ↓ob (T.2.2.2.2.2.2.2.1), ↓lt_e, ↓gd_e, ↓Option.bind_some, ↓reduceIte, if_true, if_false, if_pT, if_nF, decide_true, Bool.not_true, Bool.not_false, not_true_eq_false, not_false_eq_true, Bool.false_eq_true, Bool.true_eq_false, eq_self, n3_lit, n3_tn, hz, k1, k2, k3, k4, k5, k6, k8, mso hj, mro hj]
  · intro j hj12
    have hc : j = 0 ∨ j = 1 ∨ j = 2 ∨ j = 3 ∨ j = 4 ∨ j = 5 ∨ j = 6 ∨ j = 7 ∨ j = 8 ∨ j = 9 ∨ j = 10 ∨ j = 11 := by omega
    simp (disch := omega) only [mso hj, mro hj]
    rcases hc with rfl | rfl | rfl | rfl | rfl | rfl | rfl | rfl | rfl | rfl | rfl | rfl <;> simp (disch := omega) only [mse, msn]
  · intro k hk; simp (disch := omega) only [mso hj, mro hj, mre, cpy_in]
  · intro k hk; simp (disch := omega) only [mso hj, mro hj, mre, cpy_in]
  · intro k hk; simp (disch := omega) only [mso hj, mro hj, mre, cpy_in]
  · intro k hk; simp (disch := omega) only [mso hj, mro hj, mre, cpy_in]
  · intro k hk; simp (disch := omega) only [mso hj, mro hj, mre, cpy_in]
  · intro k hk; simp (disch := omega) only [mso hj, mro hj, mre, cpy_in]
  · simp (disch := omega) only [mso hj, mro hj, mse, msn]
  · simp (disch := omega) only [mso hj, mro hj, mse, msn]
  · intro k hk; simp (disch := omega) only [mso hj, mro hj, mre, cpy_in]
  · intro i hi
    exact ⟨by simp (disch := omega) only [mso hj, mro hj], rfl⟩
theorem c_lawcopy {N : Nat} {Λ : Lay} {ad : Nat → Nat} {r t : Nat} {μ : Mem} {F : Nat → Nat} (hL : LyL Λ ad r) (hT : LyL Λ ad t) (hC : CL ad μ r F) (hl : LawOk F) (hj : Inj ad) (hd : t + 5 < r ∨ r + 5 < t) : ∃ μ', m_X2_copy N Λ μ (ad t) (ad r) = some μ' ∧ CL ad μ' t F ∧ Fr ad (fun i => t ≤ i ∧ i ≤ t + 5) μ μ' := by
  have k1 := cpy_ok (Λ := Λ) hL.2.2.2.2.2.1 hT.2.2.2.2.2.1 (by omega)
  have k2 := cpy_ok (Λ := Λ) hL.2.2.2.2.2.2.1 hT.2.2.2.2.2.2.1 (by omega)
  have k3 := cpy_ok (Λ := Λ) hL.2.2.2.2.2.2.2.1 hT.2.2.2.2.2.2.2.1 (by omega)
  have k4 := cpy_ok (Λ := Λ) hL.2.2.2.2.2.2.2.2.1 hT.2.2.2.2.2.2.2.2.1 (by omega)
  have T := hT
  unfold LyL at T
  refine ⟨mrow (mrow (mrow (mrow (mset (mset μ (ad t) 0 (μ.1 (ad r) 0)) (ad t) 1 (μ.1 (ad r) 1)) (ad (t + 1)) (va_cpy (μ.1 (ad (r + 1))) (μ.1 (ad (t + 1))) 0 0 12)) (ad (t + 2)) (va_cpy (μ.1 (ad (r + 2))) (μ.1 (ad (t + 2))) 0 0 12)) (ad (t + 3)) (va_cpy (μ.1 (ad (r + 3))) (μ.1 (ad (t + 3))) 0 0 12)) (ad (t + 4)) (va_cpy (μ.1 (ad (r + 4))) (μ.1 (ad (t + 4))) 0 0 400), ?_, ⟨?_, fun h2 n hn => ?_⟩, ?_⟩
  · simp (disch := omega) only [m_X2_copy, ↓ob (hL.1), ↓ob (hL.2.1), ↓ob (hL.2.2.1), ↓ob (hL.2.2.2.1), ↓ob (hL.2.2.2.2.1), hL.2.2.2.2.2.1, hL.2.2.2.2.2.2.1, hL.2.2.2.2.2.2.2.1, hL.2.2.2.2.2.2.2.2.1, hL.2.2.2.2.2.2.2.2.2, ↓ob (T.1), ↓ob (T.2.1), ↓ob (T.2.2.1), ↓ob (T.2.2.2.1), ↓lt_e, ↓gd_e, ↓Option.bind_some, ↓reduceIte, if_true, if_false, if_pT, if_nF, decide_true, Bool.not_true, Bool.not_false, not_true_eq_false, not_false_eq_true, Bool.false_eq_true, Bool.true_eq_false, eq_self, n3_lit, n3_tn, k1, k2, k3, k4, mso hj, mro hj]
  · simp (disch := omega) only [mso hj, mro hj, mse, msn]; exact hC.1
  · have h12 := (hl h2).1
    have hq := hC.2 h2 n hn
    have hln := (hl h2).2 n hn
    unfold LnOk at hln
    refine ⟨?_, ?_, ?_, fun i hi => ?_⟩
    · simp (disch := omega) only [mso hj, mro hj, mre, cpy_in]; exact hq.1
    · simp (disch := omega) only [mso hj, mro hj, mre, cpy_in]; exact hq.2.1
    · simp (disch := omega) only [mso hj, mro hj, mre, cpy_in]; exact hq.2.2.1
    · simp (disch := omega) only [mso hj, mro hj, mre, cpy_in]; exact hq.2.2.2 i hi
  · intro i hi
    exact ⟨by simp (disch := omega) only [mso hj, mro hj], rfl⟩

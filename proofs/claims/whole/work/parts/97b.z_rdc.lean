/-! the class's reader -/
theorem mset_fun (μ : Mem) (a i : Nat) (v : Int32) (b j : Nat) : (mset μ a i v).1 b j = if b = a ∧ j = i then v else μ.1 b j := by
  by_cases e : b = a
  · subst e
    by_cases e2 : j = i
    · subst e2; rw [mse, if_pos ⟨rfl, rfl⟩]
    · rw [msn e2, if_neg (fun h => e2 h.2)]
  · rw [mset_ne e, if_neg (fun h => e h.1)]
theorem mset_ext {μ μ' : Mem} (h : ∀ b j, μ.1 b j = μ'.1 b j) (h2 : μ.2 = μ'.2) : μ = μ' := Prod.ext (funext (fun b => funext (fun j => h b j))) h2
theorem mset_two (μ : Mem) (a i : Nat) (v w : Int32) : mset (mset μ a i v) a i w = mset μ a i w := mset_ext (fun b j => by
  simp only [mset_fun]
  by_cases e : b = a ∧ j = i
  · rw [if_pos e, if_pos e]
  · rw [if_neg e, if_neg e, if_neg e]) rfl
theorem mset_comm {a b : Nat} {i j : Nat} (h : a ≠ b ∨ i ≠ j) (μ : Mem) (v w : Int32) : mset (mset μ a i v) b j w = mset (mset μ b j w) a i v := mset_ext (fun c k => by
  simp only [mset_fun]
  by_cases e : c = b ∧ k = j
  · rw [if_pos e, if_neg (by omega), if_pos e]
  · rw [if_neg e]
    by_cases e2 : c = a ∧ k = i
    · rw [if_pos e2, if_pos e2]
    · rw [if_neg e2, if_neg e2, if_neg e]) rfl
def rd (ad : Nat → Nat) (r : Nat) (μ : Mem) (i v : Nat) : Mem := mset (mset μ (ad r) 1 (n3 i)) (ad r) 2 (n3 v)
theorem rd_1 (ad : Nat → Nat) (r : Nat) (μ : Mem) (i v : Nat) : (rd ad r μ i v).1 (ad r) 1 = n3 i := by unfold rd; rw [msn (by omega), mse]
theorem rd_2 (ad : Nat → Nat) (r : Nat) (μ : Mem) (i v : Nat) : (rd ad r μ i v).1 (ad r) 2 = n3 v := mse _ _ _ _
theorem rd_3 (ad : Nat → Nat) (r : Nat) (μ : Mem) (i v : Nat) : (rd ad r μ i v).1 (ad r) 3 = μ.1 (ad r) 3 := by unfold rd; rw [msn (by omega), msn (by omega)]
theorem rd_o {ad : Nat → Nat} (hj : Inj ad) {r j : Nat} (h : j ≠ r) (μ : Mem) (i v : Nat) : (rd ad r μ i v).1 (ad j) = μ.1 (ad j) := by unfold rd; rw [mso hj h, mso hj h]
theorem rd_s1 (ad : Nat → Nat) (r : Nat) (μ : Mem) (i v i' : Nat) : mset (rd ad r μ i v) (ad r) 1 (n3 i') = rd ad r μ i' v := by
  unfold rd; rw [mset_comm (Or.inr (by omega)), mset_two]
theorem rd_s2 (ad : Nat → Nat) (r : Nat) (μ : Mem) (i v v' : Nat) : mset (rd ad r μ i v) (ad r) 2 (n3 v') = rd ad r μ i v' := by
  unfold rd; rw [mset_two]
theorem rd_w {ad : Nat → Nat} (hj : Inj ad) {r j : Nat} (h : j ≠ r) (μ : Mem) (i v k : Nat) (x : Int32) : mset (rd ad r μ i v) (ad j) k x = rd ad r (mset μ (ad j) k x) i v := by
  have h' : ad r ≠ ad j := fun e => h (hj _ _ e.symm)
  unfold rd; rw [mset_comm (Or.inl h'), mset_comm (Or.inl h')]
theorem rd_fr {ad : Nat → Nat} (hj : Inj ad) (r : Nat) (μ : Mem) (i v : Nat) : Fr ad (fun j => j = r) μ (rd ad r μ i v) := ((Fr.refl μ).set hj (by rfl)).set hj (by rfl)
def TkC (ad : Nat → Nat) (μ : Mem) (r : Nat) (T : Nat → Int32) (n m : Nat) : Prop := n ≤ 400 ∧ m ≤ n ∧ BT T n m = n ∧ (∀ i, i < m → BT T n i < n) ∧ μ.1 (ad 1) 1 = n3 n ∧ (∀ k, k < n → μ.1 (ad 2) k = T k) ∧ μ.1 (ad r) 3 = n3 m ∧ Row μ (ad (r + 1)) (m + 1) (KT T n) ∧ Row μ (ad (r + 2)) (m + 1) (BT T n) ∧ Row μ (ad (r + 3)) (m + 1) (fun i => te T n (BT T n i))
theorem TkC.fr {ad : Nat → Nat} {μ μ' : Mem} {r : Nat} {T : Nat → Int32} {n m : Nat} (h : TkC ad μ r T n m) {I : Nat → Prop} (hf : Fr ad I μ μ') (h1 : ¬ I 1) (h2 : ¬ I 2) (h3 : ¬ I r) (h4 : ¬ I (r + 1)) (h5 : ¬ I (r + 2)) (h6 : ¬ I (r + 3)) : TkC ad μ' r T n m := by
  obtain ⟨a1, a2, a3, a4, a5, a6, a7, a8, a9, a10⟩ := h
  exact ⟨a1, a2, a3, a4, by rw [(hf 1 h1).1]; exact a5, by rw [(hf 2 h2).1]; exact a6, by rw [(hf r h3).1]; exact a7, a8.fr hf h4, a9.fr hf h5, a10.fr hf h6⟩
theorem TkC.kt {ad : Nat → Nat} {μ : Mem} {r : Nat} {T : Nat → Int32} {n m : Nat} (h : TkC ad μ r T n m) {i : Nat} (hi : i ≤ m) (hk : KT T n i ≠ 0) : i < m := by
  rcases Nat.lt_or_ge i m with h1 | h1
  · exact h1
  · have : i = m := by omega
    subst this
    exact absurd (KT_n h.2.2.1) hk
theorem c_tw {N : Nat} (hN : 1099511627776 ≤ N) {Λ : Lay} {ad : Nat → Nat} {r q kk : Nat} (hr : r = 48 ∨ r = 52) (hj : Inj ad) (hP : LyP Λ ad) (hD : LyD Λ ad r q kk) {T : Nat → Int32} {n m : Nat} {μ : Mem} (h : TkC ad μ r T n m) {i : Nat} (hi : i ≤ m) (v w : Nat) (hw : w < 23) : m_X7_takeWord N Λ (rd ad r μ i v) (ad r) w = some (n3 (bb (WT T n i w = true)), rd ad r μ (if WT T n i w = true then i + 1 else i) v) := by
  obtain ⟨a1, a2, a3, a4, a5, a6, a7, a8, a9, a10⟩ := h
  have k1 := a8 i (by omega)
  have k2 := a9 i (by omega)
  have k3 : μ.1 (ad (r + 3)) i = n3 (te T n (BT T n i)) := a10 i (by omega)
  have o1 := rd_o hj (show r + 1 ≠ r by omega) μ i v
  have o2 := rd_o hj (show r + 2 ≠ r by omega) μ i v
  have o3 := rd_o hj (show r + 3 ≠ r by omega) μ i v
  have o4 := rd_o hj (show 2 ≠ r by omega) μ i v
  have b1 := BT_le T n i
  have b2 := te_le T b1
  have hlw := lenWS_b w hw
  have hge : BT T n i ≤ te T n (BT T n i) := by
    by_cases e : BT T n i < n
    · have := te_lt T e; omega
    · have : BT T n i = n := by omega
      rw [this, te_n]; omega
  have hk3 := KT_le T n i
  have hsl : slen w = n3 (lenWS.getD w 0) := rfl
  by_cases hk : KT T n i = 1
  · by_cases hl : te T n (BT T n i) - BT T n i = lenWS.getD w 0
    · rw [WT_e hk hl]
      have es : m_X7_takeWord N Λ (rd ad r μ i v) (ad r) w = lp_X7_takeWord_48 N Λ (ad r) w (n3 (BT T n i)) (n3 (lenWS.getD w 0)) (n3 0, rd ad r μ i v) := by
        simp (disch := omega) only [m_X7_takeWord, ↓ob (hD.1), ↓ob (hD.2.1), ↓ob (hD.2.2.1), ↓ob (hD.2.2.2.1), ↓ob (hD.2.2.2.2.1), hD.2.2.2.2.2.1, hD.2.2.2.2.2.2.1, hD.2.2.2.2.2.2.2, rd_1, o1, o2, o3, k1, k2, k3, hk, hsl, hl, ↓lt_e, ↓gd_e, ↓Option.bind_some, ↓reduceIte, if_true, if_false, if_pT, if_nF, decide_true, Bool.not_true, Bool.not_false, not_true_eq_false, not_false_eq_true, Bool.false_eq_true, Bool.true_eq_false, eq_self, n3_lit, n3_add, n3_mul, n3_sub, n3_tn, n3_le_t, n3_le_f, n3_lt_t, n3_lt_f, n3_eq_f, n3_eq_t, n3_inb, n3_rem, n3_div, n3_zb, bb_0, bb_1, zb_bb, bb_T, bb_F, n3_dec, n3_m1, n3_eqm, n3_eqmt, n3_ltm, n3_mlt, n3_lem, n3_mle, n3_neg_lt, n3_nlt_neg, n3_nle_neg, n3_neg_le]
      rw [es]
      unfold lp_X7_takeWord_48
      refine cw_iv (P := fun j s => s = (n3 j, rd ad r μ i v) ∧ wdB T (BT T n i) w j = true) (Q := fun X => X = some (n3 (bb (wdB T (BT T n i) w (lenWS.getD w 0) = true)), rd ad r μ (if wdB T (BT T n i) w (lenWS.getD w 0) = true then i + 1 else i) v)) (lenWS.getD w 0) ⟨rfl, rfl⟩ (fun j hjl s hs => ?_) (fun s hs => ?_) (by omega)
      · obtain ⟨rfl, hb⟩ := hs
        have e6 := a6 (BT T n i + j) (by omega)
        by_cases e : T (BT T n i + j) = sch w j
        · left
          refine ⟨_, ⟨rfl, by unfold wdB; rw [hb, decide_eq_true e]; rfl⟩, fun k => ?_⟩
          simp (disch := omega) only [bd_X7_takeWord_48, ↓ob (hD.1), ↓ob (hD.2.1), ↓ob (hD.2.2.1), ↓ob (hD.2.2.2.1), ↓ob (hD.2.2.2.2.1), hD.2.2.2.2.2.1, hD.2.2.2.2.2.2.1, hD.2.2.2.2.2.2.2, ↓ob (hP.1), ↓ob (hP.2.1), ↓ob (hP.2.2.1), ↓ob (hP.2.2.2.1), ↓ob (hP.2.2.2.2.1), ↓ob (hP.2.2.2.2.2.1), ↓ob (hP.2.2.2.2.2.2.1), ↓ob (hP.2.2.2.2.2.2.2.1), ↓ob (hP.2.2.2.2.2.2.2.2.1), ↓ob (hP.2.2.2.2.2.2.2.2.2.1), ↓ob (hP.2.2.2.2.2.2.2.2.2.2.1), ↓ob (hP.2.2.2.2.2.2.2.2.2.2.2.1), ↓ob (hP.2.2.2.2.2.2.2.2.2.2.2.2.1), ↓ob (hP.2.2.2.2.2.2.2.2.2.2.2.2.2.1), hP.2.2.2.2.2.2.2.2.2.2.2.2.2.2, o4, e6, e, ↓lt_e, ↓gd_e, ↓Option.bind_some, ↓reduceIte, if_true, if_false, if_pT, if_nF, decide_true, Bool.not_true, Bool.not_false, not_true_eq_false, not_false_eq_true, Bool.false_eq_true, Bool.true_eq_false, eq_self, n3_lit, n3_add, n3_mul, n3_sub, n3_tn, n3_le_t, n3_le_f, n3_lt_t, n3_lt_f, n3_eq_f, n3_eq_t, n3_inb, n3_rem, n3_div, n3_zb, bb_0, bb_1, zb_bb, bb_T, bb_F, n3_dec, n3_m1, n3_eqm, n3_eqmt, n3_ltm, n3_mlt, n3_lem, n3_mle, n3_neg_lt, n3_nlt_neg, n3_nle_neg, n3_neg_le]
        · right
          have hx : wdB T (BT T n i) w (j + 1) = false := by unfold wdB; rw [decide_eq_false e]; cases wdB T (BT T n i) w j <;> rfl
          have hx := wdB_m hx (lenWS.getD w 0 - (j + 1))
          rw [show j + 1 + (lenWS.getD w 0 - (j + 1)) = lenWS.getD w 0 by omega] at hx
          refine ⟨_, rfl, fun k => ?_⟩
          rw [hx, bbB_f rfl, if_neg (by decide)]
          simp (disch := omega) only [bd_X7_takeWord_48, ↓ob (hD.1), ↓ob (hD.2.1), ↓ob (hD.2.2.1), ↓ob (hD.2.2.2.1), ↓ob (hD.2.2.2.2.1), hD.2.2.2.2.2.1, hD.2.2.2.2.2.2.1, hD.2.2.2.2.2.2.2, ↓ob (hP.1), ↓ob (hP.2.1), ↓ob (hP.2.2.1), ↓ob (hP.2.2.2.1), ↓ob (hP.2.2.2.2.1), ↓ob (hP.2.2.2.2.2.1), ↓ob (hP.2.2.2.2.2.2.1), ↓ob (hP.2.2.2.2.2.2.2.1), ↓ob (hP.2.2.2.2.2.2.2.2.1), ↓ob (hP.2.2.2.2.2.2.2.2.2.1), ↓ob (hP.2.2.2.2.2.2.2.2.2.2.1), ↓ob (hP.2.2.2.2.2.2.2.2.2.2.2.1), ↓ob (hP.2.2.2.2.2.2.2.2.2.2.2.2.1), ↓ob (hP.2.2.2.2.2.2.2.2.2.2.2.2.2.1), hP.2.2.2.2.2.2.2.2.2.2.2.2.2.2, o4, e6, e, ↓lt_e, ↓gd_e, ↓Option.bind_some, ↓reduceIte, if_true, if_false, if_pT, if_nF, decide_true, Bool.not_true, Bool.not_false, not_true_eq_false, not_false_eq_true, Bool.false_eq_true, Bool.true_eq_false, eq_self, n3_lit, n3_add, n3_mul, n3_sub, n3_tn, n3_le_t, n3_le_f, n3_lt_t, n3_lt_f, n3_eq_f, n3_eq_t, n3_inb, n3_rem, n3_div, n3_zb, bb_0, bb_1, zb_bb, bb_T, bb_F, n3_dec, n3_m1, n3_eqm, n3_eqmt, n3_ltm, n3_mlt, n3_lem, n3_mle, n3_neg_lt, n3_nlt_neg, n3_nle_neg, n3_neg_le]
      · obtain ⟨rfl, hb⟩ := hs
        refine ⟨_, rfl, fun k => ?_⟩
        rw [hb, bbB_t rfl, if_pos rfl]
        simp (disch := omega) only [bd_X7_takeWord_48, rd_1, rd_s1, ↓lt_e, ↓gd_e, ↓Option.bind_some, ↓reduceIte, if_true, if_false, if_pT, if_nF, decide_true, Bool.not_true, Bool.not_false, not_true_eq_false, not_false_eq_true, Bool.false_eq_true, Bool.true_eq_false, eq_self, n3_lit, n3_add, n3_mul, n3_sub, n3_tn, n3_le_t, n3_le_f, n3_lt_t, n3_lt_f, n3_eq_f, n3_eq_t, n3_inb, n3_rem, n3_div, n3_zb, bb_0, bb_1, zb_bb, bb_T, bb_F, n3_dec, n3_m1, n3_eqm, n3_eqmt, n3_ltm, n3_mlt, n3_lem, n3_mle, n3_neg_lt, n3_nlt_neg, n3_nle_neg, n3_neg_le]
    · rw [WT_l hl, bbB_f rfl, if_neg (by decide)]
      simp (disch := omega) only [m_X7_takeWord, jn_X7_takeWord_43, ↓ob (hD.1), ↓ob (hD.2.1), ↓ob (hD.2.2.1), ↓ob (hD.2.2.2.1), ↓ob (hD.2.2.2.2.1), hD.2.2.2.2.2.1, hD.2.2.2.2.2.2.1, hD.2.2.2.2.2.2.2, rd_1, o1, o2, o3, k1, k2, k3, hk, hsl, ↓lt_e, ↓gd_e, ↓Option.bind_some, ↓reduceIte, if_true, if_false, if_pT, if_nF, decide_true, Bool.not_true, Bool.not_false, not_true_eq_false, not_false_eq_true, Bool.false_eq_true, Bool.true_eq_false, eq_self, n3_lit, n3_add, n3_mul, n3_sub, n3_tn, n3_le_t, n3_le_f, n3_lt_t, n3_lt_f, n3_eq_f, n3_eq_t, n3_inb, n3_rem, n3_div, n3_zb, bb_0, bb_1, zb_bb, bb_T, bb_F, n3_dec, n3_m1, n3_eqm, n3_eqmt, n3_ltm, n3_mlt, n3_lem, n3_mle, n3_neg_lt, n3_nlt_neg, n3_nle_neg, n3_neg_le]
  · rw [WT_k hk, bbB_f rfl, if_neg (by decide)]
    simp (disch := omega) only [m_X7_takeWord, jn_X7_takeWord_43, ↓ob (hD.1), ↓ob (hD.2.1), ↓ob (hD.2.2.1), ↓ob (hD.2.2.2.1), ↓ob (hD.2.2.2.2.1), hD.2.2.2.2.2.1, hD.2.2.2.2.2.2.1, hD.2.2.2.2.2.2.2, rd_1, o1, o2, o3, k1, k2, k3, hsl, ↓lt_e, ↓gd_e, ↓Option.bind_some, ↓reduceIte, if_true, if_false, if_pT, if_nF, decide_true, Bool.not_true, Bool.not_false, not_true_eq_false, not_false_eq_true, Bool.false_eq_true, Bool.true_eq_false, eq_self, n3_lit, n3_add, n3_mul, n3_sub, n3_tn, n3_le_t, n3_le_f, n3_lt_t, n3_lt_f, n3_eq_f, n3_eq_t, n3_inb, n3_rem, n3_div, n3_zb, bb_0, bb_1, zb_bb, bb_T, bb_F, n3_dec, n3_m1, n3_eqm, n3_eqmt, n3_ltm, n3_mlt, n3_lem, n3_mle, n3_neg_lt, n3_nlt_neg, n3_nle_neg, n3_neg_le]
theorem c_tw_t {N : Nat} (hN : 1099511627776 ≤ N) {Λ : Lay} {ad : Nat → Nat} {r q kk : Nat} (hr : r = 48 ∨ r = 52) (hj : Inj ad) (hP : LyP Λ ad) (hD : LyD Λ ad r q kk) {T : Nat → Int32} {n m : Nat} {μ : Mem} (h : TkC ad μ r T n m) {i : Nat} (hi : i ≤ m) (v : Nat) {w : Nat} (hw : w < 23) (ht : WT T n i w = true) : m_X7_takeWord N Λ (rd ad r μ i v) (ad r) w = some (n3 1, rd ad r μ (i + 1) v) := by
  rw [c_tw hN hr hj hP hD h hi v w hw, ht, bbB_t rfl, if_pos rfl]
theorem c_tw_f {N : Nat} (hN : 1099511627776 ≤ N) {Λ : Lay} {ad : Nat → Nat} {r q kk : Nat} (hr : r = 48 ∨ r = 52) (hj : Inj ad) (hP : LyP Λ ad) (hD : LyD Λ ad r q kk) {T : Nat → Int32} {n m : Nat} {μ : Mem} (h : TkC ad μ r T n m) {i : Nat} (hi : i ≤ m) (v : Nat) {w : Nat} (hw : w < 23) (ht : WT T n i w = false) : m_X7_takeWord N Λ (rd ad r μ i v) (ad r) w = some (n3 0, rd ad r μ i v) := by
  rw [c_tw hN hr hj hP hD h hi v w hw, ht, bbB_f rfl, if_neg (by decide)]
theorem c_ts {N : Nat} (hN : 1099511627776 ≤ N) {Λ : Lay} {ad : Nat → Nat} {r q kk : Nat} (hr : r = 48 ∨ r = 52) (hj : Inj ad) (hP : LyP Λ ad) (hD : LyD Λ ad r q kk) {T : Nat → Int32} {n m : Nat} {μ : Mem} (h : TkC ad μ r T n m) {i : Nat} (hi : i ≤ m) (v : Nat) {c : Nat} (hc : c = 40 ∨ c = 41 ∨ c = 43 ∨ c = 59 ∨ c = 60 ∨ c = 62) : m_X7_takeSign N Λ (rd ad r μ i v) (ad r) (n3 c) = some (n3 (bb (ST T n i c = true)), rd ad r μ (if ST T n i c = true then i + 1 else i) v) := by
  obtain ⟨a1, a2, a3, a4, a5, a6, a7, a8, a9, a10⟩ := h
  have k1 := a8 i (by omega)
  have k2 := a9 i (by omega)
  have o1 := rd_o hj (show r + 1 ≠ r by omega) μ i v
  have o2 := rd_o hj (show r + 2 ≠ r by omega) μ i v
  have o4 := rd_o hj (show 2 ≠ r by omega) μ i v
  have b1 := BT_le T n i
  have hk3 := KT_le T n i
  by_cases hk : KT T n i = 3
  · have h1 := KT_0 (T := T) (n := n) (i := i) (by omega)
    have e6 := a6 (BT T n i) h1
    by_cases e : T (BT T n i) = n3 c
    · have hs : ST T n i c = true := decide_eq_true ⟨h1, e⟩
      rw [hs, bbB_t rfl, if_pos rfl]
      simp (disch := omega) only [m_X7_takeSign, ↓ob (hD.1), ↓ob (hD.2.1), ↓ob (hD.2.2.1), ↓ob (hD.2.2.2.1), ↓ob (hD.2.2.2.2.1), hD.2.2.2.2.2.1, hD.2.2.2.2.2.2.1, hD.2.2.2.2.2.2.2, ↓ob (hP.1), ↓ob (hP.2.1), ↓ob (hP.2.2.1), ↓ob (hP.2.2.2.1), ↓ob (hP.2.2.2.2.1), ↓ob (hP.2.2.2.2.2.1), ↓ob (hP.2.2.2.2.2.2.1), ↓ob (hP.2.2.2.2.2.2.2.1), ↓ob (hP.2.2.2.2.2.2.2.2.1), ↓ob (hP.2.2.2.2.2.2.2.2.2.1), ↓ob (hP.2.2.2.2.2.2.2.2.2.2.1), ↓ob (hP.2.2.2.2.2.2.2.2.2.2.2.1), ↓ob (hP.2.2.2.2.2.2.2.2.2.2.2.2.1), ↓ob (hP.2.2.2.2.2.2.2.2.2.2.2.2.2.1), hP.2.2.2.2.2.2.2.2.2.2.2.2.2.2, rd_1, o1, o2, o4, k1, k2, hk, e6, e, rd_s1, ↓lt_e, ↓gd_e, ↓Option.bind_some, ↓reduceIte, if_true, if_false, if_pT, if_nF, decide_true, Bool.not_true, Bool.not_false, not_true_eq_false, not_false_eq_true, Bool.false_eq_true, Bool.true_eq_false, eq_self, n3_lit, n3_add, n3_mul, n3_sub, n3_tn, n3_le_t, n3_le_f, n3_lt_t, n3_lt_f, n3_eq_f, n3_eq_t, n3_inb, n3_rem, n3_div, n3_zb, bb_0, bb_1, zb_bb, bb_T, bb_F, n3_dec, n3_m1, n3_eqm, n3_eqmt, n3_ltm, n3_mlt, n3_lem, n3_mle, n3_neg_lt, n3_nlt_neg, n3_nle_neg, n3_neg_le]
    · have hs : ST T n i c = false := decide_eq_false (fun h => e h.2)
      rw [hs, bbB_f rfl, if_neg (by decide)]
      simp (disch := omega) only [m_X7_takeSign, jn_X7_takeSign_36, ↓ob (hD.1), ↓ob (hD.2.1), ↓ob (hD.2.2.1), ↓ob (hD.2.2.2.1), ↓ob (hD.2.2.2.2.1), hD.2.2.2.2.2.1, hD.2.2.2.2.2.2.1, hD.2.2.2.2.2.2.2, ↓ob (hP.1), ↓ob (hP.2.1), ↓ob (hP.2.2.1), ↓ob (hP.2.2.2.1), ↓ob (hP.2.2.2.2.1), ↓ob (hP.2.2.2.2.2.1), ↓ob (hP.2.2.2.2.2.2.1), ↓ob (hP.2.2.2.2.2.2.2.1), ↓ob (hP.2.2.2.2.2.2.2.2.1), ↓ob (hP.2.2.2.2.2.2.2.2.2.1), ↓ob (hP.2.2.2.2.2.2.2.2.2.2.1), ↓ob (hP.2.2.2.2.2.2.2.2.2.2.2.1), ↓ob (hP.2.2.2.2.2.2.2.2.2.2.2.2.1), ↓ob (hP.2.2.2.2.2.2.2.2.2.2.2.2.2.1), hP.2.2.2.2.2.2.2.2.2.2.2.2.2.2, rd_1, o1, o2, o4, k1, k2, hk, e6, e, ↓lt_e, ↓gd_e, ↓Option.bind_some, ↓reduceIte, if_true, if_false, if_pT, if_nF, decide_true, Bool.not_true, Bool.not_false, not_true_eq_false, not_false_eq_true, Bool.false_eq_true, Bool.true_eq_false, eq_self, n3_lit, n3_add, n3_mul, n3_sub, n3_tn, n3_le_t, n3_le_f, n3_lt_t, n3_lt_f, n3_eq_f, n3_eq_t, n3_inb, n3_rem, n3_div, n3_zb, bb_0, bb_1, zb_bb, bb_T, bb_F, n3_dec, n3_m1, n3_eqm, n3_eqmt, n3_ltm, n3_mlt, n3_lem, n3_mle, n3_neg_lt, n3_nlt_neg, n3_nle_neg, n3_neg_le]
  · have hs : ST T n i c = false := decide_eq_false (fun h => hk (by rw [KT_t h.1]; exact kd_s hc h.2))
    rw [hs, bbB_f rfl, if_neg (by decide)]
    simp (disch := omega) only [m_X7_takeSign, jn_X7_takeSign_36, ↓ob (hD.1), ↓ob (hD.2.1), ↓ob (hD.2.2.1), ↓ob (hD.2.2.2.1), ↓ob (hD.2.2.2.2.1), hD.2.2.2.2.2.1, hD.2.2.2.2.2.2.1, hD.2.2.2.2.2.2.2, rd_1, o1, o2, k1, k2, ↓lt_e, ↓gd_e, ↓Option.bind_some, ↓reduceIte, if_true, if_false, if_pT, if_nF, decide_true, Bool.not_true, Bool.not_false, not_true_eq_false, not_false_eq_true, Bool.false_eq_true, Bool.true_eq_false, eq_self, n3_lit, n3_add, n3_mul, n3_sub, n3_tn, n3_le_t, n3_le_f, n3_lt_t, n3_lt_f, n3_eq_f, n3_eq_t, n3_inb, n3_rem, n3_div, n3_zb, bb_0, bb_1, zb_bb, bb_T, bb_F, n3_dec, n3_m1, n3_eqm, n3_eqmt, n3_ltm, n3_mlt, n3_lem, n3_mle, n3_neg_lt, n3_nlt_neg, n3_nle_neg, n3_neg_le]
theorem c_ts_t {N : Nat} (hN : 1099511627776 ≤ N) {Λ : Lay} {ad : Nat → Nat} {r q kk : Nat} (hr : r = 48 ∨ r = 52) (hj : Inj ad) (hP : LyP Λ ad) (hD : LyD Λ ad r q kk) {T : Nat → Int32} {n m : Nat} {μ : Mem} (h : TkC ad μ r T n m) {i : Nat} (hi : i ≤ m) (v : Nat) {c : Nat} (hc : c = 40 ∨ c = 41 ∨ c = 43 ∨ c = 59 ∨ c = 60 ∨ c = 62) (ht : ST T n i c = true) : m_X7_takeSign N Λ (rd ad r μ i v) (ad r) (n3 c) = some (n3 1, rd ad r μ (i + 1) v) := by
  rw [c_ts hN hr hj hP hD h hi v hc, ht, bbB_t rfl, if_pos rfl]
theorem c_ts_f {N : Nat} (hN : 1099511627776 ≤ N) {Λ : Lay} {ad : Nat → Nat} {r q kk : Nat} (hr : r = 48 ∨ r = 52) (hj : Inj ad) (hP : LyP Λ ad) (hD : LyD Λ ad r q kk) {T : Nat → Int32} {n m : Nat} {μ : Mem} (h : TkC ad μ r T n m) {i : Nat} (hi : i ≤ m) (v : Nat) {c : Nat} (hc : c = 40 ∨ c = 41 ∨ c = 43 ∨ c = 59 ∨ c = 60 ∨ c = 62) (ht : ST T n i c = false) : m_X7_takeSign N Λ (rd ad r μ i v) (ad r) (n3 c) = some (n3 0, rd ad r μ i v) := by
  rw [c_ts hN hr hj hP hD h hi v hc, ht, bbB_f rfl, if_neg (by decide)]
theorem c_an {N : Nat} (hN : 1099511627776 ≤ N) {Λ : Lay} {ad : Nat → Nat} {r q kk : Nat} (hr : r = 48 ∨ r = 52) (hj : Inj ad) (hP : LyP Λ ad) (hD : LyD Λ ad r q kk) {T : Nat → Int32} {n m : Nat} {μ : Mem} (h : TkC ad μ r T n m) {i : Nat} (hi : i ≤ m) (v : Nat) : m_X7_atNumber N Λ (rd ad r μ i v) (ad r) = some (n3 (bb (KT T n i = 2))) := by
  obtain ⟨a1, a2, a3, a4, a5, a6, a7, a8, a9, a10⟩ := h
  have k1 := a8 i (by omega)
  have o1 := rd_o hj (show r + 1 ≠ r by omega) μ i v
  have hk3 := KT_le T n i
  by_cases hk : KT T n i = 2
  · rw [bb_t hk]
    simp (disch := omega) only [m_X7_atNumber, jn_X7_atNumber_18, ↓ob (hD.1), ↓ob (hD.2.1), ↓ob (hD.2.2.1), ↓ob (hD.2.2.2.1), ↓ob (hD.2.2.2.2.1), hD.2.2.2.2.2.1, hD.2.2.2.2.2.2.1, hD.2.2.2.2.2.2.2, rd_1, o1, k1, hk, ↓lt_e, ↓gd_e, ↓Option.bind_some, ↓reduceIte, if_true, if_false, if_pT, if_nF, decide_true, Bool.not_true, Bool.not_false, not_true_eq_false, not_false_eq_true, Bool.false_eq_true, Bool.true_eq_false, eq_self, n3_lit, n3_add, n3_mul, n3_sub, n3_tn, n3_le_t, n3_le_f, n3_lt_t, n3_lt_f, n3_eq_f, n3_eq_t, n3_inb, n3_rem, n3_div, n3_zb, bb_0, bb_1, zb_bb, bb_T, bb_F, n3_dec, n3_m1, n3_eqm, n3_eqmt, n3_ltm, n3_mlt, n3_lem, n3_mle, n3_neg_lt, n3_nlt_neg, n3_nle_neg, n3_neg_le]
  · rw [bb_f hk]
    simp (disch := omega) only [m_X7_atNumber, jn_X7_atNumber_18, ↓ob (hD.1), ↓ob (hD.2.1), ↓ob (hD.2.2.1), ↓ob (hD.2.2.2.1), ↓ob (hD.2.2.2.2.1), hD.2.2.2.2.2.1, hD.2.2.2.2.2.2.1, hD.2.2.2.2.2.2.2, rd_1, o1, k1, ↓lt_e, ↓gd_e, ↓Option.bind_some, ↓reduceIte, if_true, if_false, if_pT, if_nF, decide_true, Bool.not_true, Bool.not_false, not_true_eq_false, not_false_eq_true, Bool.false_eq_true, Bool.true_eq_false, eq_self, n3_lit, n3_add, n3_mul, n3_sub, n3_tn, n3_le_t, n3_le_f, n3_lt_t, n3_lt_f, n3_eq_f, n3_eq_t, n3_inb, n3_rem, n3_div, n3_zb, bb_0, bb_1, zb_bb, bb_T, bb_F, n3_dec, n3_m1, n3_eqm, n3_eqmt, n3_ltm, n3_mlt, n3_lem, n3_mle, n3_neg_lt, n3_nlt_neg, n3_nle_neg, n3_neg_le]
theorem c_tn_k {N : Nat} (hN : 1099511627776 ≤ N) {Λ : Lay} {ad : Nat → Nat} {r q kk : Nat} (hr : r = 48 ∨ r = 52) (hj : Inj ad) (hP : LyP Λ ad) (hD : LyD Λ ad r q kk) {T : Nat → Int32} {n m : Nat} {μ : Mem} (h : TkC ad μ r T n m) {i : Nat} (hi : i ≤ m) (v : Nat) (lo hg : Int32) (hx : ¬ (KT T n i = 2 ∧ te T n (BT T n i) - BT T n i ≤ 3)) : m_X7_takeNumber N Λ (rd ad r μ i v) (ad r) lo hg = some (n3 0, rd ad r μ i v) := by
  obtain ⟨a1, a2, a3, a4, a5, a6, a7, a8, a9, a10⟩ := h
  have k1 := a8 i (by omega)
  have k2 := a9 i (by omega)
  have k3 : μ.1 (ad (r + 3)) i = n3 (te T n (BT T n i)) := a10 i (by omega)
  have o1 := rd_o hj (show r + 1 ≠ r by omega) μ i v
  have o2 := rd_o hj (show r + 2 ≠ r by omega) μ i v
  have o3 := rd_o hj (show r + 3 ≠ r by omega) μ i v
  have b1 := BT_le T n i
  have b2 := te_le T b1
  have hge : BT T n i ≤ te T n (BT T n i) := by
    by_cases e : BT T n i < n
    · have := te_lt T e; omega
    · have : BT T n i = n := by omega
      rw [this, te_n]; omega
  have hk3 := KT_le T n i
  by_cases hk : KT T n i = 2
  · have hl : ¬ te T n (BT T n i) - BT T n i ≤ 3 := fun h => hx ⟨hk, h⟩
    simp (disch := omega) only [m_X7_takeNumber, jn_X7_takeNumber_42, ↓ob (hD.1), ↓ob (hD.2.1), ↓ob (hD.2.2.1), ↓ob (hD.2.2.2.1), ↓ob (hD.2.2.2.2.1), hD.2.2.2.2.2.1, hD.2.2.2.2.2.2.1, hD.2.2.2.2.2.2.2, rd_1, o1, o2, o3, k1, k2, k3, hk, ↓lt_e, ↓gd_e, ↓Option.bind_some, ↓reduceIte, if_true, if_false, if_pT, if_nF, decide_true, Bool.not_true, Bool.not_false, not_true_eq_false, not_false_eq_true, Bool.false_eq_true, Bool.true_eq_false, eq_self, n3_lit, n3_add, n3_mul, n3_sub, n3_tn, n3_le_t, n3_le_f, n3_lt_t, n3_lt_f, n3_eq_f, n3_eq_t, n3_inb, n3_rem, n3_div, n3_zb, bb_0, bb_1, zb_bb, bb_T, bb_F, n3_dec, n3_m1, n3_eqm, n3_eqmt, n3_ltm, n3_mlt, n3_lem, n3_mle, n3_neg_lt, n3_nlt_neg, n3_nle_neg, n3_neg_le]
  · simp (disch := omega) only [m_X7_takeNumber, jn_X7_takeNumber_42, ↓ob (hD.1), ↓ob (hD.2.1), ↓ob (hD.2.2.1), ↓ob (hD.2.2.2.1), ↓ob (hD.2.2.2.2.1), hD.2.2.2.2.2.1, hD.2.2.2.2.2.2.1, hD.2.2.2.2.2.2.2, rd_1, o1, o2, o3, k1, k2, k3, ↓lt_e, ↓gd_e, ↓Option.bind_some, ↓reduceIte, if_true, if_false, if_pT, if_nF, decide_true, Bool.not_true, Bool.not_false, not_true_eq_false, not_false_eq_true, Bool.false_eq_true, Bool.true_eq_false, eq_self, n3_lit, n3_add, n3_mul, n3_sub, n3_tn, n3_le_t, n3_le_f, n3_lt_t, n3_lt_f, n3_eq_f, n3_eq_t, n3_inb, n3_rem, n3_div, n3_zb, bb_0, bb_1, zb_bb, bb_T, bb_F, n3_dec, n3_m1, n3_eqm, n3_eqmt, n3_ltm, n3_mlt, n3_lem, n3_mle, n3_neg_lt, n3_nlt_neg, n3_nle_neg, n3_neg_le]
theorem c_tn {N : Nat} (hN : 1099511627776 ≤ N) {Λ : Lay} {ad : Nat → Nat} {r q kk : Nat} (hr : r = 48 ∨ r = 52) (hj : Inj ad) (hP : LyP Λ ad) (hD : LyD Λ ad r q kk) {T : Nat → Int32} {n m : Nat} {μ : Mem} (h : TkC ad μ r T n m) {i : Nat} (hi : i ≤ m) (v : Nat) {lo hg : Nat} (hlo : lo ≤ 9999) (hhi : hg ≤ 9999) (hk : KT T n i = 2) (hl : te T n (BT T n i) - BT T n i ≤ 3) : m_X7_takeNumber N Λ (rd ad r μ i v) (ad r) (n3 lo) (n3 hg) = some (if lo ≤ NTv T n i ∧ NTv T n i ≤ hg then (n3 1, rd ad r μ (i + 1) (NTv T n i)) else (n3 0, rd ad r μ i v)) := by
  obtain ⟨a1, a2, a3, a4, a5, a6, a7, a8, a9, a10⟩ := h
  have k1 := a8 i (by omega)
  have k2 := a9 i (by omega)
  have k3 : μ.1 (ad (r + 3)) i = n3 (te T n (BT T n i)) := a10 i (by omega)
  have o1 := rd_o hj (show r + 1 ≠ r by omega) μ i v
  have o2 := rd_o hj (show r + 2 ≠ r by omega) μ i v
  have o3 := rd_o hj (show r + 3 ≠ r by omega) μ i v
  have o4 := rd_o hj (show 2 ≠ r by omega) μ i v
  have b1 := BT_le T n i
  have b2 := te_le T b1
  have hlt := KT_0 (T := T) (n := n) (i := i) (by omega)
  have hge := te_lt T hlt
  have hdig : ∀ j, j < te T n (BT T n i) - BT T n i → kd (T (BT T n i + j)) = 2 := fun j hj' => by
    have e := te_k hk (Or.inr rfl)
    exact (re_m T (show BT T n i ≤ BT T n i + j by omega) (by rw [← e]; omega)).2
  have es : m_X7_takeNumber N Λ (rd ad r μ i v) (ad r) (n3 lo) (n3 hg) = lp_X7_takeNumber_50 N Λ (ad r) (n3 lo) (n3 hg) (n3 (BT T n i)) (n3 (te T n (BT T n i) - BT T n i)) (n3 0, n3 0, rd ad r μ i v) := by
    simp (disch := omega) only [m_X7_takeNumber, ↓ob (hD.1), ↓ob (hD.2.1), ↓ob (hD.2.2.1), ↓ob (hD.2.2.2.1), ↓ob (hD.2.2.2.2.1), hD.2.2.2.2.2.1, hD.2.2.2.2.2.2.1, hD.2.2.2.2.2.2.2, rd_1, o1, o2, o3, k1, k2, k3, hk, ↓lt_e, ↓gd_e, ↓Option.bind_some, ↓reduceIte, if_true, if_false, if_pT, if_nF, decide_true, Bool.not_true, Bool.not_false, not_true_eq_false, not_false_eq_true, Bool.false_eq_true, Bool.true_eq_false, eq_self, n3_lit, n3_add, n3_mul, n3_sub, n3_tn, n3_le_t, n3_le_f, n3_lt_t, n3_lt_f, n3_eq_f, n3_eq_t, n3_inb, n3_rem, n3_div, n3_zb, bb_0, bb_1, zb_bb, bb_T, bb_F, n3_dec, n3_m1, n3_eqm, n3_eqmt, n3_ltm, n3_mlt, n3_lem, n3_mle, n3_neg_lt, n3_nlt_neg, n3_nle_neg, n3_neg_le]
  have dle : ∀ d, d ≤ te T n (BT T n i) - BT T n i → dg T (BT T n i) d < 1000 := fun d hd => by
    have h1 := dg_le (T := T) (p := BT T n i) d (fun j hj' => hdig j (by omega))
    have h2 : 10 ^ d ≤ 10 ^ 3 := Nat.pow_le_pow_right (by omega) (by omega)
    omega
  rw [es]
  unfold lp_X7_takeNumber_50
  refine cw_it (fun d => (n3 (dg T (BT T n i) d), n3 d, rd ad r μ i v)) (te T n (BT T n i) - BT T n i) rfl (fun d hd k => ?_) (fun k => ?_) (by omega)
  · have e6 := a6 (BT T n i + d) (by omega)
    rw [← n3_u3 (T (BT T n i + d))] at e6
    have d1 := dig_b (hdig d hd)
    have d2 := dle d (by omega)
    have ed : dg T (BT T n i) (d + 1) = 10 * dg T (BT T n i) d + u3 (T (BT T n i + d)) - 48 := by
      show 10 * dg T (BT T n i) d + (u3 (T (BT T n i + d)) - 48) = _
      omega
    rw [ed]
    simp (disch := omega) only [bd_X7_takeNumber_50, ↓ob (hD.1), ↓ob (hD.2.1), ↓ob (hD.2.2.1), ↓ob (hD.2.2.2.1), ↓ob (hD.2.2.2.2.1), hD.2.2.2.2.2.1, hD.2.2.2.2.2.2.1, hD.2.2.2.2.2.2.2, ↓ob (hP.1), ↓ob (hP.2.1), ↓ob (hP.2.2.1), ↓ob (hP.2.2.2.1), ↓ob (hP.2.2.2.2.1), ↓ob (hP.2.2.2.2.2.1), ↓ob (hP.2.2.2.2.2.2.1), ↓ob (hP.2.2.2.2.2.2.2.1), ↓ob (hP.2.2.2.2.2.2.2.2.1), ↓ob (hP.2.2.2.2.2.2.2.2.2.1), ↓ob (hP.2.2.2.2.2.2.2.2.2.2.1), ↓ob (hP.2.2.2.2.2.2.2.2.2.2.2.1), ↓ob (hP.2.2.2.2.2.2.2.2.2.2.2.2.1), ↓ob (hP.2.2.2.2.2.2.2.2.2.2.2.2.2.1), hP.2.2.2.2.2.2.2.2.2.2.2.2.2.2, o4, e6, ↓lt_e, ↓gd_e, ↓Option.bind_some, ↓reduceIte, if_true, if_false, if_pT, if_nF, decide_true, Bool.not_true, Bool.not_false, not_true_eq_false, not_false_eq_true, Bool.false_eq_true, Bool.true_eq_false, eq_self, n3_lit, n3_add, n3_mul, n3_sub, n3_tn, n3_le_t, n3_le_f, n3_lt_t, n3_lt_f, n3_eq_f, n3_eq_t, n3_inb, n3_rem, n3_div, n3_zb, bb_0, bb_1, zb_bb, bb_T, bb_F, n3_dec, n3_m1, n3_eqm, n3_eqmt, n3_ltm, n3_mlt, n3_lem, n3_mle, n3_neg_lt, n3_nlt_neg, n3_nle_neg, n3_neg_le]
  · have d2 := dle _ (Nat.le_refl _)
    show bd_X7_takeNumber_50 N Λ (rd ad r μ i v) k (ad r) (n3 lo) (n3 hg) (n3 (BT T n i)) (n3 (te T n (BT T n i) - BT T n i)) (n3 (NTv T n i)) (n3 (te T n (BT T n i) - BT T n i)) = _
    have d3 : NTv T n i < 1000 := d2
    by_cases c1 : NTv T n i < lo
    · rw [if_neg (by omega)]
      simp (disch := omega) only [bd_X7_takeNumber_50, jn_X7_takeNumber_98, ↓lt_e, ↓gd_e, ↓Option.bind_some, ↓reduceIte, if_true, if_false, if_pT, if_nF, decide_true, Bool.not_true, Bool.not_false, not_true_eq_false, not_false_eq_true, Bool.false_eq_true, Bool.true_eq_false, eq_self, n3_lit, n3_add, n3_mul, n3_sub, n3_tn, n3_le_t, n3_le_f, n3_lt_t, n3_lt_f, n3_eq_f, n3_eq_t, n3_inb, n3_rem, n3_div, n3_zb, bb_0, bb_1, zb_bb, bb_T, bb_F, n3_dec, n3_m1, n3_eqm, n3_eqmt, n3_ltm, n3_mlt, n3_lem, n3_mle, n3_neg_lt, n3_nlt_neg, n3_nle_neg, n3_neg_le]
    · by_cases c2 : NTv T n i ≤ hg
      · rw [if_pos (by omega)]
        simp (disch := omega) only [bd_X7_takeNumber_50, jn_X7_takeNumber_98, rd_s2, rd_1, rd_s1, ↓lt_e, ↓gd_e, ↓Option.bind_some, ↓reduceIte, if_true, if_false, if_pT, if_nF, decide_true, Bool.not_true, Bool.not_false, not_true_eq_false, not_false_eq_true, Bool.false_eq_true, Bool.true_eq_false, eq_self, n3_lit, n3_add, n3_mul, n3_sub, n3_tn, n3_le_t, n3_le_f, n3_lt_t, n3_lt_f, n3_eq_f, n3_eq_t, n3_inb, n3_rem, n3_div, n3_zb, bb_0, bb_1, zb_bb, bb_T, bb_F, n3_dec, n3_m1, n3_eqm, n3_eqmt, n3_ltm, n3_mlt, n3_lem, n3_mle, n3_neg_lt, n3_nlt_neg, n3_nle_neg, n3_neg_le]
      · rw [if_neg (by omega)]
        simp (disch := omega) only [bd_X7_takeNumber_50, jn_X7_takeNumber_98, ↓lt_e, ↓gd_e, ↓Option.bind_some, ↓reduceIte, if_true, if_false, if_pT, if_nF, decide_true, Bool.not_true, Bool.not_false, not_true_eq_false, not_false_eq_true, Bool.false_eq_true, Bool.true_eq_false, eq_self, n3_lit, n3_add, n3_mul, n3_sub, n3_tn, n3_le_t, n3_le_f, n3_lt_t, n3_lt_f, n3_eq_f, n3_eq_t, n3_inb, n3_rem, n3_div, n3_zb, bb_0, bb_1, zb_bb, bb_T, bb_F, n3_dec, n3_m1, n3_eqm, n3_eqmt, n3_ltm, n3_mlt, n3_lem, n3_mle, n3_neg_lt, n3_nlt_neg, n3_nle_neg, n3_neg_le]
theorem c_tn_t {N : Nat} (hN : 1099511627776 ≤ N) {Λ : Lay} {ad : Nat → Nat} {r q kk : Nat} (hr : r = 48 ∨ r = 52) (hj : Inj ad) (hP : LyP Λ ad) (hD : LyD Λ ad r q kk) {T : Nat → Int32} {n m : Nat} {μ : Mem} (h : TkC ad μ r T n m) {i : Nat} (hi : i ≤ m) (v : Nat) {lo hg : Nat} (hlo : lo ≤ 9999) (hhi : hg ≤ 9999) (ht : NVp T n i lo hg) : m_X7_takeNumber N Λ (rd ad r μ i v) (ad r) (n3 lo) (n3 hg) = some (n3 1, rd ad r μ (i + 1) (NTv T n i)) := by
  rw [c_tn hN hr hj hP hD h hi v hlo hhi ht.1 ht.2.1]
  exact congrArg some (if_pos ht.2.2)
theorem c_tn_f {N : Nat} (hN : 1099511627776 ≤ N) {Λ : Lay} {ad : Nat → Nat} {r q kk : Nat} (hr : r = 48 ∨ r = 52) (hj : Inj ad) (hP : LyP Λ ad) (hD : LyD Λ ad r q kk) {T : Nat → Int32} {n m : Nat} {μ : Mem} (h : TkC ad μ r T n m) {i : Nat} (hi : i ≤ m) (v : Nat) {lo hg : Nat} (hlo : lo ≤ 9999) (hhi : hg ≤ 9999) (ht : ¬ NVp T n i lo hg) : m_X7_takeNumber N Λ (rd ad r μ i v) (ad r) (n3 lo) (n3 hg) = some (n3 0, rd ad r μ i v) := by
  by_cases hx : KT T n i = 2 ∧ te T n (BT T n i) - BT T n i ≤ 3
  · rw [c_tn hN hr hj hP hD h hi v hlo hhi hx.1 hx.2]
    exact congrArg some (if_neg (fun hc => ht ⟨hx.1, hx.2, hc⟩))
  · exact c_tn_k hN hr hj hP hD h hi v _ _ hx

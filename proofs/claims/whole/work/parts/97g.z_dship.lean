/-! a ship told -/
theorem add_dock (F : Nat → Nat) (l d w q p : Nat) : up (up (addF F l d w 0 q) (25 + 6 * F 0 + 3) 1) (25 + 6 * F 0 + 4) p = addF F l d w 1 p := by
  funext k
  by_cases h4 : k = 25 + 6 * F 0 + 4
  · rw [h4, up_e, add_e]
  · by_cases h3 : k = 25 + 6 * F 0 + 3
    · rw [h3, up_n (by omega), up_e, add_d]
    · rw [up_n h4, up_n h3]
      unfold addF up
      simp only [h3, h4, if_false]
theorem tkn_congr {F G : Nat → Nat} : ∀ n, (∀ s, s < n → pl G s = pl F s) → tkn G n = tkn F n
  | 0, _ => rfl
  | n + 1, h => by
    show tkn G n ||| pl G n = tkn F n ||| pl F n
    rw [tkn_congr n (fun s hs => h s (by omega)), h n (by omega)]
theorem tkn_add0 (F : Nat → Nat) (l d w q : Nat) : tkn (addF F l d w 0 q) (F 0 + 1) = tkn F (F 0) := by
  show tkn (addF F l d w 0 q) (F 0) ||| pl (addF F l d w 0 q) (F 0) = _
  have h0 : pl (addF F l d w 0 q) (F 0) = 0 := by unfold pl; rw [add_d]; rfl
  rw [h0, Nat.or_zero]
  exact tkn_congr (F 0) (fun s hs => pl_congr (add_old (by omega) (by omega)) (add_old (by omega) (by omega)) (add_old (by omega) (by omega)))
theorem r_tl_n {N : Nat} (hN : 1099511627776 ≤ N) {Λ : Lay} {ad : Nat → Nat} (hj : Inj ad) (hR : LyR Λ ad) {T : Nat → Int32} {n : Nat} {μ : Mem} (h : TkR ad μ T n) {p i : Nat} (hp : p ≤ n) (hb : nb T n p = BT T n i) (b : Nat) {w : Nat} (hw : w < 23) (ht : WT T n i w = false) (hg v : Int32) : m_X12_told N Λ (pt ad μ p b) (ad 181) w hg v = some (v, pt ad μ (BT T n i) (BT T n i)) := by
  have c1 := r_ps_f hN hj hR h hp hb b hw ht
  simp (disch := omega) only [m_X12_told, c1, ↓lt_e, ↓gd_e, ↓Option.bind_some, ↓reduceIte, if_true, if_false, if_pT, if_nF, decide_true, Bool.not_true, Bool.not_false, not_true_eq_false, not_false_eq_true, Bool.false_eq_true, Bool.true_eq_false, eq_self, n3_lit, n3_add, n3_mul, n3_sub, n3_tn, n3_le_t, n3_le_f, n3_lt_t, n3_lt_f, n3_eq_f, n3_eq_t, n3_inb, n3_rem, n3_div, n3_zb, bb_0, bb_1, zb_bb, bb_T, bb_F, n3_dec, n3_m1, n3_eqm, n3_eqmt, n3_ltm, n3_mlt, n3_lem, n3_mle, n3_neg_lt, n3_nlt_neg, n3_nle_neg, n3_neg_le]
theorem r_tl_t {N : Nat} (hN : 1099511627776 ≤ N) {Λ : Lay} {ad : Nat → Nat} (hj : Inj ad) (hR : LyR Λ ad) {T : Nat → Int32} {n : Nat} {μ : Mem} (h : TkR ad μ T n) {p i : Nat} (hp : p ≤ n) (hb : nb T n p = BT T n i) (b : Nat) {w : Nat} (hw : w < 23) (ht : WT T n i w = true) {hg : Nat} (hhi : hg ≤ 9999) (hv : NVp T n (i + 1) 0 hg) (v : Int32) : m_X12_told N Λ (pt ad μ p b) (ad 181) w (n3 hg) v = some (n3 (NTv T n (i + 1)), pt ad μ (te T n (BT T n (i + 1))) (BT T n (i + 1))) := by
  have c1 := r_ps_t hN hj hR h hp hb b hw ht
  have c2 := r_nm_t hN hj hR h (te_le T (BT_le T n i)) (BT_nx (T := T) (n := n) (i := i)) (BT T n i) (show 0 ≤ 9999 by omega) hhi hv
  have hx : NTv T n (i + 1) ≤ hg := hv.2.2.2
  simp (disch := omega) only [m_X12_told, jn_X12_told_30, c1, c2, ↓lt_e, ↓gd_e, ↓Option.bind_some, ↓reduceIte, if_true, if_false, if_pT, if_nF, decide_true, Bool.not_true, Bool.not_false, not_true_eq_false, not_false_eq_true, Bool.false_eq_true, Bool.true_eq_false, eq_self, n3_lit, n3_add, n3_mul, n3_sub, n3_tn, n3_le_t, n3_le_f, n3_lt_t, n3_lt_f, n3_eq_f, n3_eq_t, n3_inb, n3_rem, n3_div, n3_zb, bb_0, bb_1, zb_bb, bb_T, bb_F, n3_dec, n3_m1, n3_eqm, n3_eqmt, n3_ltm, n3_mlt, n3_lem, n3_mle, n3_neg_lt, n3_nlt_neg, n3_nle_neg, n3_neg_le]
theorem r_tl_f {N : Nat} (hN : 1099511627776 ≤ N) {Λ : Lay} {ad : Nat → Nat} (hj : Inj ad) (hR : LyR Λ ad) {T : Nat → Int32} {n : Nat} {μ : Mem} (h : TkR ad μ T n) {p i : Nat} (hp : p ≤ n) (hb : nb T n p = BT T n i) (b : Nat) {w : Nat} (hw : w < 23) (ht : WT T n i w = true) {hg : Nat} (hhi : hg ≤ 9999) (hv : ¬ NVp T n (i + 1) 0 hg) (v : Int32) : m_X12_told N Λ (pt ad μ p b) (ad 181) w (n3 hg) v = some (n3 100000000, pt ad μ (re T n 2 (BT T n (i + 1))) (BT T n (i + 1))) := by
  have c1 := r_ps_t hN hj hR h hp hb b hw ht
  have c2 := r_nm_f hN hj hR h (te_le T (BT_le T n i)) (BT_nx (T := T) (n := n) (i := i)) (BT T n i) (show 0 ≤ 9999 by omega) hhi hv
  simp (disch := omega) only [m_X12_told, jn_X12_told_30, c1, c2, ↓lt_e, ↓gd_e, ↓Option.bind_some, ↓reduceIte, if_true, if_false, if_pT, if_nF, decide_true, Bool.not_true, Bool.not_false, not_true_eq_false, not_false_eq_true, Bool.false_eq_true, Bool.true_eq_false, eq_self, n3_lit, n3_add, n3_mul, n3_sub, n3_tn, n3_le_t, n3_le_f, n3_lt_t, n3_lt_f, n3_eq_f, n3_eq_t, n3_inb, n3_rem, n3_div, n3_zb, bb_0, bb_1, zb_bb, bb_T, bb_F, n3_dec, n3_m1, n3_eqm, n3_eqmt, n3_ltm, n3_mlt, n3_lem, n3_mle, n3_neg_lt, n3_nlt_neg, n3_nle_neg, n3_neg_le]
theorem r_bh_t {N : Nat} (hN : 1099511627776 ≤ N) {Λ : Lay} {ad : Nat → Nat} (hj : Inj ad) (hR : LyR Λ ad) {T : Nat → Int32} {n : Nat} {μ : Mem} (h : TkR ad μ T n) {p i : Nat} (hp : p ≤ n) (hb : nb T n p = BT T n i) (b : Nat) {w : Nat} (hw : w < 23) (ht : WT T n i w = true) {lo hg : Nat} (hlo : lo ≤ 9999) (hhi : hg ≤ 9999) (hv : NVp T n (i + 1) lo hg) : m_X12_behind N Λ (pt ad μ p b) (ad 181) w (n3 lo) (n3 hg) = some (n3 (NTv T n (i + 1)), pt ad μ (te T n (BT T n (i + 1))) (BT T n (i + 1))) := by
  have iw := r_isWord hN hj hR h i w hw
  rw [ht, bbB_t rfl] at iw
  have c2 := r_nm_t hN hj hR h (LE_le T n i) (show nb T n (LE T n i) = BT T n (i + 1) by rw [LE_1 (WT_K ht)]; rfl) (BT T n i) hlo hhi hv
  unfold m_X12_behind
  rw [r_let hN hj hR h hp hb b]
  simp (disch := omega) only [jn_X12_behind_22, iw, c2, ↓lt_e, ↓gd_e, ↓Option.bind_some, ↓reduceIte, if_true, if_false, if_pT, if_nF, decide_true, Bool.not_true, Bool.not_false, not_true_eq_false, not_false_eq_true, Bool.false_eq_true, Bool.true_eq_false, eq_self, n3_lit, n3_add, n3_mul, n3_sub, n3_tn, n3_le_t, n3_le_f, n3_lt_t, n3_lt_f, n3_eq_f, n3_eq_t, n3_inb, n3_rem, n3_div, n3_zb, bb_0, bb_1, zb_bb, bb_T, bb_F, n3_dec, n3_m1, n3_eqm, n3_eqmt, n3_ltm, n3_mlt, n3_lem, n3_mle, n3_neg_lt, n3_nlt_neg, n3_nle_neg, n3_neg_le]
theorem r_bh_f {N : Nat} (hN : 1099511627776 ≤ N) {Λ : Lay} {ad : Nat → Nat} (hj : Inj ad) (hR : LyR Λ ad) {T : Nat → Int32} {n : Nat} {μ : Mem} (h : TkR ad μ T n) {p i : Nat} (hp : p ≤ n) (hb : nb T n p = BT T n i) (b : Nat) {w : Nat} (hw : w < 23) (ht : WT T n i w = true) {lo hg : Nat} (hlo : lo ≤ 9999) (hhi : hg ≤ 9999) (hv : ¬ NVp T n (i + 1) lo hg) : m_X12_behind N Λ (pt ad μ p b) (ad 181) w (n3 lo) (n3 hg) = some (n3 4294967295, pt ad μ (re T n 2 (BT T n (i + 1))) (BT T n (i + 1))) := by
  have iw := r_isWord hN hj hR h i w hw
  rw [ht, bbB_t rfl] at iw
  have c2 := r_nm_f hN hj hR h (LE_le T n i) (show nb T n (LE T n i) = BT T n (i + 1) by rw [LE_1 (WT_K ht)]; rfl) (BT T n i) hlo hhi hv
  unfold m_X12_behind
  rw [r_let hN hj hR h hp hb b]
  simp (disch := omega) only [jn_X12_behind_22, iw, c2, ↓lt_e, ↓gd_e, ↓Option.bind_some, ↓reduceIte, if_true, if_false, if_pT, if_nF, decide_true, Bool.not_true, Bool.not_false, not_true_eq_false, not_false_eq_true, Bool.false_eq_true, Bool.true_eq_false, eq_self, n3_lit, n3_add, n3_mul, n3_sub, n3_tn, n3_le_t, n3_le_f, n3_lt_t, n3_lt_f, n3_eq_f, n3_eq_t, n3_inb, n3_rem, n3_div, n3_zb, bb_0, bb_1, zb_bb, bb_T, bb_F, n3_dec, n3_m1, n3_eqm, n3_eqmt, n3_ltm, n3_mlt, n3_lem, n3_mle, n3_neg_lt, n3_nlt_neg, n3_nle_neg, n3_neg_le]
theorem r_bh_n {N : Nat} (hN : 1099511627776 ≤ N) {Λ : Lay} {ad : Nat → Nat} (hj : Inj ad) (hR : LyR Λ ad) {T : Nat → Int32} {n : Nat} {μ : Mem} (h : TkR ad μ T n) {p i : Nat} (hp : p ≤ n) (hb : nb T n p = BT T n i) (b : Nat) {w : Nat} (hw : w < 23) (ht : WT T n i w = false) (lo hg : Int32) : m_X12_behind N Λ (pt ad μ p b) (ad 181) w lo hg = some (n3 4294967295, pt ad μ (LE T n i) (BT T n i)) := by
  have iw := r_isWord hN hj hR h i w hw
  rw [ht, bbB_f rfl] at iw
  unfold m_X12_behind
  rw [r_let hN hj hR h hp hb b]
  simp (disch := omega) only [jn_X12_behind_22, iw, n3_neg1, ↓lt_e, ↓gd_e, ↓Option.bind_some, ↓reduceIte, if_true, if_false, if_pT, if_nF, decide_true, Bool.not_true, Bool.not_false, not_true_eq_false, not_false_eq_true, Bool.false_eq_true, Bool.true_eq_false, eq_self, n3_lit, n3_add, n3_mul, n3_sub, n3_tn, n3_le_t, n3_le_f, n3_lt_t, n3_lt_f, n3_eq_f, n3_eq_t, n3_inb, n3_rem, n3_div, n3_zb, bb_0, bb_1, zb_bb, bb_T, bb_F, n3_dec, n3_m1, n3_eqm, n3_eqmt, n3_ltm, n3_mlt, n3_lem, n3_mle, n3_neg_lt, n3_nlt_neg, n3_nle_neg, n3_neg_le]
/-- what the reference does behind the work -/
def shT (N : Nat) (Λ : Lay) (μ : Mem) (v0 : Nat) (v1 v2 s0 w : Int32) : Option (Int32 × Mem) := (m_X12_isShip N Λ μ v0 v2 s0 w).bind fun r5 =>
      (m_X12_passes N Λ r5 v0 1).bind fun r7 =>
      if r7.1 = 0 then
        (some (1, r7.2))
      else
        ((m_X12_number N Λ r7.2 v0 0 23).bind fun r10 =>
        if r10.1 < 0 then
          (jn_X12_readShip_113 N Λ r10.2)
        else
          ((m_X12_taken N Λ r10.2 v0).bind fun r13 =>
          (m_X12_fitsIn N Λ r10.2 r13 r10.1 v2).bind fun r15 =>
          if r15 = 0 then
            (jn_X12_readShip_113 N Λ r10.2)
          else
            ((dr Λ v0 1 13).bind fun q18 =>
            (m_X12_shipAt N Λ r10.2 v1 3).bind fun r20 =>
            gd (inb r20 (aZ Λ q18)) <|
            lt (mset r10.2 q18 r20.toNatClampNeg 1) fun μ23 =>
            (dr Λ v0 1 13).bind fun q25 =>
            (m_X12_shipAt N Λ μ23 v1 4).bind fun r27 =>
            gd (inb r27 (aZ Λ q25)) <|
            lt (mset μ23 q25 r27.toNatClampNeg r10.1) fun μ30 =>
            some (1, μ30))))
theorem r_rs40 (N : Nat) (Λ : Lay) (μ : Mem) (v0 : Nat) (v1 v2 s0 : Int32) : jn_X12_readShip_40 N Λ μ v0 v1 v2 s0 = if 0 ≤ s0 then ((m_X12_told N Λ μ v0 22 99 0).bind fun r2 => if r2.1 = 100000000 then (some (0, r2.2)) else shT N Λ r2.2 v0 v1 v2 s0 r2.1) else some (0, μ) := rfl
theorem l_at {N : Nat} (hN : 1099511627776 ≤ N) {Λ : Lay} {ad : Nat → Nat} (hj : Inj ad) (hP : LyP Λ ad) (hD : LyD Λ ad 48 12 8) (hR : LyR Λ ad) {T : Nat → Int32} {n m : Nat} (hm : Tm T n m) {G : Nat → Nat} (hw : WF G) (hS12 : LyS Λ ad 12) (h8 : G 0 < 8) {i l d w : Nat} (hi : i ≤ m) (hl : 1 ≤ l ∧ l ≤ 12) (hd : 1 ≤ d ∧ d ≤ 20) (hwk : w ≤ 99) (pe b : Nat) (hpe : pe ≤ n) (hpb : nb T n pe = BT T n i) : LO ad T n m G (fun μ v => jn_X1_readShip_101 N Λ (rd ad 48 μ i v) (ad 48) (n3 l) (n3 d) (n3 w)) (fun μ => shT N Λ (pt ad μ pe b) (ad 181) (n3 (G 0)) (n3 l) (n3 d) (n3 w)) := by
  have hb := hw.1; unfold WB at hb
  have h60 : G 11 ≤ 60 := hb.2.2.2.2.2.2.2.2.2.2.2.1
  have hS : ∀ μ v, CS ad μ 12 G → CS ad (rd ad 48 μ i v) 12 G := fun μ v h => h.fr (rd_fr hj 48 μ i v) (fun j a b => by omega)
  -- the reference has the ship waiting first
  have hwait : ∀ μ, TkR ad μ T n → Row μ (ad 182) 1222 G → ∃ μ1, m_X12_isShip N Λ (pt ad μ pe b) (ad 181) (n3 l) (n3 d) (n3 w) = some (pt ad μ1 pe b) ∧ TkR ad μ1 T n ∧ Row μ1 (ad 182) 1222 (addF G l d w 0 4294967295) ∧ Fr ad (fun j => j = 181 ∨ j = 182) μ μ1 ∧ ∀ k, k ≠ 10 → k ≠ 12 → μ1.1 (ad 181) k = μ.1 (ad 181) k := by
    intro μ h1 h2
    have h2' : Row (pt ad μ pe b) (ad 182) 1222 G := h2.off (pt_o hj (by omega) μ pe b)
    obtain ⟨μ1, e1, r1, f1⟩ := r_isShip (N := N) hR h2' hj h8 l d w
    have q := (f1 181 (by omega)).1
    refine ⟨μ1, ?_, h1.fr (by rw [q, pt_k ad μ pe b (by omega)]) (by rw [(f1 187 (by omega)).1, pt_o hj (by omega)]), r1, ((pt_fr hj μ pe b).mono (fun j hj => Or.inl hj)).trans (f1.mono (fun j hj => Or.inr hj)), fun k k1 k2 => by rw [q, pt_k ad μ pe b ⟨k1, k2⟩]⟩
    rw [e1, pt_self (by rw [q, pt_10]) (by rw [q, pt_12])]
  have hwf0 := add_WF hw h8 hl hd hwk (Or.inl ⟨rfl, rfl⟩)
  cases ha : WT T n i 1 with
  | false =>
    refine ⟨true, i, addF G l d w 0 4294967295, hi, fun _ => ⟨hwf0, add_Lw h8, add_old (by omega) (by omega)⟩, fun μ v h1 h2 => ?_, fun μ h1 h2 => ?_⟩
    · have c1 := c_tw_f hN (Or.inl rfl) hj hP hD h1 hi v (show 1 < 23 by omega) ha
      obtain ⟨μ1, e1, s1, f1⟩ := c_addShip (N := N) hS12 (hS μ v h2) hj h8 h60 l d w 4294967295 (by omega)
      have q := (f1 48 (by omega)).1
      refine ⟨μ1, v, ?_, ?_, fun _ => s1, ((rd_fr hj 48 μ i v).mono (fun j hj => Or.inr hj)).trans (Fr.mono f1 (fun j hj => Or.inl (by omega)))⟩
      · rw [rd_self (by rw [q, rd_1]) (by rw [q, rd_2])]
        simp (disch := omega) only [jn_X1_readShip_101, jn_X1_readShip_129, c1, ↓ob (hD.1), ↓ob (hD.2.1), ↓ob (hD.2.2.1), ↓ob (hD.2.2.2.1), ↓ob (hD.2.2.2.2.1), hD.2.2.2.2.2.1, hD.2.2.2.2.2.2.1, hD.2.2.2.2.2.2.2, n3_neg1, e1, ↓lt_e, ↓gd_e, ↓Option.bind_some, ↓reduceIte, if_true, if_false, if_pT, if_nF, decide_true, Bool.not_true, Bool.not_false, not_true_eq_false, not_false_eq_true, Bool.false_eq_true, Bool.true_eq_false, eq_self, n3_lit, n3_add, n3_mul, n3_sub, n3_tn, n3_le_t, n3_le_f, n3_lt_t, n3_lt_f, n3_eq_f, n3_eq_t, n3_inb, n3_rem, n3_div, n3_zb, bb_0, bb_1, zb_bb, bb_T, bb_F, n3_dec, n3_m1, n3_eqm, n3_eqmt, n3_ltm, n3_mlt, n3_lem, n3_mle, n3_neg_lt, n3_nlt_neg, n3_nle_neg, n3_neg_le]
      · have t1 : TkC ad (rd ad 48 μ i v) 48 T n m := by
          obtain ⟨a1, a2, a3, a4, a5, a6, a7, a8, a9, a10⟩ := h1
          exact ⟨a1, a2, a3, a4, by rw [rd_o hj (by omega)]; exact a5, by rw [rd_o hj (by omega)]; exact a6, by rw [rd_3]; exact a7, a8.off (rd_o hj (by omega) μ i v), a9.off (rd_o hj (by omega) μ i v), a10.off (rd_o hj (by omega) μ i v)⟩
        exact t1.fr f1 (by omega) (by omega) (by omega) (by omega) (by omega) (by omega)
    · obtain ⟨μ1, e1, t1, r1, f1, k1⟩ := hwait μ h1 h2
      have c1 := r_ps_f hN hj hR t1 hpe hpb b (show 1 < 23 by omega) ha
      refine ⟨μ1, BT T n i, BT T n i, ?_, t1, fun _ => ⟨r1, BT_le T n i, BT_nb T n i⟩, fun h => absurd h (by decide), f1, k1⟩
      simp (disch := omega) only [shT, e1, c1, ↓lt_e, ↓gd_e, ↓Option.bind_some, ↓reduceIte, if_true, if_false, if_pT, if_nF, decide_true, Bool.not_true, Bool.not_false, not_true_eq_false, not_false_eq_true, Bool.false_eq_true, Bool.true_eq_false, eq_self, n3_lit, n3_add, n3_mul, n3_sub, n3_tn, n3_le_t, n3_le_f, n3_lt_t, n3_lt_f, n3_eq_f, n3_eq_t, n3_inb, n3_rem, n3_div, n3_zb, bb_0, bb_1, zb_bb, bb_T, bb_F, n3_dec, n3_m1, n3_eqm, n3_eqmt, n3_ltm, n3_mlt, n3_lem, n3_mle, n3_neg_lt, n3_nlt_neg, n3_nle_neg, n3_neg_le]
  | true =>
    have hi1 := hm.w hi ha
    by_cases hv : NVp T n (i + 1) 0 23
    · have hi2 := hm.nv hi1 hv
      have hx : NTv T n (i + 1) ≤ 23 := hv.2.2.2
      have tk := tkn_lt (F := G) (G 0) (fun s hs => hw.2.2.1 s hs)
      have bt1 := BT_le T n (i + 1)
      cases hf : fitb (tkn G (G 0)) (NTv T n (i + 1)) l with
      | false =>
        refine ⟨false, i + 1, G, hi1, fun h => absurd h (by decide), fun μ v h1 h2 => ?_, fun μ h1 h2 => ?_⟩
        · have c1 := c_tw_t hN (Or.inl rfl) hj hP hD h1 hi v (show 1 < 23 by omega) ha
          have c2 := c_tn_t hN (Or.inl rfl) hj hP hD h1 hi1 v (show 0 ≤ 9999 by omega) (show 23 ≤ 9999 by omega) hv
          have c3 := c_taken (N := N) hN hS12 (h2.fr (rd_fr hj 48 μ (i + 1 + 1) (NTv T n (i + 1))) (fun j a b => by omega)) (fun s hs => hw.2.2.1 s hs) hb.1
          refine ⟨μ, NTv T n (i + 1), ?_, h1, fun h => absurd h (by decide), Fr.refl μ⟩
          simp (disch := omega) only [jn_X1_readShip_101, m_X1_takeFreePlace, n3_lit, c1, rd_1, c2, ↓ob (hD.1), ↓ob (hD.2.1), ↓ob (hD.2.2.1), ↓ob (hD.2.2.2.1), ↓ob (hD.2.2.2.2.1), hD.2.2.2.2.2.1, hD.2.2.2.2.2.2.1, hD.2.2.2.2.2.2.2, c3, rd_2, c_isRoom, hf, rd_s1, ↓lt_e, ↓gd_e, ↓Option.bind_some, ↓reduceIte, if_true, if_false, if_pT, if_nF, decide_true, Bool.not_true, Bool.not_false, not_true_eq_false, not_false_eq_true, Bool.false_eq_true, Bool.true_eq_false, eq_self, n3_eq_f, n3_eq_t, bb_F]
        · obtain ⟨μ1, e1, t1, r1, f1, k1⟩ := hwait μ h1 h2
          have c1 := r_ps_t hN hj hR t1 hpe hpb b (show 1 < 23 by omega) ha
          have c2 := r_nm_t hN hj hR t1 (te_le T (BT_le T n i)) (BT_nx (T := T) (n := n) (i := i)) (BT T n i) (show 0 ≤ 9999 by omega) (show 23 ≤ 9999 by omega) hv
          have c3 := r_taken hN hR (μ := pt ad μ1 (te T n (BT T n (i + 1))) (BT T n (i + 1))) (r1.off (pt_o hj (by omega) μ1 _ _)) hwf0.2.2.1 hwf0.1.1
          rw [add_0, tkn_add0] at c3
          refine ⟨μ1, te T n (BT T n (i + 1)), BT T n (i + 1), ?_, t1, fun h => absurd h (by decide), fun _ => rfl, f1, k1⟩
          simp (disch := omega) only [shT, jn_X12_readShip_113, e1, c1, n3_lit, c2, c3, r_fitsIn, hf, ↓lt_e, ↓gd_e, ↓Option.bind_some, ↓reduceIte, if_true, if_false, if_pT, if_nF, decide_true, Bool.not_true, Bool.not_false, not_true_eq_false, not_false_eq_true, Bool.false_eq_true, Bool.true_eq_false, eq_self, n3_lit, n3_add, n3_mul, n3_sub, n3_tn, n3_le_t, n3_le_f, n3_lt_t, n3_lt_f, n3_eq_f, n3_eq_t, n3_inb, n3_rem, n3_div, n3_zb, bb_0, bb_1, zb_bb, bb_T, bb_F, n3_dec, n3_m1, n3_eqm, n3_eqmt, n3_ltm, n3_mlt, n3_lem, n3_mle, n3_neg_lt, n3_nlt_neg, n3_nle_neg, n3_neg_le]
      | true =>
        have hwf1 := add_WF hw h8 hl hd hwk (p := NTv T n (i + 1)) (Or.inr ⟨rfl, hf⟩)
        refine ⟨true, i + 2, addF G l d w 1 (NTv T n (i + 1)), hi2, fun _ => ⟨hwf1, add_Lw h8, add_old (by omega) (by omega)⟩, fun μ v h1 h2 => ?_, fun μ h1 h2 => ?_⟩
        · have c1 := c_tw_t hN (Or.inl rfl) hj hP hD h1 hi v (show 1 < 23 by omega) ha
          have c2 := c_tn_t hN (Or.inl rfl) hj hP hD h1 hi1 v (show 0 ≤ 9999 by omega) (show 23 ≤ 9999 by omega) hv
          have s2 : CS ad (rd ad 48 μ (i + 1 + 1) (NTv T n (i + 1))) 12 G := h2.fr (rd_fr hj 48 μ (i + 1 + 1) (NTv T n (i + 1))) (fun j a b => by omega)
          have c3 := c_taken (N := N) hN hS12 s2 (fun s hs => hw.2.2.1 s hs) hb.1
          obtain ⟨μ1, e1, s1, f1⟩ := c_addShip (N := N) hS12 s2 hj h8 h60 l d w (NTv T n (i + 1)) (by omega)
          rw [if_neg (by omega)] at s1
          have q := (f1 48 (by omega)).1
          refine ⟨μ1, NTv T n (i + 1), ?_, ?_, fun _ => s1, ((rd_fr hj 48 μ (i + 1 + 1) (NTv T n (i + 1))).mono (fun j hj => Or.inr hj)).trans (Fr.mono f1 (fun j hj => Or.inl (by omega)))⟩
          · rw [rd_self (by rw [q, rd_1]) (by rw [q, rd_2])]
            simp (disch := omega) only [jn_X1_readShip_101, jn_X1_readShip_129, m_X1_takeFreePlace, n3_lit, c1, rd_1, c2, ↓ob (hD.1), ↓ob (hD.2.1), ↓ob (hD.2.2.1), ↓ob (hD.2.2.2.1), ↓ob (hD.2.2.2.2.1), hD.2.2.2.2.2.1, hD.2.2.2.2.2.2.1, hD.2.2.2.2.2.2.2, c3, rd_2, c_isRoom, hf, e1, ↓lt_e, ↓gd_e, ↓Option.bind_some, ↓reduceIte, if_true, if_false, if_pT, if_nF, decide_true, Bool.not_true, Bool.not_false, not_true_eq_false, not_false_eq_true, Bool.false_eq_true, Bool.true_eq_false, eq_self, n3_eq_f, n3_eq_t, bb_T]
          · have t1 : TkC ad (rd ad 48 μ (i + 1 + 1) (NTv T n (i + 1))) 48 T n m := by
              obtain ⟨a1, a2, a3, a4, a5, a6, a7, a8, a9, a10⟩ := h1
              exact ⟨a1, a2, a3, a4, by rw [rd_o hj (by omega)]; exact a5, by rw [rd_o hj (by omega)]; exact a6, by rw [rd_3]; exact a7, a8.off (rd_o hj (by omega) μ _ _), a9.off (rd_o hj (by omega) μ _ _), a10.off (rd_o hj (by omega) μ _ _)⟩
            exact t1.fr f1 (by omega) (by omega) (by omega) (by omega) (by omega) (by omega)
        · obtain ⟨μ1, e1, t1, r1, f1, k1⟩ := hwait μ h1 h2
          have c1 := r_ps_t hN hj hR t1 hpe hpb b (show 1 < 23 by omega) ha
          have c2 := r_nm_t hN hj hR t1 (te_le T (BT_le T n i)) (BT_nx (T := T) (n := n) (i := i)) (BT T n i) (show 0 ≤ 9999 by omega) (show 23 ≤ 9999 by omega) hv
          have c3 := r_taken hN hR (μ := pt ad μ1 (te T n (BT T n (i + 1))) (BT T n (i + 1))) (r1.off (pt_o hj (by omega) μ1 _ _)) hwf0.2.2.1 hwf0.1.1
          rw [add_0, tkn_add0] at c3
          have rr := (r1.set (25 + 6 * G 0 + 3) 1).set (25 + 6 * G 0 + 4) (NTv T n (i + 1))
          rw [add_dock] at rr
          refine ⟨_, te T n (BT T n (i + 1)), BT T n (i + 1), ?_, (t1.w hj (25 + 6 * G 0 + 3) (n3 1)).w hj (25 + 6 * G 0 + 4) (n3 (NTv T n (i + 1))), fun _ => ⟨rr, te_le T bt1, rfl⟩, fun h => absurd h (by decide), (f1.set hj (by omega)).set hj (by omega), fun k a1 a2 => by rw [mso hj (by omega), mso hj (by omega)]; exact k1 k a1 a2⟩
          simp (disch := omega) only [shT, e1, c1, n3_lit, c2, c3, r_fitsIn, hf, r_shipAt, ↓ob (hR.1), ↓ob (hR.2.1), ↓ob (hR.2.2.1), ↓ob (hR.2.2.2.1), ↓ob (hR.2.2.2.2.1), ↓ob (hR.2.2.2.2.2.1), ↓ob (hR.2.2.2.2.2.2.1), ↓ob (hR.2.2.2.2.2.2.2.1), ↓ob (hR.2.2.2.2.2.2.2.2.1), ↓ob (hR.2.2.2.2.2.2.2.2.2.1), ↓ob (hR.2.2.2.2.2.2.2.2.2.2.1), ↓ob (hR.2.2.2.2.2.2.2.2.2.2.2.1), ↓ob (hR.2.2.2.2.2.2.2.2.2.2.2.2.1), ↓ob (hR.2.2.2.2.2.2.2.2.2.2.2.2.2.1), ↓ob (hR.2.2.2.2.2.2.2.2.2.2.2.2.2.2.1), ↓ob (hR.2.2.2.2.2.2.2.2.2.2.2.2.2.2.2.1), ↓ob (hR.2.2.2.2.2.2.2.2.2.2.2.2.2.2.2.2.1), ↓ob (hR.2.2.2.2.2.2.2.2.2.2.2.2.2.2.2.2.2.1), hR.2.2.2.2.2.2.2.2.2.2.2.2.2.2.2.2.2.2.1, hR.2.2.2.2.2.2.2.2.2.2.2.2.2.2.2.2.2.2.2.1, hR.2.2.2.2.2.2.2.2.2.2.2.2.2.2.2.2.2.2.2.2.1, hR.2.2.2.2.2.2.2.2.2.2.2.2.2.2.2.2.2.2.2.2.2.1, hR.2.2.2.2.2.2.2.2.2.2.2.2.2.2.2.2.2.2.2.2.2.2.1, hR.2.2.2.2.2.2.2.2.2.2.2.2.2.2.2.2.2.2.2.2.2.2.2.1, hR.2.2.2.2.2.2.2.2.2.2.2.2.2.2.2.2.2.2.2.2.2.2.2.2.1, hR.2.2.2.2.2.2.2.2.2.2.2.2.2.2.2.2.2.2.2.2.2.2.2.2.2.1, hR.2.2.2.2.2.2.2.2.2.2.2.2.2.2.2.2.2.2.2.2.2.2.2.2.2.2.1, hR.2.2.2.2.2.2.2.2.2.2.2.2.2.2.2.2.2.2.2.2.2.2.2.2.2.2.2.1, hR.2.2.2.2.2.2.2.2.2.2.2.2.2.2.2.2.2.2.2.2.2.2.2.2.2.2.2.2.1, hR.2.2.2.2.2.2.2.2.2.2.2.2.2.2.2.2.2.2.2.2.2.2.2.2.2.2.2.2.2.1, hR.2.2.2.2.2.2.2.2.2.2.2.2.2.2.2.2.2.2.2.2.2.2.2.2.2.2.2.2.2.2.1, hR.2.2.2.2.2.2.2.2.2.2.2.2.2.2.2.2.2.2.2.2.2.2.2.2.2.2.2.2.2.2.2.1, hR.2.2.2.2.2.2.2.2.2.2.2.2.2.2.2.2.2.2.2.2.2.2.2.2.2.2.2.2.2.2.2.2.1, hR.2.2.2.2.2.2.2.2.2.2.2.2.2.2.2.2.2.2.2.2.2.2.2.2.2.2.2.2.2.2.2.2.2.1, hR.2.2.2.2.2.2.2.2.2.2.2.2.2.2.2.2.2.2.2.2.2.2.2.2.2.2.2.2.2.2.2.2.2.2.1, hR.2.2.2.2.2.2.2.2.2.2.2.2.2.2.2.2.2.2.2.2.2.2.2.2.2.2.2.2.2.2.2.2.2.2.2, pt_w hj, ↓lt_e, ↓gd_e, ↓Option.bind_some, ↓reduceIte, if_true, if_false, if_pT, if_nF, decide_true, Bool.not_true, Bool.not_false, not_true_eq_false, not_false_eq_true, Bool.false_eq_true, Bool.true_eq_false, eq_self, n3_eq_f, n3_lt_f, n3_tn, n3_inb, bb_T]
    · refine ⟨false, i + 1, G, hi1, fun h => absurd h (by decide), fun μ v h1 h2 => ?_, fun μ h1 h2 => ?_⟩
      · have c1 := c_tw_t hN (Or.inl rfl) hj hP hD h1 hi v (show 1 < 23 by omega) ha
        have c2 := c_tn_f hN (Or.inl rfl) hj hP hD h1 hi1 v (show 0 ≤ 9999 by omega) (show 23 ≤ 9999 by omega) hv
        refine ⟨μ, v, ?_, h1, fun h => absurd h (by decide), Fr.refl μ⟩
        simp (disch := omega) only [jn_X1_readShip_101, m_X1_takeFreePlace, n3_lit, c1, rd_1, c2, ↓lt_e, ↓gd_e, ↓Option.bind_some, ↓reduceIte, if_true, if_false, if_pT, if_nF, decide_true, Bool.not_true, Bool.not_false, not_true_eq_false, not_false_eq_true, Bool.false_eq_true, Bool.true_eq_false, eq_self, n3_eq_f, n3_eq_t, bb_F]
      · obtain ⟨μ1, e1, t1, r1, f1, k1⟩ := hwait μ h1 h2
        have c1 := r_ps_t hN hj hR t1 hpe hpb b (show 1 < 23 by omega) ha
        have c2 := r_nm_f hN hj hR t1 (te_le T (BT_le T n i)) (BT_nx (T := T) (n := n) (i := i)) (BT T n i) (show 0 ≤ 9999 by omega) (show 23 ≤ 9999 by omega) hv
        refine ⟨μ1, re T n 2 (BT T n (i + 1)), BT T n (i + 1), ?_, t1, fun h => absurd h (by decide), fun _ => rfl, f1, k1⟩
        simp (disch := omega) only [shT, jn_X12_readShip_113, e1, c1, n3_lit, c2, ↓lt_e, ↓gd_e, ↓Option.bind_some, ↓reduceIte, if_true, if_false, if_pT, if_nF, decide_true, Bool.not_true, Bool.not_false, not_true_eq_false, not_false_eq_true, Bool.false_eq_true, Bool.true_eq_false, eq_self, n3_lit, n3_add, n3_mul, n3_sub, n3_tn, n3_le_t, n3_le_f, n3_lt_t, n3_lt_f, n3_eq_f, n3_eq_t, n3_inb, n3_rem, n3_div, n3_zb, bb_0, bb_1, zb_bb, bb_T, bb_F, n3_dec, n3_m1, n3_eqm, n3_eqmt, n3_ltm, n3_mlt, n3_lem, n3_mle, n3_neg_lt, n3_nlt_neg, n3_nle_neg, n3_neg_le]

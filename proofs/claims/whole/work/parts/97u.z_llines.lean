theorem y_line {N : Nat} (hN : 1099511627776 ≤ N) {Λ : Lay} {ad : Nat → Nat} (hj : Inj ad) (hP : LyP Λ ad) (hD : LyD Λ ad 52 36 2) (hR : LyR Λ ad) (hL : LyL Λ ad 36) {T : Nat → Int32} {n m : Nat} (hm : Tm T n m) {H : Nat → Nat} {q c i : Nat} (hx : LX H q c) (hq : q < 12) (hci : c ≤ i) (hi : i ≤ m) : ∃ (ok : Bool) (i' c' : Nat) (H' : Nat → Nat), i' ≤ m ∧ (ok = true → LX H' (q + 1) c' ∧ c' ≤ i') ∧ YC ad T n m H q c ok i' c' H' (fun μ v => m_X3_readLine N Λ (rd ad 52 μ i v) (ad 52)) ∧ YR ad T n H c ok i' c' H' (fun μ => m_X12_readLawLine N Λ (pt ad μ (LE T n i) (BT T n i)) (ad 181) (n3 q)) := by
  have hm4 := hm.1
  have hmn := hm.2.1
  have ct : ∀ {w : Nat}, w < 23 → WT T n i w = true → ∀ {μ : Mem} (v : Nat), TkC ad μ 52 T n m → m_X7_takeWord N Λ (rd ad 52 μ i v) (ad 52) w = some (n3 1, rd ad 52 μ (i + 1) v) := by
    intro w hw' h μ v t
    exact c_tw_t hN (Or.inr rfl) hj hP hD t hi v hw' h
  have cf : ∀ {w : Nat}, w < 23 → WT T n i w = false → ∀ {μ : Mem} (v : Nat), TkC ad μ 52 T n m → m_X7_takeWord N Λ (rd ad 52 μ i v) (ad 52) w = some (n3 0, rd ad 52 μ i v) := by
    intro w hw' h μ v t
    exact c_tw_f hN (Or.inr rfl) hj hP hD t hi v hw' h
  have rt : ∀ {w : Nat}, w < 23 → WT T n i w = true → ∀ {μ : Mem}, TkR ad μ T n → m_X12_isWord N Λ (pt ad μ (LE T n i) (BT T n i)) (ad 181) w = some (n3 1) := fun {w} hw' h {μ} t => by rw [r_isWord hN hj hR t i w hw', h, bbB_t rfl]
  have rf : ∀ {w : Nat}, w < 23 → WT T n i w = false → ∀ {μ : Mem}, TkR ad μ T n → m_X12_isWord N Λ (pt ad μ (LE T n i) (BT T n i)) (ad 181) w = some (n3 0) := fun {w} hw' h {μ} t => by rw [r_isWord hN hj hR t i w hw', h, bbB_f rfl]
  have ey : 1223 + 4 * n3 q = n3 (1223 + 4 * q) := by rw [n3_lit 1223, n3_lit 4, n3_mul, n3_add]
  -- a line whose kind is known
  have fin : ∀ (w k : Nat), w < 23 → k ≤ 2 → WT T n i w = true → (∀ μ v, TkC ad μ 52 T n m → m_X3_takeKind N Λ (rd ad 52 μ i v) (ad 52) = some (n3 k, rd ad 52 μ (i + 1) v)) → (∀ μ, TkR ad μ T n → m_X12_readLawLine N Λ (pt ad μ (LE T n i) (BT T n i)) (ad 181) (n3 q) = jn_X12_readLawLine_56 N Λ (pt ad μ (LE T n i) (BT T n i)) (ad 181) (n3 (1223 + 4 * q)) (ad 182) (n3 (1223 + 4 * q)) (n3 k)) → ∃ (ok : Bool) (i' c' : Nat) (H' : Nat → Nat), i' ≤ m ∧ (ok = true → LX H' (q + 1) c' ∧ c' ≤ i') ∧ YC ad T n m H q c ok i' c' H' (fun μ v => m_X3_readLine N Λ (rd ad 52 μ i v) (ad 52)) ∧ YR ad T n H c ok i' c' H' (fun μ => m_X12_readLawLine N Λ (pt ad μ (LE T n i) (BT T n i)) (ad 181) (n3 q)) := fun w k hw hk hwt h1 h2 => by
    obtain ⟨ok, i', c', H', y1, y2, y3, y4⟩ := y_rest hN hj hP hD hR hL hm hx hq hci (hm.w hi hwt) hk (WT_K hwt)
    refine ⟨ok, i', c', H', y1, y2, fun μ v t lq => ?_, fun μ t r e => ?_⟩
    · obtain ⟨μ2, v2, q2, r2⟩ := y3 μ v t lq
      refine ⟨μ2, v2, ?_, r2⟩
      rw [← q2]
      show m_X3_readLine N Λ (rd ad 52 μ i v) (ad 52) = _
      unfold m_X3_readLine
      rw [h1 μ v t, Option.bind_some]
      have ne : ¬ (n3 k = -1) := by rw [n3_lit 1, n3_eqm (show k < 4294967295 by omega)]; exact id
      rw [if_neg ne]
    · obtain ⟨μ2, p2, b2, q2, r2⟩ := y4 μ t r e
      exact ⟨μ2, p2, b2, (h2 μ t).trans q2, r2⟩
  cases h16 : WT T n i 16 with
  | true =>
    refine fin 16 0 (by omega) (by omega) h16 (fun μ v t => (tw1 (ct (by decide) h16 v t)).trans rfl) (fun μ t => ?_)
    unfold m_X12_readLawLine
    rw [rt (by decide) h16 t, lt_e, ob hR.1, Option.bind_some, ey]; rfl
  | false =>
  cases h10 : WT T n i 10 with
  | true =>
    refine fin 10 1 (by omega) (by omega) h10 (fun μ v t => (tw0 (cf (by decide) h16 v t)).trans ((tw1 (ct (by decide) h10 v t)).trans rfl)) (fun μ t => ?_)
    unfold m_X12_readLawLine
    rw [rf (by decide) h16 t, rt (by decide) h10 t, lt_e, ob hR.1, Option.bind_some, ey]; rfl
  | false =>
  cases h5 : WT T n i 5 with
  | true =>
    refine fin 5 2 (by omega) (by omega) h5 (fun μ v t => (tw0 (cf (by decide) h16 v t)).trans ((tw0 (cf (by decide) h10 v t)).trans ((tw1 (ct (by decide) h5 v t)).trans rfl))) (fun μ t => ?_)
    unfold m_X12_readLawLine
    rw [rf (by decide) h16 t, rf (by decide) h10 t, rt (by decide) h5 t, lt_e, ob hR.1, Option.bind_some, ey]; rfl
  | false =>
    refine ⟨false, i, c, H, hi, fun h => absurd h (by decide), fun μ v t lq => ⟨μ, v, ?_, t, fun h => absurd h (by decide), Fr.refl μ⟩, fun μ t r e => ?_⟩
    · have e1 : m_X3_takeKind N Λ (rd ad 52 μ i v) (ad 52) = some (-1, rd ad 52 μ i v) := (tw0 (cf (by decide) h16 v t)).trans ((tw0 (cf (by decide) h10 v t)).trans ((tw0 (cf (by decide) h5 v t)).trans rfl))
      show m_X3_readLine N Λ (rd ad 52 μ i v) (ad 52) = _
      unfold m_X3_readLine
      rw [e1]; rfl
    · refine ⟨mset μ (ad 182) (1223 + 4 * q) (n3 4294967295), LE T n i, BT T n i, ?_, t.w hj _ _, fun h => absurd h (by decide), fun _ => rfl, (Fr.refl μ).set hj (by omega), fun p hp => by rw [msn (by omega)], fun p h1 h2 h3 h4 => by rw [mso hj (by omega)]⟩
      have e1 : m_X12_readLawLine N Λ (pt ad μ (LE T n i) (BT T n i)) (ad 181) (n3 q) = jn_X12_readLawLine_56 N Λ (pt ad μ (LE T n i) (BT T n i)) (ad 181) (n3 (1223 + 4 * q)) (ad 182) (n3 (1223 + 4 * q)) (-1) := by
        unfold m_X12_readLawLine
        rw [rf (by decide) h16 t, rf (by decide) h10 t, rf (by decide) h5 t, lt_e, ob hR.1, Option.bind_some, ey]; rfl
      have q0 : (pt ad (mset μ (ad 182) (1223 + 4 * q) (n3 4294967295)) (LE T n i) (BT T n i)).1 (ad 182) (1223 + 4 * q) = n3 4294967295 := by rw [pt_o hj (by omega), mse]
      rw [bbB_f rfl]
      refine e1.trans ?_
      simp (disch := omega) only [jn_X12_readLawLine_56, n3_lit, n3_neg1, ↓ob (hR.1), ↓ob (hR.2.1), ↓ob (hR.2.2.1), ↓ob (hR.2.2.2.1), ↓ob (hR.2.2.2.2.1), ↓ob (hR.2.2.2.2.2.1), ↓ob (hR.2.2.2.2.2.2.1), ↓ob (hR.2.2.2.2.2.2.2.1), ↓ob (hR.2.2.2.2.2.2.2.2.1), ↓ob (hR.2.2.2.2.2.2.2.2.2.1), ↓ob (hR.2.2.2.2.2.2.2.2.2.2.1), ↓ob (hR.2.2.2.2.2.2.2.2.2.2.2.1), ↓ob (hR.2.2.2.2.2.2.2.2.2.2.2.2.1), ↓ob (hR.2.2.2.2.2.2.2.2.2.2.2.2.2.1), ↓ob (hR.2.2.2.2.2.2.2.2.2.2.2.2.2.2.1), ↓ob (hR.2.2.2.2.2.2.2.2.2.2.2.2.2.2.2.1), ↓ob (hR.2.2.2.2.2.2.2.2.2.2.2.2.2.2.2.2.1), ↓ob (hR.2.2.2.2.2.2.2.2.2.2.2.2.2.2.2.2.2.1), hR.2.2.2.2.2.2.2.2.2.2.2.2.2.2.2.2.2.2.1, hR.2.2.2.2.2.2.2.2.2.2.2.2.2.2.2.2.2.2.2.1, hR.2.2.2.2.2.2.2.2.2.2.2.2.2.2.2.2.2.2.2.2.1, hR.2.2.2.2.2.2.2.2.2.2.2.2.2.2.2.2.2.2.2.2.2.1, hR.2.2.2.2.2.2.2.2.2.2.2.2.2.2.2.2.2.2.2.2.2.2.1, hR.2.2.2.2.2.2.2.2.2.2.2.2.2.2.2.2.2.2.2.2.2.2.2.1, hR.2.2.2.2.2.2.2.2.2.2.2.2.2.2.2.2.2.2.2.2.2.2.2.2.1, hR.2.2.2.2.2.2.2.2.2.2.2.2.2.2.2.2.2.2.2.2.2.2.2.2.2.1, hR.2.2.2.2.2.2.2.2.2.2.2.2.2.2.2.2.2.2.2.2.2.2.2.2.2.2.1, hR.2.2.2.2.2.2.2.2.2.2.2.2.2.2.2.2.2.2.2.2.2.2.2.2.2.2.2.1, hR.2.2.2.2.2.2.2.2.2.2.2.2.2.2.2.2.2.2.2.2.2.2.2.2.2.2.2.2.1, hR.2.2.2.2.2.2.2.2.2.2.2.2.2.2.2.2.2.2.2.2.2.2.2.2.2.2.2.2.2.1, hR.2.2.2.2.2.2.2.2.2.2.2.2.2.2.2.2.2.2.2.2.2.2.2.2.2.2.2.2.2.2.1, hR.2.2.2.2.2.2.2.2.2.2.2.2.2.2.2.2.2.2.2.2.2.2.2.2.2.2.2.2.2.2.2.1, hR.2.2.2.2.2.2.2.2.2.2.2.2.2.2.2.2.2.2.2.2.2.2.2.2.2.2.2.2.2.2.2.2.1, hR.2.2.2.2.2.2.2.2.2.2.2.2.2.2.2.2.2.2.2.2.2.2.2.2.2.2.2.2.2.2.2.2.2.1, hR.2.2.2.2.2.2.2.2.2.2.2.2.2.2.2.2.2.2.2.2.2.2.2.2.2.2.2.2.2.2.2.2.2.2.1, hR.2.2.2.2.2.2.2.2.2.2.2.2.2.2.2.2.2.2.2.2.2.2.2.2.2.2.2.2.2.2.2.2.2.2.2, pt_w hj, q0, ↓lt_e, ↓gd_e, ↓Option.bind_some, ↓reduceIte, if_true, if_false, if_pT, if_nF, decide_true, Bool.not_true, Bool.not_false, not_true_eq_false, not_false_eq_true, Bool.false_eq_true, Bool.true_eq_false, eq_self, n3_nle_neg, n3_inb, n3_tn]
def DL (ad : Nat → Nat) (T : Nat → Int32) (n m : Nat) (H : Nat → Nat) (q c : Nat) (fc : Mem → Nat → Option (Int32 × Mem)) (fr : Mem → Option (Int32 × Mem)) : Prop := ∃ (ok : Bool) (i' q' c' : Nat) (H' : Nat → Nat), i' ≤ m ∧ (ok = true → LX H' q' c') ∧ (∀ μ v, TkC ad μ 52 T n m → LQ ad μ H q c → ∃ μ' v', fc μ v = some (n3 (if ok = true then 4294967295 else BT T n i'), rd ad 52 μ' i' v') ∧ TkC ad μ' 52 T n m ∧ (ok = true → LQ ad μ' H' q' c') ∧ Fr ad (fun j => (36 ≤ j ∧ j ≤ 40) ∨ j = 52) μ μ') ∧ (∀ μ, TkR ad μ T n → Row μ (ad 182) 2071 H → μ.1 (ad 181) 16 = n3 c → ∃ μ' p' b', fr μ = some (n3 (if ok = true then q' else 4294967295), pt ad μ' p' b') ∧ (ok = true → Row μ' (ad 182) 2071 H') ∧ (ok = false → b' = BT T n i') ∧ Fr ad (fun j => j = 181 ∨ j = 182) μ μ' ∧ (∀ k, k < 1222 → μ'.1 (ad 182) k = μ.1 (ad 182) k) ∧ ∀ k, k ≠ 10 → k ≠ 12 → k ≠ 13 → k ≠ 16 → μ'.1 (ad 181) k = μ.1 (ad 181) k)
theorem y_lines {N : Nat} (hN : 1099511627776 ≤ N) {Λ : Lay} {ad : Nat → Nat} (hj : Inj ad) (hP : LyP Λ ad) (hD : LyD Λ ad 52 36 2) (hR : LyR Λ ad) (hL : LyL Λ ad 36) {T : Nat → Int32} {n m : Nat} (hm : Tm T n m)  : ∀ (d h i c pe b M M' : Nat) (H : Nat → Nat), LX H h c → c ≤ i → h + d = 12 → d < M → d < M' → i ≤ m → pe ≤ n → nb T n pe = BT T n i → DL ad T n m H h c (fun μ v => cw (fun k s => bd_X7_readLines_3_15 N Λ (s.2) k (ad 52) (n3 12) s.1) M (n3 h, rd ad 52 μ i v)) (fun μ => cw (fun k s => bd_X12_readAll_28 N Λ (s.2) k (ad 181) (n3 0) s.1) M' (n3 h, pt ad μ pe b)) := by
  have hmn := hm.2.1
  have hm4 := hm.1
  intro d
  induction d with
  | zero =>
    intro h i c pe b M M' H hx hci hh hM hM' hi hpe hpb
    obtain ⟨M, rfl⟩ : ∃ Q, M = Q + 1 := ⟨M - 1, by omega⟩
    obtain ⟨M', rfl⟩ : ∃ Q, M' = Q + 1 := ⟨M' - 1, by omega⟩
    have h14 : h = 12 := by omega
    subst h14
    refine ⟨false, i, 0, c, H, hi, fun h => absurd h (by decide), fun μ v t e => ?_, fun μ t r e => ?_⟩
    · refine ⟨μ, v, ?_, t, fun h => absurd h (by decide), Fr.refl μ⟩
      have e1 := c_beg hN (Or.inr rfl) hj hP hD t hi
      have o1 := rd_o hj (show 54 ≠ 52 by omega) μ i v
      have key : ∀ K, bd_X7_readLines_3_15 N Λ (rd ad 52 μ i v) K (ad 52) (n3 12) (n3 12) = some (n3 (BT T n i), rd ad 52 μ i v) := fun K => by
        simp (disch := omega) only [bd_X7_readLines_3_15, ↓ob (hD.1), ↓ob (hD.2.1), ↓ob (hD.2.2.1), ↓ob (hD.2.2.2.1), ↓ob (hD.2.2.2.2.1), hD.2.2.2.2.2.1, hD.2.2.2.2.2.2.1, hD.2.2.2.2.2.2.2, rd_1, o1, e1, ↓lt_e, ↓gd_e, ↓Option.bind_some, ↓reduceIte, if_true, if_false, if_pT, if_nF, decide_true, Bool.not_true, Bool.not_false, not_true_eq_false, not_false_eq_true, Bool.false_eq_true, Bool.true_eq_false, eq_self, n3_lit, n3_add, n3_mul, n3_sub, n3_tn, n3_le_t, n3_le_f, n3_lt_t, n3_lt_f, n3_eq_f, n3_eq_t, n3_inb, n3_rem, n3_div, n3_zb, bb_0, bb_1, zb_bb, bb_T, bb_F, n3_dec, n3_m1, n3_eqm, n3_eqmt, n3_ltm, n3_mlt, n3_lem, n3_mle, n3_neg_lt, n3_nlt_neg, n3_nle_neg, n3_neg_le]
      exact key _
    · refine ⟨μ, LE T n i, BT T n i, ?_, fun h => absurd h (by decide), fun _ => rfl, Fr.refl μ, fun _ _ => rfl, fun _ _ _ _ _ => rfl⟩
      have c1 := r_let hN hj hR t hpe hpb b
      have key : ∀ K, bd_X12_readAll_28 N Λ (pt ad μ pe b) K (ad 181) (n3 0) (n3 12) = some (n3 4294967295, pt ad μ (LE T n i) (BT T n i)) := fun K => by
        simp (disch := omega) only [bd_X12_readAll_28, m_X12_readLine, jn_X12_readLine_16, jn_X12_readLine_45, jn_X12_readLine_46, c1, n3_neg1, ↓lt_e, ↓gd_e, ↓Option.bind_some, ↓reduceIte, if_true, if_false, if_pT, if_nF, decide_true, Bool.not_true, Bool.not_false, not_true_eq_false, not_false_eq_true, Bool.false_eq_true, Bool.true_eq_false, eq_self, n3_lit, n3_add, n3_mul, n3_sub, n3_tn, n3_le_t, n3_le_f, n3_lt_t, n3_lt_f, n3_eq_f, n3_eq_t, n3_inb, n3_rem, n3_div, n3_zb, bb_0, bb_1, zb_bb, bb_T, bb_F, n3_dec, n3_m1, n3_eqm, n3_eqmt, n3_ltm, n3_mlt, n3_lem, n3_mle, n3_neg_lt, n3_nlt_neg, n3_nle_neg, n3_neg_le]
      exact key _
  | succ d ih =>
    intro h i c pe b M M' H hx hci hh hM hM' hi hpe hpb
    obtain ⟨M, rfl⟩ : ∃ Q, M = Q + 1 := ⟨M - 1, by omega⟩
    obtain ⟨M', rfl⟩ : ∃ Q, M' = Q + 1 := ⟨M' - 1, by omega⟩
    obtain ⟨ok1, i1, c1, H1, x1, x2, x3, x4⟩ := y_line hN hj hP hD hR hL hm hx (show h < 12 by omega) hci hi
    have rl : ∀ μ, TkR ad μ T n → ∀ K, bd_X12_readAll_28 N Λ (pt ad μ pe b) K (ad 181) (n3 0) (n3 h) = (m_X12_readLawLine N Λ (pt ad μ (LE T n i) (BT T n i)) (ad 181) (n3 h)).bind fun r => ((if r.1 = 0 then jn_X12_readLine_45 N Λ r.2 else jn_X12_readLine_41 N Λ r.2).bind fun r1 => if r1.1 = 0 then (some ((-1), r1.2)) else ((m_X12_blanks N Λ r1.2 (ad 181)).bind fun r4 => if (r4.1 (ad 181) 10) = (r4.1 (ad 181) 11) then (some (n3 h + 1, r4)) else ((m_X12_isAt N Λ r4 (ad 181) 59 59).bind fun r7 => if r7 = 0 then (some ((-1), r4)) else K (n3 h + 1, mset r4 (ad 181) 10 ((r4.1 (ad 181) 10) + 1))))) := fun μ t K => by
      have c1 := r_let hN hj hR t hpe hpb b
      have e0 : ((n3 0 : Int32) = 0) = True := zero_0
      have e1 : ((12 : Int32) ≤ n3 h) = False := n3_le_f (a := 12) (b := h) (by omega) (by omega)
      unfold bd_X12_readAll_28 m_X12_readLine
      rw [c1]
      simp only [Option.bind_some, e0, if_true, if_false, jn_X12_readLine_16, e1, lt_e]
      cases m_X12_readLawLine N Λ (pt ad μ (LE T n i) (BT T n i)) (ad 181) (n3 h) <;> rfl
    cases ok1 with
    | false =>
      refine ⟨false, i1, 0, c, H, x1, fun h => absurd h (by decide), fun μ v t e => ?_, fun μ t r e => ?_⟩
      · obtain ⟨μ2, v2, e2, t2, c2, f2⟩ := x3 μ v t e
        change m_X3_readLine N Λ (rd ad 52 μ i v) (ad 52) = _ at e2
        rw [bbB_f rfl] at e2
        refine ⟨μ2, v2, ?_, t2, fun h => absurd h (by decide), f2⟩
        have e1 := c_beg hN (Or.inr rfl) hj hP hD t2 x1
        have o1 := rd_o hj (show 54 ≠ 52 by omega) μ2 i1 v2
        have key : ∀ K, bd_X7_readLines_3_15 N Λ (rd ad 52 μ i v) K (ad 52) (n3 12) (n3 h) = some (n3 (BT T n i1), rd ad 52 μ2 i1 v2) := fun K => by
          simp (disch := omega) only [bd_X7_readLines_3_15, e2, ↓ob (hD.1), ↓ob (hD.2.1), ↓ob (hD.2.2.1), ↓ob (hD.2.2.2.1), ↓ob (hD.2.2.2.2.1), hD.2.2.2.2.2.1, hD.2.2.2.2.2.2.1, hD.2.2.2.2.2.2.2, rd_1, o1, e1, ↓lt_e, ↓gd_e, ↓Option.bind_some, ↓reduceIte, if_true, if_false, if_pT, if_nF, decide_true, Bool.not_true, Bool.not_false, not_true_eq_false, not_false_eq_true, Bool.false_eq_true, Bool.true_eq_false, eq_self, n3_lit, n3_add, n3_mul, n3_sub, n3_tn, n3_le_t, n3_le_f, n3_lt_t, n3_lt_f, n3_eq_f, n3_eq_t, n3_inb, n3_rem, n3_div, n3_zb, bb_0, bb_1, zb_bb, bb_T, bb_F, n3_dec, n3_m1, n3_eqm, n3_eqmt, n3_ltm, n3_mlt, n3_lem, n3_mle, n3_neg_lt, n3_nlt_neg, n3_nle_neg, n3_neg_le]
        exact key _
      · obtain ⟨μ2, p2, b2, e2, t2, c2, d2, f2, w2, k2⟩ := x4 μ t r e
        change m_X12_readLawLine N Λ (pt ad μ (LE T n i) (BT T n i)) (ad 181) (n3 h) = _ at e2
        rw [bbB_f rfl] at e2
        refine ⟨μ2, p2, b2, ?_, fun h => absurd h (by decide), d2, f2, w2, k2⟩
        have key : ∀ K, bd_X12_readAll_28 N Λ (pt ad μ pe b) K (ad 181) (n3 0) (n3 h) = some (n3 4294967295, pt ad μ2 p2 b2) := fun K => by
          rw [rl μ t, e2]
          simp (disch := omega) only [jn_X12_readLine_45, jn_X12_readLine_46, n3_neg1, ↓lt_e, ↓gd_e, ↓Option.bind_some, ↓reduceIte, if_true, if_false, if_pT, if_nF, decide_true, Bool.not_true, Bool.not_false, not_true_eq_false, not_false_eq_true, Bool.false_eq_true, Bool.true_eq_false, eq_self, n3_lit, n3_add, n3_mul, n3_sub, n3_tn, n3_le_t, n3_le_f, n3_lt_t, n3_lt_f, n3_eq_f, n3_eq_t, n3_inb, n3_rem, n3_div, n3_zb, bb_0, bb_1, zb_bb, bb_T, bb_F, n3_dec, n3_m1, n3_eqm, n3_eqmt, n3_ltm, n3_mlt, n3_lem, n3_mle, n3_neg_lt, n3_nlt_neg, n3_nle_neg, n3_neg_le]
        exact key _
    | true =>
      obtain ⟨hx1, hci1⟩ := x2 rfl
      have b1 := BT_le T n i1
      by_cases hend : i1 = m
      · subst hend
        have hbn := hm.2.2.1
        refine ⟨true, i1, h + 1, c1, H1, x1, fun _ => hx1, fun μ v t e => ?_, fun μ t r e => ?_⟩
        · obtain ⟨μ2, v2, e2, t2, c2, f2⟩ := x3 μ v t e
          change m_X3_readLine N Λ (rd ad 52 μ i v) (ad 52) = _ at e2
          rw [bbB_t rfl] at e2
          refine ⟨μ2, v2, ?_, t2, fun _ => c2 rfl, f2⟩
          have e3 := t2.2.2.2.2.2.2.1
          have key : ∀ K, bd_X7_readLines_3_15 N Λ (rd ad 52 μ i v) K (ad 52) (n3 12) (n3 h) = some (n3 4294967295, rd ad 52 μ2 i1 v2) := fun K => by
            simp (disch := omega) only [bd_X7_readLines_3_15, e2, rd_1, rd_3, e3, n3_neg1, ↓lt_e, ↓gd_e, ↓Option.bind_some, ↓reduceIte, if_true, if_false, if_pT, if_nF, decide_true, Bool.not_true, Bool.not_false, not_true_eq_false, not_false_eq_true, Bool.false_eq_true, Bool.true_eq_false, eq_self, n3_lit, n3_add, n3_mul, n3_sub, n3_tn, n3_le_t, n3_le_f, n3_lt_t, n3_lt_f, n3_eq_f, n3_eq_t, n3_inb, n3_rem, n3_div, n3_zb, bb_0, bb_1, zb_bb, bb_T, bb_F, n3_dec, n3_m1, n3_eqm, n3_eqmt, n3_ltm, n3_mlt, n3_lem, n3_mle, n3_neg_lt, n3_nlt_neg, n3_nle_neg, n3_neg_le]
          exact key _
        · obtain ⟨μ2, p2, b2, e2, t2, c2, d2, f2, w2, k2⟩ := x4 μ t r e
          change m_X12_readLawLine N Λ (pt ad μ (LE T n i) (BT T n i)) (ad 181) (n3 h) = _ at e2
          rw [bbB_t rfl] at e2
          obtain ⟨r2, r16, pl2, pb2⟩ := c2 rfl
          have bl := r_blanks hN hj hR t2 pl2 b2
          rw [pb2, hbn] at bl
          have k11 : (pt ad μ2 n n).1 (ad 181) 11 = n3 n := by rw [pt_k ad μ2 n n (by omega)]; exact t2.2.1
          refine ⟨μ2, n, n, ?_, fun _ => r2, fun h => absurd h (by decide), f2, w2, k2⟩
          have key : ∀ K, bd_X12_readAll_28 N Λ (pt ad μ pe b) K (ad 181) (n3 0) (n3 h) = some (n3 (h + 1), pt ad μ2 n n) := fun K => by
            rw [rl μ t, e2]
            simp (disch := omega) only [jn_X12_readLine_41, jn_X12_readLine_46, bl, pt_10, k11, ↓lt_e, ↓gd_e, ↓Option.bind_some, ↓reduceIte, if_true, if_false, if_pT, if_nF, decide_true, Bool.not_true, Bool.not_false, not_true_eq_false, not_false_eq_true, Bool.false_eq_true, Bool.true_eq_false, eq_self, n3_lit, n3_add, n3_mul, n3_sub, n3_tn, n3_le_t, n3_le_f, n3_lt_t, n3_lt_f, n3_eq_f, n3_eq_t, n3_inb, n3_rem, n3_div, n3_zb, bb_0, bb_1, zb_bb, bb_T, bb_F, n3_dec, n3_m1, n3_eqm, n3_eqmt, n3_ltm, n3_mlt, n3_lem, n3_mle, n3_neg_lt, n3_nlt_neg, n3_nle_neg, n3_neg_le]
          exact key _
      · have hlt : BT T n i1 < n := hm.2.2.2 i1 (by omega)
        have bl' : ∀ μ2 p2 b2, TkR ad μ2 T n → p2 ≤ n → nb T n p2 = BT T n i1 → m_X12_blanks N Λ (pt ad μ2 p2 b2) (ad 181) = some (pt ad μ2 (BT T n i1) (BT T n i1)) := fun μ2 p2 b2 t2 pl2 pb2 => by
          have bl := r_blanks hN hj hR t2 pl2 b2
          rw [pb2] at bl; exact bl
        cases hs : ST T n i1 59 with
        | false =>
          refine ⟨false, i1, 0, c, H, x1, fun h => absurd h (by decide), fun μ v t e => ?_, fun μ t r e => ?_⟩
          · obtain ⟨μ2, v2, e2, t2, c2, f2⟩ := x3 μ v t e
            change m_X3_readLine N Λ (rd ad 52 μ i v) (ad 52) = _ at e2
            rw [bbB_t rfl] at e2
            refine ⟨μ2, v2, ?_, t2, fun h => absurd h (by decide), f2⟩
            have e1 := c_beg hN (Or.inr rfl) hj hP hD t2 x1
            have o1 := rd_o hj (show 54 ≠ 52 by omega) μ2 i1 v2
            have e3 := t2.2.2.2.2.2.2.1
            have e4 := c_ts_f hN (Or.inr rfl) hj hP hD t2 x1 v2 (show 59 = 40 ∨ 59 = 41 ∨ 59 = 43 ∨ 59 = 59 ∨ 59 = 60 ∨ 59 = 62 by omega) hs
            have key : ∀ K, bd_X7_readLines_3_15 N Λ (rd ad 52 μ i v) K (ad 52) (n3 12) (n3 h) = some (n3 (BT T n i1), rd ad 52 μ2 i1 v2) := fun K => by
              simp (disch := omega) only [bd_X7_readLines_3_15, e2, n3_lit, e4, ↓ob (hD.1), ↓ob (hD.2.1), ↓ob (hD.2.2.1), ↓ob (hD.2.2.2.1), ↓ob (hD.2.2.2.2.1), hD.2.2.2.2.2.1, hD.2.2.2.2.2.2.1, hD.2.2.2.2.2.2.2, rd_1, rd_3, e3, o1, e1, ↓lt_e, ↓gd_e, ↓Option.bind_some, ↓reduceIte, if_true, if_false, if_pT, if_nF, decide_true, Bool.not_true, Bool.not_false, not_true_eq_false, not_false_eq_true, Bool.false_eq_true, Bool.true_eq_false, eq_self, n3_le_f, n3_eq_f, n3_eq_t, n3_inb, n3_tn]
            exact key _
          · obtain ⟨μ2, p2, b2, e2, t2, c2, d2, f2, w2, k2⟩ := x4 μ t r e
            change m_X12_readLawLine N Λ (pt ad μ (LE T n i) (BT T n i)) (ad 181) (n3 h) = _ at e2
            rw [bbB_t rfl] at e2
            obtain ⟨r2, r16, pl2, pb2⟩ := c2 rfl
            have bl := bl' μ2 p2 b2 t2 pl2 pb2
            have k11 : (pt ad μ2 (BT T n i1) (BT T n i1)).1 (ad 181) 11 = n3 n := by rw [pt_k ad μ2 _ _ (by omega)]; exact t2.2.1
            have h1 := of_decide_eq_false hs
            have ia := r_isAt (N := N) hN hj hR t2 b1 (BT T n i1) (n3 59) (n3 59)
            rw [bb_f (fun hx => h1 ⟨hx.1, Int32.le_antisymm hx.2.2 hx.2.1⟩)] at ia
            refine ⟨μ2, BT T n i1, BT T n i1, ?_, fun h => absurd h (by decide), fun _ => rfl, f2, w2, k2⟩
            have key : ∀ K, bd_X12_readAll_28 N Λ (pt ad μ pe b) K (ad 181) (n3 0) (n3 h) = some (n3 4294967295, pt ad μ2 (BT T n i1) (BT T n i1)) := fun K => by
              rw [rl μ t, e2]
              simp (disch := omega) only [jn_X12_readLine_41, jn_X12_readLine_46, bl, pt_10, k11, n3_lit, ia, n3_neg1, ↓lt_e, ↓gd_e, ↓Option.bind_some, ↓reduceIte, if_true, if_false, if_pT, if_nF, decide_true, Bool.not_true, Bool.not_false, not_true_eq_false, not_false_eq_true, Bool.false_eq_true, Bool.true_eq_false, eq_self, n3_lit, n3_add, n3_mul, n3_sub, n3_tn, n3_le_t, n3_le_f, n3_lt_t, n3_lt_f, n3_eq_f, n3_eq_t, n3_inb, n3_rem, n3_div, n3_zb, bb_0, bb_1, zb_bb, bb_T, bb_F, n3_dec, n3_m1, n3_eqm, n3_eqmt, n3_ltm, n3_mlt, n3_lem, n3_mle, n3_neg_lt, n3_nlt_neg, n3_nle_neg, n3_neg_le]
            exact key _
        | true =>
          have hi2 : i1 + 1 ≤ m := by omega
          have h1 := of_decide_eq_true hs
          have hk3 : KT T n i1 = 3 := by rw [KT_t h1.1]; exact kd_s (by omega) h1.2
          have hte := te_3 hk3
          obtain ⟨ok2, i2, q2', k2', H2, y1, y2, y3, y4⟩ := ih (h + 1) (i1 + 1) c1 (BT T n i1 + 1) (BT T n i1) M M' H1 hx1 (by omega) (by omega) (by omega) (by omega) hi2 (by omega) (by rw [← hte]; rfl)
          refine ⟨ok2, i2, q2', k2', H2, y1, y2, fun μ v t e => ?_, fun μ t r e => ?_⟩
          · obtain ⟨μ2, v2, e2, t2, c2, f2⟩ := x3 μ v t e
            change m_X3_readLine N Λ (rd ad 52 μ i v) (ad 52) = _ at e2
            rw [bbB_t rfl] at e2
            obtain ⟨μ3, v3, e3, t3, c3, f3⟩ := y3 μ2 v2 t2 (c2 rfl)
            refine ⟨μ3, v3, ?_, t3, c3, f2.trans f3⟩
            have e5 := t2.2.2.2.2.2.2.1
            have e4 := c_ts_t hN (Or.inr rfl) hj hP hD t2 x1 v2 (show 59 = 40 ∨ 59 = 41 ∨ 59 = 43 ∨ 59 = 59 ∨ 59 = 60 ∨ 59 = 62 by omega) hs
            have key : ∀ K, bd_X7_readLines_3_15 N Λ (rd ad 52 μ i v) K (ad 52) (n3 12) (n3 h) = K (n3 (h + 1), rd ad 52 μ2 (i1 + 1) v2) := fun K => by
              simp (disch := omega) only [bd_X7_readLines_3_15, e2, n3_lit, e4, rd_1, rd_3, e5, ↓lt_e, ↓gd_e, ↓Option.bind_some, ↓reduceIte, if_true, if_false, if_pT, if_nF, decide_true, Bool.not_true, Bool.not_false, not_true_eq_false, not_false_eq_true, Bool.false_eq_true, Bool.true_eq_false, eq_self, n3_le_f, n3_eq_f, n3_add]
            exact (key _).trans e3
          · obtain ⟨μ2, p2, b2, e2, t2, c2, d2, f2, w2, k2⟩ := x4 μ t r e
            change m_X12_readLawLine N Λ (pt ad μ (LE T n i) (BT T n i)) (ad 181) (n3 h) = _ at e2
            rw [bbB_t rfl] at e2
            obtain ⟨r2, r16, pl2, pb2⟩ := c2 rfl
            obtain ⟨μ3, p3, b3, e3, r3, d3, f3, w3, k3⟩ := y4 μ2 t2 r2 r16
            have bl := bl' μ2 p2 b2 t2 pl2 pb2
            have k11 : (pt ad μ2 (BT T n i1) (BT T n i1)).1 (ad 181) 11 = n3 n := by rw [pt_k ad μ2 _ _ (by omega)]; exact t2.2.1
            have ia := r_isAt (N := N) hN hj hR t2 b1 (BT T n i1) (n3 59) (n3 59)
            rw [bb_t ⟨h1.1, by rw [h1.2]; exact ⟨Int32.le_refl _, Int32.le_refl _⟩⟩] at ia
            refine ⟨μ3, p3, b3, ?_, r3, d3, f2.trans f3, fun k hk => by rw [w3 k hk, w2 k hk], fun k a1 a2 a3 a4 => by rw [k3 k a1 a2 a3 a4, k2 k a1 a2 a3 a4]⟩
            have key : ∀ K, bd_X12_readAll_28 N Λ (pt ad μ pe b) K (ad 181) (n3 0) (n3 h) = K (n3 (h + 1), pt ad μ2 (BT T n i1 + 1) (BT T n i1)) := fun K => by
              rw [rl μ t, e2]
              simp (disch := omega) only [jn_X12_readLine_41, jn_X12_readLine_46, bl, pt_10, k11, n3_lit, ia, pt_s10, ↓lt_e, ↓gd_e, ↓Option.bind_some, ↓reduceIte, if_true, if_false, if_pT, if_nF, decide_true, Bool.not_true, Bool.not_false, not_true_eq_false, not_false_eq_true, Bool.false_eq_true, Bool.true_eq_false, eq_self, n3_lit, n3_add, n3_mul, n3_sub, n3_tn, n3_le_t, n3_le_f, n3_lt_t, n3_lt_f, n3_eq_f, n3_eq_t, n3_inb, n3_rem, n3_div, n3_zb, bb_0, bb_1, zb_bb, bb_T, bb_F, n3_dec, n3_m1, n3_eqm, n3_eqmt, n3_ltm, n3_mlt, n3_lem, n3_mle, n3_neg_lt, n3_nlt_neg, n3_nle_neg, n3_neg_le]
            exact (key _).trans e3

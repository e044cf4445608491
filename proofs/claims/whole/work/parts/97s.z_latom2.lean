/-! conditions -/
def AX (N : Nat) (Λ : Lay) (ad : Nat → Nat) (T : Nat → Int32) (n m dp : Nat) (fA : Mem → Nat → Int32 → Option (Int32 × Mem)) (gA : Mem → Nat → Option (Int32 × Mem)) : Prop := ∀ H c i pe b, c + 3 ≤ i → i ≤ m → pe ≤ n → nb T n pe = BT T n i → XO ad T n m H c i dp false true (2 * dp + 2) (fun μ v => fA (rd ad 52 μ i v) (ad 52) (n3 dp)) (fun μ => gA (pt ad μ pe b) (ad 181))
theorem x_all {N : Nat} (hN : 1099511627776 ≤ N) {Λ : Lay} {ad : Nat → Nat} (hj : Inj ad) (hP : LyP Λ ad) (hD : LyD Λ ad 52 36 2) (hR : LyR Λ ad) (hL : LyL Λ ad 36) {T : Nat → Int32} {n m : Nat} (hm : Tm T n m) {fA : Mem → Nat → Int32 → Option (Int32 × Mem)} {gA : Mem → Nat → Option (Int32 × Mem)} {dp : Nat} (hA : AX N Λ ad T n m dp fA gA) {H : Nat → Nat} {c i pe b : Nat} (hc : c + 3 ≤ i) (hi : i ≤ m) (hpe : pe ≤ n) (hpb : nb T n pe = BT T n i) : XO ad T n m H c i dp false true (2 * dp + 1) (fun μ v => m_X3_readAll N Λ fA (rd ad 52 μ i v) (ad 52) (n3 dp)) (fun μ => m_X12_readAllOf N Λ gA (pt ad μ pe b) (ad 181)) :=
  x_rep hN hj hP hD hR hL hm (tC := fun μ => m_X7_takeWord N Λ μ (ad 52) 0) (xC := fun μ => fA μ (ad 52) (n3 dp)) (tR := fun μ => m_X12_passes N Λ μ (ad 181) 0) (xR := fun μ => gA μ (ad 181)) (O := fun i => WT T n i 0) (kd := true) (op := 15) (L := 2 * dp + 1) (dp := dp) (fun i h => by rw [WT_K h]; decide)
    (fun μ i v t hi h => c_tw_t hN (Or.inr rfl) hj hP hD t hi v (by decide) h) (fun μ i v t hi h => c_tw_f hN (Or.inr rfl) hj hP hD t hi v (by decide) h)
    (fun μ i pe b t h1 h2 h => r_ps_t hN hj hR t h1 h2 b (by decide) h) (fun μ i pe b t h1 h2 h => r_ps_f hN hj hR t h1 h2 b (by decide) h)
    (fun H c i pe b h1 h2 h3 h4 => hA H c i pe b h1 h2 h3 h4) (fun ts => rfl) (-12) rfl hc hi hpe hpb
theorem x_any {N : Nat} (hN : 1099511627776 ≤ N) {Λ : Lay} {ad : Nat → Nat} (hj : Inj ad) (hP : LyP Λ ad) (hD : LyD Λ ad 52 36 2) (hR : LyR Λ ad) (hL : LyL Λ ad 36) {T : Nat → Int32} {n m : Nat} (hm : Tm T n m) {fA : Mem → Nat → Int32 → Option (Int32 × Mem)} {gA : Mem → Nat → Option (Int32 × Mem)} {dp : Nat} (hA : AX N Λ ad T n m dp fA gA) {H : Nat → Nat} {c i pe b : Nat} (hc : c + 3 ≤ i) (hi : i ≤ m) (hpe : pe ≤ n) (hpb : nb T n pe = BT T n i) : XO ad T n m H c i dp false true (2 * dp) (fun μ v => m_X3_readAny N Λ fA (rd ad 52 μ i v) (ad 52) (n3 dp)) (fun μ => m_X12_readCond N Λ gA (pt ad μ pe b) (ad 181)) :=
  x_rep hN hj hP hD hR hL hm (tC := fun μ => m_X7_takeWord N Λ μ (ad 52) 15) (xC := fun μ => m_X3_readAll N Λ fA μ (ad 52) (n3 dp)) (tR := fun μ => m_X12_passes N Λ μ (ad 181) 15) (xR := fun μ => m_X12_readAllOf N Λ gA μ (ad 181)) (O := fun i => WT T n i 15) (kd := true) (op := 16) (L := 2 * dp) (dp := dp) (fun i h => by rw [WT_K h]; decide)
    (fun μ i v t hi h => c_tw_t hN (Or.inr rfl) hj hP hD t hi v (by decide) h) (fun μ i v t hi h => c_tw_f hN (Or.inr rfl) hj hP hD t hi v (by decide) h)
    (fun μ i pe b t h1 h2 h => r_ps_t hN hj hR t h1 h2 b (by decide) h) (fun μ i pe b t h1 h2 h => r_ps_f hN hj hR t h1 h2 b (by decide) h)
    (fun H c i pe b h1 h2 h3 h4 => x_all hN hj hP hD hR hL hm hA h1 h2 h3 h4) (fun ts => rfl) (-13) rfl hc hi hpe hpb
theorem ST_1 {T : Nat → Int32} {n i c : Nat} (hc : c = 40 ∨ c = 41 ∨ c = 43 ∨ c = 59 ∨ c = 60 ∨ c = 62) (h : KT T n i = 1) : ST T n i c = false := by
  cases h2 : ST T n i c with
  | false => rfl
  | true =>
    have h1 := of_decide_eq_true h2
    rw [KT_t h1.1, kd_s hc h1.2] at h
    exact absurd h (by decide)
theorem ST_W {T : Nat → Int32} {n i c w : Nat} (hc : c = 40 ∨ c = 41 ∨ c = 43 ∨ c = 59 ∨ c = 60 ∨ c = 62) (h : ST T n i c = true) : WT T n i w = false := by
  have h1 := of_decide_eq_true h
  exact WT_k (by rw [KT_t h1.1, kd_s hc h1.2]; decide)
theorem x_atom {N : Nat} (hN : 1099511627776 ≤ N) {Λ : Lay} {ad : Nat → Nat} (hj : Inj ad) (hP : LyP Λ ad) (hD : LyD Λ ad 52 36 2) (hR : LyR Λ ad) (hL : LyL Λ ad 36) {T : Nat → Int32} {n m : Nat} (hm : Tm T n m) {fA : Mem → Nat → Int32 → Option (Int32 × Mem)} {gA : Mem → Nat → Option (Int32 × Mem)} {dp : Nat} (hdp : dp ≤ 6) (hA : dp < 6 → AX N Λ ad T n m (dp + 1) fA gA) : AX N Λ ad T n m dp (fun μ a x => o_X3_readAtom N Λ fA μ a x) (fun μ a => o_X12_readAtom N Λ gA μ a) := by
  intro H c i pe b hc hi hpe hpb
  have hm4 := hm.1
  have hmn := hm.2.1
  have bt := BT_le T n i
  have hc4 : c < 400 := by omega
  have h40 : 40 = 40 ∨ 40 = 41 ∨ 40 = 43 ∨ 40 = 59 ∨ 40 = 60 ∨ 40 = 62 := by omega
  have h41 : 41 = 40 ∨ 41 = 41 ∨ 41 = 43 ∨ 41 = 59 ∨ 41 = 60 ∨ 41 = 62 := by omega
  have ct : ∀ {w : Nat}, w < 23 → WT T n i w = true → ∀ {μ : Mem} (v : Nat), TkC ad μ 52 T n m → m_X7_takeWord N Λ (rd ad 52 μ i v) (ad 52) w = some (n3 1, rd ad 52 μ (i + 1) v) := by
    intro w hw' h μ v t
    exact c_tw_t hN (Or.inr rfl) hj hP hD t hi v hw' h
  have cf : ∀ {w : Nat}, w < 23 → WT T n i w = false → ∀ {μ : Mem} (v : Nat), TkC ad μ 52 T n m → m_X7_takeWord N Λ (rd ad 52 μ i v) (ad 52) w = some (n3 0, rd ad 52 μ i v) := by
    intro w hw' h μ v t
    exact c_tw_f hN (Or.inr rfl) hj hP hD t hi v hw' h
  have rt : ∀ {w : Nat}, w < 23 → WT T n i w = true → ∀ {μ : Mem}, TkR ad μ T n → m_X12_isWord N Λ (pt ad μ (LE T n i) (BT T n i)) (ad 181) w = some (n3 1) := fun {w} hw' h {μ} t => by rw [r_isWord hN hj hR t i w hw', h, bbB_t rfl]
  have rf : ∀ {w : Nat}, w < 23 → WT T n i w = false → ∀ {μ : Mem}, TkR ad μ T n → m_X12_isWord N Λ (pt ad μ (LE T n i) (BT T n i)) (ad 181) w = some (n3 0) := fun {w} hw' h {μ} t => by rw [r_isWord hN hj hR t i w hw', h, bbB_f rfl]
  have d13 : ∀ {μ : Mem} {x : Nat} (p b : Nat), μ.1 (ad 181) 13 = n3 x → (pt ad μ p b).1 (ad 181) 13 = n3 x := fun {μ} {x} p b h => by rw [pt_k ad μ p b (by omega)]; exact h
  cases h13 : WT T n i 13 with
  | true =>
    have hi1 := hm.w hi h13
    have hk1 := WT_K h13
    have hs4 := ST_1 h40 hk1
    by_cases hd6 : dp < 6
    · obtain ⟨ok1, i1, k1, H1, y1, y2, y3, y4⟩ := hA hd6 H c (i + 1) (te T n (BT T n i)) (BT T n i) (by omega) hi1 (te_le T bt) rfl
      have kc : ∀ μ v, TkC ad μ 52 T n m → o_X3_readAtom N Λ fA (rd ad 52 μ i v) (ad 52) (n3 dp) = (fA (rd ad 52 μ (i + 1) v) (ad 52) (n3 (dp + 1))).bind fun r36 => if r36.1 = 0 then (jn_X3_readAtom_84 N Λ fA r36.2) else ((dr Λ (ad 52) 7 2).bind fun q39 => (m_X2_add N Λ r36.2 q39 (-11)).bind fun r41 => if r41.1 = 0 then (jn_X3_readAtom_84 N Λ fA r41.2) else (jn_X3_readAtom_85 N Λ fA r41.2 1)) := fun μ v t => by
        refine (tw1 (ct (by decide) h13 v t)).trans ?_
        have e6 : n3 dp < 6 := by rw [n3_lit 6, n3_lt_t hd6 (by omega)]; trivial
        show jn_X3_readAtom_41 N Λ fA (rd ad 52 μ (i + 1) v) (ad 52) (n3 dp) ((rd ad 52 μ i v).1 (ad 52) 1) (n3 1) (n3 0) = _
        unfold jn_X3_readAtom_41
        rw [if_pos e6]
        show (fA (rd ad 52 μ (i + 1) v) (ad 52) (n3 dp + n3 1)).bind _ = _
        rw [n3_add]
      have kr : ∀ μ, TkR ad μ T n → μ.1 (ad 181) 13 = n3 dp → o_X12_readAtom N Λ gA (pt ad μ pe b) (ad 181) = (gA (pt ad (mset μ (ad 181) 13 (n3 (dp + 1))) (te T n (BT T n i)) (BT T n i)) (ad 181)).bind fun r22 => if r22.1 = 0 then (some (0, r22.2)) else (lt (mset r22.2 (ad 181) 13 ((r22.2.1 (ad 181) 13) - 1)) fun μ25 => (m_X12_emits N Λ μ25 (ad 181) 14 0).bind fun r27 => some (1, r27)) := fun μ t e13 => by
        refine (tw0 (r_sg_f hN hj hR t hpe hpb b hs4)).trans ((tw1 (r_ps_t hN hj hR t bt (BT_nb T n i) (BT T n i) (by decide) h13)).trans ?_)
        have q := d13 (te T n (BT T n i)) (BT T n i) e13
        have ne : ¬ (n3 dp = 6) := by rw [n3_lit 6, n3_eq_f (a := dp) (b := 6) (by omega) (by omega) (by omega)]; exact id
        show (if (pt ad μ (te T n (BT T n i)) (BT T n i)).1 (ad 181) 13 = 6 then _ else _) = _
        rw [q, if_neg ne]
        show (gA (mset (pt ad μ (te T n (BT T n i)) (BT T n i)) (ad 181) 13 (n3 dp + n3 1)) (ad 181)).bind _ = _
        rw [n3_add, pt_wk ad μ _ _ (by omega)]
      cases ok1 with
      | false =>
        refine ⟨false, i1, c, H, y1, fun h => absurd h (by decide), fun μ v t e => ?_, fun μ t r e1 e2 => ?_⟩
        · obtain ⟨μ2, v2, q2, t2, e2, f2, z2⟩ := y3 μ v t e
          exact ⟨μ2, v2, (kc μ v t).trans ((tw0 q2).trans rfl), t2, fun h => absurd h (by decide), f2, z2⟩
        · obtain ⟨μ2, p2, b2, q2, t2, g2, d2, f2, w2, k2⟩ := y4 (mset μ (ad 181) 13 (n3 (dp + 1))) (t.fr (msn (by omega)) (mso hj (by omega))) (r.off (mso hj (by omega))) (by rw [msn (by omega)]; exact e1) (mse _ _ _ _)
          refine ⟨μ2, p2, b2, (kr μ t e2).trans (tw0 q2), t2, fun h => absurd h (by decide), d2, Fr.trans ((Fr.refl μ).set hj (by omega)) f2, fun k hk => by rw [w2 k hk, mso hj (by omega)], fun k a1 a2 a3 a4 => by rw [k2 k a1 a2 a3 a4, msn a3]⟩
      | true =>
        obtain ⟨x1, x2, x3, x4, x5, x6⟩ := y2 rfl
        have hk14 : k1 < 400 := by omega
        refine ⟨true, i1, k1 + 1, emH H1 k1 14 0, y1, fun _ => ⟨by omega, by omega, by omega, fun p hp => ?_, fun ts hts => ?_, fun j j1 j2 => ?_⟩, fun μ v t e => ?_, fun μ t r e1 e2 => ?_⟩
        · rw [emH_lo (by omega), x4 p hp]
        · have a1 := x5 ts (by omega)
          rw [← tyR_congr (H' := emH H1 k1 14 0) (k1 - c) (fun j hj => by rw [emH_lo (by omega)])] at a1
          have a3 : tyR (emH H1 k1 14 0) k1 (k1 + 1 - k1) (true :: ts) = some (true :: ts) := by
            rw [Nat.add_sub_cancel_left, tyR_one, emH_0]
            cases ts <;> rfl
          exact tyR_split (show c ≤ k1 by omega) (show k1 ≤ k1 + 1 by omega) a1 a3
        · by_cases j4 : j = k1
          · subst j4; rw [emH_1]; omega
          · rw [emH_lo (by omega)]; exact x6 j j1 (by omega)
        · obtain ⟨μ2, v2, q2, t2, e2, f2, y5⟩ := y3 μ v t e
          have ca := c_add (N := N) hj hL (e2 rfl) hk14 i1 v2 (-11)
          refine ⟨emC ad μ2 k1 (-11), v2, (kc μ v t).trans ((tw1 q2).trans ?_), t2.em hj _ _, fun _ => (e2 rfl).em hj 14 0, f2.trans (emC_fr hj μ2 k1 (-11)), by rw [emC_0 hj, y5]⟩
          show ((dr Λ (ad 52) 7 2).bind fun q39 => (m_X2_add N Λ (rd ad 52 μ2 i1 v2) q39 (-11)).bind _) = _
          rw [hD.2.2.2.2.1, Option.bind_some, ca]; rfl
        · obtain ⟨μ2, p2, b2, q2, t2, g2, d2, f2, w2', k2'⟩ := y4 (mset μ (ad 181) 13 (n3 (dp + 1))) (t.fr (msn (by omega)) (mso hj (by omega))) (r.off (mso hj (by omega))) (by rw [msn (by omega)]; exact e1) (mse _ _ _ _)
          obtain ⟨g21, g22, g23, g24, g25⟩ := g2 rfl
          have e16 : (mset μ2 (ad 181) 13 (n3 dp)).1 (ad 181) 16 = n3 k1 := by rw [msn (by omega)]; exact g22
          have re' := r_emits (N := N) hj hR e16 hk14 p2 b2 14 0
          have tk : TkR ad (mset μ2 (ad 181) 13 (n3 dp)) T n := t2.fr (msn (by omega)) (mso hj (by omega))
          have ff : Fr ad (fun j => j = 181 ∨ j = 182) μ (mset μ2 (ad 181) 13 (n3 dp)) := (Fr.trans ((Fr.refl μ).set hj (by omega)) f2).set hj (by omega)
          refine ⟨emR ad (mset μ2 (ad 181) 13 (n3 dp)) k1 14 0, p2, b2, (kr μ t e2).trans ((tw1 q2).trans ?_), tk.em hj _ _ _, fun _ => ⟨emR_row hj (g21.off (mso hj (by omega))) k1 14 0, emR_16 ad _ k1 14 0, by rw [emR_k hj _ k1 14 0 (by omega), mse], g24, g25⟩, fun h => absurd h (by decide), ff.trans (emR_fr hj _ k1 14 0), fun k hk => by rw [emR_lo hj _ k1 14 0 (by omega), mso hj (by omega), w2' k hk, mso hj (by omega)], fun k a1 a2 a3 a4 => by rw [emR_k hj _ k1 14 0 a4, msn a3, k2' k a1 a2 a3 a4, msn a3]⟩
          show (m_X12_emits N Λ (mset (pt ad μ2 p2 b2) (ad 181) 13 ((pt ad μ2 p2 b2).1 (ad 181) 13 - n3 1)) (ad 181) (n3 14) (n3 0)).bind _ = _
          rw [d13 p2 b2 g23, n3_sub (by omega), Nat.add_sub_cancel, pt_wk ad μ2 _ _ (by omega), re']; rfl
    · have hd : dp = 6 := by omega
      subst hd
      refine XO.fail i hi (fun μ v t e => ⟨v, ?_⟩) (fun μ t r e1 e2 => ⟨te T n (BT T n i), ?_⟩)
      · refine (tw1 (ct (by decide) h13 v t)).trans ?_
        show some (n3 0, mset (rd ad 52 μ (i + 1) v) (ad 52) 1 ((rd ad 52 μ i v).1 (ad 52) 1)) = _
        rw [rd_1, rd_s1]
      · refine (tw0 (r_sg_f hN hj hR t hpe hpb b hs4)).trans ((tw1 (r_ps_t hN hj hR t bt (BT_nb T n i) (BT T n i) (by decide) h13)).trans ?_)
        show (if (pt ad μ (te T n (BT T n i)) (BT T n i)).1 (ad 181) 13 = 6 then _ else _) = _
        rw [d13 _ _ e2]; rfl
  | false =>
  cases h4 : ST T n i 40 with
  | true =>
    have hi1 := hm.kt hi (ST_k h40 h4)
    by_cases hd6 : dp < 6
    · obtain ⟨ok1, i1, k1, H1, y1, y2, y3, y4⟩ := x_any hN hj hP hD hR hL hm (hA hd6) (H := H) (c := c) (i := i + 1) (pe := te T n (BT T n i)) (b := BT T n i) (by omega) hi1 (te_le T bt) rfl
      have kc : ∀ μ v, TkC ad μ 52 T n m → o_X3_readAtom N Λ fA (rd ad 52 μ i v) (ad 52) (n3 dp) = (m_X3_readAny N Λ fA (rd ad 52 μ (i + 1) v) (ad 52) (n3 (dp + 1))).bind fun r30 => if r30.1 = 0 then (jn_X3_readAtom_114 N Λ fA r30.2) else ((m_X7_takeSign N Λ r30.2 (ad 52) 41).bind fun r33 => if r33.1 = 0 then (jn_X3_readAtom_114 N Λ fA r33.2) else (jn_X3_readAtom_115 N Λ fA r33.2 1)) := fun μ v t => by
        refine (tw0 (cf (by decide) h13 v t)).trans ((tw1 (c_ts_t hN (Or.inr rfl) hj hP hD t hi v h40 h4)).trans ?_)
        have e6 : n3 dp < 6 := by rw [n3_lit 6, n3_lt_t hd6 (by omega)]; trivial
        show jn_X3_readAtom_41 N Λ fA (rd ad 52 μ (i + 1) v) (ad 52) (n3 dp) ((rd ad 52 μ i v).1 (ad 52) 1) (n3 0) (n3 1) = _
        unfold jn_X3_readAtom_41
        rw [if_pos e6]
        show (m_X3_readAny N Λ fA (rd ad 52 μ (i + 1) v) (ad 52) (n3 dp + n3 1)).bind _ = _
        rw [n3_add]
      have kr : ∀ μ, TkR ad μ T n → μ.1 (ad 181) 13 = n3 dp → o_X12_readAtom N Λ gA (pt ad μ pe b) (ad 181) = (m_X12_readCond N Λ gA (pt ad (mset μ (ad 181) 13 (n3 (dp + 1))) (te T n (BT T n i)) (BT T n i)) (ad 181)).bind fun r32 => if r32.1 = 0 then (some (0, r32.2)) else (lt (mset r32.2 (ad 181) 13 ((r32.2.1 (ad 181) 13) - 1)) fun μ35 => (m_X12_sign N Λ μ35 (ad 181) 41).bind fun r37 => gd (zb r37.1) <| some (r37.1, r37.2)) := fun μ t e13 => by
        refine (tw1 (r_sg_t hN hj hR t hpe hpb b h40 h4)).trans ?_
        have q := d13 (te T n (BT T n i)) (BT T n i) e13
        have ne : ¬ (n3 dp = 6) := by rw [n3_lit 6, n3_eq_f (a := dp) (b := 6) (by omega) (by omega) (by omega)]; exact id
        show (if (pt ad μ (te T n (BT T n i)) (BT T n i)).1 (ad 181) 13 = 6 then _ else _) = _
        rw [q, if_neg ne]
        show (m_X12_readCond N Λ gA (mset (pt ad μ (te T n (BT T n i)) (BT T n i)) (ad 181) 13 (n3 dp + n3 1)) (ad 181)).bind _ = _
        rw [n3_add, pt_wk ad μ _ _ (by omega)]
      cases ok1 with
      | false =>
        refine ⟨false, i1, c, H, y1, fun h => absurd h (by decide), fun μ v t e => ?_, fun μ t r e1 e2 => ?_⟩
        · obtain ⟨μ2, v2, q2, t2, e2, f2, z2⟩ := y3 μ v t e
          exact ⟨μ2, v2, (kc μ v t).trans ((tw0 q2).trans rfl), t2, fun h => absurd h (by decide), f2, z2⟩
        · obtain ⟨μ2, p2, b2, q2, t2, g2, d2, f2, w2, k2⟩ := y4 (mset μ (ad 181) 13 (n3 (dp + 1))) (t.fr (msn (by omega)) (mso hj (by omega))) (r.off (mso hj (by omega))) (by rw [msn (by omega)]; exact e1) (mse _ _ _ _)
          refine ⟨μ2, p2, b2, (kr μ t e2).trans (tw0 q2), t2, fun h => absurd h (by decide), d2, Fr.trans ((Fr.refl μ).set hj (by omega)) f2, fun k hk => by rw [w2 k hk, mso hj (by omega)], fun k a1 a2 a3 a4 => by rw [k2 k a1 a2 a3 a4, msn a3]⟩
      | true =>
        obtain ⟨x1, x2, x3, x4, x5, x6⟩ := y2 rfl
        have bt1 := BT_le T n i1
        have rr : ∀ μ, TkR ad μ T n → Row μ (ad 182) 2071 H → μ.1 (ad 181) 16 = n3 c → μ.1 (ad 181) 13 = n3 dp → ∃ μ2 p2 b2, o_X12_readAtom N Λ gA (pt ad μ pe b) (ad 181) = ((m_X12_sign N Λ (pt ad μ2 p2 b2) (ad 181) 41).bind fun r37 => gd (zb r37.1) <| some (r37.1, r37.2)) ∧ TkR ad μ2 T n ∧ Row μ2 (ad 182) 2071 H1 ∧ μ2.1 (ad 181) 16 = n3 k1 ∧ μ2.1 (ad 181) 13 = n3 dp ∧ p2 ≤ n ∧ nb T n p2 = BT T n i1 ∧ Fr ad (fun j => j = 181 ∨ j = 182) μ μ2 ∧ (∀ k, k < 1271 + 2 * c → μ2.1 (ad 182) k = μ.1 (ad 182) k) ∧ ∀ k, k ≠ 10 → k ≠ 12 → k ≠ 13 → k ≠ 16 → μ2.1 (ad 181) k = μ.1 (ad 181) k := fun μ t r e1 e2 => by
          obtain ⟨μ2, p2, b2, q2, t2, g2, d2, f2, w2', k2'⟩ := y4 (mset μ (ad 181) 13 (n3 (dp + 1))) (t.fr (msn (by omega)) (mso hj (by omega))) (r.off (mso hj (by omega))) (by rw [msn (by omega)]; exact e1) (mse _ _ _ _)
          obtain ⟨g21, g22, g23, g24, g25⟩ := g2 rfl
          refine ⟨mset μ2 (ad 181) 13 (n3 dp), p2, b2, (kr μ t e2).trans ((tw1 q2).trans ?_), t2.fr (msn (by omega)) (mso hj (by omega)), g21.off (mso hj (by omega)), by rw [msn (by omega)]; exact g22, mse _ _ _ _, g24, g25, (Fr.trans ((Fr.refl μ).set hj (by omega)) f2).set hj (by omega), fun k hk => by rw [mso hj (by omega), w2' k hk, mso hj (by omega)], fun k a1 a2 a3 a4 => by rw [msn a3, k2' k a1 a2 a3 a4, msn a3]⟩
          show (m_X12_sign N Λ (mset (pt ad μ2 p2 b2) (ad 181) 13 ((pt ad μ2 p2 b2).1 (ad 181) 13 - n3 1)) (ad 181) 41).bind _ = _
          rw [d13 p2 b2 g23, n3_sub (by omega), Nat.add_sub_cancel, pt_wk ad μ2 _ _ (by omega)]
        cases h5 : ST T n i1 41 with
        | true =>
          have hi2 := hm.kt y1 (ST_k h41 h5)
          refine ⟨true, i1 + 1, k1, H1, hi2, fun _ => ⟨by omega, by omega, by omega, x4, fun ts hts => x5 ts (by omega), x6⟩, fun μ v t e => ?_, fun μ t r e1 e2 => ?_⟩
          · obtain ⟨μ2, v2, q2, t2, e2, f2, z2⟩ := y3 μ v t e
            exact ⟨μ2, v2, (kc μ v t).trans ((tw1 q2).trans ((tw1 (c_ts_t hN (Or.inr rfl) hj hP hD t2 y1 v2 h41 h5)).trans rfl)), t2, e2, f2, z2⟩
          · obtain ⟨μ2, p2, b2, q2, t2, g1, g2, g3, g4, g5, f2, w2, k2⟩ := rr μ t r e1 e2
            refine ⟨μ2, te T n (BT T n i1), BT T n i1, q2.trans ?_, t2, fun _ => ⟨g1, g2, g3, te_le T bt1, rfl⟩, fun h => absurd h (by decide), f2, w2, k2⟩
            have e := r_sg_t hN hj hR t2 g4 g5 b2 h41 h5
            show (m_X12_sign N Λ (pt ad μ2 p2 b2) (ad 181) (n3 41)).bind _ = _
            rw [e]; rfl
        | false =>
          refine ⟨false, i1, c, H, y1, fun h => absurd h (by decide), fun μ v t e => ?_, fun μ t r e1 e2 => ?_⟩
          · obtain ⟨μ2, v2, q2, t2, e2, f2, z2⟩ := y3 μ v t e
            exact ⟨μ2, v2, (kc μ v t).trans ((tw1 q2).trans ((tw0 (c_ts_f hN (Or.inr rfl) hj hP hD t2 y1 v2 h41 h5)).trans rfl)), t2, fun h => absurd h (by decide), f2, z2⟩
          · obtain ⟨μ2, p2, b2, q2, t2, g1, g2, g3, g4, g5, f2, w2, k2⟩ := rr μ t r e1 e2
            refine ⟨μ2, BT T n i1, BT T n i1, q2.trans ?_, t2, fun h => absurd h (by decide), fun _ => rfl, f2, w2, k2⟩
            have e := r_sg_f hN hj hR t2 g4 g5 b2 h5
            show (m_X12_sign N Λ (pt ad μ2 p2 b2) (ad 181) (n3 41)).bind _ = _
            rw [e]; rfl
    · have hd : dp = 6 := by omega
      subst hd
      refine XO.fail i hi (fun μ v t e => ⟨v, ?_⟩) (fun μ t r e1 e2 => ⟨te T n (BT T n i), ?_⟩)
      · refine (tw0 (cf (by decide) h13 v t)).trans ((tw1 (c_ts_t hN (Or.inr rfl) hj hP hD t hi v h40 h4)).trans ?_)
        show some (n3 0, mset (rd ad 52 μ (i + 1) v) (ad 52) 1 ((rd ad 52 μ i v).1 (ad 52) 1)) = _
        rw [rd_1, rd_s1]
      · refine (tw1 (r_sg_t hN hj hR t hpe hpb b h40 h4)).trans ?_
        show (if (pt ad μ (te T n (BT T n i)) (BT T n i)).1 (ad 181) 13 = 6 then _ else _) = _
        rw [d13 _ _ e2]; rfl
  | false =>
    have kc : ∀ μ v, TkC ad μ 52 T n m → o_X3_readAtom N Λ fA (rd ad 52 μ i v) (ad 52) (n3 dp) = jn_X3_readAtom_54 N Λ fA (rd ad 52 μ i v) (ad 52) (n3 dp) (n3 0) (n3 0) := fun μ v t => by
      refine (tw0 (cf (by decide) h13 v t)).trans ((tw0 (c_ts_f hN (Or.inr rfl) hj hP hD t hi v h40 h4)).trans ?_)
      rfl
    have kr : ∀ μ, TkR ad μ T n → o_X12_readAtom N Λ gA (pt ad μ pe b) (ad 181) = ((m_X12_readTag N Λ (pt ad μ (BT T n i) (BT T n i)) (ad 181)).bind fun r7 => if r7.1 = 0 then cmR N Λ gA r7.2 (ad 181) else some (1, r7.2)) := fun μ t => by
      refine (tw0 (r_sg_f hN hj hR t hpe hpb b h4)).trans ((tw0 (r_ps_f hN hj hR t bt (BT_nb T n i) (BT T n i) (by decide) h13)).trans ?_)
      rfl
    have tg : ∀ μ, TkR ad μ T n → m_X12_readTag N Λ (pt ad μ (BT T n i) (BT T n i)) (ad 181) = ((m_X12_isWord N Λ (pt ad μ (LE T n i) (BT T n i)) (ad 181) 14).bind fun r3 => if r3 = 0 then ((m_X12_isWord N Λ (pt ad μ (LE T n i) (BT T n i)) (ad 181) 4).bind fun r6 => if r6 = 0 then ((m_X12_isWord N Λ (pt ad μ (LE T n i) (BT T n i)) (ad 181) 8).bind fun r9 => if r9 = 0 then (jn_X12_readTag_47 N Λ (pt ad μ (LE T n i) (BT T n i)) (ad 181) (-1)) else (jn_X12_readTag_47 N Λ (pt ad μ (LE T n i) (BT T n i)) (ad 181) 9)) else (jn_X12_readTag_47 N Λ (pt ad μ (LE T n i) (BT T n i)) (ad 181) 8)) else (jn_X12_readTag_47 N Λ (pt ad μ (LE T n i) (BT T n i)) (ad 181) 7)) := fun μ t => by
      unfold m_X12_readTag
      rw [r_let hN hj hR t bt (BT_nb T n i) (BT T n i)]; rfl
    have tgw : ∀ μ cd, μ.1 (ad 181) 16 = n3 c → KT T n i = 1 → cd = 7 ∨ cd = 8 ∨ cd = 9 → jn_X12_readTag_47 N Λ (pt ad μ (LE T n i) (BT T n i)) (ad 181) (n3 cd) = some (n3 1, pt ad (emR ad μ c cd 0) (te T n (BT T n i)) (BT T n i)) := fun μ cd e1 hk hcd => by
      have re' := r_emits (N := N) hj hR e1 hc4 (LE T n i) (BT T n i) cd 0
      rw [← LE_1 hk]
      simp (disch := omega) only [jn_X12_readTag_47, jn_X12_readTag_69, jn_X12_readTag_78, n3_lit, re', ↓lt_e, ↓gd_e, ↓Option.bind_some, ↓reduceIte, if_true, if_false, if_pT, if_nF, decide_true, Bool.not_true, Bool.not_false, not_true_eq_false, not_false_eq_true, Bool.false_eq_true, Bool.true_eq_false, eq_self, n3_lt_f, n3_zb]
    have one : ∀ (w cd : Nat) (x : Int32), (cd = 7 ∨ cd = 8 ∨ cd = 9) → itm cd 0 = x → WT T n i w = true → (∀ μ v, TkC ad μ 52 T n m → jn_X3_readAtom_54 N Λ fA (rd ad 52 μ i v) (ad 52) (n3 dp) (n3 0) (n3 0) = ((dr Λ (ad 52) 7 2).bind fun q => (m_X2_add N Λ (rd ad 52 μ (i + 1) v) q x).bind fun r => gd (zb r.1) <| some (r.1, r.2))) → (∀ μ, TkR ad μ T n → m_X12_readTag N Λ (pt ad μ (BT T n i) (BT T n i)) (ad 181) = jn_X12_readTag_47 N Λ (pt ad μ (LE T n i) (BT T n i)) (ad 181) (n3 cd)) → XO ad T n m H c i dp false true (2 * dp + 2) (fun μ v => o_X3_readAtom N Λ fA (rd ad 52 μ i v) (ad 52) (n3 dp)) (fun μ => o_X12_readAtom N Λ gA (pt ad μ pe b) (ad 181)) := fun w cd x hcd hx hwt h1 h2 => by
      refine XO.one hj cd 0 (hm.w hi hwt) (by omega) (tyc_lo (by omega) (decide_eq_true (by omega)) (by omega)) (fun μ v t e => ⟨v, ?_⟩) (fun μ t r e1 e2 => ⟨BT T n i, ?_⟩)
      · rw [hx]
        exact (kc μ v t).trans ((h1 μ v t).trans (adz hD.2.2.2.2.1 (c_add (N := N) hj hL e hc4 (i + 1) v x)))
      · exact (kr μ t).trans (tw1 ((h2 μ t).trans (tgw μ cd e1 (WT_K hwt) hcd)))
    cases h14 : WT T n i 14 with
    | true =>
      exact one 14 7 (-8) (by omega) rfl h14 (fun μ v t => (tw1 (ct (by decide) h14 v t)).trans rfl) (fun μ t => by rw [tg μ t, rt (by decide) h14 t]; rfl)
    | false =>
    cases h04 : WT T n i 4 with
    | true =>
      exact one 4 8 (-9) (by omega) rfl h04 (fun μ v t => (tw0 (cf (by decide) h14 v t)).trans ((tw1 (ct (by decide) h04 v t)).trans rfl)) (fun μ t => by rw [tg μ t, rf (by decide) h14 t, rt (by decide) h04 t]; rfl)
    | false =>
    cases h8 : WT T n i 8 with
    | true =>
      exact one 8 9 (-10) (by omega) rfl h8 (fun μ v t => (tw0 (cf (by decide) h14 v t)).trans ((tw0 (cf (by decide) h04 v t)).trans ((tw1 (ct (by decide) h8 v t)).trans rfl))) (fun μ t => by rw [tg μ t, rf (by decide) h14 t, rf (by decide) h04 t, rt (by decide) h8 t]; rfl)
    | false =>
      obtain ⟨ok, i', c', H', z1, z2, z3, z4⟩ := x_cmp hN hj hP hD hR hL hm gA (H := H) (dp := dp) (L := 2 * dp + 2) (pe := BT T n i) (b := BT T n i) (by omega) hc hi bt (BT_nb T n i)
      refine ⟨ok, i', c', H', z1, z2, fun μ v t e => ?_, fun μ t r e1 e2 => ?_⟩
      · obtain ⟨μ2, v2, q2, r2⟩ := z3 μ v t e
        change m_X3_readComparison N Λ (rd ad 52 μ i v) (ad 52) = _ at q2
        refine ⟨μ2, v2, (kc μ v t).trans ((tw0 (cf (by decide) h14 v t)).trans ((tw0 (cf (by decide) h04 v t)).trans ((tw0 (cf (by decide) h8 v t)).trans ?_))), r2⟩
        show (m_X3_readComparison N Λ (rd ad 52 μ i v) (ad 52)).bind (fun r12 => gd (zb r12.1) <| some (r12.1, r12.2)) = _
        rw [q2]; exact gz_z _ _ (bb_le _)
      · obtain ⟨μ2, p2, b2, q2, r2⟩ := z4 μ t r e1 e2
        have t0 : m_X12_readTag N Λ (pt ad μ (BT T n i) (BT T n i)) (ad 181) = some (n3 0, pt ad μ (BT T n i) (BT T n i)) := by
          rw [tg μ t, rf (by decide) h14 t, rf (by decide) h04 t, rf (by decide) h8 t]
          show some (n3 0, mset (pt ad μ (LE T n i) (BT T n i)) (ad 181) 10 ((pt ad μ (LE T n i) (BT T n i)).1 (ad 181) 12)) = _
          rw [pt_12, pt_s10]
        exact ⟨μ2, p2, b2, (kr μ t).trans ((tw0 t0).trans q2), r2⟩
theorem x_atoms {N : Nat} (hN : 1099511627776 ≤ N) {Λ : Lay} {ad : Nat → Nat} (hj : Inj ad) (hP : LyP Λ ad) (hD : LyD Λ ad 52 36 2) (hR : LyR Λ ad) (hL : LyL Λ ad 36) {T : Nat → Int32} {n m : Nat} (hm : Tm T n m)  : ∀ (e dp : Nat), dp ≤ 6 → 7 ≤ dp + e → AX N Λ ad T n m dp (m_X3_readAtom N Λ e) (m_X12_readAtom N Λ e)
  | 0, dp, h1, h2 => by omega
  | e + 1, dp, h1, h2 => x_atom hN hj hP hD hR hL hm h1 (fun h => x_atoms hN hj hP hD hR hL hm e (dp + 1) (by omega) (by omega))

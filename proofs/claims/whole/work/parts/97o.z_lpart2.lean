theorem tw0 {α : Type} {x : Option (Int32 × Mem)} {μ' : Mem} {f g : Int32 × Mem → Option α} (h : x = some (n3 0, μ')) : (x.bind fun r => if r.1 = 0 then f r else g r) = f (n3 0, μ') := by
  rw [h]; rfl
theorem tw1 {α : Type} {x : Option (Int32 × Mem)} {μ' : Mem} {f g : Int32 × Mem → Option α} (h : x = some (n3 1, μ')) : (x.bind fun r => if r.1 = 0 then f r else g r) = g (n3 1, μ') := by
  rw [h]; rfl
theorem adz {N : Nat} {Λ : Lay} {a q : Nat} {μ μ' : Mem} {x : Int32} (h : dr Λ a 7 2 = some q) (h2 : m_X2_add N Λ μ q x = some (n3 1, μ')) : ((dr Λ a 7 2).bind fun q => (m_X2_add N Λ μ q x).bind fun r => gd (zb r.1) <| some (r.1, r.2)) = some (n3 1, μ') := by
  rw [h, Option.bind_some, h2]; rfl
theorem adz2 {N : Nat} {Λ : Lay} {a q : Nat} {μ μ' : Mem} {x : Int32} (h : dr Λ a 7 2 = some q) (h2 : m_X2_add N Λ μ q x = some (n3 1, μ')) : ((dr Λ a 7 2).bind fun q => (m_X2_add N Λ μ q x).bind fun r => if r.1 = 0 then jn_X3_readPart_161 N Λ r.2 else jn_X3_readPart_162 N Λ r.2 1) = some (n3 1, μ') := by
  rw [h, Option.bind_some, h2]; rfl
theorem XO.fail2 {ad : Nat → Nat} (hj : Inj ad) {T : Nat → Int32} {n m : Nat} {H : Nat → Nat} {c i dp : Nat} {s k : Bool} {L : Nat} {fc : Mem → Nat → Option (Int32 × Mem)} {fr : Mem → Option (Int32 × Mem)} (i' : Nat) (hi : i' ≤ m) (hc : ∀ μ v, TkC ad μ 52 T n m → EC ad μ H c → ∃ v', fc μ v = some (n3 0, rd ad 52 μ i' v')) (hr : ∀ μ, TkR ad μ T n → Row μ (ad 182) 2071 H → μ.1 (ad 181) 16 = n3 c → μ.1 (ad 181) 13 = n3 dp → ∃ code val p', fr μ = some (n3 0, pt ad (emR ad μ c code val) p' (BT T n i'))) : XO ad T n m H c i dp s k L fc fr := by
  refine ⟨false, i', c, H, hi, fun h => absurd h (by decide), fun μ v t e => ?_, fun μ t r e1 e2 => ?_⟩
  · obtain ⟨v', q⟩ := hc μ v t e
    exact ⟨μ, v', q, t, fun _ => e, Fr.refl μ, rfl⟩
  · obtain ⟨code, val, p', q⟩ := hr μ t r e1 e2
    exact ⟨_, p', _, q, t.em hj _ _ _, fun h => absurd h (by decide), fun _ => rfl, emR_fr hj μ c code val, fun q hq => emR_lo hj μ c code val hq, fun q _ _ _ h16 => emR_k hj μ c code val h16⟩
theorem tyc_lo {code : Nat} {k : Bool} (h : code ≤ 10) (hk : decide (7 ≤ code ∧ code ≤ 9) = k) {L : Nat} (hL : L ≤ 23) (ts : List Bool) (hts : ts.length ≤ L) : tyc code ts = some (k :: ts) := by
  unfold tyc; rw [if_pos h, if_pos (by omega), hk]
theorem x_part {N : Nat} (hN : 1099511627776 ≤ N) {Λ : Lay} {ad : Nat → Nat} (hj : Inj ad) (hP : LyP Λ ad) (hD : LyD Λ ad 52 36 2) (hR : LyR Λ ad) (hL : LyL Λ ad 36) {T : Nat → Int32} {n m : Nat} (hm : Tm T n m) {H : Nat → Nat} {c i dp L : Nat} (hi : i ≤ m) (hc : c < 400) (hL23 : L ≤ 23) (pe b : Nat) (hpe : pe ≤ n) (hpb : nb T n pe = BT T n i) : XO ad T n m H c i dp false false L (fun μ v => m_X3_readPart N Λ (rd ad 52 μ i v) (ad 52)) (fun μ => m_X12_readPart N Λ (pt ad μ pe b) (ad 181)) := by
  have b1 := BT_le T n i
  have hm4 := hm.1
  have ct : ∀ {w : Nat}, w < 23 → WT T n i w = true → ∀ {μ : Mem} (v : Nat), TkC ad μ 52 T n m → m_X7_takeWord N Λ (rd ad 52 μ i v) (ad 52) w = some (n3 1, rd ad 52 μ (i + 1) v) := by
    intro w hw' h μ v t
    exact c_tw_t hN (Or.inr rfl) hj hP hD t hi v hw' h
  have cf : ∀ {w : Nat}, w < 23 → WT T n i w = false → ∀ {μ : Mem} (v : Nat), TkC ad μ 52 T n m → m_X7_takeWord N Λ (rd ad 52 μ i v) (ad 52) w = some (n3 0, rd ad 52 μ i v) := by
    intro w hw' h μ v t
    exact c_tw_f hN (Or.inr rfl) hj hP hD t hi v hw' h
  have rt : ∀ {w : Nat}, w < 23 → WT T n i w = true → ∀ {μ : Mem}, TkR ad μ T n → m_X12_isWord N Λ (pt ad μ (LE T n i) (BT T n i)) (ad 181) w = some (n3 1) := fun {w} hw' h {μ} t => by rw [r_isWord hN hj hR t i w hw', h, bbB_t rfl]
  have rf : ∀ {w : Nat}, w < 23 → WT T n i w = false → ∀ {μ : Mem}, TkR ad μ T n → m_X12_isWord N Λ (pt ad μ (LE T n i) (BT T n i)) (ad 181) w = some (n3 0) := fun {w} hw' h {μ} t => by rw [r_isWord hN hj hR t i w hw', h, bbB_f rfl]
  have le1 := LE_le T n i
  have lge := LE_ge T n i
  by_cases hv : NVp T n i 0 999
  · have hx : NTv T n i ≤ 999 := hv.2.2.2
    have hle : LE T n i = BT T n i := LE_n (by rw [hv.1]; decide)
    refine XO.one hj 10 (NTv T n i) (hm.nv hi hv) hx (tyc_lo (by omega) (by decide) hL23) (fun μ v t e => ⟨NTv T n i, ?_⟩) (fun μ t r e1 e2 => ⟨BT T n i, ?_⟩)
    · have c1 := c_tn_t hN (Or.inr rfl) hj hP hD t hi v (show 0 ≤ 9999 by omega) (show 999 ≤ 9999 by omega) hv
      have c2 := c_add (N := N) hj hL e hc (i + 1) (NTv T n i) (n3 (NTv T n i))
      have ei : itm 10 (NTv T n i) = n3 (NTv T n i) := rfl
      rw [ei]
      simp (disch := omega) only [m_X3_readPart, n3_lit, ↓ob (c1), ↓ob (hD.1), ↓ob (hD.2.1), ↓ob (hD.2.2.1), ↓ob (hD.2.2.2.1), ↓ob (hD.2.2.2.2.1), hD.2.2.2.2.2.1, hD.2.2.2.2.2.2.1, hD.2.2.2.2.2.2.2, rd_2, ↓ob (c2), ↓lt_e, ↓gd_e, ↓Option.bind_some, ↓reduceIte, if_true, if_false, if_pT, if_nF, decide_true, Bool.not_true, Bool.not_false, not_true_eq_false, not_false_eq_true, Bool.false_eq_true, Bool.true_eq_false, eq_self, n3_eq_f, n3_zb]
    · have c0 := r_let hN hj hR t hpe hpb b
      rw [hle] at c0
      have c1 := r_nm_t hN hj hR t b1 (BT_nb T n i) (BT T n i) (show 0 ≤ 9999 by omega) (show 999 ≤ 9999 by omega) hv
      have c2 := r_emits (N := N) hj hR e1 hc (te T n (BT T n i)) (BT T n i) 10 (NTv T n i)
      simp (disch := omega) only [jn_X12_readPart_73, jn_X12_readPart_61, jn_X12_readPart_52, jn_X12_readPart_40, jn_X12_readPart_20, m_X12_readPart, n3_lit, ↓ob (c0), pt_10, pt_12, ↓ob (c1), ↓ob (c2), ↓lt_e, ↓gd_e, ↓Option.bind_some, ↓reduceIte, if_true, if_false, if_pT, if_nF, decide_true, Bool.not_true, Bool.not_false, not_true_eq_false, not_false_eq_true, Bool.false_eq_true, Bool.true_eq_false, eq_self, n3_eq_f, n3_eq_t, n3_lt_f, n3_zb]
  · have cn : ∀ {μ : Mem} (v : Nat), TkC ad μ 52 T n m → m_X7_takeNumber N Λ (rd ad 52 μ i v) (ad 52) 0 999 = some (n3 0, rd ad 52 μ i v) := by
      intro μ v t
      exact c_tn_f hN (Or.inr rfl) hj hP hD t hi v (show 0 ≤ 9999 by omega) (show 999 ≤ 9999 by omega) hv
    cases h18 : WT T n i 18 with
    | true =>
      have hk := WT_K h18
      have hlt : BT T n i < te T n (BT T n i) := te_lt T (KT_0 (by omega))
      have hle := LE_1 hk
      refine XO.one hj 0 0 (hm.w hi h18) (by omega) (tyc_lo (by omega) (by decide) hL23) (fun μ v t e => ⟨v, ?_⟩) (fun μ t r e1 e2 => ⟨BT T n i, ?_⟩)
      · have c2 := c_add (N := N) hj hL e hc (i + 1) v (-n3 1)
        have ei : itm 0 0 = -n3 1 := rfl
        have an := cn v t
        have a18 := ct (by omega) h18 v t
        rw [ei]
        exact (tw0 an).trans ((tw1 a18).trans (adz hD.2.2.2.2.1 c2))
      · have c0 := r_let hN hj hR t hpe hpb b
        have c2 := r_emits (N := N) hj hR e1 hc (LE T n i) (BT T n i) 0 0
        have a18 := rt (by omega) h18 t
        rw [← hle]
        simp (disch := omega) only [jn_X12_readPart_73, jn_X12_readPart_61, jn_X12_readPart_52, jn_X12_readPart_40, jn_X12_readPart_20, m_X12_readPart, jn_X12_wordOfPart_81, m_X12_wordOfPart, n3_lit, ↓ob (c0), pt_10, pt_12, ↓ob (a18), ↓ob (c2), ↓lt_e, ↓gd_e, ↓Option.bind_some, ↓reduceIte, if_true, if_false, if_pT, if_nF, decide_true, Bool.not_true, Bool.not_false, not_true_eq_false, not_false_eq_true, Bool.false_eq_true, Bool.true_eq_false, eq_self, n3_eq_f, n3_eq_t, n3_lt_f, n3_zb]
    | false =>
    cases h11 : WT T n i 11 with
    | true =>
      have hk := WT_K h11
      have hlt : BT T n i < te T n (BT T n i) := te_lt T (KT_0 (by omega))
      have hle := LE_1 hk
      refine XO.one hj 1 0 (hm.w hi h11) (by omega) (tyc_lo (by omega) (by decide) hL23) (fun μ v t e => ⟨v, ?_⟩) (fun μ t r e1 e2 => ⟨BT T n i, ?_⟩)
      · have c2 := c_add (N := N) hj hL e hc (i + 1) v (-n3 2)
        have ei : itm 1 0 = -n3 2 := rfl
        have an := cn v t
        have a18 := cf (by omega) h18 v t
        have a11 := ct (by omega) h11 v t
        rw [ei]
        exact (tw0 an).trans ((tw0 a18).trans ((tw1 a11).trans (adz hD.2.2.2.2.1 c2)))
      · have c0 := r_let hN hj hR t hpe hpb b
        have c2 := r_emits (N := N) hj hR e1 hc (LE T n i) (BT T n i) 1 0
        have a18 := rf (by omega) h18 t
        have a11 := rt (by omega) h11 t
        rw [← hle]
        simp (disch := omega) only [jn_X12_readPart_73, jn_X12_readPart_61, jn_X12_readPart_52, jn_X12_readPart_40, jn_X12_readPart_20, m_X12_readPart, jn_X12_wordOfPart_81, m_X12_wordOfPart, n3_lit, ↓ob (c0), pt_10, pt_12, ↓ob (a18), ↓ob (a11), ↓ob (c2), ↓lt_e, ↓gd_e, ↓Option.bind_some, ↓reduceIte, if_true, if_false, if_pT, if_nF, decide_true, Bool.not_true, Bool.not_false, not_true_eq_false, not_false_eq_true, Bool.false_eq_true, Bool.true_eq_false, eq_self, n3_eq_f, n3_eq_t, n3_lt_f, n3_zb]
    | false =>
    cases h3 : WT T n i 3 with
    | true =>
      have hk := WT_K h3
      have hlt : BT T n i < te T n (BT T n i) := te_lt T (KT_0 (by omega))
      have hle := LE_1 hk
      refine XO.one hj 2 0 (hm.w hi h3) (by omega) (tyc_lo (by omega) (by decide) hL23) (fun μ v t e => ⟨v, ?_⟩) (fun μ t r e1 e2 => ⟨BT T n i, ?_⟩)
      · have c2 := c_add (N := N) hj hL e hc (i + 1) v (-n3 3)
        have ei : itm 2 0 = -n3 3 := rfl
        have an := cn v t
        have a18 := cf (by omega) h18 v t
        have a11 := cf (by omega) h11 v t
        have a3 := ct (by omega) h3 v t
        rw [ei]
        exact (tw0 an).trans ((tw0 a18).trans ((tw0 a11).trans ((tw1 a3).trans (adz hD.2.2.2.2.1 c2))))
      · have c0 := r_let hN hj hR t hpe hpb b
        have c2 := r_emits (N := N) hj hR e1 hc (LE T n i) (BT T n i) 2 0
        have a18 := rf (by omega) h18 t
        have a11 := rf (by omega) h11 t
        have a3 := rt (by omega) h3 t
        rw [← hle]
        simp (disch := omega) only [jn_X12_readPart_73, jn_X12_readPart_61, jn_X12_readPart_52, jn_X12_readPart_40, jn_X12_readPart_20, m_X12_readPart, jn_X12_wordOfPart_81, m_X12_wordOfPart, n3_lit, ↓ob (c0), pt_10, pt_12, ↓ob (a18), ↓ob (a11), ↓ob (a3), ↓ob (c2), ↓lt_e, ↓gd_e, ↓Option.bind_some, ↓reduceIte, if_true, if_false, if_pT, if_nF, decide_true, Bool.not_true, Bool.not_false, not_true_eq_false, not_false_eq_true, Bool.false_eq_true, Bool.true_eq_false, eq_self, n3_eq_f, n3_eq_t, n3_lt_f, n3_zb]
    | false =>
    cases h22 : WT T n i 22 with
    | true =>
      have hk := WT_K h22
      have hlt : BT T n i < te T n (BT T n i) := te_lt T (KT_0 (by omega))
      have hle := LE_1 hk
      refine XO.one hj 3 0 (hm.w hi h22) (by omega) (tyc_lo (by omega) (by decide) hL23) (fun μ v t e => ⟨v, ?_⟩) (fun μ t r e1 e2 => ⟨BT T n i, ?_⟩)
      · have c2 := c_add (N := N) hj hL e hc (i + 1) v (-n3 4)
        have ei : itm 3 0 = -n3 4 := rfl
        have an := cn v t
        have a18 := cf (by omega) h18 v t
        have a11 := cf (by omega) h11 v t
        have a3 := cf (by omega) h3 v t
        have a22 := ct (by omega) h22 v t
        rw [ei]
        exact (tw0 an).trans ((tw0 a18).trans ((tw0 a11).trans ((tw0 a3).trans ((tw1 a22).trans (adz hD.2.2.2.2.1 c2)))))
      · have c0 := r_let hN hj hR t hpe hpb b
        have c2 := r_emits (N := N) hj hR e1 hc (LE T n i) (BT T n i) 3 0
        have a18 := rf (by omega) h18 t
        have a11 := rf (by omega) h11 t
        have a3 := rf (by omega) h3 t
        have a22 := rt (by omega) h22 t
        rw [← hle]
        simp (disch := omega) only [jn_X12_readPart_73, jn_X12_readPart_61, jn_X12_readPart_52, jn_X12_readPart_40, jn_X12_readPart_20, m_X12_readPart, jn_X12_wordOfPart_81, m_X12_wordOfPart, n3_lit, ↓ob (c0), pt_10, pt_12, ↓ob (a18), ↓ob (a11), ↓ob (a3), ↓ob (a22), ↓ob (c2), ↓lt_e, ↓gd_e, ↓Option.bind_some, ↓reduceIte, if_true, if_false, if_pT, if_nF, decide_true, Bool.not_true, Bool.not_false, not_true_eq_false, not_false_eq_true, Bool.false_eq_true, Bool.true_eq_false, eq_self, n3_eq_f, n3_eq_t, n3_lt_f, n3_zb]
    | false =>
    cases h12 : WT T n i 12 with
    | true =>
      have hk := WT_K h12
      have hlt : BT T n i < te T n (BT T n i) := te_lt T (KT_0 (by omega))
      have hle := LE_1 hk
      refine XO.one hj 4 0 (hm.w hi h12) (by omega) (tyc_lo (by omega) (by decide) hL23) (fun μ v t e => ⟨v, ?_⟩) (fun μ t r e1 e2 => ⟨BT T n i, ?_⟩)
      · have c2 := c_add (N := N) hj hL e hc (i + 1) v (-n3 5)
        have ei : itm 4 0 = -n3 5 := rfl
        have an := cn v t
        have a18 := cf (by omega) h18 v t
        have a11 := cf (by omega) h11 v t
        have a3 := cf (by omega) h3 v t
        have a22 := cf (by omega) h22 v t
        have a12 := ct (by omega) h12 v t
        rw [ei]
        exact (tw0 an).trans ((tw0 a18).trans ((tw0 a11).trans ((tw0 a3).trans ((tw0 a22).trans ((tw1 a12).trans (adz hD.2.2.2.2.1 c2))))))
      · have c0 := r_let hN hj hR t hpe hpb b
        have c2 := r_emits (N := N) hj hR e1 hc (LE T n i) (BT T n i) 4 0
        have a18 := rf (by omega) h18 t
        have a11 := rf (by omega) h11 t
        have a3 := rf (by omega) h3 t
        have a22 := rf (by omega) h22 t
        have a12 := rt (by omega) h12 t
        rw [← hle]
        simp (disch := omega) only [jn_X12_readPart_73, jn_X12_readPart_61, jn_X12_readPart_52, jn_X12_readPart_40, jn_X12_readPart_20, m_X12_readPart, jn_X12_wordOfPart_81, m_X12_wordOfPart, n3_lit, ↓ob (c0), pt_10, pt_12, ↓ob (a18), ↓ob (a11), ↓ob (a3), ↓ob (a22), ↓ob (a12), ↓ob (c2), ↓lt_e, ↓gd_e, ↓Option.bind_some, ↓reduceIte, if_true, if_false, if_pT, if_nF, decide_true, Bool.not_true, Bool.not_false, not_true_eq_false, not_false_eq_true, Bool.false_eq_true, Bool.true_eq_false, eq_self, n3_eq_f, n3_eq_t, n3_lt_f, n3_zb]
    | false =>
    cases h21 : WT T n i 21 with
    | true =>
      have hk := WT_K h21
      have hlt : BT T n i < te T n (BT T n i) := te_lt T (KT_0 (by omega))
      have hle := LE_1 hk
      refine XO.one hj 5 0 (hm.w hi h21) (by omega) (tyc_lo (by omega) (by decide) hL23) (fun μ v t e => ⟨v, ?_⟩) (fun μ t r e1 e2 => ⟨BT T n i, ?_⟩)
      · have c2 := c_add (N := N) hj hL e hc (i + 1) v (-n3 6)
        have ei : itm 5 0 = -n3 6 := rfl
        have an := cn v t
        have a18 := cf (by omega) h18 v t
        have a11 := cf (by omega) h11 v t
        have a3 := cf (by omega) h3 v t
        have a22 := cf (by omega) h22 v t
        have a12 := cf (by omega) h12 v t
        have a21 := ct (by omega) h21 v t
        rw [ei]
        exact (tw0 an).trans ((tw0 a18).trans ((tw0 a11).trans ((tw0 a3).trans ((tw0 a22).trans ((tw0 a12).trans ((tw1 a21).trans (adz hD.2.2.2.2.1 c2)))))))
      · have c0 := r_let hN hj hR t hpe hpb b
        have c2 := r_emits (N := N) hj hR e1 hc (LE T n i) (BT T n i) 5 0
        have a18 := rf (by omega) h18 t
        have a11 := rf (by omega) h11 t
        have a3 := rf (by omega) h3 t
        have a22 := rf (by omega) h22 t
        have a12 := rf (by omega) h12 t
        have a21 := rt (by omega) h21 t
        rw [← hle]
        simp (disch := omega) only [jn_X12_readPart_73, jn_X12_readPart_61, jn_X12_readPart_52, jn_X12_readPart_40, jn_X12_readPart_20, m_X12_readPart, jn_X12_wordOfPart_81, m_X12_wordOfPart, n3_lit, ↓ob (c0), pt_10, pt_12, ↓ob (a18), ↓ob (a11), ↓ob (a3), ↓ob (a22), ↓ob (a12), ↓ob (a21), ↓ob (c2), ↓lt_e, ↓gd_e, ↓Option.bind_some, ↓reduceIte, if_true, if_false, if_pT, if_nF, decide_true, Bool.not_true, Bool.not_false, not_true_eq_false, not_false_eq_true, Bool.false_eq_true, Bool.true_eq_false, eq_self, n3_eq_f, n3_eq_t, n3_lt_f, n3_zb]
    | false =>
    cases h7 : WT T n i 7 with
    | true =>
      have hk := WT_K h7
      have hlt : BT T n i < te T n (BT T n i) := te_lt T (KT_0 (by omega))
      have hle := LE_1 hk
      refine XO.one hj 6 0 (hm.w hi h7) (by omega) (tyc_lo (by omega) (by decide) hL23) (fun μ v t e => ⟨v, ?_⟩) (fun μ t r e1 e2 => ⟨BT T n i, ?_⟩)
      · have c2 := c_add (N := N) hj hL e hc (i + 1) v (-n3 7)
        have ei : itm 6 0 = -n3 7 := rfl
        have an := cn v t
        have a18 := cf (by omega) h18 v t
        have a11 := cf (by omega) h11 v t
        have a3 := cf (by omega) h3 v t
        have a22 := cf (by omega) h22 v t
        have a12 := cf (by omega) h12 v t
        have a21 := cf (by omega) h21 v t
        have a7 := ct (by omega) h7 v t
        rw [ei]
        exact (tw0 an).trans ((tw0 a18).trans ((tw0 a11).trans ((tw0 a3).trans ((tw0 a22).trans ((tw0 a12).trans ((tw0 a21).trans ((tw1 a7).trans (adz2 hD.2.2.2.2.1 c2))))))))
      · have c0 := r_let hN hj hR t hpe hpb b
        have c2 := r_emits (N := N) hj hR e1 hc (LE T n i) (BT T n i) 6 0
        have a18 := rf (by omega) h18 t
        have a11 := rf (by omega) h11 t
        have a3 := rf (by omega) h3 t
        have a22 := rf (by omega) h22 t
        have a12 := rf (by omega) h12 t
        have a21 := rf (by omega) h21 t
        have a7 := rt (by omega) h7 t
        rw [← hle]
        simp (disch := omega) only [jn_X12_readPart_73, jn_X12_readPart_61, jn_X12_readPart_52, jn_X12_readPart_40, jn_X12_readPart_20, m_X12_readPart, jn_X12_wordOfPart_81, m_X12_wordOfPart, n3_lit, ↓ob (c0), pt_10, pt_12, ↓ob (a18), ↓ob (a11), ↓ob (a3), ↓ob (a22), ↓ob (a12), ↓ob (a21), ↓ob (a7), ↓ob (c2), ↓lt_e, ↓gd_e, ↓Option.bind_some, ↓reduceIte, if_true, if_false, if_pT, if_nF, decide_true, Bool.not_true, Bool.not_false, not_true_eq_false, not_false_eq_true, Bool.false_eq_true, Bool.true_eq_false, eq_self, n3_eq_f, n3_eq_t, n3_lt_f, n3_zb]
    | false =>
    refine XO.fail2 hj i hi (fun μ v t e => ⟨v, ?_⟩) (fun μ t r e1 e2 => ?_)
    · have an := cn v t
      have a18 := cf (by omega) h18 v t
      have a11 := cf (by omega) h11 v t
      have a3 := cf (by omega) h3 v t
      have a22 := cf (by omega) h22 v t
      have a12 := cf (by omega) h12 v t
      have a21 := cf (by omega) h21 v t
      have a7 := cf (by omega) h7 v t
      exact (tw0 an).trans ((tw0 a18).trans ((tw0 a11).trans ((tw0 a3).trans ((tw0 a22).trans ((tw0 a12).trans ((tw0 a21).trans ((tw0 a7).trans rfl)))))))
    · have c0 := r_let hN hj hR t hpe hpb b
      by_cases hk : KT T n i = 1
      · have hlt : BT T n i < te T n (BT T n i) := te_lt T (KT_0 (by omega))
        have hle := LE_1 hk
        have c2 := r_emits (N := N) hj hR e1 hc (LE T n i) (BT T n i) 4294967295 0
        refine ⟨4294967295, 0, LE T n i, ?_⟩
        have a18 := rf (by omega) h18 t
        have a11 := rf (by omega) h11 t
        have a3 := rf (by omega) h3 t
        have a22 := rf (by omega) h22 t
        have a12 := rf (by omega) h12 t
        have a21 := rf (by omega) h21 t
        have a7 := rf (by omega) h7 t
        simp (disch := omega) only [jn_X12_readPart_73, jn_X12_readPart_61, jn_X12_readPart_52, jn_X12_readPart_40, jn_X12_readPart_20, m_X12_readPart, jn_X12_wordOfPart_81, m_X12_wordOfPart, n3_lit, ↓ob (c0), pt_10, pt_12, ↓ob (a18), ↓ob (a11), ↓ob (a3), ↓ob (a22), ↓ob (a12), ↓ob (a21), ↓ob (a7), n3_neg1, ↓ob (c2), ↓lt_e, ↓gd_e, ↓Option.bind_some, ↓reduceIte, if_true, if_false, if_pT, if_nF, decide_true, Bool.not_true, Bool.not_false, not_true_eq_false, not_false_eq_true, Bool.false_eq_true, Bool.true_eq_false, eq_self, n3_eq_f, n3_eq_t, n3_neg_lt, n3_zb]
      · have hle := LE_n (T := T) hk
        rw [hle] at c0
        have c1 := r_nm_f hN hj hR t b1 (BT_nb T n i) (BT T n i) (show 0 ≤ 9999 by omega) (show 999 ≤ 9999 by omega) hv
        have c2 := r_emits (N := N) hj hR e1 hc (re T n 2 (BT T n i)) (BT T n i) 10 4294967295
        refine ⟨10, 4294967295, re T n 2 (BT T n i), ?_⟩
        simp (disch := omega) only [jn_X12_readPart_73, jn_X12_readPart_61, jn_X12_readPart_52, jn_X12_readPart_40, jn_X12_readPart_20, m_X12_readPart, n3_lit, ↓ob (c0), pt_10, pt_12, ↓ob (c1), ↓ob (c2), ↓lt_e, ↓gd_e, ↓Option.bind_some, ↓reduceIte, if_true, if_false, if_pT, if_nF, decide_true, Bool.not_true, Bool.not_false, not_true_eq_false, not_false_eq_true, Bool.false_eq_true, Bool.true_eq_false, eq_self, n3_eq_f, n3_eq_t, n3_neg_lt, n3_zb]

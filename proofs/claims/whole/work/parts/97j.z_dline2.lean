theorem LO.mapC {ad : Nat → Nat} {T : Nat → Int32} {n m : Nat} {G : Nat → Nat} {fc : Mem → Nat → Option (Int32 × Mem)} {fr : Mem → Option (Int32 × Mem)} (h : LO ad T n m G fc fr) (g : Int32 × Mem → Option (Int32 × Mem)) (hg : ∀ z μ, z ≤ 1 → g (n3 z, μ) = some (n3 z, μ)) : LO ad T n m G (fun μ v => (fc μ v).bind g) fr := by
  obtain ⟨ok, i', G2, h1, h2, h3, h4⟩ := h
  refine ⟨ok, i', G2, h1, h2, fun μ v t c => ?_, h4⟩
  obtain ⟨μ3, v3, e3, r3⟩ := h3 μ v t c
  refine ⟨μ3, v3, ?_, r3⟩
  show (fc μ v).bind g = _
  rw [e3]; exact hg _ _ (bb_le _)
theorem LO.mapR {ad : Nat → Nat} {T : Nat → Int32} {n m : Nat} {G : Nat → Nat} {fc : Mem → Nat → Option (Int32 × Mem)} {fr : Mem → Option (Int32 × Mem)} (h : LO ad T n m G fc fr) (g : Int32 × Mem → Option (Int32 × Mem)) (hg : ∀ z μ, z ≤ 1 → g (n3 z, μ) = some (n3 z, μ)) : LO ad T n m G fc (fun μ => (fr μ).bind g) := by
  obtain ⟨ok, i', G2, h1, h2, h3, h4⟩ := h
  refine ⟨ok, i', G2, h1, h2, h3, fun μ t c => ?_⟩
  obtain ⟨μ3, p3, b3, e3, r3⟩ := h4 μ t c
  refine ⟨μ3, p3, b3, ?_, r3⟩
  show (fr μ).bind g = _
  rw [e3]; exact hg _ _ (bb_le _)
def gz (r : Int32 × Mem) : Option (Int32 × Mem) := gd (zb r.1) <| some (r.1, r.2)
theorem gz_z (z : Nat) (μ : Mem) (h : z ≤ 1) : gz (n3 z, μ) = some (n3 z, μ) := by
  unfold gz; rw [n3_zb h]; rfl
def gh (r : Int32 × Mem) : Option (Int32 × Mem) := if r.1 = 0 then some (0, r.2) else some (1, r.2)
theorem gh_z (z : Nat) (μ : Mem) (h : z ≤ 1) : gh (n3 z, μ) = some (n3 z, μ) := by
  match z, h with
  | 0, _ => rfl
  | 1, _ => rfl
theorem one_0 : ((n3 1 : Int32) = 0) = False := eq_false (by decide)
theorem zero_0 : ((n3 0 : Int32) = 0) = True := eq_true (by decide)
theorem l_line {N : Nat} (hN : 1099511627776 ≤ N) {Λ : Lay} {ad : Nat → Nat} (hj : Inj ad) (hP : LyP Λ ad) (hD : LyD Λ ad 48 12 8) (hR : LyR Λ ad) {T : Nat → Int32} {n m : Nat} (hm : Tm T n m) {G : Nat → Nat} (hw : WF G) (hS12 : LyS Λ ad 12) {i : Nat} (hi : i ≤ m) : LO ad T n m G (fun μ v => m_X1_readLine N Λ (rd ad 48 μ i v) (ad 48)) (fun μ => m_X12_readDockLine N Λ (pt ad μ (LE T n i) (BT T n i)) (ad 181)) := by
  have hb := hw.1; unfold WB at hb
  have ct : ∀ {w : Nat}, w < 23 → WT T n i w = true → ∀ {μ : Mem} (v : Nat), TkC ad μ 48 T n m → m_X7_takeWord N Λ (rd ad 48 μ i v) (ad 48) w = some (n3 1, rd ad 48 μ (i + 1) v) := by
    intro w hw' h μ v t
    exact c_tw_t hN (Or.inl rfl) hj hP hD t hi v hw' h
  have cf : ∀ {w : Nat}, w < 23 → WT T n i w = false → ∀ {μ : Mem} (v : Nat), TkC ad μ 48 T n m → m_X7_takeWord N Λ (rd ad 48 μ i v) (ad 48) w = some (n3 0, rd ad 48 μ i v) := by
    intro w hw' h μ v t
    exact c_tw_f hN (Or.inl rfl) hj hP hD t hi v hw' h
  have rt : ∀ {w : Nat}, w < 23 → WT T n i w = true → ∀ {μ : Mem}, TkR ad μ T n → m_X12_isWord N Λ (pt ad μ (LE T n i) (BT T n i)) (ad 181) w = some (n3 1) := fun {w} hw' h {μ} t => by rw [r_isWord hN hj hR t i w hw', h, bbB_t rfl]
  have rf : ∀ {w : Nat}, w < 23 → WT T n i w = false → ∀ {μ : Mem}, TkR ad μ T n → m_X12_isWord N Λ (pt ad μ (LE T n i) (BT T n i)) (ad 181) w = some (n3 0) := fun {w} hw' h {μ} t => by rw [r_isWord hN hj hR t i w hw', h, bbB_f rfl]
  have pe1 := LE_le T n i
  have pb1 : KT T n i = 1 → nb T n (LE T n i) = BT T n (i + 1) := fun h => by rw [LE_1 h]; rfl
  cases h18 : WT T n i 18 with
  | true =>
    refine LO.of ((LO.mapC (l_ship hN hj hP hD hR hm hw hS12 hi h18) gz gz_z).mapR gz gz_z) (fun μ v t c => ⟨v, ?_⟩) (fun μ t c => ?_)
    · have a1 := ct (by omega) h18 v t
      simp only [m_X1_readLine, lt_e, rd_1, a1, Option.bind_some, one_0, if_false]; rfl
    · have a1 := rt (by omega) h18 t
      simp only [m_X12_readDockLine, a1, Option.bind_some, one_0, if_false]; rfl
  | false =>
  cases h21 : WT T n i 21 with
  | true =>
    refine LO.of ((LO.mapC (l_tides hN hj hP hD hR hm hS12 12 0 (i + 1) (LE T n i) (BT T n i) N N G hw rfl (by omega) (by omega) (hm.w hi h21) pe1 (pb1 (WT_K h21))) gz gz_z).mapR gz gz_z) (fun μ v t c => ⟨v, ?_⟩) (fun μ t c => ?_)
    · have a1 := cf (by omega) h18 v t
      have a2 := ct (by omega) h21 v t
      simp only [m_X1_readLine, lt_e, a1, a2, Option.bind_some, one_0, zero_0, if_true, if_false]; rfl
    · have a1 := rf (by omega) h18 t
      have a2 := rt (by omega) h21 t
      simp only [m_X12_readDockLine, a1, a2, Option.bind_some, one_0, zero_0, if_true, if_false]; rfl
  | false =>
  cases h2 : WT T n i 2 with
  | true =>
    refine LO.of ((LO.mapC (l_blocks hN hj hP hD hR hm 12 0 (i + 1) (LE T n i) (BT T n i) N N G hw rfl (by omega) (by omega) (hm.w hi h2) pe1 (pb1 (WT_K h2))) gz gz_z).mapR gz gz_z) (fun μ v t c => ⟨v, ?_⟩) (fun μ t c => ?_)
    · have a1 := cf (by omega) h18 v t
      have a2 := cf (by omega) h21 v t
      have a3 := ct (by omega) h2 v t
      simp only [m_X1_readLine, lt_e, a1, a2, a3, Option.bind_some, one_0, zero_0, if_true, if_false]; rfl
    · have a1 := rf (by omega) h18 t
      have a2 := rf (by omega) h21 t
      have a3 := rt (by omega) h2 t
      simp only [m_X12_readDockLine, a1, a2, a3, Option.bind_some, one_0, zero_0, if_true, if_false]; rfl
  | false =>
  cases h19 : WT T n i 19 with
  | true =>
    have h12 := WT_u h19 (by omega) (show 12 < 23 by omega) (by omega)
    refine LO.one hj hw (i + 1) (hm.w hi h19) 4 0 (by omega) ⟨by omega, by omega⟩ (by omega) (by omega) 12 11 rfl rfl (hw.up_lo (by omega) (by omega) (by unfold WB; simp (disch := omega) only [up_n, up_e]; omega)) (LE T n i) pe1 (pb1 (WT_K h19)) (fun μ v t c => ⟨v, ?_⟩) (fun μ t c => ⟨BT T n i, ?_⟩)
    · have a1 := cf (by omega) h18 v t
      have a2 := cf (by omega) h21 v t
      have a3 := cf (by omega) h2 v t
      have a4 := ct (by omega) h19 v t
      simp (disch := omega) only [m_X1_readLine, a1, a2, a3, a4, ↓ob (hD.1), ↓ob (hD.2.1), ↓ob (hD.2.2.1), ↓ob (hD.2.2.2.1), ↓ob (hD.2.2.2.2.1), hD.2.2.2.2.2.1, hD.2.2.2.2.2.2.1, hD.2.2.2.2.2.2.2, rd_w hj, ↓lt_e, ↓gd_e, ↓Option.bind_some, ↓reduceIte, if_true, if_false, if_pT, if_nF, decide_true, Bool.not_true, Bool.not_false, not_true_eq_false, not_false_eq_true, Bool.false_eq_true, Bool.true_eq_false, eq_self, n3_lit, n3_eq_t, n3_eq_f]
    · have a1 := rf (by omega) h18 t
      have a2 := rf (by omega) h21 t
      have a3 := rf (by omega) h2 t
      have a4 := rf (by omega) h12 t
      have a5 := rt (by omega) h19 t
      simp (disch := omega) only [m_X12_readDockLine, m_X12_readShut, a1, a2, a3, a4, a5, ↓ob (hR.1), ↓ob (hR.2.1), ↓ob (hR.2.2.1), ↓ob (hR.2.2.2.1), ↓ob (hR.2.2.2.2.1), ↓ob (hR.2.2.2.2.2.1), ↓ob (hR.2.2.2.2.2.2.1), ↓ob (hR.2.2.2.2.2.2.2.1), ↓ob (hR.2.2.2.2.2.2.2.2.1), ↓ob (hR.2.2.2.2.2.2.2.2.2.1), ↓ob (hR.2.2.2.2.2.2.2.2.2.2.1), ↓ob (hR.2.2.2.2.2.2.2.2.2.2.2.1), ↓ob (hR.2.2.2.2.2.2.2.2.2.2.2.2.1), ↓ob (hR.2.2.2.2.2.2.2.2.2.2.2.2.2.1), ↓ob (hR.2.2.2.2.2.2.2.2.2.2.2.2.2.2.1), ↓ob (hR.2.2.2.2.2.2.2.2.2.2.2.2.2.2.2.1), ↓ob (hR.2.2.2.2.2.2.2.2.2.2.2.2.2.2.2.2.1), ↓ob (hR.2.2.2.2.2.2.2.2.2.2.2.2.2.2.2.2.2.1), hR.2.2.2.2.2.2.2.2.2.2.2.2.2.2.2.2.2.2.1, hR.2.2.2.2.2.2.2.2.2.2.2.2.2.2.2.2.2.2.2.1, hR.2.2.2.2.2.2.2.2.2.2.2.2.2.2.2.2.2.2.2.2.1, hR.2.2.2.2.2.2.2.2.2.2.2.2.2.2.2.2.2.2.2.2.2.1, hR.2.2.2.2.2.2.2.2.2.2.2.2.2.2.2.2.2.2.2.2.2.2.1, hR.2.2.2.2.2.2.2.2.2.2.2.2.2.2.2.2.2.2.2.2.2.2.2.1, hR.2.2.2.2.2.2.2.2.2.2.2.2.2.2.2.2.2.2.2.2.2.2.2.2.1, hR.2.2.2.2.2.2.2.2.2.2.2.2.2.2.2.2.2.2.2.2.2.2.2.2.2.1, hR.2.2.2.2.2.2.2.2.2.2.2.2.2.2.2.2.2.2.2.2.2.2.2.2.2.2.1, hR.2.2.2.2.2.2.2.2.2.2.2.2.2.2.2.2.2.2.2.2.2.2.2.2.2.2.2.1, hR.2.2.2.2.2.2.2.2.2.2.2.2.2.2.2.2.2.2.2.2.2.2.2.2.2.2.2.2.1, hR.2.2.2.2.2.2.2.2.2.2.2.2.2.2.2.2.2.2.2.2.2.2.2.2.2.2.2.2.2.1, hR.2.2.2.2.2.2.2.2.2.2.2.2.2.2.2.2.2.2.2.2.2.2.2.2.2.2.2.2.2.2.1, hR.2.2.2.2.2.2.2.2.2.2.2.2.2.2.2.2.2.2.2.2.2.2.2.2.2.2.2.2.2.2.2.1, hR.2.2.2.2.2.2.2.2.2.2.2.2.2.2.2.2.2.2.2.2.2.2.2.2.2.2.2.2.2.2.2.2.1, hR.2.2.2.2.2.2.2.2.2.2.2.2.2.2.2.2.2.2.2.2.2.2.2.2.2.2.2.2.2.2.2.2.2.1, hR.2.2.2.2.2.2.2.2.2.2.2.2.2.2.2.2.2.2.2.2.2.2.2.2.2.2.2.2.2.2.2.2.2.2.1, hR.2.2.2.2.2.2.2.2.2.2.2.2.2.2.2.2.2.2.2.2.2.2.2.2.2.2.2.2.2.2.2.2.2.2.2, ↓lt_e, ↓gd_e, ↓Option.bind_some, ↓reduceIte, if_true, if_false, if_pT, if_nF, decide_true, Bool.not_true, Bool.not_false, not_true_eq_false, not_false_eq_true, Bool.false_eq_true, Bool.true_eq_false, eq_self, n3_lit, n3_eq_t, n3_eq_f, n3_inb, n3_tn, pt_w hj, n3_zb]
  | false =>
  cases h12 : WT T n i 12 with
  | true =>
    refine LO.of (((LO.mapC (l_setLevel hN hj hP hD hR hm hw (hm.w hi h12) (LE T n i) (BT T n i) pe1 (pb1 (WT_K h12))) gz gz_z).mapC gz gz_z).mapR gz gz_z) (fun μ v t c => ⟨v, ?_⟩) (fun μ t c => ?_)
    · have a1 := cf (by omega) h18 v t
      have a2 := cf (by omega) h21 v t
      have a3 := cf (by omega) h2 v t
      have a4 := cf (by omega) h19 v t
      have a5 := ct (by omega) h12 v t
      simp only [m_X1_readLine, m_X1_readSetting, lt_e, a1, a2, a3, a4, a5, Option.bind_some, one_0, zero_0, if_true, if_false]; rfl
    · have a1 := rf (by omega) h18 t
      have a2 := rf (by omega) h21 t
      have a3 := rf (by omega) h2 t
      have a5 := rt (by omega) h12 t
      simp only [m_X12_readDockLine, a1, a2, a3, a5, Option.bind_some, one_0, zero_0, if_true, if_false]; rfl
  | false =>
  cases h17 : WT T n i 17 with
  | true =>
    refine LO.of (((LO.mapC (l_setPumps hN hj hP hD hR hm hw (hm.w hi h17) (LE T n i) (BT T n i) pe1 (pb1 (WT_K h17))) gz gz_z).mapC gz gz_z).mapR gz gz_z) (fun μ v t c => ⟨v, ?_⟩) (fun μ t c => ?_)
    · have a1 := cf (by omega) h18 v t
      have a2 := cf (by omega) h21 v t
      have a3 := cf (by omega) h2 v t
      have a4 := cf (by omega) h19 v t
      have a5 := cf (by omega) h12 v t
      have a6 := ct (by omega) h17 v t
      simp only [m_X1_readLine, m_X1_readSetting, lt_e, a1, a2, a3, a4, a5, a6, Option.bind_some, one_0, zero_0, if_true, if_false]; rfl
    · have a1 := rf (by omega) h18 t
      have a2 := rf (by omega) h21 t
      have a3 := rf (by omega) h2 t
      have a4 := rf (by omega) h19 t
      have a5 := rf (by omega) h12 t
      have a6 := rt (by omega) h17 t
      simp only [m_X12_readDockLine, a1, a2, a3, a4, a5, a6, Option.bind_some, one_0, zero_0, if_true, if_false]; rfl
  | false =>
  cases h6 : WT T n i 6 with
  | true =>
    refine LO.of (((LO.mapC (l_setHands hN hj hP hD hR hm hw (hm.w hi h6) (LE T n i) (BT T n i) pe1 (pb1 (WT_K h6))) gz gz_z).mapC gz gz_z).mapR gz gz_z) (fun μ v t c => ⟨v, ?_⟩) (fun μ t c => ?_)
    · have a1 := cf (by omega) h18 v t
      have a2 := cf (by omega) h21 v t
      have a3 := cf (by omega) h2 v t
      have a4 := cf (by omega) h19 v t
      have a5 := cf (by omega) h12 v t
      have a6 := cf (by omega) h17 v t
      have a7 := ct (by omega) h6 v t
      simp only [m_X1_readLine, m_X1_readSetting, lt_e, a1, a2, a3, a4, a5, a6, a7, Option.bind_some, one_0, zero_0, if_true, if_false]; rfl
    · have a1 := rf (by omega) h18 t
      have a2 := rf (by omega) h21 t
      have a3 := rf (by omega) h2 t
      have a4 := rf (by omega) h19 t
      have a5 := rf (by omega) h12 t
      have a6 := rf (by omega) h17 t
      have a7 := rt (by omega) h6 t
      simp only [m_X12_readDockLine, a1, a2, a3, a4, a5, a6, a7, Option.bind_some, one_0, zero_0, if_true, if_false]; rfl
  | false =>
  cases h20 : WT T n i 20 with
  | true =>
    refine LO.of (((LO.mapC (l_setSurge hN hj hP hD hR hm hw (hm.w hi h20) (LE T n i) (BT T n i) pe1 (pb1 (WT_K h20))) gz gz_z).mapC gz gz_z).mapR gz gz_z) (fun μ v t c => ⟨v, ?_⟩) (fun μ t c => ?_)
    · have a1 := cf (by omega) h18 v t
      have a2 := cf (by omega) h21 v t
      have a3 := cf (by omega) h2 v t
      have a4 := cf (by omega) h19 v t
      have a5 := cf (by omega) h12 v t
      have a6 := cf (by omega) h17 v t
      have a7 := cf (by omega) h6 v t
      have a8 := ct (by omega) h20 v t
      simp only [m_X1_readLine, m_X1_readSetting, lt_e, a1, a2, a3, a4, a5, a6, a7, a8, Option.bind_some, one_0, zero_0, if_true, if_false]; rfl
    · have a1 := rf (by omega) h18 t
      have a2 := rf (by omega) h21 t
      have a3 := rf (by omega) h2 t
      have a4 := rf (by omega) h19 t
      have a5 := rf (by omega) h12 t
      have a6 := rf (by omega) h17 t
      have a7 := rf (by omega) h6 t
      have a8 := rt (by omega) h20 t
      simp only [m_X12_readDockLine, a1, a2, a3, a4, a5, a6, a7, a8, Option.bind_some, one_0, zero_0, if_true, if_false]; rfl
  | false =>
  cases h7 : WT T n i 7 with
  | true =>
    refine LO.of (((LO.mapC (l_setHour hN hj hP hD hR hm hw (hm.w hi h7) (LE T n i) (BT T n i) pe1 (pb1 (WT_K h7))) gh gh_z).mapC gz gz_z).mapR gh gh_z) (fun μ v t c => ⟨v, ?_⟩) (fun μ t c => ?_)
    · have a1 := cf (by omega) h18 v t
      have a2 := cf (by omega) h21 v t
      have a3 := cf (by omega) h2 v t
      have a4 := cf (by omega) h19 v t
      have a5 := cf (by omega) h12 v t
      have a6 := cf (by omega) h17 v t
      have a7 := cf (by omega) h6 v t
      have a8 := cf (by omega) h20 v t
      have a9 := ct (by omega) h7 v t
      simp only [m_X1_readLine, m_X1_readSetting, lt_e, a1, a2, a3, a4, a5, a6, a7, a8, a9, Option.bind_some, one_0, zero_0, if_true, if_false]; rfl
    · have a1 := rf (by omega) h18 t
      have a2 := rf (by omega) h21 t
      have a3 := rf (by omega) h2 t
      have a4 := rf (by omega) h19 t
      have a5 := rf (by omega) h12 t
      have a6 := rf (by omega) h17 t
      have a7 := rf (by omega) h6 t
      have a8 := rf (by omega) h20 t
      have a9 := rt (by omega) h7 t
      simp only [m_X12_readDockLine, a1, a2, a3, a4, a5, a6, a7, a8, a9, Option.bind_some, one_0, zero_0, if_true, if_false]; rfl
  | false =>
    refine LO.fail i hi (fun μ v t c => ⟨v, ?_⟩) (fun μ t c => ⟨LE T n i, ?_⟩)
    · have a1 := cf (by omega) h18 v t
      have a2 := cf (by omega) h21 v t
      have a3 := cf (by omega) h2 v t
      have a4 := cf (by omega) h19 v t
      have a5 := cf (by omega) h12 v t
      have a6 := cf (by omega) h17 v t
      have a7 := cf (by omega) h6 v t
      have a8 := cf (by omega) h20 v t
      have a9 := cf (by omega) h7 v t
      simp only [m_X1_readLine, m_X1_readSetting, lt_e, a1, a2, a3, a4, a5, a6, a7, a8, a9, Option.bind_some, one_0, zero_0, if_true, if_false]; rfl
    · have a1 := rf (by omega) h18 t
      have a2 := rf (by omega) h21 t
      have a3 := rf (by omega) h2 t
      have a4 := rf (by omega) h19 t
      have a5 := rf (by omega) h12 t
      have a6 := rf (by omega) h17 t
      have a7 := rf (by omega) h6 t
      have a8 := rf (by omega) h20 t
      have a9 := rf (by omega) h7 t
      simp only [m_X12_readDockLine, a1, a2, a3, a4, a5, a6, a7, a8, a9, Option.bind_some, one_0, zero_0, if_true, if_false]; rfl

theorem kk_end (N : Nat) (Λ : Lay) (L : Nat) (sc : Nat → Int32) (μ : Mem) (k : Int32 × Mem → Option Int32) (v0 v1 v2 v3 i : Nat) : jn_L_law__2587 N Λ L sc μ k v0 v1 v2 v3 (n3 i) = k (n3 (i + 6), μ) := by
  unfold jn_L_law__2587
  rw [lt_e, n3_lit 6, n3_add]
theorem lc_0 {N : Nat} (hN : 1099511627776 ≤ N) {Λ : Lay} {ad : Nat → Nat} (hY : Ly Λ ad) {L : Nat} {sc : Nat → Int32} {i : Nat} (hi : i + 6 ≤ L) (hL : L ≤ 3072) {μ : Mem} (hr : Rel ad μ) (v0 : Nat) : ∃ μ2, Rel ad μ2 ∧ ∀ k, bo_0 N Λ L sc μ k v0 (ad 0) (ad 181) (ad 200) (n3 i) = k (n3 (i + 6), μ2) := by
  obtain ⟨F, m, A, b, J, T, n, f, h, h', ho⟩ := hr
  have a200 : aZ Λ (ad 200) = 1 := hY.2.2.2.2.2.2.2.2.2.2.2.1
  have hw := ho.1
  have hb := hw.1; unfold WB at hb
  have g1 : inb (n3 i + 1) L = true := by rw [n3_lit 1, n3_add]; exact n3_inb (by omega) (by omega)
  obtain ⟨x1, hx1⟩ : ∃ x, sc (n3 i + 1).toNatClampNeg = x := ⟨_, rfl⟩
  have g2 : inb (n3 i + 2) L = true := by rw [n3_lit 2, n3_add]; exact n3_inb (by omega) (by omega)
  obtain ⟨x2, hx2⟩ : ∃ x, sc (n3 i + 2).toNatClampNeg = x := ⟨_, rfl⟩
  have g3 : inb (n3 i + 3) L = true := by rw [n3_lit 3, n3_add]; exact n3_inb (by omega) (by omega)
  obtain ⟨x3, hx3⟩ : ∃ x, sc (n3 i + 3).toNatClampNeg = x := ⟨_, rfl⟩
  have g4 : inb (n3 i + 4) L = true := by rw [n3_lit 4, n3_add]; exact n3_inb (by omega) (by omega)
  obtain ⟨x4, hx4⟩ : ∃ x, sc (n3 i + 4).toNatClampNeg = x := ⟨_, rfl⟩
  have g5 : inb (n3 i + 5) L = true := by rw [n3_lit 5, n3_add]; exact n3_inb (by omega) (by omega)
  obtain ⟨x5, hx5⟩ : ∃ x, sc (n3 i + 5).toNatClampNeg = x := ⟨_, rfl⟩
  by_cases h20 : n + 20 ≤ 400
  · obtain ⟨μ2, r2, e2⟩ := law_V h' (ho.feed _ h20) (C_feed1 hN hY h ho x1 x2 x3 x4 x5 h20) (fun μ1 hr => R_feed1 hN hY hr ho x1 x2 x3 x4 x5 h20)
    refine ⟨μ2, r2, fun k => ?_⟩
    unfold bo_0
    simp only [g1, hx1, g2, hx2, g3, hx3, g4, hx4, g5, hx5, gd_t]
    exact (e2 (fun μ => jn_L_law__2587 N Λ L sc μ k v0 (ad 0) (ad 181) (ad 200) (n3 i))).trans (kk_end N Λ L sc μ2 k v0 (ad 0) (ad 181) (ad 200) i)
  · obtain ⟨μ2, r2, e2⟩ := law_V h' ho (C_feed0 hN hY h ho x1 x2 x3 x4 x5 (by omega)) (fun μ1 hr => R_feed0 hN hY hr ho x1 x2 x3 x4 x5 (by omega))
    refine ⟨μ2, r2, fun k => ?_⟩
    unfold bo_0
    simp only [g1, hx1, g2, hx2, g3, hx3, g4, hx4, g5, hx5, gd_t]
    exact (e2 (fun μ => jn_L_law__2587 N Λ L sc μ k v0 (ad 0) (ad 181) (ad 200) (n3 i))).trans (kk_end N Λ L sc μ2 k v0 (ad 0) (ad 181) (ad 200) i)
theorem lc_1 {N : Nat} (hN : 1099511627776 ≤ N) {Λ : Lay} {ad : Nat → Nat} (hY : Ly Λ ad) {L : Nat} {sc : Nat → Int32} {i : Nat} (hi : i + 6 ≤ L) (hL : L ≤ 3072) {μ : Mem} (hr : Rel ad μ) (v0 : Nat) : ∃ μ2, Rel ad μ2 ∧ ∀ k, bo_1 N Λ L sc μ k v0 (ad 0) (ad 181) (ad 200) (n3 i) = k (n3 (i + 6), μ2) := by
  obtain ⟨F, m, A, b, J, T, n, f, h, h', ho⟩ := hr
  have a200 : aZ Λ (ad 200) = 1 := hY.2.2.2.2.2.2.2.2.2.2.2.1
  have hw := ho.1
  have hb := hw.1; unfold WB at hb
  have g1 : inb (n3 i + 1) L = true := by rw [n3_lit 1, n3_add]; exact n3_inb (by omega) (by omega)
  obtain ⟨x1, hx1⟩ : ∃ x, sc (n3 i + 1).toNatClampNeg = x := ⟨_, rfl⟩
  by_cases hx : x1 < n3 0 ∨ n3 n < x1
  · obtain ⟨μ2, r2, e2⟩ := law_V h' ho (C_end0 hN hY h ho x1 hx) (fun μ1 hr => R_end0 hN hY hr ho x1 hx)
    refine ⟨μ2, r2, fun k => ?_⟩
    unfold bo_1
    simp only [g1, hx1, gd_t]
    exact (e2 (fun μ => jn_L_law__2587 N Λ L sc μ k v0 (ad 0) (ad 181) (ad 200) (n3 i))).trans (kk_end N Λ L sc μ2 k v0 (ad 0) (ad 181) (ad 200) i)
  · obtain ⟨a, ha, q⟩ := n3_of (x := x1) (b := n) (by have := ho.2.2.2.2.2.2.1; omega) (Int32.not_lt.1 (fun e => hx (Or.inl e))) (Int32.not_lt.1 (fun e => hx (Or.inr e)))
    subst q
    obtain ⟨μ2, r2, e2⟩ := law_V h' (ho.tend ha) (C_end1 hN hY h ho a ha) (fun μ1 hr => R_end1 hN hY hr ho a ha)
    refine ⟨μ2, r2, fun k => ?_⟩
    unfold bo_1
    simp only [g1, hx1, gd_t]
    exact (e2 (fun μ => jn_L_law__2587 N Λ L sc μ k v0 (ad 0) (ad 181) (ad 200) (n3 i))).trans (kk_end N Λ L sc μ2 k v0 (ad 0) (ad 181) (ad 200) i)
theorem lc_2 {N : Nat} (hN : 1099511627776 ≤ N) {Λ : Lay} {ad : Nat → Nat} (hY : Ly Λ ad) {L : Nat} {sc : Nat → Int32} {i : Nat} (hi : i + 6 ≤ L) (hL : L ≤ 3072) {μ : Mem} (hr : Rel ad μ) (v0 : Nat) : ∃ μ2, Rel ad μ2 ∧ ∀ k, bo_2 N Λ L sc μ k v0 (ad 0) (ad 181) (ad 200) (n3 i) = k (n3 (i + 6), μ2) := by
  obtain ⟨F, m, A, b, J, T, n, f, h, h', ho⟩ := hr
  have a200 : aZ Λ (ad 200) = 1 := hY.2.2.2.2.2.2.2.2.2.2.2.1
  have hw := ho.1
  have hb := hw.1; unfold WB at hb
  obtain ⟨c, t, v, F', m', f', ok', hct, hc, hr2⟩ := b_dock (f := f) hN hY ho
  obtain ⟨μ2, r2, e2⟩ := law_T (N := N) (wl := m_L_dock N Λ μ (ad 0) (ad 200)) (t := t) hY h' ok' (hc μ h) (fun μ1 e => by
    rcases hct with ⟨rfl, rfl⟩ | ⟨rfl, rfl, rfl⟩ | ⟨rfl, rfl, rfl⟩
    · unfold m_L_dock; rw [e]; show gd (inb 0 (aZ Λ (ad 200))) _ = _; rw [a200]; rfl
    · unfold m_L_dock; rw [e]; rfl
    · unfold m_L_dock; rw [e]; rfl) (by omega) (fun μ1 hr _ => hr2 μ1 hr)
  refine ⟨μ2, r2, fun k => ?_⟩
  unfold bo_2
  exact (e2 (fun μ => jn_L_law__2587 N Λ L sc μ k v0 (ad 0) (ad 181) (ad 200) (n3 i))).trans (kk_end N Λ L sc μ2 k v0 (ad 0) (ad 181) (ad 200) i)
theorem lc_3 {N : Nat} (hN : 1099511627776 ≤ N) {Λ : Lay} {ad : Nat → Nat} (hY : Ly Λ ad) {L : Nat} {sc : Nat → Int32} {i : Nat} (hi : i + 6 ≤ L) (hL : L ≤ 3072) {μ : Mem} (hr : Rel ad μ) (v0 : Nat) : ∃ μ2, Rel ad μ2 ∧ ∀ k, bo_3 N Λ L sc μ k v0 (ad 0) (ad 181) (ad 200) (n3 i) = k (n3 (i + 6), μ2) := by
  obtain ⟨F, m, A, b, J, T, n, f, h, h', ho⟩ := hr
  have a200 : aZ Λ (ad 200) = 1 := hY.2.2.2.2.2.2.2.2.2.2.2.1
  have hw := ho.1
  have hb := hw.1; unfold WB at hb
  obtain ⟨c, t, v, F', m', f', ok', hct, hc, hr2⟩ := b_law (f := f) hN hY ho (fun k => u3 (μ.1 (ad 182) k))
  obtain ⟨μ2, r2, e2⟩ := law_T (N := N) (wl := m_L_law N Λ μ (ad 0) (ad 200)) (t := t) hY h' ok' (hc μ h) (fun μ1 e => by
    rcases hct with ⟨rfl, rfl⟩ | ⟨rfl, rfl, rfl⟩
    · unfold m_L_law; rw [e]; show gd (inb 0 (aZ Λ (ad 200))) _ = _; rw [a200]; rfl
    · unfold m_L_law; rw [e]; rfl) (by omega) (fun μ1 hr e => hr2 μ1 hr (fun k _ => by rw [e, n3_u3]))
  refine ⟨μ2, r2, fun k => ?_⟩
  unfold bo_3
  exact (e2 (fun μ => jn_L_law__2587 N Λ L sc μ k v0 (ad 0) (ad 181) (ad 200) (n3 i))).trans (kk_end N Λ L sc μ2 k v0 (ad 0) (ad 181) (ad 200) i)
theorem lc_4 {N : Nat} (hN : 1099511627776 ≤ N) {Λ : Lay} {ad : Nat → Nat} (hY : Ly Λ ad) {L : Nat} {sc : Nat → Int32} {i : Nat} (hi : i + 6 ≤ L) (hL : L ≤ 3072) {μ : Mem} (hr : Rel ad μ) (v0 : Nat) : ∃ μ2, Rel ad μ2 ∧ ∀ k, bo_4 N Λ L sc μ k v0 (ad 0) (ad 181) (ad 200) (n3 i) = k (n3 (i + 6), μ2) := by
  obtain ⟨F, m, A, b, J, T, n, f, h, h', ho⟩ := hr
  have a200 : aZ Λ (ad 200) = 1 := hY.2.2.2.2.2.2.2.2.2.2.2.1
  have hw := ho.1
  have hb := hw.1; unfold WB at hb
  obtain ⟨μ2, r2, e2⟩ := law_P h ho (C_fault hN hY h ho) (R_fault hN hY h' ho)
  refine ⟨μ2, r2, fun k => ?_⟩
  unfold bo_4
  exact (e2 (fun μ => jn_L_law__2587 N Λ L sc μ k v0 (ad 0) (ad 181) (ad 200) (n3 i))).trans (kk_end N Λ L sc μ2 k v0 (ad 0) (ad 181) (ad 200) i)
theorem lc_5 {N : Nat} (hN : 1099511627776 ≤ N) {Λ : Lay} {ad : Nat → Nat} (hY : Ly Λ ad) {L : Nat} {sc : Nat → Int32} {i : Nat} (hi : i + 6 ≤ L) (hL : L ≤ 3072) {μ : Mem} (hr : Rel ad μ) (v0 : Nat) : ∃ μ2, Rel ad μ2 ∧ ∀ k, bo_5 N Λ L sc μ k v0 (ad 0) (ad 181) (ad 200) (n3 i) = k (n3 (i + 6), μ2) := by
  obtain ⟨F, m, A, b, J, T, n, f, h, h', ho⟩ := hr
  have a200 : aZ Λ (ad 200) = 1 := hY.2.2.2.2.2.2.2.2.2.2.2.1
  have hw := ho.1
  have hb := hw.1; unfold WB at hb
  have g1 : inb (n3 i + 1) L = true := by rw [n3_lit 1, n3_add]; exact n3_inb (by omega) (by omega)
  obtain ⟨x1, hx1⟩ : ∃ x, sc (n3 i + 1).toNatClampNeg = x := ⟨_, rfl⟩
  have g2 : inb (n3 i + 2) L = true := by rw [n3_lit 2, n3_add]; exact n3_inb (by omega) (by omega)
  obtain ⟨x2, hx2⟩ : ∃ x, sc (n3 i + 2).toNatClampNeg = x := ⟨_, rfl⟩
  cases hrx1 : inr x1 (F 0) with
  | false =>
    obtain ⟨μ2, r2, e2⟩ := law_T (N := N) (t := 1) (wl := m_L_ship N Λ μ (ad 0) x1 x2 (ad 200)) hY h' ho (C_ship_f1 hN hY h ho x1 x2 hrx1) (fun μ1 e => by unfold m_L_ship; rw [e]; rfl) (show 1 ≤ 2 by omega) (fun μ1 hr _ => R_ship_f1 hN hY hr ho x1 x2 hrx1)
    refine ⟨μ2, r2, fun k => ?_⟩
    unfold bo_5
    simp only [g1, hx1, g2, hx2, gd_t]
    exact (e2 (fun μ => jn_L_law__2587 N Λ L sc μ k v0 (ad 0) (ad 181) (ad 200) (n3 i))).trans (kk_end N Λ L sc μ2 k v0 (ad 0) (ad 181) (ad 200) i)
  | true =>
    obtain ⟨s, hsx1, qx1⟩ := inr_t (by omega) hrx1
    subst qx1
    cases hrx2 : inr x2 (13) with
    | false =>
      obtain ⟨μ2, r2, e2⟩ := law_T (N := N) (t := 2) (wl := m_L_ship N Λ μ (ad 0) (n3 s) x2 (ad 200)) hY h' ho (C_ship_f2 hN hY h ho (n3 s) x2 hrx1 hrx2) (fun μ1 e => by unfold m_L_ship; rw [e]; rfl) (show 2 ≤ 2 by omega) (fun μ1 hr _ => R_ship_f2 hN hY hr ho (n3 s) x2 hrx1 hrx2)
      refine ⟨μ2, r2, fun k => ?_⟩
      unfold bo_5
      simp only [g1, hx1, g2, hx2, gd_t]
      exact (e2 (fun μ => jn_L_law__2587 N Λ L sc μ k v0 (ad 0) (ad 181) (ad 200) (n3 i))).trans (kk_end N Λ L sc μ2 k v0 (ad 0) (ad 181) (ad 200) i)
    | true =>
      obtain ⟨w, hsx2, qx2⟩ := inr_t (by omega) hrx2
      subst qx2
      obtain ⟨μ2, r2, e2⟩ := law_T (N := N) (t := 0) (wl := m_L_ship N Λ μ (ad 0) (n3 s) (n3 w) (ad 200)) hY h' ho (C_ship_t hN hY h ho s w hsx1 (by omega)) (fun μ1 e => by unfold m_L_ship; rw [e]; show gd (inb 0 (aZ Λ (ad 200))) _ = _; rw [a200]; rfl) (show 0 ≤ 2 by omega) (fun μ1 hr _ => R_ship_t hN hY hr ho s w hsx1 (by omega))
      refine ⟨μ2, r2, fun k => ?_⟩
      unfold bo_5
      simp only [g1, hx1, g2, hx2, gd_t]
      exact (e2 (fun μ => jn_L_law__2587 N Λ L sc μ k v0 (ad 0) (ad 181) (ad 200) (n3 i))).trans (kk_end N Λ L sc μ2 k v0 (ad 0) (ad 181) (ad 200) i)
theorem lc_6 {N : Nat} (hN : 1099511627776 ≤ N) {Λ : Lay} {ad : Nat → Nat} (hY : Ly Λ ad) {L : Nat} {sc : Nat → Int32} {i : Nat} (hi : i + 6 ≤ L) (hL : L ≤ 3072) {μ : Mem} (hr : Rel ad μ) (v0 : Nat) : ∃ μ2, Rel ad μ2 ∧ ∀ k, bo_6 N Λ L sc μ k v0 (ad 0) (ad 181) (ad 200) (n3 i) = k (n3 (i + 6), μ2) := by
  obtain ⟨F, m, A, b, J, T, n, f, h, h', ho⟩ := hr
  have a200 : aZ Λ (ad 200) = 1 := hY.2.2.2.2.2.2.2.2.2.2.2.1
  have hw := ho.1
  have hb := hw.1; unfold WB at hb
  have g1 : inb (n3 i + 1) L = true := by rw [n3_lit 1, n3_add]; exact n3_inb (by omega) (by omega)
  obtain ⟨x1, hx1⟩ : ∃ x, sc (n3 i + 1).toNatClampNeg = x := ⟨_, rfl⟩
  have g2 : inb (n3 i + 2) L = true := by rw [n3_lit 2, n3_add]; exact n3_inb (by omega) (by omega)
  obtain ⟨x2, hx2⟩ : ∃ x, sc (n3 i + 2).toNatClampNeg = x := ⟨_, rfl⟩
  cases hrx1 : inr x1 (24) with
  | false =>
    obtain ⟨μ2, r2, e2⟩ := law_T (N := N) (t := 1) (wl := m_L_place N Λ μ (ad 0) x1 x2 (ad 200)) hY h' ho (C_place_f1 hN hY h ho x1 x2 hrx1) (fun μ1 e => by unfold m_L_place; rw [e]; rfl) (show 1 ≤ 2 by omega) (fun μ1 hr _ => R_place_f1 hN hY hr ho x1 x2 hrx1)
    refine ⟨μ2, r2, fun k => ?_⟩
    unfold bo_6
    simp only [g1, hx1, g2, hx2, gd_t]
    exact (e2 (fun μ => jn_L_law__2587 N Λ L sc μ k v0 (ad 0) (ad 181) (ad 200) (n3 i))).trans (kk_end N Λ L sc μ2 k v0 (ad 0) (ad 181) (ad 200) i)
  | true =>
    obtain ⟨s, hsx1, qx1⟩ := inr_t (by omega) hrx1
    subst qx1
    cases hrx2 : inr x2 (2) with
    | false =>
      obtain ⟨μ2, r2, e2⟩ := law_T (N := N) (t := 2) (wl := m_L_place N Λ μ (ad 0) (n3 s) x2 (ad 200)) hY h' ho (C_place_f2 hN hY h ho (n3 s) x2 hrx1 hrx2) (fun μ1 e => by unfold m_L_place; rw [e]; rfl) (show 2 ≤ 2 by omega) (fun μ1 hr _ => R_place_f2 hN hY hr ho (n3 s) x2 hrx1 hrx2)
      refine ⟨μ2, r2, fun k => ?_⟩
      unfold bo_6
      simp only [g1, hx1, g2, hx2, gd_t]
      exact (e2 (fun μ => jn_L_law__2587 N Λ L sc μ k v0 (ad 0) (ad 181) (ad 200) (n3 i))).trans (kk_end N Λ L sc μ2 k v0 (ad 0) (ad 181) (ad 200) i)
    | true =>
      obtain ⟨w, hsx2, qx2⟩ := inr_t (by omega) hrx2
      subst qx2
      obtain ⟨μ2, r2, e2⟩ := law_T (N := N) (t := 0) (wl := m_L_place N Λ μ (ad 0) (n3 s) (n3 w) (ad 200)) hY h' ho (C_place_t hN hY h ho s w hsx1 (by omega)) (fun μ1 e => by unfold m_L_place; rw [e]; show gd (inb 0 (aZ Λ (ad 200))) _ = _; rw [a200]; rfl) (show 0 ≤ 2 by omega) (fun μ1 hr _ => R_place_t hN hY hr ho s w hsx1 (by omega))
      refine ⟨μ2, r2, fun k => ?_⟩
      unfold bo_6
      simp only [g1, hx1, g2, hx2, gd_t]
      exact (e2 (fun μ => jn_L_law__2587 N Λ L sc μ k v0 (ad 0) (ad 181) (ad 200) (n3 i))).trans (kk_end N Λ L sc μ2 k v0 (ad 0) (ad 181) (ad 200) i)
theorem lc_7 {N : Nat} (hN : 1099511627776 ≤ N) {Λ : Lay} {ad : Nat → Nat} (hY : Ly Λ ad) {L : Nat} {sc : Nat → Int32} {i : Nat} (hi : i + 6 ≤ L) (hL : L ≤ 3072) {μ : Mem} (hr : Rel ad μ) (v0 : Nat) : ∃ μ2, Rel ad μ2 ∧ ∀ k, bo_7 N Λ L sc μ k v0 (ad 0) (ad 181) (ad 200) (n3 i) = k (n3 (i + 6), μ2) := by
  obtain ⟨F, m, A, b, J, T, n, f, h, h', ho⟩ := hr
  have a200 : aZ Λ (ad 200) = 1 := hY.2.2.2.2.2.2.2.2.2.2.2.1
  have hw := ho.1
  have hb := hw.1; unfold WB at hb
  have g1 : inb (n3 i + 1) L = true := by rw [n3_lit 1, n3_add]; exact n3_inb (by omega) (by omega)
  obtain ⟨x1, hx1⟩ : ∃ x, sc (n3 i + 1).toNatClampNeg = x := ⟨_, rfl⟩
  cases hrx1 : inr x1 (12) with
  | false =>
    obtain ⟨μ2, r2, e2⟩ := law_T (N := N) (t := 1) (wl := m_L_tide N Λ μ (ad 0) x1 (ad 200)) hY h' ho (C_tide_f hN hY h ho x1 hrx1) (fun μ1 e => by unfold m_L_tide; rw [e]; rfl) (show 1 ≤ 2 by omega) (fun μ1 hr _ => R_tide_f hN hY hr ho x1 hrx1)
    refine ⟨μ2, r2, fun k => ?_⟩
    unfold bo_7
    simp only [g1, hx1, gd_t]
    exact (e2 (fun μ => jn_L_law__2587 N Λ L sc μ k v0 (ad 0) (ad 181) (ad 200) (n3 i))).trans (kk_end N Λ L sc μ2 k v0 (ad 0) (ad 181) (ad 200) i)
  | true =>
    obtain ⟨s, hsx1, qx1⟩ := inr_t (by omega) hrx1
    subst qx1
    obtain ⟨μ2, r2, e2⟩ := law_T (N := N) (t := 0) (wl := m_L_tide N Λ μ (ad 0) (n3 s) (ad 200)) hY h' ho (C_tide_t hN hY h ho s hsx1) (fun μ1 e => by unfold m_L_tide; rw [e]; show gd (inb 0 (aZ Λ (ad 200))) _ = _; rw [a200]; rfl) (show 0 ≤ 2 by omega) (fun μ1 hr _ => R_tide_t hN hY hr ho s hsx1)
    refine ⟨μ2, r2, fun k => ?_⟩
    unfold bo_7
    simp only [g1, hx1, gd_t]
    exact (e2 (fun μ => jn_L_law__2587 N Λ L sc μ k v0 (ad 0) (ad 181) (ad 200) (n3 i))).trans (kk_end N Λ L sc μ2 k v0 (ad 0) (ad 181) (ad 200) i)
theorem lc_8 {N : Nat} (hN : 1099511627776 ≤ N) {Λ : Lay} {ad : Nat → Nat} (hY : Ly Λ ad) {L : Nat} {sc : Nat → Int32} {i : Nat} (hi : i + 6 ≤ L) (hL : L ≤ 3072) {μ : Mem} (hr : Rel ad μ) (v0 : Nat) : ∃ μ2, Rel ad μ2 ∧ ∀ k, bo_8 N Λ L sc μ k v0 (ad 0) (ad 181) (ad 200) (n3 i) = k (n3 (i + 6), μ2) := by
  obtain ⟨F, m, A, b, J, T, n, f, h, h', ho⟩ := hr
  have a200 : aZ Λ (ad 200) = 1 := hY.2.2.2.2.2.2.2.2.2.2.2.1
  have hw := ho.1
  have hb := hw.1; unfold WB at hb
  have g1 : inb (n3 i + 1) L = true := by rw [n3_lit 1, n3_add]; exact n3_inb (by omega) (by omega)
  obtain ⟨x1, hx1⟩ : ∃ x, sc (n3 i + 1).toNatClampNeg = x := ⟨_, rfl⟩
  by_cases hx : x1 < n3 1 ∨ n3 60 < x1
  · obtain ⟨μ2, r2, e2⟩ := law_T (N := N) (t := 1) (wl := m_L_hours N Λ μ (ad 0) x1 (ad 200)) hY h' ho (C_hours_f hN hY h ho x1 hx) (fun μ1 e => by unfold m_L_hours; rw [e]; rfl) (show 1 ≤ 2 by omega) (fun μ1 hr _ => R_hours_f hN hY hr ho x1 hx)
    refine ⟨μ2, r2, fun k => ?_⟩
    unfold bo_8
    simp only [g1, hx1, gd_t]
    exact (e2 (fun μ => jn_L_law__2587 N Λ L sc μ k v0 (ad 0) (ad 181) (ad 200) (n3 i))).trans (kk_end N Λ L sc μ2 k v0 (ad 0) (ad 181) (ad 200) i)
  · obtain ⟨a, h1, ha, q⟩ : ∃ a, 1 ≤ a ∧ a ≤ 60 ∧ x1 = n3 a := by
      have k1 : n3 1 ≤ x1 := Int32.not_lt.1 (fun e => hx (Or.inl e))
      have k2 : x1 ≤ n3 60 := Int32.not_lt.1 (fun e => hx (Or.inr e))
      rw [i32_lt (by omega)] at k1
      obtain ⟨a, ha, q⟩ := n3_of (x := x1) (b := 60) (by omega) (by rw [i32_lt (by omega)]; omega) k2
      refine ⟨a, ?_, ha, q⟩
      rw [q, n3_toInt (by omega)] at k1; omega
    subst q
    obtain ⟨μ2, r2, e2⟩ := law_T (N := N) (t := 0) (wl := m_L_hours N Λ μ (ad 0) (n3 a) (ad 200)) hY h' (ho.rem.to (hrsF_WF hw false a) (hrsF_Kp hw false a).2.2.2.2.2.2.2.2) (C_hours_t hN hY h ho a h1 ha) (fun μ1 e => by unfold m_L_hours; rw [e]; show gd (inb 0 (aZ Λ (ad 200))) _ = _; rw [a200]; rfl) (show 0 ≤ 2 by omega) (fun μ1 hr _ => R_hours_t hN hY hr ho a h1 ha)
    refine ⟨μ2, r2, fun k => ?_⟩
    unfold bo_8
    simp only [g1, hx1, gd_t]
    exact (e2 (fun μ => jn_L_law__2587 N Λ L sc μ k v0 (ad 0) (ad 181) (ad 200) (n3 i))).trans (kk_end N Λ L sc μ2 k v0 (ad 0) (ad 181) (ad 200) i)
theorem lc_9 {N : Nat} (hN : 1099511627776 ≤ N) {Λ : Lay} {ad : Nat → Nat} (hY : Ly Λ ad) {L : Nat} {sc : Nat → Int32} {i : Nat} (hi : i + 6 ≤ L) (hL : L ≤ 3072) {μ : Mem} (hr : Rel ad μ) (v0 : Nat) : ∃ μ2, Rel ad μ2 ∧ ∀ k, bo_9 N Λ L sc μ k v0 (ad 0) (ad 181) (ad 200) (n3 i) = k (n3 (i + 6), μ2) := by
  obtain ⟨F, m, A, b, J, T, n, f, h, h', ho⟩ := hr
  have a200 : aZ Λ (ad 200) = 1 := hY.2.2.2.2.2.2.2.2.2.2.2.1
  have hw := ho.1
  have hb := hw.1; unfold WB at hb
  have g1 : inb (n3 i + 1) L = true := by rw [n3_lit 1, n3_add]; exact n3_inb (by omega) (by omega)
  obtain ⟨x1, hx1⟩ : ∃ x, sc (n3 i + 1).toNatClampNeg = x := ⟨_, rfl⟩
  by_cases hd : x1 = 0
  · have hd' : (x1 = 0) = True := eq_true hd
    obtain ⟨μ2, r2, e2⟩ := law_B (N := N) (t := 0) (z := (bb (¬ F 4 = 0))) (wl := m_L_gate N Λ μ (ad 0) (n3 0) (ad 200)) hY h' (ho.rem.to (hw.up_lo (k := 4) (v := 0) (by omega) (by omega) (by unfold WB; simp (disch := omega) only [up_n, up_e]; omega)) ((LwE.refl F).up (by omega) (by omega))) (bb_le _) (C_gate_t hN hY h ho 0 (by omega) (Or.inl rfl)) (fun μ1 e => by unfold m_L_gate; rw [e]; show (if n3 (bb (¬ F 4 = 0)) = 0 then jn_L_gate_15 N Λ μ1 (ad 200) 0 0 else jn_L_gate_15 N Λ μ1 (ad 200) 0 1) = _; unfold jn_L_gate_15; rw [a200]; rcases Nat.le_one_iff_eq_zero_or_eq_one.1 (show (bb (¬ F 4 = 0)) ≤ 1 from bb_le _) with e0 | e0 <;> rw [e0] <;> rfl) (show 0 ≤ 2 by omega) (fun μ1 hr => R_gate_t hN hY hr ho 0 (by omega) (Or.inl rfl))
    refine ⟨μ2, r2, fun k => ?_⟩
    unfold bo_9
    simp only [g1, hx1, gd_t, hd', if_true, if_false, jn_L_law__742, jn_L_law__763, jn_L_law__797, jn_L_law__803]
    exact (e2 (fun μ => jn_L_law__2587 N Λ L sc μ k v0 (ad 0) (ad 181) (ad 200) (n3 i))).trans (kk_end N Λ L sc μ2 k v0 (ad 0) (ad 181) (ad 200) i)
  · have hd' : (x1 = 0) = False := eq_false hd
    by_cases hg : F 4 = 1 ∨ evnb F = true
    · obtain ⟨μ2, r2, e2⟩ := law_B (N := N) (t := 0) (z := (bb (¬ F 4 = 1))) (wl := m_L_gate N Λ μ (ad 0) (n3 1) (ad 200)) hY h' (ho.rem.to (hw.up_lo (k := 4) (v := 1) (by omega) (by omega) (by unfold WB; simp (disch := omega) only [up_n, up_e]; omega)) ((LwE.refl F).up (by omega) (by omega))) (bb_le _) (C_gate_t hN hY h ho 1 (by omega) (Or.inr hg)) (fun μ1 e => by unfold m_L_gate; rw [e]; show (if n3 (bb (¬ F 4 = 1)) = 0 then jn_L_gate_15 N Λ μ1 (ad 200) 0 0 else jn_L_gate_15 N Λ μ1 (ad 200) 0 1) = _; unfold jn_L_gate_15; rw [a200]; rcases Nat.le_one_iff_eq_zero_or_eq_one.1 (show (bb (¬ F 4 = 1)) ≤ 1 from bb_le _) with e0 | e0 <;> rw [e0] <;> rfl) (show 0 ≤ 2 by omega) (fun μ1 hr => R_gate_t hN hY hr ho 1 (by omega) (Or.inr hg))
      refine ⟨μ2, r2, fun k => ?_⟩
      unfold bo_9
      simp only [g1, hx1, gd_t, hd', if_true, if_false, jn_L_law__742, jn_L_law__763, jn_L_law__797, jn_L_law__803]
      exact (e2 (fun μ => jn_L_law__2587 N Λ L sc μ k v0 (ad 0) (ad 181) (ad 200) (n3 i))).trans (kk_end N Λ L sc μ2 k v0 (ad 0) (ad 181) (ad 200) i)
    · have h40 : F 4 = 0 := by
        have : ¬ F 4 = 1 := fun e => hg (Or.inl e)
        omega
      have he : evnb F = false := Bool.eq_false_iff.2 (fun e => hg (Or.inr e))
      obtain ⟨μ2, r2, e2⟩ := law_B (N := N) (t := 1) (z := 0) (wl := m_L_gate N Λ μ (ad 0) (n3 1) (ad 200)) hY h' ho (Nat.zero_le 1) (C_gate_f hN hY h ho h40 he) (fun μ1 e => by unfold m_L_gate; rw [e]; rfl) (show 1 ≤ 2 by omega) (fun μ1 hr => R_gate_f hN hY hr ho h40 he)
      refine ⟨μ2, r2, fun k => ?_⟩
      unfold bo_9
      simp only [g1, hx1, gd_t, hd', if_true, if_false, jn_L_law__742, jn_L_law__763, jn_L_law__797, jn_L_law__803]
      exact (e2 (fun μ => jn_L_law__2587 N Λ L sc μ k v0 (ad 0) (ad 181) (ad 200) (n3 i))).trans (kk_end N Λ L sc μ2 k v0 (ad 0) (ad 181) (ad 200) i)
theorem lc_10 {N : Nat} (hN : 1099511627776 ≤ N) {Λ : Lay} {ad : Nat → Nat} (hY : Ly Λ ad) {L : Nat} {sc : Nat → Int32} {i : Nat} (hi : i + 6 ≤ L) (hL : L ≤ 3072) {μ : Mem} (hr : Rel ad μ) (v0 : Nat) : ∃ μ2, Rel ad μ2 ∧ ∀ k, bo_10 N Λ L sc μ k v0 (ad 0) (ad 181) (ad 200) (n3 i) = k (n3 (i + 6), μ2) := by
  obtain ⟨F, m, A, b, J, T, n, f, h, h', ho⟩ := hr
  have a200 : aZ Λ (ad 200) = 1 := hY.2.2.2.2.2.2.2.2.2.2.2.1
  have hw := ho.1
  have hb := hw.1; unfold WB at hb
  have g1 : inb (n3 i + 1) L = true := by rw [n3_lit 1, n3_add]; exact n3_inb (by omega) (by omega)
  obtain ⟨x1, hx1⟩ : ∃ x, sc (n3 i + 1).toNatClampNeg = x := ⟨_, rfl⟩
  have g2 : inb (n3 i + 2) L = true := by rw [n3_lit 2, n3_add]; exact n3_inb (by omega) (by omega)
  obtain ⟨x2, hx2⟩ : ∃ x, sc (n3 i + 2).toNatClampNeg = x := ⟨_, rfl⟩
  by_cases hx : inr x1 (F 0) = false ∨ inr x2 24 = false
  · obtain ⟨μ2, r2, e2⟩ := law_T (N := N) (t := 1) (wl := m_L_enter N Λ μ (ad 0) x1 x2 (ad 200)) hY h' ho (C_enter_f1 hN hY h ho x1 x2 hx) (fun μ1 e => by unfold m_L_enter; rw [e]; rfl) (show 1 ≤ 2 by omega) (fun μ1 hr _ => R_enter_f1 hN hY hr ho x1 x2 hx)
    refine ⟨μ2, r2, fun k => ?_⟩
    unfold bo_10
    simp only [g1, hx1, g2, hx2, gd_t]
    exact (e2 (fun μ => jn_L_law__2587 N Λ L sc μ k v0 (ad 0) (ad 181) (ad 200) (n3 i))).trans (kk_end N Λ L sc μ2 k v0 (ad 0) (ad 181) (ad 200) i)
  · obtain ⟨s, hs, q⟩ := inr_t (x := x1) (b := F 0) (by omega) (by cases e : inr x1 (F 0) with
      | true => rfl
      | false => exact absurd (Or.inl e) hx)
    obtain ⟨p, hp, q'⟩ := inr_t (x := x2) (b := 24) (by omega) (by cases e : inr x2 24 with
      | true => rfl
      | false => exact absurd (Or.inr e) hx)
    subst q; subst q'
    cases hc : canE F s p with
    | false =>
      obtain ⟨μ2, r2, e2⟩ := law_T (N := N) (t := 2) (wl := m_L_enter N Λ μ (ad 0) (n3 s) (n3 p) (ad 200)) hY h' ho (C_enter_f2 hN hY h ho s p hs hp hc) (fun μ1 e => by unfold m_L_enter; rw [e]; rfl) (show 2 ≤ 2 by omega) (fun μ1 hr _ => R_enter_f2 hN hY hr ho s p hs hp hc)
      refine ⟨μ2, r2, fun k => ?_⟩
      unfold bo_10
      simp only [g1, hx1, g2, hx2, gd_t]
      exact (e2 (fun μ => jn_L_law__2587 N Λ L sc μ k v0 (ad 0) (ad 181) (ad 200) (n3 i))).trans (kk_end N Λ L sc μ2 k v0 (ad 0) (ad 181) (ad 200) i)
    | true =>
      obtain ⟨μ2, r2, e2⟩ := law_T (N := N) (t := 0) (wl := m_L_enter N Λ μ (ad 0) (n3 s) (n3 p) (ad 200)) hY h' (ho.rem.to (ent_WF hw hs (canE_iff.1 hc).2.2.2) (ent_Lw (by omega))) (C_enter_t hN hY h ho s p hs hp hc) (fun μ1 e => by unfold m_L_enter; rw [e]; show gd (inb 0 (aZ Λ (ad 200))) _ = _; rw [a200]; rfl) (show 0 ≤ 2 by omega) (fun μ1 hr _ => R_enter_t hN hY hr ho s p hs hp hc)
      refine ⟨μ2, r2, fun k => ?_⟩
      unfold bo_10
      simp only [g1, hx1, g2, hx2, gd_t]
      exact (e2 (fun μ => jn_L_law__2587 N Λ L sc μ k v0 (ad 0) (ad 181) (ad 200) (n3 i))).trans (kk_end N Λ L sc μ2 k v0 (ad 0) (ad 181) (ad 200) i)
theorem lc_11 {N : Nat} (hN : 1099511627776 ≤ N) {Λ : Lay} {ad : Nat → Nat} (hY : Ly Λ ad) {L : Nat} {sc : Nat → Int32} {i : Nat} (hi : i + 6 ≤ L) (hL : L ≤ 3072) {μ : Mem} (hr : Rel ad μ) (v0 : Nat) : ∃ μ2, Rel ad μ2 ∧ ∀ k, bo_11 N Λ L sc μ k v0 (ad 0) (ad 181) (ad 200) (n3 i) = k (n3 (i + 6), μ2) := by
  obtain ⟨F, m, A, b, J, T, n, f, h, h', ho⟩ := hr
  have a200 : aZ Λ (ad 200) = 1 := hY.2.2.2.2.2.2.2.2.2.2.2.1
  have hw := ho.1
  have hb := hw.1; unfold WB at hb
  have g1 : inb (n3 i + 1) L = true := by rw [n3_lit 1, n3_add]; exact n3_inb (by omega) (by omega)
  obtain ⟨x1, hx1⟩ : ∃ x, sc (n3 i + 1).toNatClampNeg = x := ⟨_, rfl⟩
  cases hrx1 : inr x1 (F 0) with
  | false =>
    obtain ⟨μ2, r2, e2⟩ := law_T (N := N) (t := 1) (wl := m_L_leave N Λ μ (ad 0) x1 (ad 200)) hY h' ho (C_leave_f1 hN hY h ho x1 hrx1) (fun μ1 e => by unfold m_L_leave; rw [e]; rfl) (show 1 ≤ 2 by omega) (fun μ1 hr _ => R_leave_f1 hN hY hr ho x1 hrx1)
    refine ⟨μ2, r2, fun k => ?_⟩
    unfold bo_11
    simp only [g1, hx1, gd_t]
    exact (e2 (fun μ => jn_L_law__2587 N Λ L sc μ k v0 (ad 0) (ad 181) (ad 200) (n3 i))).trans (kk_end N Λ L sc μ2 k v0 (ad 0) (ad 181) (ad 200) i)
  | true =>
    obtain ⟨s, hsx1, qx1⟩ := inr_t (by omega) hrx1
    subst qx1
    by_cases hc : F 4 = 1 ∧ flob F s = true
    · obtain ⟨μ2, r2, e2⟩ := law_T (N := N) (t := 0) (wl := m_L_leave N Λ μ (ad 0) (n3 s) (ad 200)) hY h' (ho.rem.to (out_WF hw hsx1) (out_Lw (by omega))) (C_leave_t hN hY h ho s hsx1 hc.1 hc.2) (fun μ1 e => by unfold m_L_leave; rw [e]; show gd (inb 0 (aZ Λ (ad 200))) _ = _; rw [a200]; rfl) (show 0 ≤ 2 by omega) (fun μ1 hr _ => R_leave_t hN hY hr ho s hsx1 hc.1 hc.2)
      refine ⟨μ2, r2, fun k => ?_⟩
      unfold bo_11
      simp only [g1, hx1, gd_t]
      exact (e2 (fun μ => jn_L_law__2587 N Λ L sc μ k v0 (ad 0) (ad 181) (ad 200) (n3 i))).trans (kk_end N Λ L sc μ2 k v0 (ad 0) (ad 181) (ad 200) i)
    · obtain ⟨μ2, r2, e2⟩ := law_T (N := N) (t := 2) (wl := m_L_leave N Λ μ (ad 0) (n3 s) (ad 200)) hY h' ho (C_leave_f2 hN hY h ho s hsx1 hc) (fun μ1 e => by unfold m_L_leave; rw [e]; rfl) (show 2 ≤ 2 by omega) (fun μ1 hr _ => R_leave_f2 hN hY hr ho s hsx1 hc)
      refine ⟨μ2, r2, fun k => ?_⟩
      unfold bo_11
      simp only [g1, hx1, gd_t]
      exact (e2 (fun μ => jn_L_law__2587 N Λ L sc μ k v0 (ad 0) (ad 181) (ad 200) (n3 i))).trans (kk_end N Λ L sc μ2 k v0 (ad 0) (ad 181) (ad 200) i)
theorem lc_12 {N : Nat} (hN : 1099511627776 ≤ N) {Λ : Lay} {ad : Nat → Nat} (hY : Ly Λ ad) {L : Nat} {sc : Nat → Int32} {i : Nat} (hi : i + 6 ≤ L) (hL : L ≤ 3072) {μ : Mem} (hr : Rel ad μ) (v0 : Nat) : ∃ μ2, Rel ad μ2 ∧ ∀ k, bo_12 N Λ L sc μ k v0 (ad 0) (ad 181) (ad 200) (n3 i) = k (n3 (i + 6), μ2) := by
  obtain ⟨F, m, A, b, J, T, n, f, h, h', ho⟩ := hr
  have a200 : aZ Λ (ad 200) = 1 := hY.2.2.2.2.2.2.2.2.2.2.2.1
  have hw := ho.1
  have hb := hw.1; unfold WB at hb
  have g1 : inb (n3 i + 1) L = true := by rw [n3_lit 1, n3_add]; exact n3_inb (by omega) (by omega)
  obtain ⟨x1, hx1⟩ : ∃ x, sc (n3 i + 1).toNatClampNeg = x := ⟨_, rfl⟩
  have g2 : inb (n3 i + 2) L = true := by rw [n3_lit 2, n3_add]; exact n3_inb (by omega) (by omega)
  obtain ⟨x2, hx2⟩ : ∃ x, sc (n3 i + 2).toNatClampNeg = x := ⟨_, rfl⟩
  have g3 : inb (n3 i + 3) L = true := by rw [n3_lit 3, n3_add]; exact n3_inb (by omega) (by omega)
  obtain ⟨x3, hx3⟩ : ∃ x, sc (n3 i + 3).toNatClampNeg = x := ⟨_, rfl⟩
  by_cases hx : shOkb x1 x2 x3
  · obtain ⟨⟨k1, k2⟩, ⟨k3, k4⟩, ⟨k5, k6⟩⟩ := hx
    have y1 := k1
    have y3 := k3
    rw [i32_lt (by omega)] at y1 y3
    obtain ⟨l, l2, q1⟩ := n3_of (x := x1) (b := 12) (by omega) (by rw [i32_lt (by omega)]; omega) k2
    obtain ⟨d, d2, q2⟩ := n3_of (x := x2) (b := 20) (by omega) (by rw [i32_lt (by omega)]; omega) k4
    obtain ⟨w, w2, q3⟩ := n3_of (x := x3) (b := 99) (by omega) k5 k6
    rw [q1, n3_toInt (by omega)] at y1
    rw [q2, n3_toInt (by omega)] at y3
    subst q1; subst q2; subst q3
    have l1 : 1 ≤ l := by omega
    have d1 : 1 ≤ d := by omega
    by_cases h8 : F 0 = 8
    · obtain ⟨μ2, r2, e2⟩ := law_T (N := N) (t := 2) (wl := m_L_comes N Λ μ (ad 0) (n3 l) (n3 d) (n3 w) (ad 200)) hY h' ho (C_comes_f2 hN hY h ho l d w ⟨l1, l2⟩ ⟨d1, d2⟩ w2 h8) (fun μ1 e => by unfold m_L_comes; rw [e]; rfl) (show 2 ≤ 2 by omega) (fun μ1 hr _ => R_comes_f2 hN hY hr ho l d w ⟨l1, l2⟩ ⟨d1, d2⟩ w2 h8)
      refine ⟨μ2, r2, fun k => ?_⟩
      unfold bo_12
      simp only [g1, hx1, g2, hx2, g3, hx3, gd_t]
      exact (e2 (fun μ => jn_L_law__2587 N Λ L sc μ k v0 (ad 0) (ad 181) (ad 200) (n3 i))).trans (kk_end N Λ L sc μ2 k v0 (ad 0) (ad 181) (ad 200) i)
    · have h8' : F 0 < 8 := by omega
      obtain ⟨μ2, r2, e2⟩ := law_T (N := N) (t := 0) (wl := m_L_comes N Λ μ (ad 0) (n3 l) (n3 d) (n3 w) (ad 200)) hY h' (ho.rem.to (add_WF hw h8' ⟨l1, l2⟩ ⟨d1, d2⟩ w2 (Or.inl ⟨rfl, rfl⟩)) (add_Lw h8')) (C_comes_t hN hY h ho l d w ⟨l1, l2⟩ ⟨d1, d2⟩ w2 h8') (fun μ1 e => by unfold m_L_comes; rw [e]; show gd (inb 0 (aZ Λ (ad 200))) _ = _; rw [a200]; rfl) (show 0 ≤ 2 by omega) (fun μ1 hr _ => R_comes_t hN hY hr ho l d w ⟨l1, l2⟩ ⟨d1, d2⟩ w2 h8')
      refine ⟨μ2, r2, fun k => ?_⟩
      unfold bo_12
      simp only [g1, hx1, g2, hx2, g3, hx3, gd_t]
      exact (e2 (fun μ => jn_L_law__2587 N Λ L sc μ k v0 (ad 0) (ad 181) (ad 200) (n3 i))).trans (kk_end N Λ L sc μ2 k v0 (ad 0) (ad 181) (ad 200) i)
  · obtain ⟨μ2, r2, e2⟩ := law_T (N := N) (t := 1) (wl := m_L_comes N Λ μ (ad 0) x1 x2 x3 (ad 200)) hY h' ho (C_comes_f1 hN hY h ho x1 x2 x3 hx) (fun μ1 e => by unfold m_L_comes; rw [e]; rfl) (show 1 ≤ 2 by omega) (fun μ1 hr _ => R_comes_f1 hN hY hr ho x1 x2 x3 hx)
    refine ⟨μ2, r2, fun k => ?_⟩
    unfold bo_12
    simp only [g1, hx1, g2, hx2, g3, hx3, gd_t]
    exact (e2 (fun μ => jn_L_law__2587 N Λ L sc μ k v0 (ad 0) (ad 181) (ad 200) (n3 i))).trans (kk_end N Λ L sc μ2 k v0 (ad 0) (ad 181) (ad 200) i)
theorem lc_13 {N : Nat} (hN : 1099511627776 ≤ N) {Λ : Lay} {ad : Nat → Nat} (hY : Ly Λ ad) {L : Nat} {sc : Nat → Int32} {i : Nat} (hi : i + 6 ≤ L) (hL : L ≤ 3072) {μ : Mem} (hr : Rel ad μ) (v0 : Nat) : ∃ μ2, Rel ad μ2 ∧ ∀ k, bo_13 N Λ L sc μ k v0 (ad 0) (ad 181) (ad 200) (n3 i) = k (n3 (i + 6), μ2) := by
  obtain ⟨F, m, A, b, J, T, n, f, h, h', ho⟩ := hr
  have a200 : aZ Λ (ad 200) = 1 := hY.2.2.2.2.2.2.2.2.2.2.2.1
  have hw := ho.1
  have hb := hw.1; unfold WB at hb
  have g1 : inb (n3 i + 1) L = true := by rw [n3_lit 1, n3_add]; exact n3_inb (by omega) (by omega)
  obtain ⟨x1, hx1⟩ : ∃ x, sc (n3 i + 1).toNatClampNeg = x := ⟨_, rfl⟩
  have g2 : inb (n3 i + 2) L = true := by rw [n3_lit 2, n3_add]; exact n3_inb (by omega) (by omega)
  obtain ⟨x2, hx2⟩ : ∃ x, sc (n3 i + 2).toNatClampNeg = x := ⟨_, rfl⟩
  cases hrx1 : inr x1 (24) with
  | false =>
    by_cases hd : x2 = 0
    · have hd' : (x2 = 0) = True := eq_true hd
      obtain ⟨μ2, r2, e2⟩ := law_B (N := N) (t := 1) (z := 0) (wl := m_L_block N Λ μ (ad 0) x1 (n3 0) (ad 200)) hY h' ho (Nat.zero_le 1) (C_block_f hN hY h ho x1 (n3 0) hrx1) (fun μ1 e => by unfold m_L_block; rw [e]; rfl) (show 1 ≤ 2 by omega) (fun μ1 hr => R_block_f hN hY hr ho x1 (n3 0) hrx1)
      refine ⟨μ2, r2, fun k => ?_⟩
      unfold bo_13
      simp only [g1, hx1, g2, hx2, gd_t, hd', if_true, if_false, jn_L_law__1031, jn_L_law__1058, jn_L_law__1092, jn_L_law__1098]
      exact (e2 (fun μ => jn_L_law__2587 N Λ L sc μ k v0 (ad 0) (ad 181) (ad 200) (n3 i))).trans (kk_end N Λ L sc μ2 k v0 (ad 0) (ad 181) (ad 200) i)
    · have hd' : (x2 = 0) = False := eq_false hd
      obtain ⟨μ2, r2, e2⟩ := law_B (N := N) (t := 1) (z := 0) (wl := m_L_block N Λ μ (ad 0) x1 (n3 1) (ad 200)) hY h' ho (Nat.zero_le 1) (C_block_f hN hY h ho x1 (n3 1) hrx1) (fun μ1 e => by unfold m_L_block; rw [e]; rfl) (show 1 ≤ 2 by omega) (fun μ1 hr => R_block_f hN hY hr ho x1 (n3 1) hrx1)
      refine ⟨μ2, r2, fun k => ?_⟩
      unfold bo_13
      simp only [g1, hx1, g2, hx2, gd_t, hd', if_true, if_false, jn_L_law__1031, jn_L_law__1058, jn_L_law__1092, jn_L_law__1098]
      exact (e2 (fun μ => jn_L_law__2587 N Λ L sc μ k v0 (ad 0) (ad 181) (ad 200) (n3 i))).trans (kk_end N Λ L sc μ2 k v0 (ad 0) (ad 181) (ad 200) i)
  | true =>
    obtain ⟨s, hsx1, qx1⟩ := inr_t (by omega) hrx1
    subst qx1
    by_cases hd : x2 = 0
    · have hd' : (x2 = 0) = True := eq_true hd
      obtain ⟨μ2, r2, e2⟩ := law_B (N := N) (t := 0) (z := (bb (¬ F 10 = blk (F 10) s 0))) (wl := m_L_block N Λ μ (ad 0) (n3 s) (n3 0) (ad 200)) hY h' (ho.rem.to (hw.up_lo (k := 10) (v := blk (F 10) s 0) (by omega) (by omega) (by have := blk_lt (B := F 10) (p := s) (d := 0) (by omega) hsx1; unfold WB; simp (disch := omega) only [up_n, up_e]; omega)) ((LwE.refl F).up (by omega) (by omega))) (bb_le _) (C_block_t hN hY h ho s 0 hsx1 (by omega)) (fun μ1 e => by unfold m_L_block; rw [e]; show (if n3 (bb (¬ F 10 = blk (F 10) s 0)) = 0 then jn_L_block_16 N Λ μ1 (ad 200) 0 0 else jn_L_block_16 N Λ μ1 (ad 200) 0 1) = _; unfold jn_L_block_16; rw [a200]; rcases Nat.le_one_iff_eq_zero_or_eq_one.1 (show (bb (¬ F 10 = blk (F 10) s 0)) ≤ 1 from bb_le _) with e0 | e0 <;> rw [e0] <;> rfl) (show 0 ≤ 2 by omega) (fun μ1 hr => R_block_t hN hY hr ho s 0 hsx1 (by omega))
      refine ⟨μ2, r2, fun k => ?_⟩
      unfold bo_13
      simp only [g1, hx1, g2, hx2, gd_t, hd', if_true, if_false, jn_L_law__1031, jn_L_law__1058, jn_L_law__1092, jn_L_law__1098]
      exact (e2 (fun μ => jn_L_law__2587 N Λ L sc μ k v0 (ad 0) (ad 181) (ad 200) (n3 i))).trans (kk_end N Λ L sc μ2 k v0 (ad 0) (ad 181) (ad 200) i)
    · have hd' : (x2 = 0) = False := eq_false hd
      obtain ⟨μ2, r2, e2⟩ := law_B (N := N) (t := 0) (z := (bb (¬ F 10 = blk (F 10) s 1))) (wl := m_L_block N Λ μ (ad 0) (n3 s) (n3 1) (ad 200)) hY h' (ho.rem.to (hw.up_lo (k := 10) (v := blk (F 10) s 1) (by omega) (by omega) (by have := blk_lt (B := F 10) (p := s) (d := 1) (by omega) hsx1; unfold WB; simp (disch := omega) only [up_n, up_e]; omega)) ((LwE.refl F).up (by omega) (by omega))) (bb_le _) (C_block_t hN hY h ho s 1 hsx1 (by omega)) (fun μ1 e => by unfold m_L_block; rw [e]; show (if n3 (bb (¬ F 10 = blk (F 10) s 1)) = 0 then jn_L_block_16 N Λ μ1 (ad 200) 0 0 else jn_L_block_16 N Λ μ1 (ad 200) 0 1) = _; unfold jn_L_block_16; rw [a200]; rcases Nat.le_one_iff_eq_zero_or_eq_one.1 (show (bb (¬ F 10 = blk (F 10) s 1)) ≤ 1 from bb_le _) with e0 | e0 <;> rw [e0] <;> rfl) (show 0 ≤ 2 by omega) (fun μ1 hr => R_block_t hN hY hr ho s 1 hsx1 (by omega))
      refine ⟨μ2, r2, fun k => ?_⟩
      unfold bo_13
      simp only [g1, hx1, g2, hx2, gd_t, hd', if_true, if_false, jn_L_law__1031, jn_L_law__1058, jn_L_law__1092, jn_L_law__1098]
      exact (e2 (fun μ => jn_L_law__2587 N Λ L sc μ k v0 (ad 0) (ad 181) (ad 200) (n3 i))).trans (kk_end N Λ L sc μ2 k v0 (ad 0) (ad 181) (ad 200) i)
theorem lc_14 {N : Nat} (hN : 1099511627776 ≤ N) {Λ : Lay} {ad : Nat → Nat} (hY : Ly Λ ad) {L : Nat} {sc : Nat → Int32} {i : Nat} (hi : i + 6 ≤ L) (hL : L ≤ 3072) {μ : Mem} (hr : Rel ad μ) (v0 : Nat) : ∃ μ2, Rel ad μ2 ∧ ∀ k, bo_14 N Λ L sc μ k v0 (ad 0) (ad 181) (ad 200) (n3 i) = k (n3 (i + 6), μ2) := by
  obtain ⟨F, m, A, b, J, T, n, f, h, h', ho⟩ := hr
  have a200 : aZ Λ (ad 200) = 1 := hY.2.2.2.2.2.2.2.2.2.2.2.1
  have hw := ho.1
  have hb := hw.1; unfold WB at hb
  have g1 : inb (n3 i + 1) L = true := by rw [n3_lit 1, n3_add]; exact n3_inb (by omega) (by omega)
  obtain ⟨x1, hx1⟩ : ∃ x, sc (n3 i + 1).toNatClampNeg = x := ⟨_, rfl⟩
  cases hrx1 : inr x1 (10) with
  | false =>
    obtain ⟨μ2, r2, e2⟩ := law_T (N := N) (t := 1) (wl := m_L_pumps N Λ μ (ad 0) x1 (ad 200)) hY h' ho (C_pumps_f hN hY h ho x1 hrx1) (fun μ1 e => by unfold m_L_pumps; rw [e]; rfl) (show 1 ≤ 2 by omega) (fun μ1 hr _ => R_pumps_f hN hY hr ho x1 hrx1)
    refine ⟨μ2, r2, fun k => ?_⟩
    unfold bo_14
    simp only [g1, hx1, gd_t]
    exact (e2 (fun μ => jn_L_law__2587 N Λ L sc μ k v0 (ad 0) (ad 181) (ad 200) (n3 i))).trans (kk_end N Λ L sc μ2 k v0 (ad 0) (ad 181) (ad 200) i)
  | true =>
    obtain ⟨a, hsx1, qx1⟩ := inr_t (by omega) hrx1
    subst qx1
    obtain ⟨μ2, r2, e2⟩ := law_T (N := N) (t := 0) (wl := m_L_pumps N Λ μ (ad 0) (n3 a) (ad 200)) hY h' (ho.rem.to (hw.up_lo (k := 5) (v := a) (by omega) (by omega) (by unfold WB; simp (disch := omega) only [up_n, up_e]; omega)) ((LwE.refl F).up (by omega) (by omega))) (C_pumps_t hN hY h ho a (by omega)) (fun μ1 e => by unfold m_L_pumps; rw [e]; show gd (inb 0 (aZ Λ (ad 200))) _ = _; rw [a200]; rfl) (show 0 ≤ 2 by omega) (fun μ1 hr _ => R_pumps_t hN hY hr ho a (by omega))
    refine ⟨μ2, r2, fun k => ?_⟩
    unfold bo_14
    simp only [g1, hx1, gd_t]
    exact (e2 (fun μ => jn_L_law__2587 N Λ L sc μ k v0 (ad 0) (ad 181) (ad 200) (n3 i))).trans (kk_end N Λ L sc μ2 k v0 (ad 0) (ad 181) (ad 200) i)
theorem lc_15 {N : Nat} (hN : 1099511627776 ≤ N) {Λ : Lay} {ad : Nat → Nat} (hY : Ly Λ ad) {L : Nat} {sc : Nat → Int32} {i : Nat} (hi : i + 6 ≤ L) (hL : L ≤ 3072) {μ : Mem} (hr : Rel ad μ) (v0 : Nat) : ∃ μ2, Rel ad μ2 ∧ ∀ k, bo_15 N Λ L sc μ k v0 (ad 0) (ad 181) (ad 200) (n3 i) = k (n3 (i + 6), μ2) := by
  obtain ⟨F, m, A, b, J, T, n, f, h, h', ho⟩ := hr
  have a200 : aZ Λ (ad 200) = 1 := hY.2.2.2.2.2.2.2.2.2.2.2.1
  have hw := ho.1
  have hb := hw.1; unfold WB at hb
  have g1 : inb (n3 i + 1) L = true := by rw [n3_lit 1, n3_add]; exact n3_inb (by omega) (by omega)
  obtain ⟨x1, hx1⟩ : ∃ x, sc (n3 i + 1).toNatClampNeg = x := ⟨_, rfl⟩
  cases hrx1 : inr x1 (10) with
  | false =>
    obtain ⟨μ2, r2, e2⟩ := law_T (N := N) (t := 1) (wl := m_L_hands N Λ μ (ad 0) x1 (ad 200)) hY h' ho (C_hands_f hN hY h ho x1 hrx1) (fun μ1 e => by unfold m_L_hands; rw [e]; rfl) (show 1 ≤ 2 by omega) (fun μ1 hr _ => R_hands_f hN hY hr ho x1 hrx1)
    refine ⟨μ2, r2, fun k => ?_⟩
    unfold bo_15
    simp only [g1, hx1, gd_t]
    exact (e2 (fun μ => jn_L_law__2587 N Λ L sc μ k v0 (ad 0) (ad 181) (ad 200) (n3 i))).trans (kk_end N Λ L sc μ2 k v0 (ad 0) (ad 181) (ad 200) i)
  | true =>
    obtain ⟨a, hsx1, qx1⟩ := inr_t (by omega) hrx1
    subst qx1
    obtain ⟨μ2, r2, e2⟩ := law_T (N := N) (t := 0) (wl := m_L_hands N Λ μ (ad 0) (n3 a) (ad 200)) hY h' (ho.rem.to (hw.up_lo (k := 6) (v := a) (by omega) (by omega) (by unfold WB; simp (disch := omega) only [up_n, up_e]; omega)) ((LwE.refl F).up (by omega) (by omega))) (C_hands_t hN hY h ho a (by omega)) (fun μ1 e => by unfold m_L_hands; rw [e]; show gd (inb 0 (aZ Λ (ad 200))) _ = _; rw [a200]; rfl) (show 0 ≤ 2 by omega) (fun μ1 hr _ => R_hands_t hN hY hr ho a (by omega))
    refine ⟨μ2, r2, fun k => ?_⟩
    unfold bo_15
    simp only [g1, hx1, gd_t]
    exact (e2 (fun μ => jn_L_law__2587 N Λ L sc μ k v0 (ad 0) (ad 181) (ad 200) (n3 i))).trans (kk_end N Λ L sc μ2 k v0 (ad 0) (ad 181) (ad 200) i)
theorem lc_16 {N : Nat} (hN : 1099511627776 ≤ N) {Λ : Lay} {ad : Nat → Nat} (hY : Ly Λ ad) {L : Nat} {sc : Nat → Int32} {i : Nat} (hi : i + 6 ≤ L) (hL : L ≤ 3072) {μ : Mem} (hr : Rel ad μ) (v0 : Nat) : ∃ μ2, Rel ad μ2 ∧ ∀ k, bo_16 N Λ L sc μ k v0 (ad 0) (ad 181) (ad 200) (n3 i) = k (n3 (i + 6), μ2) := by
  obtain ⟨F, m, A, b, J, T, n, f, h, h', ho⟩ := hr
  have a200 : aZ Λ (ad 200) = 1 := hY.2.2.2.2.2.2.2.2.2.2.2.1
  have hw := ho.1
  have hb := hw.1; unfold WB at hb
  have g1 : inb (n3 i + 1) L = true := by rw [n3_lit 1, n3_add]; exact n3_inb (by omega) (by omega)
  obtain ⟨x1, hx1⟩ : ∃ x, sc (n3 i + 1).toNatClampNeg = x := ⟨_, rfl⟩
  have g2 : inb (n3 i + 2) L = true := by rw [n3_lit 2, n3_add]; exact n3_inb (by omega) (by omega)
  obtain ⟨x2, hx2⟩ : ∃ x, sc (n3 i + 2).toNatClampNeg = x := ⟨_, rfl⟩
  cases hrx1 : inr x1 (12) with
  | false =>
    obtain ⟨μ2, r2, e2⟩ := law_T (N := N) (t := 1) (wl := m_L_flow N Λ μ (ad 0) x1 x2 (ad 200)) hY h' ho (C_flow_f1 hN hY h ho x1 x2 hrx1) (fun μ1 e => by unfold m_L_flow; rw [e]; rfl) (show 1 ≤ 2 by omega) (fun μ1 hr _ => R_flow_f1 hN hY hr ho x1 x2 hrx1)
    refine ⟨μ2, r2, fun k => ?_⟩
    unfold bo_16
    simp only [g1, hx1, g2, hx2, gd_t]
    exact (e2 (fun μ => jn_L_law__2587 N Λ L sc μ k v0 (ad 0) (ad 181) (ad 200) (n3 i))).trans (kk_end N Λ L sc μ2 k v0 (ad 0) (ad 181) (ad 200) i)
  | true =>
    obtain ⟨s, hsx1, qx1⟩ := inr_t (by omega) hrx1
    subst qx1
    cases hrx2 : inr x2 (31) with
    | false =>
      obtain ⟨μ2, r2, e2⟩ := law_T (N := N) (t := 2) (wl := m_L_flow N Λ μ (ad 0) (n3 s) x2 (ad 200)) hY h' ho (C_flow_f2 hN hY h ho (n3 s) x2 hrx1 hrx2) (fun μ1 e => by unfold m_L_flow; rw [e]; rfl) (show 2 ≤ 2 by omega) (fun μ1 hr _ => R_flow_f2 hN hY hr ho (n3 s) x2 hrx1 hrx2)
      refine ⟨μ2, r2, fun k => ?_⟩
      unfold bo_16
      simp only [g1, hx1, g2, hx2, gd_t]
      exact (e2 (fun μ => jn_L_law__2587 N Λ L sc μ k v0 (ad 0) (ad 181) (ad 200) (n3 i))).trans (kk_end N Λ L sc μ2 k v0 (ad 0) (ad 181) (ad 200) i)
    | true =>
      obtain ⟨a, hsx2, qx2⟩ := inr_t (by omega) hrx2
      subst qx2
      obtain ⟨μ2, r2, e2⟩ := law_T (N := N) (t := 0) (wl := m_L_flow N Λ μ (ad 0) (n3 s) (n3 a) (ad 200)) hY h' (ho.rem.to (hw.up_t hsx1 (show a ≤ 30 by omega)) ((LwE.refl F).up (by omega) (by omega))) (C_flow_t hN hY h ho s a hsx1 (by omega)) (fun μ1 e => by unfold m_L_flow; rw [e]; show gd (inb 0 (aZ Λ (ad 200))) _ = _; rw [a200]; rfl) (show 0 ≤ 2 by omega) (fun μ1 hr _ => R_flow_t hN hY hr ho s a hsx1 (by omega))
      refine ⟨μ2, r2, fun k => ?_⟩
      unfold bo_16
      simp only [g1, hx1, g2, hx2, gd_t]
      exact (e2 (fun μ => jn_L_law__2587 N Λ L sc μ k v0 (ad 0) (ad 181) (ad 200) (n3 i))).trans (kk_end N Λ L sc μ2 k v0 (ad 0) (ad 181) (ad 200) i)
theorem lc_17 {N : Nat} (hN : 1099511627776 ≤ N) {Λ : Lay} {ad : Nat → Nat} (hY : Ly Λ ad) {L : Nat} {sc : Nat → Int32} {i : Nat} (hi : i + 6 ≤ L) (hL : L ≤ 3072) {μ : Mem} (hr : Rel ad μ) (v0 : Nat) : ∃ μ2, Rel ad μ2 ∧ ∀ k, bo_17 N Λ L sc μ k v0 (ad 0) (ad 181) (ad 200) (n3 i) = k (n3 (i + 6), μ2) := by
  obtain ⟨F, m, A, b, J, T, n, f, h, h', ho⟩ := hr
  have a200 : aZ Λ (ad 200) = 1 := hY.2.2.2.2.2.2.2.2.2.2.2.1
  have hw := ho.1
  have hb := hw.1; unfold WB at hb
  obtain ⟨μ2, r2, e2⟩ := law_V h' ho (C_pulls hN hY h ho) (fun μ1 hr => R_pulls hN hY hr ho)
  refine ⟨μ2, r2, fun k => ?_⟩
  unfold bo_17
  exact (e2 (fun μ => jn_L_law__2587 N Λ L sc μ k v0 (ad 0) (ad 181) (ad 200) (n3 i))).trans (kk_end N Λ L sc μ2 k v0 (ad 0) (ad 181) (ad 200) i)
theorem lc_18 {N : Nat} (hN : 1099511627776 ≤ N) {Λ : Lay} {ad : Nat → Nat} (hY : Ly Λ ad) {L : Nat} {sc : Nat → Int32} {i : Nat} (hi : i + 6 ≤ L) (hL : L ≤ 3072) {μ : Mem} (hr : Rel ad μ) (v0 : Nat) : ∃ μ2, Rel ad μ2 ∧ ∀ k, bo_18 N Λ L sc μ k v0 (ad 0) (ad 181) (ad 200) (n3 i) = k (n3 (i + 6), μ2) := by
  obtain ⟨F, m, A, b, J, T, n, f, h, h', ho⟩ := hr
  have a200 : aZ Λ (ad 200) = 1 := hY.2.2.2.2.2.2.2.2.2.2.2.1
  have hw := ho.1
  have hb := hw.1; unfold WB at hb
  obtain ⟨μ2, r2, e2⟩ := law_V h' ho (C_leaks hN hY h ho) (fun μ1 hr => R_leaks hN hY hr ho)
  refine ⟨μ2, r2, fun k => ?_⟩
  unfold bo_18
  exact (e2 (fun μ => jn_L_law__2587 N Λ L sc μ k v0 (ad 0) (ad 181) (ad 200) (n3 i))).trans (kk_end N Λ L sc μ2 k v0 (ad 0) (ad 181) (ad 200) i)
theorem lc_19 {N : Nat} (hN : 1099511627776 ≤ N) {Λ : Lay} {ad : Nat → Nat} (hY : Ly Λ ad) {L : Nat} {sc : Nat → Int32} {i : Nat} (hi : i + 6 ≤ L) (hL : L ≤ 3072) {μ : Mem} (hr : Rel ad μ) (v0 : Nat) : ∃ μ2, Rel ad μ2 ∧ ∀ k, bo_19 N Λ L sc μ k v0 (ad 0) (ad 181) (ad 200) (n3 i) = k (n3 (i + 6), μ2) := by
  obtain ⟨F, m, A, b, J, T, n, f, h, h', ho⟩ := hr
  have a200 : aZ Λ (ad 200) = 1 := hY.2.2.2.2.2.2.2.2.2.2.2.1
  have hw := ho.1
  have hb := hw.1; unfold WB at hb
  obtain ⟨μ2, r2, e2⟩ := law_P h ho (C_even hN hY h ho) (R_even hN hY h' ho)
  refine ⟨μ2, r2, fun k => ?_⟩
  unfold bo_19
  exact (e2 (fun μ => jn_L_law__2587 N Λ L sc μ k v0 (ad 0) (ad 181) (ad 200) (n3 i))).trans (kk_end N Λ L sc μ2 k v0 (ad 0) (ad 181) (ad 200) i)
theorem lc_20 {N : Nat} (hN : 1099511627776 ≤ N) {Λ : Lay} {ad : Nat → Nat} (hY : Ly Λ ad) {L : Nat} {sc : Nat → Int32} {i : Nat} (hi : i + 6 ≤ L) (hL : L ≤ 3072) {μ : Mem} (hr : Rel ad μ) (v0 : Nat) : ∃ μ2, Rel ad μ2 ∧ ∀ k, bo_20 N Λ L sc μ k v0 (ad 0) (ad 181) (ad 200) (n3 i) = k (n3 (i + 6), μ2) := by
  obtain ⟨F, m, A, b, J, T, n, f, h, h', ho⟩ := hr
  have a200 : aZ Λ (ad 200) = 1 := hY.2.2.2.2.2.2.2.2.2.2.2.1
  have hw := ho.1
  have hb := hw.1; unfold WB at hb
  obtain ⟨μ2, r2, e2⟩ := law_P h ho (C_room hN hY h ho) (R_room hN hY h' ho)
  refine ⟨μ2, r2, fun k => ?_⟩
  unfold bo_20
  exact (e2 (fun μ => jn_L_law__2587 N Λ L sc μ k v0 (ad 0) (ad 181) (ad 200) (n3 i))).trans (kk_end N Λ L sc μ2 k v0 (ad 0) (ad 181) (ad 200) i)
theorem lc_21 {N : Nat} (hN : 1099511627776 ≤ N) {Λ : Lay} {ad : Nat → Nat} (hY : Ly Λ ad) {L : Nat} {sc : Nat → Int32} {i : Nat} (hi : i + 6 ≤ L) (hL : L ≤ 3072) {μ : Mem} (hr : Rel ad μ) (v0 : Nat) : ∃ μ2, Rel ad μ2 ∧ ∀ k, bo_21 N Λ L sc μ k v0 (ad 0) (ad 181) (ad 200) (n3 i) = k (n3 (i + 6), μ2) := by
  obtain ⟨F, m, A, b, J, T, n, f, h, h', ho⟩ := hr
  have a200 : aZ Λ (ad 200) = 1 := hY.2.2.2.2.2.2.2.2.2.2.2.1
  have hw := ho.1
  have hb := hw.1; unfold WB at hb
  obtain ⟨μ2, r2, e2⟩ := law_V h' ho (C_load hN hY h ho) (fun μ1 hr => R_load hN hY hr ho)
  refine ⟨μ2, r2, fun k => ?_⟩
  unfold bo_21
  exact (e2 (fun μ => jn_L_law__2587 N Λ L sc μ k v0 (ad 0) (ad 181) (ad 200) (n3 i))).trans (kk_end N Λ L sc μ2 k v0 (ad 0) (ad 181) (ad 200) i)
theorem lc_22 {N : Nat} (hN : 1099511627776 ≤ N) {Λ : Lay} {ad : Nat → Nat} (hY : Ly Λ ad) {L : Nat} {sc : Nat → Int32} {i : Nat} (hi : i + 6 ≤ L) (hL : L ≤ 3072) {μ : Mem} (hr : Rel ad μ) (v0 : Nat) : ∃ μ2, Rel ad μ2 ∧ ∀ k, bo_22 N Λ L sc μ k v0 (ad 0) (ad 181) (ad 200) (n3 i) = k (n3 (i + 6), μ2) := by
  obtain ⟨F, m, A, b, J, T, n, f, h, h', ho⟩ := hr
  have a200 : aZ Λ (ad 200) = 1 := hY.2.2.2.2.2.2.2.2.2.2.2.1
  have hw := ho.1
  have hb := hw.1; unfold WB at hb
  obtain ⟨μ2, r2, e2⟩ := law_V h' ho (C_which hN hY h ho) (fun μ1 hr => R_which hN hY hr ho)
  refine ⟨μ2, r2, fun k => ?_⟩
  unfold bo_22
  exact (e2 (fun μ => jn_L_law__2587 N Λ L sc μ k v0 (ad 0) (ad 181) (ad 200) (n3 i))).trans (kk_end N Λ L sc μ2 k v0 (ad 0) (ad 181) (ad 200) i)
theorem lc_23 {N : Nat} (hN : 1099511627776 ≤ N) {Λ : Lay} {ad : Nat → Nat} (hY : Ly Λ ad) {L : Nat} {sc : Nat → Int32} {i : Nat} (hi : i + 6 ≤ L) (hL : L ≤ 3072) {μ : Mem} (hr : Rel ad μ) (v0 : Nat) : ∃ μ2, Rel ad μ2 ∧ ∀ k, bo_23 N Λ L sc μ k v0 (ad 0) (ad 181) (ad 200) (n3 i) = k (n3 (i + 6), μ2) := by
  obtain ⟨F, m, A, b, J, T, n, f, h, h', ho⟩ := hr
  have a200 : aZ Λ (ad 200) = 1 := hY.2.2.2.2.2.2.2.2.2.2.2.1
  have hw := ho.1
  have hb := hw.1; unfold WB at hb
  obtain ⟨μ2, r2, e2⟩ := law_V h' ho (C_dry hN hY h ho) (fun μ1 hr => R_dry hN hY hr ho)
  refine ⟨μ2, r2, fun k => ?_⟩
  unfold bo_23
  exact (e2 (fun μ => jn_L_law__2587 N Λ L sc μ k v0 (ad 0) (ad 181) (ad 200) (n3 i))).trans (kk_end N Λ L sc μ2 k v0 (ad 0) (ad 181) (ad 200) i)
theorem lc_24 {N : Nat} (hN : 1099511627776 ≤ N) {Λ : Lay} {ad : Nat → Nat} (hY : Ly Λ ad) {L : Nat} {sc : Nat → Int32} {i : Nat} (hi : i + 6 ≤ L) (hL : L ≤ 3072) {μ : Mem} (hr : Rel ad μ) (v0 : Nat) : ∃ μ2, Rel ad μ2 ∧ ∀ k, bo_24 N Λ L sc μ k v0 (ad 0) (ad 181) (ad 200) (n3 i) = k (n3 (i + 6), μ2) := by
  obtain ⟨F, m, A, b, J, T, n, f, h, h', ho⟩ := hr
  have a200 : aZ Λ (ad 200) = 1 := hY.2.2.2.2.2.2.2.2.2.2.2.1
  have hw := ho.1
  have hb := hw.1; unfold WB at hb
  obtain ⟨μ2, r2, e2⟩ := law_V h' ho (C_ready hN hY h ho) (fun μ1 hr => R_ready hN hY hr ho)
  refine ⟨μ2, r2, fun k => ?_⟩
  unfold bo_24
  exact (e2 (fun μ => jn_L_law__2587 N Λ L sc μ k v0 (ad 0) (ad 181) (ad 200) (n3 i))).trans (kk_end N Λ L sc μ2 k v0 (ad 0) (ad 181) (ad 200) i)
theorem lc_25 {N : Nat} (hN : 1099511627776 ≤ N) {Λ : Lay} {ad : Nat → Nat} (hY : Ly Λ ad) {L : Nat} {sc : Nat → Int32} {i : Nat} (hi : i + 6 ≤ L) (hL : L ≤ 3072) {μ : Mem} (hr : Rel ad μ) (v0 : Nat) : ∃ μ2, Rel ad μ2 ∧ ∀ k, bo_25 N Λ L sc μ k v0 (ad 0) (ad 181) (ad 200) (n3 i) = k (n3 (i + 6), μ2) := by
  obtain ⟨F, m, A, b, J, T, n, f, h, h', ho⟩ := hr
  have a200 : aZ Λ (ad 200) = 1 := hY.2.2.2.2.2.2.2.2.2.2.2.1
  have hw := ho.1
  have hb := hw.1; unfold WB at hb
  obtain ⟨μ2, r2, e2⟩ := law_V h' ho (C_ease hN hY h ho) (fun μ1 hr => R_ease hN hY hr ho)
  refine ⟨μ2, r2, fun k => ?_⟩
  unfold bo_25
  exact (e2 (fun μ => jn_L_law__2587 N Λ L sc μ k v0 (ad 0) (ad 181) (ad 200) (n3 i))).trans (kk_end N Λ L sc μ2 k v0 (ad 0) (ad 181) (ad 200) i)
theorem lc_26 {N : Nat} (hN : 1099511627776 ≤ N) {Λ : Lay} {ad : Nat → Nat} (hY : Ly Λ ad) {L : Nat} {sc : Nat → Int32} {i : Nat} (hi : i + 6 ≤ L) (hL : L ≤ 3072) {μ : Mem} (hr : Rel ad μ) (v0 : Nat) : ∃ μ2, Rel ad μ2 ∧ ∀ k, bo_26 N Λ L sc μ k v0 (ad 0) (ad 181) (ad 200) (n3 i) = k (n3 (i + 6), μ2) := by
  obtain ⟨F, m, A, b, J, T, n, f, h, h', ho⟩ := hr
  have a200 : aZ Λ (ad 200) = 1 := hY.2.2.2.2.2.2.2.2.2.2.2.1
  have hw := ho.1
  have hb := hw.1; unfold WB at hb
  obtain ⟨μ2, r2, e2⟩ := law_V h' ho (C_cost hN hY h ho) (fun μ1 hr => R_cost hN hY hr ho)
  refine ⟨μ2, r2, fun k => ?_⟩
  unfold bo_26
  exact (e2 (fun μ => jn_L_law__2587 N Λ L sc μ k v0 (ad 0) (ad 181) (ad 200) (n3 i))).trans (kk_end N Λ L sc μ2 k v0 (ad 0) (ad 181) (ad 200) i)
theorem lc_27 {N : Nat} (hN : 1099511627776 ≤ N) {Λ : Lay} {ad : Nat → Nat} (hY : Ly Λ ad) {L : Nat} {sc : Nat → Int32} {i : Nat} (hi : i + 6 ≤ L) (hL : L ≤ 3072) {μ : Mem} (hr : Rel ad μ) (v0 : Nat) : ∃ μ2, Rel ad μ2 ∧ ∀ k, bo_27 N Λ L sc μ k v0 (ad 0) (ad 181) (ad 200) (n3 i) = k (n3 (i + 6), μ2) := by
  obtain ⟨F, m, A, b, J, T, n, f, h, h', ho⟩ := hr
  have a200 : aZ Λ (ad 200) = 1 := hY.2.2.2.2.2.2.2.2.2.2.2.1
  have hw := ho.1
  have hb := hw.1; unfold WB at hb
  obtain ⟨μ2, r2, e2⟩ := law_V h' ho (C_first hN hY h ho) (fun μ1 hr => R_first hN hY hr ho)
  refine ⟨μ2, r2, fun k => ?_⟩
  unfold bo_27
  exact (e2 (fun μ => jn_L_law__2587 N Λ L sc μ k v0 (ad 0) (ad 181) (ad 200) (n3 i))).trans (kk_end N Λ L sc μ2 k v0 (ad 0) (ad 181) (ad 200) i)
theorem lc_28 {N : Nat} (hN : 1099511627776 ≤ N) {Λ : Lay} {ad : Nat → Nat} (hY : Ly Λ ad) {L : Nat} {sc : Nat → Int32} {i : Nat} (hi : i + 6 ≤ L) (hL : L ≤ 3072) {μ : Mem} (hr : Rel ad μ) (v0 : Nat) : ∃ μ2, Rel ad μ2 ∧ ∀ k, bo_28 N Λ L sc μ k v0 (ad 0) (ad 181) (ad 200) (n3 i) = k (n3 (i + 6), μ2) := by
  obtain ⟨F, m, A, b, J, T, n, f, h, h', ho⟩ := hr
  have a200 : aZ Λ (ad 200) = 1 := hY.2.2.2.2.2.2.2.2.2.2.2.1
  have hw := ho.1
  have hb := hw.1; unfold WB at hb
  have g1 : inb (n3 i + 1) L = true := by rw [n3_lit 1, n3_add]; exact n3_inb (by omega) (by omega)
  obtain ⟨x1, hx1⟩ : ∃ x, sc (n3 i + 1).toNatClampNeg = x := ⟨_, rfl⟩
  by_cases hd : x1 = 0
  · have hd' : (x1 = 0) = True := eq_true hd
    cases ht : tvO T n 100 31 with
    | false =>
      obtain ⟨μ2, r2, e2⟩ := law_T (N := N) (t := 1) (wl := m_L_goes N Λ μ (ad 0) (n3 0) (ad 200)) hY h' ho.used (C_goes_f hN hY h ho (n3 0) ht) (fun μ1 e => by unfold m_L_goes; rw [e]; rfl) (show 1 ≤ 2 by omega) (fun μ1 hr _ => R_goes_f hN hY hr ho (n3 0) ht)
      refine ⟨μ2, r2, fun k => ?_⟩
      unfold bo_28
      simp only [g1, hx1, gd_t, hd', if_true, if_false, jn_L_law__1439, jn_L_law__1460, jn_L_law__1493]
      exact (e2 (fun μ => jn_L_law__2587 N Λ L sc μ k v0 (ad 0) (ad 181) (ad 200) (n3 i))).trans (kk_end N Λ L sc μ2 k v0 (ad 0) (ad 181) (ad 200) i)
    | true =>
      obtain ⟨μ2, r2, e2⟩ := law_T (N := N) (t := 0) (wl := m_L_goes N Λ μ (ad 0) (n3 0) (ad 200)) hY h' ho.used (C_goes_t hN hY h ho (n3 0) ht) (fun μ1 e => by unfold m_L_goes; rw [e]; show gd (inb 0 (aZ Λ (ad 200))) _ = _; rw [a200]; rfl) (show 0 ≤ 2 by omega) (fun μ1 hr _ => R_goes_t hN hY hr ho (n3 0) ht)
      refine ⟨μ2, r2, fun k => ?_⟩
      unfold bo_28
      simp only [g1, hx1, gd_t, hd', if_true, if_false, jn_L_law__1439, jn_L_law__1460, jn_L_law__1493]
      exact (e2 (fun μ => jn_L_law__2587 N Λ L sc μ k v0 (ad 0) (ad 181) (ad 200) (n3 i))).trans (kk_end N Λ L sc μ2 k v0 (ad 0) (ad 181) (ad 200) i)
  · have hd' : (x1 = 0) = False := eq_false hd
    cases ht : tvO T n 100 31 with
    | false =>
      obtain ⟨μ2, r2, e2⟩ := law_T (N := N) (t := 1) (wl := m_L_goes N Λ μ (ad 0) (n3 1) (ad 200)) hY h' ho.used (C_goes_f hN hY h ho (n3 1) ht) (fun μ1 e => by unfold m_L_goes; rw [e]; rfl) (show 1 ≤ 2 by omega) (fun μ1 hr _ => R_goes_f hN hY hr ho (n3 1) ht)
      refine ⟨μ2, r2, fun k => ?_⟩
      unfold bo_28
      simp only [g1, hx1, gd_t, hd', if_true, if_false, jn_L_law__1439, jn_L_law__1460, jn_L_law__1493]
      exact (e2 (fun μ => jn_L_law__2587 N Λ L sc μ k v0 (ad 0) (ad 181) (ad 200) (n3 i))).trans (kk_end N Λ L sc μ2 k v0 (ad 0) (ad 181) (ad 200) i)
    | true =>
      obtain ⟨μ2, r2, e2⟩ := law_T (N := N) (t := 0) (wl := m_L_goes N Λ μ (ad 0) (n3 1) (ad 200)) hY h' ho.used (C_goes_t hN hY h ho (n3 1) ht) (fun μ1 e => by unfold m_L_goes; rw [e]; show gd (inb 0 (aZ Λ (ad 200))) _ = _; rw [a200]; rfl) (show 0 ≤ 2 by omega) (fun μ1 hr _ => R_goes_t hN hY hr ho (n3 1) ht)
      refine ⟨μ2, r2, fun k => ?_⟩
      unfold bo_28
      simp only [g1, hx1, gd_t, hd', if_true, if_false, jn_L_law__1439, jn_L_law__1460, jn_L_law__1493]
      exact (e2 (fun μ => jn_L_law__2587 N Λ L sc μ k v0 (ad 0) (ad 181) (ad 200) (n3 i))).trans (kk_end N Λ L sc μ2 k v0 (ad 0) (ad 181) (ad 200) i)
theorem lc_29 {N : Nat} (hN : 1099511627776 ≤ N) {Λ : Lay} {ad : Nat → Nat} (hY : Ly Λ ad) {L : Nat} {sc : Nat → Int32} {i : Nat} (hi : i + 6 ≤ L) (hL : L ≤ 3072) {μ : Mem} (hr : Rel ad μ) (v0 : Nat) : ∃ μ2, Rel ad μ2 ∧ ∀ k, bo_29 N Λ L sc μ k v0 (ad 0) (ad 181) (ad 200) (n3 i) = k (n3 (i + 6), μ2) := by
  obtain ⟨F, m, A, b, J, T, n, f, h, h', ho⟩ := hr
  have a200 : aZ Λ (ad 200) = 1 := hY.2.2.2.2.2.2.2.2.2.2.2.1
  have hw := ho.1
  have hb := hw.1; unfold WB at hb
  cases ht : tvO T n 100 31 with
  | false =>
    obtain ⟨μ2, r2, e2⟩ := law_T (N := N) (t := 1) (wl := m_L_ask N Λ μ (ad 0)  (ad 200)) hY h' ho.used (C_ask_f hN hY h ho ht) (fun μ1 e => by unfold m_L_ask; rw [e]; rfl) (show 1 ≤ 2 by omega) (fun μ1 hr _ => R_ask_f hN hY hr ho ht)
    refine ⟨μ2, r2, fun k => ?_⟩
    unfold bo_29
    exact (e2 (fun μ => jn_L_law__2587 N Λ L sc μ k v0 (ad 0) (ad 181) (ad 200) (n3 i))).trans (kk_end N Λ L sc μ2 k v0 (ad 0) (ad 181) (ad 200) i)
  | true =>
    obtain ⟨μ2, r2, e2⟩ := law_T (N := N) (t := 0) (wl := m_L_ask N Λ μ (ad 0)  (ad 200)) hY h' ho.used (C_ask_t hN hY h ho ht) (fun μ1 e => by unfold m_L_ask; rw [e]; show gd (inb 0 (aZ Λ (ad 200))) _ = _; rw [a200]; rfl) (show 0 ≤ 2 by omega) (fun μ1 hr _ => R_ask_t hN hY hr ho ht)
    refine ⟨μ2, r2, fun k => ?_⟩
    unfold bo_29
    exact (e2 (fun μ => jn_L_law__2587 N Λ L sc μ k v0 (ad 0) (ad 181) (ad 200) (n3 i))).trans (kk_end N Λ L sc μ2 k v0 (ad 0) (ad 181) (ad 200) i)
theorem lc_30 {N : Nat} (hN : 1099511627776 ≤ N) {Λ : Lay} {ad : Nat → Nat} (hY : Ly Λ ad) {L : Nat} {sc : Nat → Int32} {i : Nat} (hi : i + 6 ≤ L) (hL : L ≤ 3072) {μ : Mem} (hr : Rel ad μ) (v0 : Nat) : ∃ μ2, Rel ad μ2 ∧ ∀ k, bo_30 N Λ L sc μ k v0 (ad 0) (ad 181) (ad 200) (n3 i) = k (n3 (i + 6), μ2) := by
  obtain ⟨F, m, A, b, J, T, n, f, h, h', ho⟩ := hr
  have a200 : aZ Λ (ad 200) = 1 := hY.2.2.2.2.2.2.2.2.2.2.2.1
  have hw := ho.1
  have hb := hw.1; unfold WB at hb
  cases ht : tvO T n 24 2 with
  | false =>
    obtain ⟨μ2, r2, e2⟩ := law_T (N := N) (t := 1) (wl := m_L_lies N Λ μ (ad 0)  (ad 200)) hY h' ho.used (C_lies_f hN hY h ho ht) (fun μ1 e => by unfold m_L_lies; rw [e]; rfl) (show 1 ≤ 2 by omega) (fun μ1 hr _ => R_lies_f hN hY hr ho ht)
    refine ⟨μ2, r2, fun k => ?_⟩
    unfold bo_30
    exact (e2 (fun μ => jn_L_law__2587 N Λ L sc μ k v0 (ad 0) (ad 181) (ad 200) (n3 i))).trans (kk_end N Λ L sc μ2 k v0 (ad 0) (ad 181) (ad 200) i)
  | true =>
    obtain ⟨μ2, r2, e2⟩ := law_T (N := N) (t := 0) (wl := m_L_lies N Λ μ (ad 0)  (ad 200)) hY h' ho.used (C_lies_t hN hY h ho ht) (fun μ1 e => by unfold m_L_lies; rw [e]; show gd (inb 0 (aZ Λ (ad 200))) _ = _; rw [a200]; rfl) (show 0 ≤ 2 by omega) (fun μ1 hr _ => R_lies_t hN hY hr ho ht)
    refine ⟨μ2, r2, fun k => ?_⟩
    unfold bo_30
    exact (e2 (fun μ => jn_L_law__2587 N Λ L sc μ k v0 (ad 0) (ad 181) (ad 200) (n3 i))).trans (kk_end N Λ L sc μ2 k v0 (ad 0) (ad 181) (ad 200) i)
theorem lc_31 {N : Nat} (hN : 1099511627776 ≤ N) {Λ : Lay} {ad : Nat → Nat} (hY : Ly Λ ad) {L : Nat} {sc : Nat → Int32} {i : Nat} (hi : i + 6 ≤ L) (hL : L ≤ 3072) {μ : Mem} (hr : Rel ad μ) (v0 : Nat) : ∃ μ2, Rel ad μ2 ∧ ∀ k, bo_31 N Λ L sc μ k v0 (ad 0) (ad 181) (ad 200) (n3 i) = k (n3 (i + 6), μ2) := by
  obtain ⟨F, m, A, b, J, T, n, f, h, h', ho⟩ := hr
  have a200 : aZ Λ (ad 200) = 1 := hY.2.2.2.2.2.2.2.2.2.2.2.1
  have hw := ho.1
  have hb := hw.1; unfold WB at hb
  cases ht : tvO T n 24 2 with
  | false =>
    obtain ⟨μ2, r2, e2⟩ := law_T (N := N) (t := 1) (wl := m_L_likely N Λ μ (ad 0)  (ad 200)) hY h' ho.used (C_likely_f hN hY h ho ht) (fun μ1 e => by unfold m_L_likely; rw [e]; rfl) (show 1 ≤ 2 by omega) (fun μ1 hr _ => R_likely_f hN hY hr ho ht)
    refine ⟨μ2, r2, fun k => ?_⟩
    unfold bo_31
    exact (e2 (fun μ => jn_L_law__2587 N Λ L sc μ k v0 (ad 0) (ad 181) (ad 200) (n3 i))).trans (kk_end N Λ L sc μ2 k v0 (ad 0) (ad 181) (ad 200) i)
  | true =>
    obtain ⟨μ2, r2, e2⟩ := law_T (N := N) (t := 0) (wl := m_L_likely N Λ μ (ad 0)  (ad 200)) hY h' ho.used (C_likely_t hN hY h ho ht) (fun μ1 e => by unfold m_L_likely; rw [e]; show gd (inb 0 (aZ Λ (ad 200))) _ = _; rw [a200]; rfl) (show 0 ≤ 2 by omega) (fun μ1 hr _ => R_likely_t hN hY hr ho ht)
    refine ⟨μ2, r2, fun k => ?_⟩
    unfold bo_31
    exact (e2 (fun μ => jn_L_law__2587 N Λ L sc μ k v0 (ad 0) (ad 181) (ad 200) (n3 i))).trans (kk_end N Λ L sc μ2 k v0 (ad 0) (ad 181) (ad 200) i)
theorem lc_32 {N : Nat} (hN : 1099511627776 ≤ N) {Λ : Lay} {ad : Nat → Nat} (hY : Ly Λ ad) {L : Nat} {sc : Nat → Int32} {i : Nat} (hi : i + 6 ≤ L) (hL : L ≤ 3072) {μ : Mem} (hr : Rel ad μ) (v0 : Nat) : ∃ μ2, Rel ad μ2 ∧ ∀ k, bo_32 N Λ L sc μ k v0 (ad 0) (ad 181) (ad 200) (n3 i) = k (n3 (i + 6), μ2) := by
  obtain ⟨F, m, A, b, J, T, n, f, h, h', ho⟩ := hr
  have a200 : aZ Λ (ad 200) = 1 := hY.2.2.2.2.2.2.2.2.2.2.2.1
  have hw := ho.1
  have hb := hw.1; unfold WB at hb
  cases ht : tvO T n 24 2 with
  | false =>
    obtain ⟨μ2, r2, e2⟩ := law_T (N := N) (t := 1) (wl := m_L_sound N Λ μ (ad 0)  (ad 200)) hY h' ho.used (C_sound_f hN hY h ho ht) (fun μ1 e => by unfold m_L_sound; rw [e]; rfl) (show 1 ≤ 2 by omega) (fun μ1 hr _ => R_sound_f hN hY hr ho ht)
    refine ⟨μ2, r2, fun k => ?_⟩
    unfold bo_32
    exact (e2 (fun μ => jn_L_law__2587 N Λ L sc μ k v0 (ad 0) (ad 181) (ad 200) (n3 i))).trans (kk_end N Λ L sc μ2 k v0 (ad 0) (ad 181) (ad 200) i)
  | true =>
    obtain ⟨μ2, r2, e2⟩ := law_T (N := N) (t := 0) (wl := m_L_sound N Λ μ (ad 0)  (ad 200)) hY h' ho.used (C_sound_t hN hY h ho ht) (fun μ1 e => by unfold m_L_sound; rw [e]; show gd (inb 0 (aZ Λ (ad 200))) _ = _; rw [a200]; rfl) (show 0 ≤ 2 by omega) (fun μ1 hr _ => R_sound_t hN hY hr ho ht)
    refine ⟨μ2, r2, fun k => ?_⟩
    unfold bo_32
    exact (e2 (fun μ => jn_L_law__2587 N Λ L sc μ k v0 (ad 0) (ad 181) (ad 200) (n3 i))).trans (kk_end N Λ L sc μ2 k v0 (ad 0) (ad 181) (ad 200) i)
theorem lc_33 {N : Nat} (hN : 1099511627776 ≤ N) {Λ : Lay} {ad : Nat → Nat} (hY : Ly Λ ad) {L : Nat} {sc : Nat → Int32} {i : Nat} (hi : i + 6 ≤ L) (hL : L ≤ 3072) {μ : Mem} (hr : Rel ad μ) (v0 : Nat) : ∃ μ2, Rel ad μ2 ∧ ∀ k, bo_33 N Λ L sc μ k v0 (ad 0) (ad 181) (ad 200) (n3 i) = k (n3 (i + 6), μ2) := by
  obtain ⟨F, m, A, b, J, T, n, f, h, h', ho⟩ := hr
  have a200 : aZ Λ (ad 200) = 1 := hY.2.2.2.2.2.2.2.2.2.2.2.1
  have hw := ho.1
  have hb := hw.1; unfold WB at hb
  obtain ⟨μ2, r2, e2⟩ := law_P h ho (C_knocks hN hY h ho) (R_knocks hN hY h' ho)
  refine ⟨μ2, r2, fun k => ?_⟩
  unfold bo_33
  exact (e2 (fun μ => jn_L_law__2587 N Λ L sc μ k v0 (ad 0) (ad 181) (ad 200) (n3 i))).trans (kk_end N Λ L sc μ2 k v0 (ad 0) (ad 181) (ad 200) i)
theorem lc_34 {N : Nat} (hN : 1099511627776 ≤ N) {Λ : Lay} {ad : Nat → Nat} (hY : Ly Λ ad) {L : Nat} {sc : Nat → Int32} {i : Nat} (hi : i + 6 ≤ L) (hL : L ≤ 3072) {μ : Mem} (hr : Rel ad μ) (v0 : Nat) : ∃ μ2, Rel ad μ2 ∧ ∀ k, bo_34 N Λ L sc μ k v0 (ad 0) (ad 181) (ad 200) (n3 i) = k (n3 (i + 6), μ2) := by
  obtain ⟨F, m, A, b, J, T, n, f, h, h', ho⟩ := hr
  have a200 : aZ Λ (ad 200) = 1 := hY.2.2.2.2.2.2.2.2.2.2.2.1
  have hw := ho.1
  have hb := hw.1; unfold WB at hb
  obtain ⟨μ2, r2, e2⟩ := law_P h ho (C_knock hN hY h ho) (R_knock hN hY h' ho)
  refine ⟨μ2, r2, fun k => ?_⟩
  unfold bo_34
  exact (e2 (fun μ => jn_L_law__2587 N Λ L sc μ k v0 (ad 0) (ad 181) (ad 200) (n3 i))).trans (kk_end N Λ L sc μ2 k v0 (ad 0) (ad 181) (ad 200) i)
theorem lc_35 {N : Nat} (hN : 1099511627776 ≤ N) {Λ : Lay} {ad : Nat → Nat} (hY : Ly Λ ad) {L : Nat} {sc : Nat → Int32} {i : Nat} (hi : i + 6 ≤ L) (hL : L ≤ 3072) {μ : Mem} (hr : Rel ad μ) (v0 : Nat) : ∃ μ2, Rel ad μ2 ∧ ∀ k, bo_35 N Λ L sc μ k v0 (ad 0) (ad 181) (ad 200) (n3 i) = k (n3 (i + 6), μ2) := by
  obtain ⟨F, m, A, b, J, T, n, f, h, h', ho⟩ := hr
  have a200 : aZ Λ (ad 200) = 1 := hY.2.2.2.2.2.2.2.2.2.2.2.1
  have hw := ho.1
  have hb := hw.1; unfold WB at hb
  have g1 : inb (n3 i + 1) L = true := by rw [n3_lit 1, n3_add]; exact n3_inb (by omega) (by omega)
  obtain ⟨x1, hx1⟩ : ∃ x, sc (n3 i + 1).toNatClampNeg = x := ⟨_, rfl⟩
  cases hrx1 : inr x1 (F 0) with
  | false =>
    by_cases hm : x1 = n3 4294967295
    · subst hm
      obtain ⟨μ2, r2, e2⟩ := law_T (N := N) (t := 0) (wl := m_L_beds N Λ μ (ad 0) (n3 4294967295) (ad 200)) hY h' ho (C_beds_m hN hY h ho) (fun μ1 e => by unfold m_L_beds; rw [e]; show gd (inb 0 (aZ Λ (ad 200))) _ = _; rw [a200]; rfl) (show 0 ≤ 2 by omega) (fun μ1 hr _ => R_beds_m hN hY hr ho)
      refine ⟨μ2, r2, fun k => ?_⟩
      unfold bo_35
      simp only [g1, hx1, gd_t]
      exact (e2 (fun μ => jn_L_law__2587 N Λ L sc μ k v0 (ad 0) (ad 181) (ad 200) (n3 i))).trans (kk_end N Λ L sc μ2 k v0 (ad 0) (ad 181) (ad 200) i)
    · obtain ⟨μ2, r2, e2⟩ := law_T (N := N) (t := 1) (wl := m_L_beds N Λ μ (ad 0) x1 (ad 200)) hY h' ho (C_beds_f hN hY h ho x1 hrx1 hm) (fun μ1 e => by unfold m_L_beds; rw [e]; rfl) (show 1 ≤ 2 by omega) (fun μ1 hr _ => R_beds_f hN hY hr ho x1 hrx1 hm)
      refine ⟨μ2, r2, fun k => ?_⟩
      unfold bo_35
      simp only [g1, hx1, gd_t]
      exact (e2 (fun μ => jn_L_law__2587 N Λ L sc μ k v0 (ad 0) (ad 181) (ad 200) (n3 i))).trans (kk_end N Λ L sc μ2 k v0 (ad 0) (ad 181) (ad 200) i)
  | true =>
    obtain ⟨s, hsx1, qx1⟩ := inr_t (by omega) hrx1
    subst qx1
    obtain ⟨μ2, r2, e2⟩ := law_T (N := N) (t := 0) (wl := m_L_beds N Λ μ (ad 0) (n3 s) (ad 200)) hY h' ho (C_beds_t hN hY h ho s hsx1) (fun μ1 e => by unfold m_L_beds; rw [e]; show gd (inb 0 (aZ Λ (ad 200))) _ = _; rw [a200]; rfl) (show 0 ≤ 2 by omega) (fun μ1 hr _ => R_beds_t hN hY hr ho s hsx1)
    refine ⟨μ2, r2, fun k => ?_⟩
    unfold bo_35
    simp only [g1, hx1, gd_t]
    exact (e2 (fun μ => jn_L_law__2587 N Λ L sc μ k v0 (ad 0) (ad 181) (ad 200) (n3 i))).trans (kk_end N Λ L sc μ2 k v0 (ad 0) (ad 181) (ad 200) i)
theorem lc_36 {N : Nat} (hN : 1099511627776 ≤ N) {Λ : Lay} {ad : Nat → Nat} (hY : Ly Λ ad) {L : Nat} {sc : Nat → Int32} {i : Nat} (hi : i + 6 ≤ L) (hL : L ≤ 3072) {μ : Mem} (hr : Rel ad μ) (v0 : Nat) : ∃ μ2, Rel ad μ2 ∧ ∀ k, bo_36 N Λ L sc μ k v0 (ad 0) (ad 181) (ad 200) (n3 i) = k (n3 (i + 6), μ2) := by
  obtain ⟨F, m, A, b, J, T, n, f, h, h', ho⟩ := hr
  have a200 : aZ Λ (ad 200) = 1 := hY.2.2.2.2.2.2.2.2.2.2.2.1
  have hw := ho.1
  have hb := hw.1; unfold WB at hb
  have g1 : inb (n3 i + 1) L = true := by rw [n3_lit 1, n3_add]; exact n3_inb (by omega) (by omega)
  obtain ⟨x1, hx1⟩ : ∃ x, sc (n3 i + 1).toNatClampNeg = x := ⟨_, rfl⟩
  cases hrx1 : inr x1 (F 0) with
  | false =>
    by_cases hm : x1 = n3 4294967295
    · subst hm
      obtain ⟨μ2, r2, e2⟩ := law_T (N := N) (t := 0) (wl := m_L_pairs N Λ μ (ad 0) (n3 4294967295) (ad 200)) hY h' ho (C_pairs_m hN hY h ho) (fun μ1 e => by unfold m_L_pairs; rw [e]; show gd (inb 0 (aZ Λ (ad 200))) _ = _; rw [a200]; rfl) (show 0 ≤ 2 by omega) (fun μ1 hr _ => R_pairs_m hN hY hr ho)
      refine ⟨μ2, r2, fun k => ?_⟩
      unfold bo_36
      simp only [g1, hx1, gd_t]
      exact (e2 (fun μ => jn_L_law__2587 N Λ L sc μ k v0 (ad 0) (ad 181) (ad 200) (n3 i))).trans (kk_end N Λ L sc μ2 k v0 (ad 0) (ad 181) (ad 200) i)
    · obtain ⟨μ2, r2, e2⟩ := law_T (N := N) (t := 1) (wl := m_L_pairs N Λ μ (ad 0) x1 (ad 200)) hY h' ho (C_pairs_f hN hY h ho x1 hrx1 hm) (fun μ1 e => by unfold m_L_pairs; rw [e]; rfl) (show 1 ≤ 2 by omega) (fun μ1 hr _ => R_pairs_f hN hY hr ho x1 hrx1 hm)
      refine ⟨μ2, r2, fun k => ?_⟩
      unfold bo_36
      simp only [g1, hx1, gd_t]
      exact (e2 (fun μ => jn_L_law__2587 N Λ L sc μ k v0 (ad 0) (ad 181) (ad 200) (n3 i))).trans (kk_end N Λ L sc μ2 k v0 (ad 0) (ad 181) (ad 200) i)
  | true =>
    obtain ⟨s, hsx1, qx1⟩ := inr_t (by omega) hrx1
    subst qx1
    obtain ⟨μ2, r2, e2⟩ := law_T (N := N) (t := 0) (wl := m_L_pairs N Λ μ (ad 0) (n3 s) (ad 200)) hY h' ho (C_pairs_t hN hY h ho s hsx1) (fun μ1 e => by unfold m_L_pairs; rw [e]; show gd (inb 0 (aZ Λ (ad 200))) _ = _; rw [a200]; rfl) (show 0 ≤ 2 by omega) (fun μ1 hr _ => R_pairs_t hN hY hr ho s hsx1)
    refine ⟨μ2, r2, fun k => ?_⟩
    unfold bo_36
    simp only [g1, hx1, gd_t]
    exact (e2 (fun μ => jn_L_law__2587 N Λ L sc μ k v0 (ad 0) (ad 181) (ad 200) (n3 i))).trans (kk_end N Λ L sc μ2 k v0 (ad 0) (ad 181) (ad 200) i)
theorem lc_37 {N : Nat} (hN : 1099511627776 ≤ N) {Λ : Lay} {ad : Nat → Nat} (hY : Ly Λ ad) {L : Nat} {sc : Nat → Int32} {i : Nat} (hi : i + 6 ≤ L) (hL : L ≤ 3072) {μ : Mem} (hr : Rel ad μ) (v0 : Nat) : ∃ μ2, Rel ad μ2 ∧ ∀ k, bo_37 N Λ L sc μ k v0 (ad 0) (ad 181) (ad 200) (n3 i) = k (n3 (i + 6), μ2) := by
  obtain ⟨F, m, A, b, J, T, n, f, h, h', ho⟩ := hr
  have a200 : aZ Λ (ad 200) = 1 := hY.2.2.2.2.2.2.2.2.2.2.2.1
  have hw := ho.1
  have hb := hw.1; unfold WB at hb
  have g1 : inb (n3 i + 1) L = true := by rw [n3_lit 1, n3_add]; exact n3_inb (by omega) (by omega)
  obtain ⟨x1, hx1⟩ : ∃ x, sc (n3 i + 1).toNatClampNeg = x := ⟨_, rfl⟩
  cases hrx1 : inr x1 (F 0) with
  | false =>
    obtain ⟨μ2, r2, e2⟩ := law_T (N := N) (t := 1) (wl := m_L_rests N Λ μ (ad 0) x1 (ad 200)) hY h' ho (C_rests_f hN hY h ho x1 hrx1) (fun μ1 e => by unfold m_L_rests; rw [e]; rfl) (show 1 ≤ 2 by omega) (fun μ1 hr _ => R_rests_f hN hY hr ho x1 hrx1)
    refine ⟨μ2, r2, fun k => ?_⟩
    unfold bo_37
    simp only [g1, hx1, gd_t]
    exact (e2 (fun μ => jn_L_law__2587 N Λ L sc μ k v0 (ad 0) (ad 181) (ad 200) (n3 i))).trans (kk_end N Λ L sc μ2 k v0 (ad 0) (ad 181) (ad 200) i)
  | true =>
    obtain ⟨s, hsx1, qx1⟩ := inr_t (by omega) hrx1
    subst qx1
    obtain ⟨μ2, r2, e2⟩ := law_T (N := N) (t := 0) (wl := m_L_rests N Λ μ (ad 0) (n3 s) (ad 200)) hY h' ho (C_rests_t hN hY h ho s hsx1) (fun μ1 e => by unfold m_L_rests; rw [e]; show gd (inb 0 (aZ Λ (ad 200))) _ = _; rw [a200]; rfl) (show 0 ≤ 2 by omega) (fun μ1 hr _ => R_rests_t hN hY hr ho s hsx1)
    refine ⟨μ2, r2, fun k => ?_⟩
    unfold bo_37
    simp only [g1, hx1, gd_t]
    exact (e2 (fun μ => jn_L_law__2587 N Λ L sc μ k v0 (ad 0) (ad 181) (ad 200) (n3 i))).trans (kk_end N Λ L sc μ2 k v0 (ad 0) (ad 181) (ad 200) i)
theorem lc_38 {N : Nat} (hN : 1099511627776 ≤ N) {Λ : Lay} {ad : Nat → Nat} (hY : Ly Λ ad) {L : Nat} {sc : Nat → Int32} {i : Nat} (hi : i + 6 ≤ L) (hL : L ≤ 3072) {μ : Mem} (hr : Rel ad μ) (v0 : Nat) : ∃ μ2, Rel ad μ2 ∧ ∀ k, bo_38 N Λ L sc μ k v0 (ad 0) (ad 181) (ad 200) (n3 i) = k (n3 (i + 6), μ2) := by
  obtain ⟨F, m, A, b, J, T, n, f, h, h', ho⟩ := hr
  have a200 : aZ Λ (ad 200) = 1 := hY.2.2.2.2.2.2.2.2.2.2.2.1
  have hw := ho.1
  have hb := hw.1; unfold WB at hb
  have g1 : inb (n3 i + 1) L = true := by rw [n3_lit 1, n3_add]; exact n3_inb (by omega) (by omega)
  obtain ⟨x1, hx1⟩ : ∃ x, sc (n3 i + 1).toNatClampNeg = x := ⟨_, rfl⟩
  have g2 : inb (n3 i + 2) L = true := by rw [n3_lit 2, n3_add]; exact n3_inb (by omega) (by omega)
  obtain ⟨x2, hx2⟩ : ∃ x, sc (n3 i + 2).toNatClampNeg = x := ⟨_, rfl⟩
  cases hrx1 : inr x1 (6) with
  | false =>
    obtain ⟨μ2, r2, e2⟩ := law_T (N := N) (t := 1) (wl := m_L_odds N Λ μ (ad 0) x1 x2 (ad 200)) hY h' ho (C_odds_f hN hY h ho x1 x2 (Or.inl hrx1)) (fun μ1 e => by unfold m_L_odds; rw [e]; rfl) (show 1 ≤ 2 by omega) (fun μ1 hr _ => R_odds_f hN hY hr ho x1 x2 (Or.inl hrx1))
    refine ⟨μ2, r2, fun k => ?_⟩
    unfold bo_38
    simp only [g1, hx1, g2, hx2, gd_t]
    exact (e2 (fun μ => jn_L_law__2587 N Λ L sc μ k v0 (ad 0) (ad 181) (ad 200) (n3 i))).trans (kk_end N Λ L sc μ2 k v0 (ad 0) (ad 181) (ad 200) i)
  | true =>
    obtain ⟨s, hsx1, qx1⟩ := inr_t (by omega) hrx1
    subst qx1
    cases hrx2 : inr x2 (6) with
    | false =>
      obtain ⟨μ2, r2, e2⟩ := law_T (N := N) (t := 1) (wl := m_L_odds N Λ μ (ad 0) (n3 s) x2 (ad 200)) hY h' ho (C_odds_f hN hY h ho (n3 s) x2 (Or.inr hrx2)) (fun μ1 e => by unfold m_L_odds; rw [e]; rfl) (show 1 ≤ 2 by omega) (fun μ1 hr _ => R_odds_f hN hY hr ho (n3 s) x2 (Or.inr hrx2))
      refine ⟨μ2, r2, fun k => ?_⟩
      unfold bo_38
      simp only [g1, hx1, g2, hx2, gd_t]
      exact (e2 (fun μ => jn_L_law__2587 N Λ L sc μ k v0 (ad 0) (ad 181) (ad 200) (n3 i))).trans (kk_end N Λ L sc μ2 k v0 (ad 0) (ad 181) (ad 200) i)
    | true =>
      obtain ⟨w, hsx2, qx2⟩ := inr_t (by omega) hrx2
      subst qx2
      obtain ⟨μ2, r2, e2⟩ := law_T (N := N) (t := 0) (wl := m_L_odds N Λ μ (ad 0) (n3 s) (n3 w) (ad 200)) hY h' ho (C_odds_t hN hY h ho s w (by omega) (by omega)) (fun μ1 e => by unfold m_L_odds; rw [e]; show gd (inb 0 (aZ Λ (ad 200))) _ = _; rw [a200]; rfl) (show 0 ≤ 2 by omega) (fun μ1 hr _ => R_odds_t hN hY hr ho s w (by omega) (by omega))
      refine ⟨μ2, r2, fun k => ?_⟩
      unfold bo_38
      simp only [g1, hx1, g2, hx2, gd_t]
      exact (e2 (fun μ => jn_L_law__2587 N Λ L sc μ k v0 (ad 0) (ad 181) (ad 200) (n3 i))).trans (kk_end N Λ L sc μ2 k v0 (ad 0) (ad 181) (ad 200) i)
theorem lc_39 {N : Nat} (hN : 1099511627776 ≤ N) {Λ : Lay} {ad : Nat → Nat} (hY : Ly Λ ad) {L : Nat} {sc : Nat → Int32} {i : Nat} (hi : i + 6 ≤ L) (hL : L ≤ 3072) {μ : Mem} (hr : Rel ad μ) (v0 : Nat) : ∃ μ2, Rel ad μ2 ∧ ∀ k, bo_39 N Λ L sc μ k v0 (ad 0) (ad 181) (ad 200) (n3 i) = k (n3 (i + 6), μ2) := by
  obtain ⟨F, m, A, b, J, T, n, f, h, h', ho⟩ := hr
  have a200 : aZ Λ (ad 200) = 1 := hY.2.2.2.2.2.2.2.2.2.2.2.1
  have hw := ho.1
  have hb := hw.1; unfold WB at hb
  have g1 : inb (n3 i + 1) L = true := by rw [n3_lit 1, n3_add]; exact n3_inb (by omega) (by omega)
  obtain ⟨x1, hx1⟩ : ∃ x, sc (n3 i + 1).toNatClampNeg = x := ⟨_, rfl⟩
  cases hrx1 : inr x1 (3) with
  | false =>
    obtain ⟨μ2, r2, e2⟩ := law_T (N := N) (t := 1) (wl := m_L_most N Λ μ (ad 0) x1 (ad 200)) hY h' ho (C_most_f hN hY h ho x1 hrx1) (fun μ1 e => by unfold m_L_most; rw [e]; rfl) (show 1 ≤ 2 by omega) (fun μ1 hr _ => R_most_f hN hY hr ho x1 hrx1)
    refine ⟨μ2, r2, fun k => ?_⟩
    unfold bo_39
    simp only [g1, hx1, gd_t]
    exact (e2 (fun μ => jn_L_law__2587 N Λ L sc μ k v0 (ad 0) (ad 181) (ad 200) (n3 i))).trans (kk_end N Λ L sc μ2 k v0 (ad 0) (ad 181) (ad 200) i)
  | true =>
    obtain ⟨w, hsx1, qx1⟩ := inr_t (by omega) hrx1
    subst qx1
    obtain ⟨μ2, r2, e2⟩ := law_T (N := N) (t := 0) (wl := m_L_most N Λ μ (ad 0) (n3 w) (ad 200)) hY h' ho (C_most_t hN hY h ho w hsx1) (fun μ1 e => by unfold m_L_most; rw [e]; show gd (inb 0 (aZ Λ (ad 200))) _ = _; rw [a200]; rfl) (show 0 ≤ 2 by omega) (fun μ1 hr _ => R_most_t hN hY hr ho w hsx1)
    refine ⟨μ2, r2, fun k => ?_⟩
    unfold bo_39
    simp only [g1, hx1, gd_t]
    exact (e2 (fun μ => jn_L_law__2587 N Λ L sc μ k v0 (ad 0) (ad 181) (ad 200) (n3 i))).trans (kk_end N Λ L sc μ2 k v0 (ad 0) (ad 181) (ad 200) i)
theorem lc_40 {N : Nat} (hN : 1099511627776 ≤ N) {Λ : Lay} {ad : Nat → Nat} (hY : Ly Λ ad) {L : Nat} {sc : Nat → Int32} {i : Nat} (hi : i + 6 ≤ L) (hL : L ≤ 3072) {μ : Mem} (hr : Rel ad μ) (v0 : Nat) : ∃ μ2, Rel ad μ2 ∧ ∀ k, bo_40 N Λ L sc μ k v0 (ad 0) (ad 181) (ad 200) (n3 i) = k (n3 (i + 6), μ2) := by
  obtain ⟨F, m, A, b, J, T, n, f, h, h', ho⟩ := hr
  have a200 : aZ Λ (ad 200) = 1 := hY.2.2.2.2.2.2.2.2.2.2.2.1
  have hw := ho.1
  have hb := hw.1; unfold WB at hb
  obtain ⟨μ2, r2, e2⟩ := law_P h ho (C_waiting hN hY h ho) (R_waiting hN hY h' ho)
  refine ⟨μ2, r2, fun k => ?_⟩
  unfold bo_40
  exact (e2 (fun μ => jn_L_law__2587 N Λ L sc μ k v0 (ad 0) (ad 181) (ad 200) (n3 i))).trans (kk_end N Λ L sc μ2 k v0 (ad 0) (ad 181) (ad 200) i)
theorem lc_41 {N : Nat} (hN : 1099511627776 ≤ N) {Λ : Lay} {ad : Nat → Nat} (hY : Ly Λ ad) {L : Nat} {sc : Nat → Int32} {i : Nat} (hi : i + 6 ≤ L) (hL : L ≤ 3072) {μ : Mem} (hr : Rel ad μ) (v0 : Nat) : ∃ μ2, Rel ad μ2 ∧ ∀ k, bo_41 N Λ L sc μ k v0 (ad 0) (ad 181) (ad 200) (n3 i) = k (n3 (i + 6), μ2) := by
  obtain ⟨F, m, A, b, J, T, n, f, h, h', ho⟩ := hr
  have a200 : aZ Λ (ad 200) = 1 := hY.2.2.2.2.2.2.2.2.2.2.2.1
  have hw := ho.1
  have hb := hw.1; unfold WB at hb
  obtain ⟨μ2, r2, e2⟩ := law_P h ho (C_docked hN hY h ho) (R_docked hN hY h' ho)
  refine ⟨μ2, r2, fun k => ?_⟩
  unfold bo_41
  exact (e2 (fun μ => jn_L_law__2587 N Λ L sc μ k v0 (ad 0) (ad 181) (ad 200) (n3 i))).trans (kk_end N Λ L sc μ2 k v0 (ad 0) (ad 181) (ad 200) i)
theorem lc_42 {N : Nat} (hN : 1099511627776 ≤ N) {Λ : Lay} {ad : Nat → Nat} (hY : Ly Λ ad) {L : Nat} {sc : Nat → Int32} {i : Nat} (hi : i + 6 ≤ L) (hL : L ≤ 3072) {μ : Mem} (hr : Rel ad μ) (v0 : Nat) : ∃ μ2, Rel ad μ2 ∧ ∀ k, bo_42 N Λ L sc μ k v0 (ad 0) (ad 181) (ad 200) (n3 i) = k (n3 (i + 6), μ2) := by
  obtain ⟨F, m, A, b, J, T, n, f, h, h', ho⟩ := hr
  have a200 : aZ Λ (ad 200) = 1 := hY.2.2.2.2.2.2.2.2.2.2.2.1
  have hw := ho.1
  have hb := hw.1; unfold WB at hb
  obtain ⟨μ2, r2, e2⟩ := law_P h ho (C_gone hN hY h ho) (R_gone hN hY h' ho)
  refine ⟨μ2, r2, fun k => ?_⟩
  unfold bo_42
  exact (e2 (fun μ => jn_L_law__2587 N Λ L sc μ k v0 (ad 0) (ad 181) (ad 200) (n3 i))).trans (kk_end N Λ L sc μ2 k v0 (ad 0) (ad 181) (ad 200) i)
theorem lc_43 {N : Nat} (hN : 1099511627776 ≤ N) {Λ : Lay} {ad : Nat → Nat} (hY : Ly Λ ad) {L : Nat} {sc : Nat → Int32} {i : Nat} (hi : i + 6 ≤ L) (hL : L ≤ 3072) {μ : Mem} (hr : Rel ad μ) (v0 : Nat) : ∃ μ2, Rel ad μ2 ∧ ∀ k, bo_43 N Λ L sc μ k v0 (ad 0) (ad 181) (ad 200) (n3 i) = k (n3 (i + 6), μ2) := by
  obtain ⟨F, m, A, b, J, T, n, f, h, h', ho⟩ := hr
  have a200 : aZ Λ (ad 200) = 1 := hY.2.2.2.2.2.2.2.2.2.2.2.1
  have hw := ho.1
  have hb := hw.1; unfold WB at hb
  obtain ⟨μ2, r2, e2⟩ := law_P h ho (C_hurt hN hY h ho) (R_hurt hN hY h' ho)
  refine ⟨μ2, r2, fun k => ?_⟩
  unfold bo_43
  exact (e2 (fun μ => jn_L_law__2587 N Λ L sc μ k v0 (ad 0) (ad 181) (ad 200) (n3 i))).trans (kk_end N Λ L sc μ2 k v0 (ad 0) (ad 181) (ad 200) i)
theorem lc_44 {N : Nat} (hN : 1099511627776 ≤ N) {Λ : Lay} {ad : Nat → Nat} (hY : Ly Λ ad) {L : Nat} {sc : Nat → Int32} {i : Nat} (hi : i + 6 ≤ L) (hL : L ≤ 3072) {μ : Mem} (hr : Rel ad μ) (v0 : Nat) : ∃ μ2, Rel ad μ2 ∧ ∀ k, bo_44 N Λ L sc μ k v0 (ad 0) (ad 181) (ad 200) (n3 i) = k (n3 (i + 6), μ2) := by
  obtain ⟨F, m, A, b, J, T, n, f, h, h', ho⟩ := hr
  have a200 : aZ Λ (ad 200) = 1 := hY.2.2.2.2.2.2.2.2.2.2.2.1
  have hw := ho.1
  have hb := hw.1; unfold WB at hb
  obtain ⟨μ2, r2, e2⟩ := law_P h ho (C_twins hN hY h ho) (R_twins hN hY h' ho)
  refine ⟨μ2, r2, fun k => ?_⟩
  unfold bo_44
  exact (e2 (fun μ => jn_L_law__2587 N Λ L sc μ k v0 (ad 0) (ad 181) (ad 200) (n3 i))).trans (kk_end N Λ L sc μ2 k v0 (ad 0) (ad 181) (ad 200) i)
theorem lc_45 {N : Nat} (hN : 1099511627776 ≤ N) {Λ : Lay} {ad : Nat → Nat} (hY : Ly Λ ad) {L : Nat} {sc : Nat → Int32} {i : Nat} (hi : i + 6 ≤ L) (hL : L ≤ 3072) {μ : Mem} (hr : Rel ad μ) (v0 : Nat) : ∃ μ2, Rel ad μ2 ∧ ∀ k, bo_45 N Λ L sc μ k v0 (ad 0) (ad 181) (ad 200) (n3 i) = k (n3 (i + 6), μ2) := by
  obtain ⟨F, m, A, b, J, T, n, f, h, h', ho⟩ := hr
  have a200 : aZ Λ (ad 200) = 1 := hY.2.2.2.2.2.2.2.2.2.2.2.1
  have hw := ho.1
  have hb := hw.1; unfold WB at hb
  have g1 : inb (n3 i + 1) L = true := by rw [n3_lit 1, n3_add]; exact n3_inb (by omega) (by omega)
  obtain ⟨x1, hx1⟩ : ∃ x, sc (n3 i + 1).toNatClampNeg = x := ⟨_, rfl⟩
  by_cases hd : x1 = 0
  · have hd' : (x1 = 0) = True := eq_true hd
    obtain ⟨μ2, r2, e2⟩ := law_P h ho (C_water hN hY h ho 0 (by omega)) (R_water hN hY h' ho 0 (by omega))
    refine ⟨μ2, r2, fun k => ?_⟩
    unfold bo_45
    simp only [g1, hx1, gd_t, hd', if_true, if_false, jn_L_law__2070, jn_L_law__2088]
    exact (e2 (fun μ => jn_L_law__2587 N Λ L sc μ k v0 (ad 0) (ad 181) (ad 200) (n3 i))).trans (kk_end N Λ L sc μ2 k v0 (ad 0) (ad 181) (ad 200) i)
  · have hd' : (x1 = 0) = False := eq_false hd
    obtain ⟨μ2, r2, e2⟩ := law_P h ho (C_water hN hY h ho 1 (by omega)) (R_water hN hY h' ho 1 (by omega))
    refine ⟨μ2, r2, fun k => ?_⟩
    unfold bo_45
    simp only [g1, hx1, gd_t, hd', if_true, if_false, jn_L_law__2070, jn_L_law__2088]
    exact (e2 (fun μ => jn_L_law__2587 N Λ L sc μ k v0 (ad 0) (ad 181) (ad 200) (n3 i))).trans (kk_end N Λ L sc μ2 k v0 (ad 0) (ad 181) (ad 200) i)
theorem lc_46 {N : Nat} (hN : 1099511627776 ≤ N) {Λ : Lay} {ad : Nat → Nat} (hY : Ly Λ ad) {L : Nat} {sc : Nat → Int32} {i : Nat} (hi : i + 6 ≤ L) (hL : L ≤ 3072) {μ : Mem} (hr : Rel ad μ) (v0 : Nat) : ∃ μ2, Rel ad μ2 ∧ ∀ k, bo_46 N Λ L sc μ k v0 (ad 0) (ad 181) (ad 200) (n3 i) = k (n3 (i + 6), μ2) := by
  obtain ⟨F, m, A, b, J, T, n, f, h, h', ho⟩ := hr
  have a200 : aZ Λ (ad 200) = 1 := hY.2.2.2.2.2.2.2.2.2.2.2.1
  have hw := ho.1
  have hb := hw.1; unfold WB at hb
  have g1 : inb (n3 i + 1) L = true := by rw [n3_lit 1, n3_add]; exact n3_inb (by omega) (by omega)
  obtain ⟨x1, hx1⟩ : ∃ x, sc (n3 i + 1).toNatClampNeg = x := ⟨_, rfl⟩
  have g2 : inb (n3 i + 2) L = true := by rw [n3_lit 2, n3_add]; exact n3_inb (by omega) (by omega)
  obtain ⟨x2, hx2⟩ : ∃ x, sc (n3 i + 2).toNatClampNeg = x := ⟨_, rfl⟩
  cases hrx1 : inr x1 (61) with
  | false =>
    by_cases hd : x2 = 0
    · have hd' : (x2 = 0) = True := eq_true hd
      obtain ⟨μ2, r2, e2⟩ := law_T (N := N) (t := 1) (wl := m_L_ahead N Λ μ (ad 0) x1 (n3 0) (ad 200)) hY h' ho (C_ahead_f hN hY h ho x1 (n3 0) hrx1) (fun μ1 e => by unfold m_L_ahead; rw [e]; rfl) (show 1 ≤ 2 by omega) (fun μ1 hr _ => R_ahead_f hN hY hr ho x1 (n3 0) hrx1)
      refine ⟨μ2, r2, fun k => ?_⟩
      unfold bo_46
      simp only [g1, hx1, g2, hx2, gd_t, hd', if_true, if_false, jn_L_law__2117, jn_L_law__2144, jn_L_law__2177]
      exact (e2 (fun μ => jn_L_law__2587 N Λ L sc μ k v0 (ad 0) (ad 181) (ad 200) (n3 i))).trans (kk_end N Λ L sc μ2 k v0 (ad 0) (ad 181) (ad 200) i)
    · have hd' : (x2 = 0) = False := eq_false hd
      obtain ⟨μ2, r2, e2⟩ := law_T (N := N) (t := 1) (wl := m_L_ahead N Λ μ (ad 0) x1 (n3 1) (ad 200)) hY h' ho (C_ahead_f hN hY h ho x1 (n3 1) hrx1) (fun μ1 e => by unfold m_L_ahead; rw [e]; rfl) (show 1 ≤ 2 by omega) (fun μ1 hr _ => R_ahead_f hN hY hr ho x1 (n3 1) hrx1)
      refine ⟨μ2, r2, fun k => ?_⟩
      unfold bo_46
      simp only [g1, hx1, g2, hx2, gd_t, hd', if_true, if_false, jn_L_law__2117, jn_L_law__2144, jn_L_law__2177]
      exact (e2 (fun μ => jn_L_law__2587 N Λ L sc μ k v0 (ad 0) (ad 181) (ad 200) (n3 i))).trans (kk_end N Λ L sc μ2 k v0 (ad 0) (ad 181) (ad 200) i)
  | true =>
    obtain ⟨s, hsx1, qx1⟩ := inr_t (by omega) hrx1
    subst qx1
    by_cases hd : x2 = 0
    · have hd' : (x2 = 0) = True := eq_true hd
      obtain ⟨μ2, r2, e2⟩ := law_T (N := N) (t := 0) (wl := m_L_ahead N Λ μ (ad 0) (n3 s) (n3 0) (ad 200)) hY h' ho (C_ahead_t hN hY h ho s 0 (by omega) (by omega)) (fun μ1 e => by unfold m_L_ahead; rw [e]; show gd (inb 0 (aZ Λ (ad 200))) _ = _; rw [a200]; rfl) (show 0 ≤ 2 by omega) (fun μ1 hr _ => R_ahead_t hN hY hr ho s 0 (by omega) (by omega))
      refine ⟨μ2, r2, fun k => ?_⟩
      unfold bo_46
      simp only [g1, hx1, g2, hx2, gd_t, hd', if_true, if_false, jn_L_law__2117, jn_L_law__2144, jn_L_law__2177]
      exact (e2 (fun μ => jn_L_law__2587 N Λ L sc μ k v0 (ad 0) (ad 181) (ad 200) (n3 i))).trans (kk_end N Λ L sc μ2 k v0 (ad 0) (ad 181) (ad 200) i)
    · have hd' : (x2 = 0) = False := eq_false hd
      obtain ⟨μ2, r2, e2⟩ := law_T (N := N) (t := 0) (wl := m_L_ahead N Λ μ (ad 0) (n3 s) (n3 1) (ad 200)) hY h' ho (C_ahead_t hN hY h ho s 1 (by omega) (by omega)) (fun μ1 e => by unfold m_L_ahead; rw [e]; show gd (inb 0 (aZ Λ (ad 200))) _ = _; rw [a200]; rfl) (show 0 ≤ 2 by omega) (fun μ1 hr _ => R_ahead_t hN hY hr ho s 1 (by omega) (by omega))
      refine ⟨μ2, r2, fun k => ?_⟩
      unfold bo_46
      simp only [g1, hx1, g2, hx2, gd_t, hd', if_true, if_false, jn_L_law__2117, jn_L_law__2144, jn_L_law__2177]
      exact (e2 (fun μ => jn_L_law__2587 N Λ L sc μ k v0 (ad 0) (ad 181) (ad 200) (n3 i))).trans (kk_end N Λ L sc μ2 k v0 (ad 0) (ad 181) (ad 200) i)
theorem lc_47 {N : Nat} (hN : 1099511627776 ≤ N) {Λ : Lay} {ad : Nat → Nat} (hY : Ly Λ ad) {L : Nat} {sc : Nat → Int32} {i : Nat} (hi : i + 6 ≤ L) (hL : L ≤ 3072) {μ : Mem} (hr : Rel ad μ) (v0 : Nat) : ∃ μ2, Rel ad μ2 ∧ ∀ k, bo_47 N Λ L sc μ k v0 (ad 0) (ad 181) (ad 200) (n3 i) = k (n3 (i + 6), μ2) := by
  obtain ⟨F, m, A, b, J, T, n, f, h, h', ho⟩ := hr
  have a200 : aZ Λ (ad 200) = 1 := hY.2.2.2.2.2.2.2.2.2.2.2.1
  have hw := ho.1
  have hb := hw.1; unfold WB at hb
  have g1 : inb (n3 i + 1) L = true := by rw [n3_lit 1, n3_add]; exact n3_inb (by omega) (by omega)
  obtain ⟨x1, hx1⟩ : ∃ x, sc (n3 i + 1).toNatClampNeg = x := ⟨_, rfl⟩
  have g2 : inb (n3 i + 2) L = true := by rw [n3_lit 2, n3_add]; exact n3_inb (by omega) (by omega)
  obtain ⟨x2, hx2⟩ : ∃ x, sc (n3 i + 2).toNatClampNeg = x := ⟨_, rfl⟩
  cases hrx1 : inr x1 (61) with
  | false =>
    by_cases hd : x2 = 0
    · have hd' : (x2 = 0) = True := eq_true hd
      obtain ⟨μ2, r2, e2⟩ := law_T (N := N) (t := 1) (wl := m_L_trial N Λ μ (ad 0) x1 (n3 0) (ad 200)) hY h' ho (C_trial_f hN hY h ho x1 (n3 0) hrx1) (fun μ1 e => by unfold m_L_trial; rw [e]; rfl) (show 1 ≤ 2 by omega) (fun μ1 hr _ => R_trial_f hN hY hr ho x1 (n3 0) hrx1)
      refine ⟨μ2, r2, fun k => ?_⟩
      unfold bo_47
      simp only [g1, hx1, g2, hx2, gd_t, hd', if_true, if_false, jn_L_law__2201, jn_L_law__2228, jn_L_law__2261]
      exact (e2 (fun μ => jn_L_law__2587 N Λ L sc μ k v0 (ad 0) (ad 181) (ad 200) (n3 i))).trans (kk_end N Λ L sc μ2 k v0 (ad 0) (ad 181) (ad 200) i)
    · have hd' : (x2 = 0) = False := eq_false hd
      obtain ⟨μ2, r2, e2⟩ := law_T (N := N) (t := 1) (wl := m_L_trial N Λ μ (ad 0) x1 (n3 1) (ad 200)) hY h' ho (C_trial_f hN hY h ho x1 (n3 1) hrx1) (fun μ1 e => by unfold m_L_trial; rw [e]; rfl) (show 1 ≤ 2 by omega) (fun μ1 hr _ => R_trial_f hN hY hr ho x1 (n3 1) hrx1)
      refine ⟨μ2, r2, fun k => ?_⟩
      unfold bo_47
      simp only [g1, hx1, g2, hx2, gd_t, hd', if_true, if_false, jn_L_law__2201, jn_L_law__2228, jn_L_law__2261]
      exact (e2 (fun μ => jn_L_law__2587 N Λ L sc μ k v0 (ad 0) (ad 181) (ad 200) (n3 i))).trans (kk_end N Λ L sc μ2 k v0 (ad 0) (ad 181) (ad 200) i)
  | true =>
    obtain ⟨s, hsx1, qx1⟩ := inr_t (by omega) hrx1
    subst qx1
    by_cases hd : x2 = 0
    · have hd' : (x2 = 0) = True := eq_true hd
      obtain ⟨μ2, r2, e2⟩ := law_T (N := N) (t := 0) (wl := m_L_trial N Λ μ (ad 0) (n3 s) (n3 0) (ad 200)) hY h' ho (C_trial_t hN hY h ho s 0 (by omega) (by omega)) (fun μ1 e => by unfold m_L_trial; rw [e]; show gd (inb 0 (aZ Λ (ad 200))) _ = _; rw [a200]; rfl) (show 0 ≤ 2 by omega) (fun μ1 hr _ => R_trial_t hN hY hr ho s 0 (by omega) (by omega))
      refine ⟨μ2, r2, fun k => ?_⟩
      unfold bo_47
      simp only [g1, hx1, g2, hx2, gd_t, hd', if_true, if_false, jn_L_law__2201, jn_L_law__2228, jn_L_law__2261]
      exact (e2 (fun μ => jn_L_law__2587 N Λ L sc μ k v0 (ad 0) (ad 181) (ad 200) (n3 i))).trans (kk_end N Λ L sc μ2 k v0 (ad 0) (ad 181) (ad 200) i)
    · have hd' : (x2 = 0) = False := eq_false hd
      obtain ⟨μ2, r2, e2⟩ := law_T (N := N) (t := 0) (wl := m_L_trial N Λ μ (ad 0) (n3 s) (n3 1) (ad 200)) hY h' ho (C_trial_t hN hY h ho s 1 (by omega) (by omega)) (fun μ1 e => by unfold m_L_trial; rw [e]; show gd (inb 0 (aZ Λ (ad 200))) _ = _; rw [a200]; rfl) (show 0 ≤ 2 by omega) (fun μ1 hr _ => R_trial_t hN hY hr ho s 1 (by omega) (by omega))
      refine ⟨μ2, r2, fun k => ?_⟩
      unfold bo_47
      simp only [g1, hx1, g2, hx2, gd_t, hd', if_true, if_false, jn_L_law__2201, jn_L_law__2228, jn_L_law__2261]
      exact (e2 (fun μ => jn_L_law__2587 N Λ L sc μ k v0 (ad 0) (ad 181) (ad 200) (n3 i))).trans (kk_end N Λ L sc μ2 k v0 (ad 0) (ad 181) (ad 200) i)
theorem lc_48 {N : Nat} (hN : 1099511627776 ≤ N) {Λ : Lay} {ad : Nat → Nat} (hY : Ly Λ ad) {L : Nat} {sc : Nat → Int32} {i : Nat} (hi : i + 6 ≤ L) (hL : L ≤ 3072) {μ : Mem} (hr : Rel ad μ) (v0 : Nat) : ∃ μ2, Rel ad μ2 ∧ ∀ k, bo_48 N Λ L sc μ k v0 (ad 0) (ad 181) (ad 200) (n3 i) = k (n3 (i + 6), μ2) := by
  obtain ⟨F, m, A, b, J, T, n, f, h, h', ho⟩ := hr
  have a200 : aZ Λ (ad 200) = 1 := hY.2.2.2.2.2.2.2.2.2.2.2.1
  have hw := ho.1
  have hb := hw.1; unfold WB at hb
  have g1 : inb (n3 i + 1) L = true := by rw [n3_lit 1, n3_add]; exact n3_inb (by omega) (by omega)
  obtain ⟨x1, hx1⟩ : ∃ x, sc (n3 i + 1).toNatClampNeg = x := ⟨_, rfl⟩
  have g2 : inb (n3 i + 2) L = true := by rw [n3_lit 2, n3_add]; exact n3_inb (by omega) (by omega)
  obtain ⟨x2, hx2⟩ : ∃ x, sc (n3 i + 2).toNatClampNeg = x := ⟨_, rfl⟩
  cases hrx1 : inr x1 (61) with
  | false =>
    by_cases hd : x2 = 0
    · have hd' : (x2 = 0) = True := eq_true hd
      obtain ⟨μ2, r2, e2⟩ := law_T (N := N) (t := 1) (wl := m_L_span N Λ μ (ad 0) x1 (n3 0) (ad 200)) hY h' ho (C_span_f hN hY h ho x1 (n3 0) hrx1) (fun μ1 e => by unfold m_L_span; rw [e]; rfl) (show 1 ≤ 2 by omega) (fun μ1 hr _ => R_span_f hN hY hr ho x1 (n3 0) hrx1)
      refine ⟨μ2, r2, fun k => ?_⟩
      unfold bo_48
      simp only [g1, hx1, g2, hx2, gd_t, hd', if_true, if_false, jn_L_law__2285, jn_L_law__2312, jn_L_law__2345]
      exact (e2 (fun μ => jn_L_law__2587 N Λ L sc μ k v0 (ad 0) (ad 181) (ad 200) (n3 i))).trans (kk_end N Λ L sc μ2 k v0 (ad 0) (ad 181) (ad 200) i)
    · have hd' : (x2 = 0) = False := eq_false hd
      obtain ⟨μ2, r2, e2⟩ := law_T (N := N) (t := 1) (wl := m_L_span N Λ μ (ad 0) x1 (n3 1) (ad 200)) hY h' ho (C_span_f hN hY h ho x1 (n3 1) hrx1) (fun μ1 e => by unfold m_L_span; rw [e]; rfl) (show 1 ≤ 2 by omega) (fun μ1 hr _ => R_span_f hN hY hr ho x1 (n3 1) hrx1)
      refine ⟨μ2, r2, fun k => ?_⟩
      unfold bo_48
      simp only [g1, hx1, g2, hx2, gd_t, hd', if_true, if_false, jn_L_law__2285, jn_L_law__2312, jn_L_law__2345]
      exact (e2 (fun μ => jn_L_law__2587 N Λ L sc μ k v0 (ad 0) (ad 181) (ad 200) (n3 i))).trans (kk_end N Λ L sc μ2 k v0 (ad 0) (ad 181) (ad 200) i)
  | true =>
    obtain ⟨s, hsx1, qx1⟩ := inr_t (by omega) hrx1
    subst qx1
    by_cases hd : x2 = 0
    · have hd' : (x2 = 0) = True := eq_true hd
      obtain ⟨μ2, r2, e2⟩ := law_T (N := N) (t := 0) (wl := m_L_span N Λ μ (ad 0) (n3 s) (n3 0) (ad 200)) hY h' ho (C_span_t hN hY h ho s 0 (by omega) (by omega)) (fun μ1 e => by unfold m_L_span; rw [e]; show gd (inb 0 (aZ Λ (ad 200))) _ = _; rw [a200]; rfl) (show 0 ≤ 2 by omega) (fun μ1 hr _ => R_span_t hN hY hr ho s 0 (by omega) (by omega))
      refine ⟨μ2, r2, fun k => ?_⟩
      unfold bo_48
      simp only [g1, hx1, g2, hx2, gd_t, hd', if_true, if_false, jn_L_law__2285, jn_L_law__2312, jn_L_law__2345]
      exact (e2 (fun μ => jn_L_law__2587 N Λ L sc μ k v0 (ad 0) (ad 181) (ad 200) (n3 i))).trans (kk_end N Λ L sc μ2 k v0 (ad 0) (ad 181) (ad 200) i)
    · have hd' : (x2 = 0) = False := eq_false hd
      obtain ⟨μ2, r2, e2⟩ := law_T (N := N) (t := 0) (wl := m_L_span N Λ μ (ad 0) (n3 s) (n3 1) (ad 200)) hY h' ho (C_span_t hN hY h ho s 1 (by omega) (by omega)) (fun μ1 e => by unfold m_L_span; rw [e]; show gd (inb 0 (aZ Λ (ad 200))) _ = _; rw [a200]; rfl) (show 0 ≤ 2 by omega) (fun μ1 hr _ => R_span_t hN hY hr ho s 1 (by omega) (by omega))
      refine ⟨μ2, r2, fun k => ?_⟩
      unfold bo_48
      simp only [g1, hx1, g2, hx2, gd_t, hd', if_true, if_false, jn_L_law__2285, jn_L_law__2312, jn_L_law__2345]
      exact (e2 (fun μ => jn_L_law__2587 N Λ L sc μ k v0 (ad 0) (ad 181) (ad 200) (n3 i))).trans (kk_end N Λ L sc μ2 k v0 (ad 0) (ad 181) (ad 200) i)
theorem lc_49 {N : Nat} (hN : 1099511627776 ≤ N) {Λ : Lay} {ad : Nat → Nat} (hY : Ly Λ ad) {L : Nat} {sc : Nat → Int32} {i : Nat} (hi : i + 6 ≤ L) (hL : L ≤ 3072) {μ : Mem} (hr : Rel ad μ) (v0 : Nat) : ∃ μ2, Rel ad μ2 ∧ ∀ k, bo_49 N Λ L sc μ k v0 (ad 0) (ad 181) (ad 200) (n3 i) = k (n3 (i + 6), μ2) := by
  obtain ⟨F, m, A, b, J, T, n, f, h, h', ho⟩ := hr
  have a200 : aZ Λ (ad 200) = 1 := hY.2.2.2.2.2.2.2.2.2.2.2.1
  have hw := ho.1
  have hb := hw.1; unfold WB at hb
  have g1 : inb (n3 i + 1) L = true := by rw [n3_lit 1, n3_add]; exact n3_inb (by omega) (by omega)
  obtain ⟨x1, hx1⟩ : ∃ x, sc (n3 i + 1).toNatClampNeg = x := ⟨_, rfl⟩
  have g2 : inb (n3 i + 2) L = true := by rw [n3_lit 2, n3_add]; exact n3_inb (by omega) (by omega)
  obtain ⟨x2, hx2⟩ : ∃ x, sc (n3 i + 2).toNatClampNeg = x := ⟨_, rfl⟩
  cases hrx1 : inr x1 (F 0) with
  | false =>
    by_cases hd : x2 = 0
    · have hd' : (x2 = 0) = True := eq_true hd
      obtain ⟨μ2, r2, e2⟩ := law_T (N := N) (t := 1) (wl := m_L_led N Λ μ (ad 0) x1 (n3 0) (ad 200)) hY h' ho (C_led_f hN hY h ho x1 (n3 0) hrx1) (fun μ1 e => by unfold m_L_led; rw [e]; rfl) (show 1 ≤ 2 by omega) (fun μ1 hr _ => R_led_f hN hY hr ho x1 (n3 0) hrx1)
      refine ⟨μ2, r2, fun k => ?_⟩
      unfold bo_49
      simp only [g1, hx1, g2, hx2, gd_t, hd', if_true, if_false, jn_L_law__2369, jn_L_law__2396, jn_L_law__2429]
      exact (e2 (fun μ => jn_L_law__2587 N Λ L sc μ k v0 (ad 0) (ad 181) (ad 200) (n3 i))).trans (kk_end N Λ L sc μ2 k v0 (ad 0) (ad 181) (ad 200) i)
    · have hd' : (x2 = 0) = False := eq_false hd
      obtain ⟨μ2, r2, e2⟩ := law_T (N := N) (t := 1) (wl := m_L_led N Λ μ (ad 0) x1 (n3 1) (ad 200)) hY h' ho (C_led_f hN hY h ho x1 (n3 1) hrx1) (fun μ1 e => by unfold m_L_led; rw [e]; rfl) (show 1 ≤ 2 by omega) (fun μ1 hr _ => R_led_f hN hY hr ho x1 (n3 1) hrx1)
      refine ⟨μ2, r2, fun k => ?_⟩
      unfold bo_49
      simp only [g1, hx1, g2, hx2, gd_t, hd', if_true, if_false, jn_L_law__2369, jn_L_law__2396, jn_L_law__2429]
      exact (e2 (fun μ => jn_L_law__2587 N Λ L sc μ k v0 (ad 0) (ad 181) (ad 200) (n3 i))).trans (kk_end N Λ L sc μ2 k v0 (ad 0) (ad 181) (ad 200) i)
  | true =>
    obtain ⟨s, hsx1, qx1⟩ := inr_t (by omega) hrx1
    subst qx1
    by_cases hd : x2 = 0
    · have hd' : (x2 = 0) = True := eq_true hd
      obtain ⟨μ2, r2, e2⟩ := law_T (N := N) (t := 0) (wl := m_L_led N Λ μ (ad 0) (n3 s) (n3 0) (ad 200)) hY h' ho (C_led_t hN hY h ho s 0 hsx1 (by omega)) (fun μ1 e => by unfold m_L_led; rw [e]; show gd (inb 0 (aZ Λ (ad 200))) _ = _; rw [a200]; rfl) (show 0 ≤ 2 by omega) (fun μ1 hr _ => R_led_t hN hY hr ho s 0 hsx1 (by omega))
      refine ⟨μ2, r2, fun k => ?_⟩
      unfold bo_49
      simp only [g1, hx1, g2, hx2, gd_t, hd', if_true, if_false, jn_L_law__2369, jn_L_law__2396, jn_L_law__2429]
      exact (e2 (fun μ => jn_L_law__2587 N Λ L sc μ k v0 (ad 0) (ad 181) (ad 200) (n3 i))).trans (kk_end N Λ L sc μ2 k v0 (ad 0) (ad 181) (ad 200) i)
    · have hd' : (x2 = 0) = False := eq_false hd
      obtain ⟨μ2, r2, e2⟩ := law_T (N := N) (t := 0) (wl := m_L_led N Λ μ (ad 0) (n3 s) (n3 1) (ad 200)) hY h' ho (C_led_t hN hY h ho s 1 hsx1 (by omega)) (fun μ1 e => by unfold m_L_led; rw [e]; show gd (inb 0 (aZ Λ (ad 200))) _ = _; rw [a200]; rfl) (show 0 ≤ 2 by omega) (fun μ1 hr _ => R_led_t hN hY hr ho s 1 hsx1 (by omega))
      refine ⟨μ2, r2, fun k => ?_⟩
      unfold bo_49
      simp only [g1, hx1, g2, hx2, gd_t, hd', if_true, if_false, jn_L_law__2369, jn_L_law__2396, jn_L_law__2429]
      exact (e2 (fun μ => jn_L_law__2587 N Λ L sc μ k v0 (ad 0) (ad 181) (ad 200) (n3 i))).trans (kk_end N Λ L sc μ2 k v0 (ad 0) (ad 181) (ad 200) i)
theorem lc_50 {N : Nat} (hN : 1099511627776 ≤ N) {Λ : Lay} {ad : Nat → Nat} (hY : Ly Λ ad) {L : Nat} {sc : Nat → Int32} {i : Nat} (hi : i + 6 ≤ L) (hL : L ≤ 3072) {μ : Mem} (hr : Rel ad μ) (v0 : Nat) : ∃ μ2, Rel ad μ2 ∧ ∀ k, bo_50 N Λ L sc μ k v0 (ad 0) (ad 181) (ad 200) (n3 i) = k (n3 (i + 6), μ2) := by
  obtain ⟨F, m, A, b, J, T, n, f, h, h', ho⟩ := hr
  have a200 : aZ Λ (ad 200) = 1 := hY.2.2.2.2.2.2.2.2.2.2.2.1
  have hw := ho.1
  have hb := hw.1; unfold WB at hb
  have g1 : inb (n3 i + 1) L = true := by rw [n3_lit 1, n3_add]; exact n3_inb (by omega) (by omega)
  obtain ⟨x1, hx1⟩ : ∃ x, sc (n3 i + 1).toNatClampNeg = x := ⟨_, rfl⟩
  have g2 : inb (n3 i + 2) L = true := by rw [n3_lit 2, n3_add]; exact n3_inb (by omega) (by omega)
  obtain ⟨x2, hx2⟩ : ∃ x, sc (n3 i + 2).toNatClampNeg = x := ⟨_, rfl⟩
  cases hrx2 : inr x2 (5) with
  | false =>
    obtain ⟨μ2, r2, e2⟩ := law_T (N := N) (t := 1) (wl := m_L_log N Λ μ (ad 0) x1 x2 (ad 200)) hY h' ho (C_log_f1 hN hY h ho x1 x2 hrx2) (fun μ1 e => by unfold m_L_log; rw [e]; rfl) (show 1 ≤ 2 by omega) (fun μ1 hr _ => R_log_f1 hN hY hr ho x1 x2 hrx2)
    refine ⟨μ2, r2, fun k => ?_⟩
    unfold bo_50
    simp only [g1, hx1, g2, hx2, gd_t]
    exact (e2 (fun μ => jn_L_law__2587 N Λ L sc μ k v0 (ad 0) (ad 181) (ad 200) (n3 i))).trans (kk_end N Λ L sc μ2 k v0 (ad 0) (ad 181) (ad 200) i)
  | true =>
    obtain ⟨w, hsx2, qx2⟩ := inr_t (by omega) hrx2
    subst qx2
    cases hrx1 : inr x1 (F 11) with
    | false =>
      obtain ⟨μ2, r2, e2⟩ := law_T (N := N) (t := 0) (wl := m_L_log N Λ μ (ad 0) x1 (n3 w) (ad 200)) hY h' ho (C_log_f2 hN hY h ho x1 w hsx2 hrx1) (fun μ1 e => by unfold m_L_log; rw [e]; show gd (inb 0 (aZ Λ (ad 200))) _ = _; rw [a200]; rfl) (show 0 ≤ 2 by omega) (fun μ1 hr _ => R_log_f2 hN hY hr ho x1 w hsx2 hrx1)
      refine ⟨μ2, r2, fun k => ?_⟩
      unfold bo_50
      simp only [g1, hx1, g2, hx2, gd_t]
      exact (e2 (fun μ => jn_L_law__2587 N Λ L sc μ k v0 (ad 0) (ad 181) (ad 200) (n3 i))).trans (kk_end N Λ L sc μ2 k v0 (ad 0) (ad 181) (ad 200) i)
    | true =>
      obtain ⟨s, hsx1, qx1⟩ := inr_t (by omega) hrx1
      subst qx1
      obtain ⟨μ2, r2, e2⟩ := law_T (N := N) (t := 0) (wl := m_L_log N Λ μ (ad 0) (n3 s) (n3 w) (ad 200)) hY h' ho (C_log_t hN hY h ho s w hsx1 hsx2) (fun μ1 e => by unfold m_L_log; rw [e]; show gd (inb 0 (aZ Λ (ad 200))) _ = _; rw [a200]; rfl) (show 0 ≤ 2 by omega) (fun μ1 hr _ => R_log_t hN hY hr ho s w hsx1 hsx2)
      refine ⟨μ2, r2, fun k => ?_⟩
      unfold bo_50
      simp only [g1, hx1, g2, hx2, gd_t]
      exact (e2 (fun μ => jn_L_law__2587 N Λ L sc μ k v0 (ad 0) (ad 181) (ad 200) (n3 i))).trans (kk_end N Λ L sc μ2 k v0 (ad 0) (ad 181) (ad 200) i)
theorem lc_51 {N : Nat} (hN : 1099511627776 ≤ N) {Λ : Lay} {ad : Nat → Nat} (hY : Ly Λ ad) {L : Nat} {sc : Nat → Int32} {i : Nat} (hi : i + 6 ≤ L) (hL : L ≤ 3072) {μ : Mem} (hr : Rel ad μ) (v0 : Nat) : ∃ μ2, Rel ad μ2 ∧ ∀ k, bo_51 N Λ L sc μ k v0 (ad 0) (ad 181) (ad 200) (n3 i) = k (n3 (i + 6), μ2) := by
  obtain ⟨F, m, A, b, J, T, n, f, h, h', ho⟩ := hr
  have a200 : aZ Λ (ad 200) = 1 := hY.2.2.2.2.2.2.2.2.2.2.2.1
  have hw := ho.1
  have hb := hw.1; unfold WB at hb
  have g1 : inb (n3 i + 1) L = true := by rw [n3_lit 1, n3_add]; exact n3_inb (by omega) (by omega)
  obtain ⟨x1, hx1⟩ : ∃ x, sc (n3 i + 1).toNatClampNeg = x := ⟨_, rfl⟩
  obtain ⟨μ2, r2, e2⟩ := law_V h' (ho.to (up12_WF hw (u3_lt x1)) ((LwE.refl F).up (by omega) (by omega))) (C_seed hN hY h ho x1) (fun μ1 hr => R_seed hN hY hr ho x1)
  refine ⟨μ2, r2, fun k => ?_⟩
  unfold bo_51
  simp only [g1, hx1, gd_t]
  exact (e2 (fun μ => jn_L_law__2587 N Λ L sc μ k v0 (ad 0) (ad 181) (ad 200) (n3 i))).trans (kk_end N Λ L sc μ2 k v0 (ad 0) (ad 181) (ad 200) i)
theorem lc_52 {N : Nat} (hN : 1099511627776 ≤ N) {Λ : Lay} {ad : Nat → Nat} (hY : Ly Λ ad) {L : Nat} {sc : Nat → Int32} {i : Nat} (hi : i + 6 ≤ L) (hL : L ≤ 3072) {μ : Mem} (hr : Rel ad μ) (v0 : Nat) : ∃ μ2, Rel ad μ2 ∧ ∀ k, bo_52 N Λ L sc μ k v0 (ad 0) (ad 181) (ad 200) (n3 i) = k (n3 (i + 6), μ2) := by
  obtain ⟨F, m, A, b, J, T, n, f, h, h', ho⟩ := hr
  have a200 : aZ Λ (ad 200) = 1 := hY.2.2.2.2.2.2.2.2.2.2.2.1
  have hw := ho.1
  have hb := hw.1; unfold WB at hb
  by_cases hm : m = 0
  · obtain ⟨μ2, r2, e2⟩ := law_V h' ho (C_undo0 hN hY h ho hm) (fun μ1 hr => R_undo0 hN hY hr ho hm)
    refine ⟨μ2, r2, fun k => ?_⟩
    unfold bo_52
    exact (e2 (fun μ => jn_L_law__2587 N Λ L sc μ k v0 (ad 0) (ad 181) (ad 200) (n3 i))).trans (kk_end N Λ L sc μ2 k v0 (ad 0) (ad 181) (ad 200) i)
  · obtain ⟨q, rfl⟩ : ∃ q, m = q + 1 := ⟨m - 1, by omega⟩
    obtain ⟨μ2, r2, e2⟩ := law_V h' ho.undo (C_undo1 hN hY h ho) (fun μ1 hr => R_undo1 hN hY hr ho)
    refine ⟨μ2, r2, fun k => ?_⟩
    unfold bo_52
    exact (e2 (fun μ => jn_L_law__2587 N Λ L sc μ k v0 (ad 0) (ad 181) (ad 200) (n3 i))).trans (kk_end N Λ L sc μ2 k v0 (ad 0) (ad 181) (ad 200) i)
theorem lc_53 {N : Nat} (hN : 1099511627776 ≤ N) {Λ : Lay} {ad : Nat → Nat} (hY : Ly Λ ad) {L : Nat} {sc : Nat → Int32} {i : Nat} (hi : i + 6 ≤ L) (hL : L ≤ 3072) {μ : Mem} (hr : Rel ad μ) (v0 : Nat) : ∃ μ2, Rel ad μ2 ∧ ∀ k, bo_53 N Λ L sc μ k v0 (ad 0) (ad 181) (ad 200) (n3 i) = k (n3 (i + 6), μ2) := by
  obtain ⟨F, m, A, b, J, T, n, f, h, h', ho⟩ := hr
  have a200 : aZ Λ (ad 200) = 1 := hY.2.2.2.2.2.2.2.2.2.2.2.1
  have hw := ho.1
  have hb := hw.1; unfold WB at hb
  obtain ⟨μ1, e1, h1, f1⟩ := C_image hN hY h ho
  obtain ⟨μ2, e2, h2, f2⟩ := R_image hN hY (h'.frC (f1.mono (fun i hi => Or.inl hi))) ho
  refine ⟨μ2, ⟨F, m, A, 1, F, T, n, f, h1.frR (f2.mono (fun i hi => hi.1)), h2, ho.image⟩, fun k => ?_⟩
  unfold bo_53
  rw [e1, Option.bind_some, e2, Option.bind_some]
  exact kk_end N Λ L sc μ2 k v0 (ad 0) (ad 181) (ad 200) i
theorem lc_54 {N : Nat} (hN : 1099511627776 ≤ N) {Λ : Lay} {ad : Nat → Nat} (hY : Ly Λ ad) {L : Nat} {sc : Nat → Int32} {i : Nat} (hi : i + 6 ≤ L) (hL : L ≤ 3072) {μ : Mem} (hr : Rel ad μ) (v0 : Nat) : ∃ μ2, Rel ad μ2 ∧ ∀ k, bo_54 N Λ L sc μ k v0 (ad 0) (ad 181) (ad 200) (n3 i) = k (n3 (i + 6), μ2) := by
  obtain ⟨F, m, A, b, J, T, n, f, h, h', ho⟩ := hr
  have a200 : aZ Λ (ad 200) = 1 := hY.2.2.2.2.2.2.2.2.2.2.2.1
  have hw := ho.1
  have hb := hw.1; unfold WB at hb
  have hb2 := ho.2.2.2.2.1
  by_cases hb0 : b = 0
  · obtain ⟨μ2, r2, e2⟩ := law_V h' ho (C_back0 hN hY h ho hb0) (fun μ1 hr => R_back0 hN hY hr ho hb0)
    refine ⟨μ2, r2, fun k => ?_⟩
    unfold bo_54
    exact (e2 (fun μ => jn_L_law__2587 N Λ L sc μ k v0 (ad 0) (ad 181) (ad 200) (n3 i))).trans (kk_end N Λ L sc μ2 k v0 (ad 0) (ad 181) (ad 200) i)
  · have hb1 : b = 1 := by omega
    obtain ⟨μ2, r2, e2⟩ := law_V h' (ho.back hb1) (C_back1 hN hY h ho hb1) (fun μ1 hr => R_back1 hN hY hr ho hb1)
    refine ⟨μ2, r2, fun k => ?_⟩
    unfold bo_54
    exact (e2 (fun μ => jn_L_law__2587 N Λ L sc μ k v0 (ad 0) (ad 181) (ad 200) (n3 i))).trans (kk_end N Λ L sc μ2 k v0 (ad 0) (ad 181) (ad 200) i)
theorem lc_55 {N : Nat} (hN : 1099511627776 ≤ N) {Λ : Lay} {ad : Nat → Nat} (hY : Ly Λ ad) {L : Nat} {sc : Nat → Int32} {i : Nat} (hi : i + 6 ≤ L) (hL : L ≤ 3072) {μ : Mem} (hr : Rel ad μ) (v0 : Nat) : ∃ μ2, Rel ad μ2 ∧ ∀ k, bo_55 N Λ L sc μ k v0 (ad 0) (ad 181) (ad 200) (n3 i) = k (n3 (i + 6), μ2) := by
  obtain ⟨F, m, A, b, J, T, n, f, h, h', ho⟩ := hr
  have a200 : aZ Λ (ad 200) = 1 := hY.2.2.2.2.2.2.2.2.2.2.2.1
  have hw := ho.1
  have hb := hw.1; unfold WB at hb
  have g1 : inb (n3 i + 1) L = true := by rw [n3_lit 1, n3_add]; exact n3_inb (by omega) (by omega)
  obtain ⟨x1, hx1⟩ : ∃ x, sc (n3 i + 1).toNatClampNeg = x := ⟨_, rfl⟩
  cases hrx1 : inr x1 (15) with
  | false =>
    obtain ⟨μ2, r2, e2⟩ := law_P h ho (C_count_f hN hY h ho x1 hrx1) (R_count_f hN hY h' ho x1 hrx1)
    refine ⟨μ2, r2, fun k => ?_⟩
    unfold bo_55
    simp only [g1, hx1, gd_t]
    exact (e2 (fun μ => jn_L_law__2587 N Λ L sc μ k v0 (ad 0) (ad 181) (ad 200) (n3 i))).trans (kk_end N Λ L sc μ2 k v0 (ad 0) (ad 181) (ad 200) i)
  | true =>
    obtain ⟨w, hsx1, qx1⟩ := inr_t (by omega) hrx1
    subst qx1
    obtain ⟨μ2, r2, e2⟩ := law_P h ho (C_count_t hN hY h ho w (by omega)) (R_count_t hN hY h' ho w (by omega))
    refine ⟨μ2, r2, fun k => ?_⟩
    unfold bo_55
    simp only [g1, hx1, gd_t]
    exact (e2 (fun μ => jn_L_law__2587 N Λ L sc μ k v0 (ad 0) (ad 181) (ad 200) (n3 i))).trans (kk_end N Λ L sc μ2 k v0 (ad 0) (ad 181) (ad 200) i)
theorem lc_all {N : Nat} (hN : 1099511627776 ≤ N) {Λ : Lay} {ad : Nat → Nat} (hY : Ly Λ ad) {L : Nat} {sc : Nat → Int32} {i : Nat} (hi : i + 6 ≤ L) (hL : L ≤ 3072) {μ : Mem} (hr : Rel ad μ) (v0 : Nat) : ∃ μ2, Rel ad μ2 ∧ ∀ k, tl_0 N Λ L sc μ k v0 (ad 0) (ad 181) (ad 200) (n3 i) = k (n3 (i + 6), μ2) := by
  have t56 : ∃ μ2, Rel ad μ2 ∧ ∀ k, tl_56 N Λ L sc μ k v0 (ad 0) (ad 181) (ad 200) (n3 i) = k (n3 (i + 6), μ2) := ⟨μ, hr, fun k => kk_end N Λ L sc μ k v0 (ad 0) (ad 181) (ad 200) i⟩
  have t55 : ∃ μ2, Rel ad μ2 ∧ ∀ k, tl_55 N Λ L sc μ k v0 (ad 0) (ad 181) (ad 200) (n3 i) = k (n3 (i + 6), μ2) := by
    unfold tl_55
    by_cases e : (sc (n3 i).toNatClampNeg) &&& 63 = 55
    · simp only [if_pos e]; exact lc_55 hN hY hi hL hr v0
    · simp only [if_neg e]; exact t56
  have t54 : ∃ μ2, Rel ad μ2 ∧ ∀ k, tl_54 N Λ L sc μ k v0 (ad 0) (ad 181) (ad 200) (n3 i) = k (n3 (i + 6), μ2) := by
    unfold tl_54
    by_cases e : (sc (n3 i).toNatClampNeg) &&& 63 = 54
    · simp only [if_pos e]; exact lc_54 hN hY hi hL hr v0
    · simp only [if_neg e]; exact t55
  have t53 : ∃ μ2, Rel ad μ2 ∧ ∀ k, tl_53 N Λ L sc μ k v0 (ad 0) (ad 181) (ad 200) (n3 i) = k (n3 (i + 6), μ2) := by
    unfold tl_53
    by_cases e : (sc (n3 i).toNatClampNeg) &&& 63 = 53
    · simp only [if_pos e]; exact lc_53 hN hY hi hL hr v0
    · simp only [if_neg e]; exact t54
  have t52 : ∃ μ2, Rel ad μ2 ∧ ∀ k, tl_52 N Λ L sc μ k v0 (ad 0) (ad 181) (ad 200) (n3 i) = k (n3 (i + 6), μ2) := by
    unfold tl_52
    by_cases e : (sc (n3 i).toNatClampNeg) &&& 63 = 52
    · simp only [if_pos e]; exact lc_52 hN hY hi hL hr v0
    · simp only [if_neg e]; exact t53
  have t51 : ∃ μ2, Rel ad μ2 ∧ ∀ k, tl_51 N Λ L sc μ k v0 (ad 0) (ad 181) (ad 200) (n3 i) = k (n3 (i + 6), μ2) := by
    unfold tl_51
    by_cases e : (sc (n3 i).toNatClampNeg) &&& 63 = 51
    · simp only [if_pos e]; exact lc_51 hN hY hi hL hr v0
    · simp only [if_neg e]; exact t52
  have t50 : ∃ μ2, Rel ad μ2 ∧ ∀ k, tl_50 N Λ L sc μ k v0 (ad 0) (ad 181) (ad 200) (n3 i) = k (n3 (i + 6), μ2) := by
    unfold tl_50
    by_cases e : (sc (n3 i).toNatClampNeg) &&& 63 = 50
    · simp only [if_pos e]; exact lc_50 hN hY hi hL hr v0
    · simp only [if_neg e]; exact t51
  have t49 : ∃ μ2, Rel ad μ2 ∧ ∀ k, tl_49 N Λ L sc μ k v0 (ad 0) (ad 181) (ad 200) (n3 i) = k (n3 (i + 6), μ2) := by
    unfold tl_49
    by_cases e : (sc (n3 i).toNatClampNeg) &&& 63 = 49
    · simp only [if_pos e]; exact lc_49 hN hY hi hL hr v0
    · simp only [if_neg e]; exact t50
  have t48 : ∃ μ2, Rel ad μ2 ∧ ∀ k, tl_48 N Λ L sc μ k v0 (ad 0) (ad 181) (ad 200) (n3 i) = k (n3 (i + 6), μ2) := by
    unfold tl_48
    by_cases e : (sc (n3 i).toNatClampNeg) &&& 63 = 48
    · simp only [if_pos e]; exact lc_48 hN hY hi hL hr v0
    · simp only [if_neg e]; exact t49
  have t47 : ∃ μ2, Rel ad μ2 ∧ ∀ k, tl_47 N Λ L sc μ k v0 (ad 0) (ad 181) (ad 200) (n3 i) = k (n3 (i + 6), μ2) := by
    unfold tl_47
    by_cases e : (sc (n3 i).toNatClampNeg) &&& 63 = 47
    · simp only [if_pos e]; exact lc_47 hN hY hi hL hr v0
    · simp only [if_neg e]; exact t48
  have t46 : ∃ μ2, Rel ad μ2 ∧ ∀ k, tl_46 N Λ L sc μ k v0 (ad 0) (ad 181) (ad 200) (n3 i) = k (n3 (i + 6), μ2) := by
    unfold tl_46
    by_cases e : (sc (n3 i).toNatClampNeg) &&& 63 = 46
    · simp only [if_pos e]; exact lc_46 hN hY hi hL hr v0
    · simp only [if_neg e]; exact t47
  have t45 : ∃ μ2, Rel ad μ2 ∧ ∀ k, tl_45 N Λ L sc μ k v0 (ad 0) (ad 181) (ad 200) (n3 i) = k (n3 (i + 6), μ2) := by
    unfold tl_45
    by_cases e : (sc (n3 i).toNatClampNeg) &&& 63 = 45
    · simp only [if_pos e]; exact lc_45 hN hY hi hL hr v0
    · simp only [if_neg e]; exact t46
  have t44 : ∃ μ2, Rel ad μ2 ∧ ∀ k, tl_44 N Λ L sc μ k v0 (ad 0) (ad 181) (ad 200) (n3 i) = k (n3 (i + 6), μ2) := by
    unfold tl_44
    by_cases e : (sc (n3 i).toNatClampNeg) &&& 63 = 44
    · simp only [if_pos e]; exact lc_44 hN hY hi hL hr v0
    · simp only [if_neg e]; exact t45
  have t43 : ∃ μ2, Rel ad μ2 ∧ ∀ k, tl_43 N Λ L sc μ k v0 (ad 0) (ad 181) (ad 200) (n3 i) = k (n3 (i + 6), μ2) := by
    unfold tl_43
    by_cases e : (sc (n3 i).toNatClampNeg) &&& 63 = 43
    · simp only [if_pos e]; exact lc_43 hN hY hi hL hr v0
    · simp only [if_neg e]; exact t44
  have t42 : ∃ μ2, Rel ad μ2 ∧ ∀ k, tl_42 N Λ L sc μ k v0 (ad 0) (ad 181) (ad 200) (n3 i) = k (n3 (i + 6), μ2) := by
    unfold tl_42
    by_cases e : (sc (n3 i).toNatClampNeg) &&& 63 = 42
    · simp only [if_pos e]; exact lc_42 hN hY hi hL hr v0
    · simp only [if_neg e]; exact t43
  have t41 : ∃ μ2, Rel ad μ2 ∧ ∀ k, tl_41 N Λ L sc μ k v0 (ad 0) (ad 181) (ad 200) (n3 i) = k (n3 (i + 6), μ2) := by
    unfold tl_41
    by_cases e : (sc (n3 i).toNatClampNeg) &&& 63 = 41
    · simp only [if_pos e]; exact lc_41 hN hY hi hL hr v0
    · simp only [if_neg e]; exact t42
  have t40 : ∃ μ2, Rel ad μ2 ∧ ∀ k, tl_40 N Λ L sc μ k v0 (ad 0) (ad 181) (ad 200) (n3 i) = k (n3 (i + 6), μ2) := by
    unfold tl_40
    by_cases e : (sc (n3 i).toNatClampNeg) &&& 63 = 40
    · simp only [if_pos e]; exact lc_40 hN hY hi hL hr v0
    · simp only [if_neg e]; exact t41
  have t39 : ∃ μ2, Rel ad μ2 ∧ ∀ k, tl_39 N Λ L sc μ k v0 (ad 0) (ad 181) (ad 200) (n3 i) = k (n3 (i + 6), μ2) := by
    unfold tl_39
    by_cases e : (sc (n3 i).toNatClampNeg) &&& 63 = 39
    · simp only [if_pos e]; exact lc_39 hN hY hi hL hr v0
    · simp only [if_neg e]; exact t40
  have t38 : ∃ μ2, Rel ad μ2 ∧ ∀ k, tl_38 N Λ L sc μ k v0 (ad 0) (ad 181) (ad 200) (n3 i) = k (n3 (i + 6), μ2) := by
    unfold tl_38
    by_cases e : (sc (n3 i).toNatClampNeg) &&& 63 = 38
    · simp only [if_pos e]; exact lc_38 hN hY hi hL hr v0
    · simp only [if_neg e]; exact t39
  have t37 : ∃ μ2, Rel ad μ2 ∧ ∀ k, tl_37 N Λ L sc μ k v0 (ad 0) (ad 181) (ad 200) (n3 i) = k (n3 (i + 6), μ2) := by
    unfold tl_37
    by_cases e : (sc (n3 i).toNatClampNeg) &&& 63 = 37
    · simp only [if_pos e]; exact lc_37 hN hY hi hL hr v0
    · simp only [if_neg e]; exact t38
  have t36 : ∃ μ2, Rel ad μ2 ∧ ∀ k, tl_36 N Λ L sc μ k v0 (ad 0) (ad 181) (ad 200) (n3 i) = k (n3 (i + 6), μ2) := by
    unfold tl_36
    by_cases e : (sc (n3 i).toNatClampNeg) &&& 63 = 36
    · simp only [if_pos e]; exact lc_36 hN hY hi hL hr v0
    · simp only [if_neg e]; exact t37
  have t35 : ∃ μ2, Rel ad μ2 ∧ ∀ k, tl_35 N Λ L sc μ k v0 (ad 0) (ad 181) (ad 200) (n3 i) = k (n3 (i + 6), μ2) := by
    unfold tl_35
    by_cases e : (sc (n3 i).toNatClampNeg) &&& 63 = 35
    · simp only [if_pos e]; exact lc_35 hN hY hi hL hr v0
    · simp only [if_neg e]; exact t36
  have t34 : ∃ μ2, Rel ad μ2 ∧ ∀ k, tl_34 N Λ L sc μ k v0 (ad 0) (ad 181) (ad 200) (n3 i) = k (n3 (i + 6), μ2) := by
    unfold tl_34
    by_cases e : (sc (n3 i).toNatClampNeg) &&& 63 = 34
    · simp only [if_pos e]; exact lc_34 hN hY hi hL hr v0
    · simp only [if_neg e]; exact t35
  have t33 : ∃ μ2, Rel ad μ2 ∧ ∀ k, tl_33 N Λ L sc μ k v0 (ad 0) (ad 181) (ad 200) (n3 i) = k (n3 (i + 6), μ2) := by
    unfold tl_33
    by_cases e : (sc (n3 i).toNatClampNeg) &&& 63 = 33
    · simp only [if_pos e]; exact lc_33 hN hY hi hL hr v0
    · simp only [if_neg e]; exact t34
  have t32 : ∃ μ2, Rel ad μ2 ∧ ∀ k, tl_32 N Λ L sc μ k v0 (ad 0) (ad 181) (ad 200) (n3 i) = k (n3 (i + 6), μ2) := by
    unfold tl_32
    by_cases e : (sc (n3 i).toNatClampNeg) &&& 63 = 32
    · simp only [if_pos e]; exact lc_32 hN hY hi hL hr v0
    · simp only [if_neg e]; exact t33
  have t31 : ∃ μ2, Rel ad μ2 ∧ ∀ k, tl_31 N Λ L sc μ k v0 (ad 0) (ad 181) (ad 200) (n3 i) = k (n3 (i + 6), μ2) := by
    unfold tl_31
    by_cases e : (sc (n3 i).toNatClampNeg) &&& 63 = 31
    · simp only [if_pos e]; exact lc_31 hN hY hi hL hr v0
    · simp only [if_neg e]; exact t32
  have t30 : ∃ μ2, Rel ad μ2 ∧ ∀ k, tl_30 N Λ L sc μ k v0 (ad 0) (ad 181) (ad 200) (n3 i) = k (n3 (i + 6), μ2) := by
    unfold tl_30
    by_cases e : (sc (n3 i).toNatClampNeg) &&& 63 = 30
    · simp only [if_pos e]; exact lc_30 hN hY hi hL hr v0
    · simp only [if_neg e]; exact t31
  have t29 : ∃ μ2, Rel ad μ2 ∧ ∀ k, tl_29 N Λ L sc μ k v0 (ad 0) (ad 181) (ad 200) (n3 i) = k (n3 (i + 6), μ2) := by
    unfold tl_29
    by_cases e : (sc (n3 i).toNatClampNeg) &&& 63 = 29
    · simp only [if_pos e]; exact lc_29 hN hY hi hL hr v0
    · simp only [if_neg e]; exact t30
  have t28 : ∃ μ2, Rel ad μ2 ∧ ∀ k, tl_28 N Λ L sc μ k v0 (ad 0) (ad 181) (ad 200) (n3 i) = k (n3 (i + 6), μ2) := by
    unfold tl_28
    by_cases e : (sc (n3 i).toNatClampNeg) &&& 63 = 28
    · simp only [if_pos e]; exact lc_28 hN hY hi hL hr v0
    · simp only [if_neg e]; exact t29
  have t27 : ∃ μ2, Rel ad μ2 ∧ ∀ k, tl_27 N Λ L sc μ k v0 (ad 0) (ad 181) (ad 200) (n3 i) = k (n3 (i + 6), μ2) := by
    unfold tl_27
    by_cases e : (sc (n3 i).toNatClampNeg) &&& 63 = 27
    · simp only [if_pos e]; exact lc_27 hN hY hi hL hr v0
    · simp only [if_neg e]; exact t28
  have t26 : ∃ μ2, Rel ad μ2 ∧ ∀ k, tl_26 N Λ L sc μ k v0 (ad 0) (ad 181) (ad 200) (n3 i) = k (n3 (i + 6), μ2) := by
    unfold tl_26
    by_cases e : (sc (n3 i).toNatClampNeg) &&& 63 = 26
    · simp only [if_pos e]; exact lc_26 hN hY hi hL hr v0
    · simp only [if_neg e]; exact t27
  have t25 : ∃ μ2, Rel ad μ2 ∧ ∀ k, tl_25 N Λ L sc μ k v0 (ad 0) (ad 181) (ad 200) (n3 i) = k (n3 (i + 6), μ2) := by
    unfold tl_25
    by_cases e : (sc (n3 i).toNatClampNeg) &&& 63 = 25
    · simp only [if_pos e]; exact lc_25 hN hY hi hL hr v0
    · simp only [if_neg e]; exact t26
  have t24 : ∃ μ2, Rel ad μ2 ∧ ∀ k, tl_24 N Λ L sc μ k v0 (ad 0) (ad 181) (ad 200) (n3 i) = k (n3 (i + 6), μ2) := by
    unfold tl_24
    by_cases e : (sc (n3 i).toNatClampNeg) &&& 63 = 24
    · simp only [if_pos e]; exact lc_24 hN hY hi hL hr v0
    · simp only [if_neg e]; exact t25
  have t23 : ∃ μ2, Rel ad μ2 ∧ ∀ k, tl_23 N Λ L sc μ k v0 (ad 0) (ad 181) (ad 200) (n3 i) = k (n3 (i + 6), μ2) := by
    unfold tl_23
    by_cases e : (sc (n3 i).toNatClampNeg) &&& 63 = 23
    · simp only [if_pos e]; exact lc_23 hN hY hi hL hr v0
    · simp only [if_neg e]; exact t24
  have t22 : ∃ μ2, Rel ad μ2 ∧ ∀ k, tl_22 N Λ L sc μ k v0 (ad 0) (ad 181) (ad 200) (n3 i) = k (n3 (i + 6), μ2) := by
    unfold tl_22
    by_cases e : (sc (n3 i).toNatClampNeg) &&& 63 = 22
    · simp only [if_pos e]; exact lc_22 hN hY hi hL hr v0
    · simp only [if_neg e]; exact t23
  have t21 : ∃ μ2, Rel ad μ2 ∧ ∀ k, tl_21 N Λ L sc μ k v0 (ad 0) (ad 181) (ad 200) (n3 i) = k (n3 (i + 6), μ2) := by
    unfold tl_21
    by_cases e : (sc (n3 i).toNatClampNeg) &&& 63 = 21
    · simp only [if_pos e]; exact lc_21 hN hY hi hL hr v0
    · simp only [if_neg e]; exact t22
  have t20 : ∃ μ2, Rel ad μ2 ∧ ∀ k, tl_20 N Λ L sc μ k v0 (ad 0) (ad 181) (ad 200) (n3 i) = k (n3 (i + 6), μ2) := by
    unfold tl_20
    by_cases e : (sc (n3 i).toNatClampNeg) &&& 63 = 20
    · simp only [if_pos e]; exact lc_20 hN hY hi hL hr v0
    · simp only [if_neg e]; exact t21
  have t19 : ∃ μ2, Rel ad μ2 ∧ ∀ k, tl_19 N Λ L sc μ k v0 (ad 0) (ad 181) (ad 200) (n3 i) = k (n3 (i + 6), μ2) := by
    unfold tl_19
    by_cases e : (sc (n3 i).toNatClampNeg) &&& 63 = 19
    · simp only [if_pos e]; exact lc_19 hN hY hi hL hr v0
    · simp only [if_neg e]; exact t20
  have t18 : ∃ μ2, Rel ad μ2 ∧ ∀ k, tl_18 N Λ L sc μ k v0 (ad 0) (ad 181) (ad 200) (n3 i) = k (n3 (i + 6), μ2) := by
    unfold tl_18
    by_cases e : (sc (n3 i).toNatClampNeg) &&& 63 = 18
    · simp only [if_pos e]; exact lc_18 hN hY hi hL hr v0
    · simp only [if_neg e]; exact t19
  have t17 : ∃ μ2, Rel ad μ2 ∧ ∀ k, tl_17 N Λ L sc μ k v0 (ad 0) (ad 181) (ad 200) (n3 i) = k (n3 (i + 6), μ2) := by
    unfold tl_17
    by_cases e : (sc (n3 i).toNatClampNeg) &&& 63 = 17
    · simp only [if_pos e]; exact lc_17 hN hY hi hL hr v0
    · simp only [if_neg e]; exact t18
  have t16 : ∃ μ2, Rel ad μ2 ∧ ∀ k, tl_16 N Λ L sc μ k v0 (ad 0) (ad 181) (ad 200) (n3 i) = k (n3 (i + 6), μ2) := by
    unfold tl_16
    by_cases e : (sc (n3 i).toNatClampNeg) &&& 63 = 16
    · simp only [if_pos e]; exact lc_16 hN hY hi hL hr v0
    · simp only [if_neg e]; exact t17
  have t15 : ∃ μ2, Rel ad μ2 ∧ ∀ k, tl_15 N Λ L sc μ k v0 (ad 0) (ad 181) (ad 200) (n3 i) = k (n3 (i + 6), μ2) := by
    unfold tl_15
    by_cases e : (sc (n3 i).toNatClampNeg) &&& 63 = 15
    · simp only [if_pos e]; exact lc_15 hN hY hi hL hr v0
    · simp only [if_neg e]; exact t16
  have t14 : ∃ μ2, Rel ad μ2 ∧ ∀ k, tl_14 N Λ L sc μ k v0 (ad 0) (ad 181) (ad 200) (n3 i) = k (n3 (i + 6), μ2) := by
    unfold tl_14
    by_cases e : (sc (n3 i).toNatClampNeg) &&& 63 = 14
    · simp only [if_pos e]; exact lc_14 hN hY hi hL hr v0
    · simp only [if_neg e]; exact t15
  have t13 : ∃ μ2, Rel ad μ2 ∧ ∀ k, tl_13 N Λ L sc μ k v0 (ad 0) (ad 181) (ad 200) (n3 i) = k (n3 (i + 6), μ2) := by
    unfold tl_13
    by_cases e : (sc (n3 i).toNatClampNeg) &&& 63 = 13
    · simp only [if_pos e]; exact lc_13 hN hY hi hL hr v0
    · simp only [if_neg e]; exact t14
  have t12 : ∃ μ2, Rel ad μ2 ∧ ∀ k, tl_12 N Λ L sc μ k v0 (ad 0) (ad 181) (ad 200) (n3 i) = k (n3 (i + 6), μ2) := by
    unfold tl_12
    by_cases e : (sc (n3 i).toNatClampNeg) &&& 63 = 12
    · simp only [if_pos e]; exact lc_12 hN hY hi hL hr v0
    · simp only [if_neg e]; exact t13
  have t11 : ∃ μ2, Rel ad μ2 ∧ ∀ k, tl_11 N Λ L sc μ k v0 (ad 0) (ad 181) (ad 200) (n3 i) = k (n3 (i + 6), μ2) := by
    unfold tl_11
    by_cases e : (sc (n3 i).toNatClampNeg) &&& 63 = 11
    · simp only [if_pos e]; exact lc_11 hN hY hi hL hr v0
    · simp only [if_neg e]; exact t12
  have t10 : ∃ μ2, Rel ad μ2 ∧ ∀ k, tl_10 N Λ L sc μ k v0 (ad 0) (ad 181) (ad 200) (n3 i) = k (n3 (i + 6), μ2) := by
    unfold tl_10
    by_cases e : (sc (n3 i).toNatClampNeg) &&& 63 = 10
    · simp only [if_pos e]; exact lc_10 hN hY hi hL hr v0
    · simp only [if_neg e]; exact t11
  have t9 : ∃ μ2, Rel ad μ2 ∧ ∀ k, tl_9 N Λ L sc μ k v0 (ad 0) (ad 181) (ad 200) (n3 i) = k (n3 (i + 6), μ2) := by
    unfold tl_9
    by_cases e : (sc (n3 i).toNatClampNeg) &&& 63 = 9
    · simp only [if_pos e]; exact lc_9 hN hY hi hL hr v0
    · simp only [if_neg e]; exact t10
  have t8 : ∃ μ2, Rel ad μ2 ∧ ∀ k, tl_8 N Λ L sc μ k v0 (ad 0) (ad 181) (ad 200) (n3 i) = k (n3 (i + 6), μ2) := by
    unfold tl_8
    by_cases e : (sc (n3 i).toNatClampNeg) &&& 63 = 8
    · simp only [if_pos e]; exact lc_8 hN hY hi hL hr v0
    · simp only [if_neg e]; exact t9
  have t7 : ∃ μ2, Rel ad μ2 ∧ ∀ k, tl_7 N Λ L sc μ k v0 (ad 0) (ad 181) (ad 200) (n3 i) = k (n3 (i + 6), μ2) := by
    unfold tl_7
    by_cases e : (sc (n3 i).toNatClampNeg) &&& 63 = 7
    · simp only [if_pos e]; exact lc_7 hN hY hi hL hr v0
    · simp only [if_neg e]; exact t8
  have t6 : ∃ μ2, Rel ad μ2 ∧ ∀ k, tl_6 N Λ L sc μ k v0 (ad 0) (ad 181) (ad 200) (n3 i) = k (n3 (i + 6), μ2) := by
    unfold tl_6
    by_cases e : (sc (n3 i).toNatClampNeg) &&& 63 = 6
    · simp only [if_pos e]; exact lc_6 hN hY hi hL hr v0
    · simp only [if_neg e]; exact t7
  have t5 : ∃ μ2, Rel ad μ2 ∧ ∀ k, tl_5 N Λ L sc μ k v0 (ad 0) (ad 181) (ad 200) (n3 i) = k (n3 (i + 6), μ2) := by
    unfold tl_5
    by_cases e : (sc (n3 i).toNatClampNeg) &&& 63 = 5
    · simp only [if_pos e]; exact lc_5 hN hY hi hL hr v0
    · simp only [if_neg e]; exact t6
  have t4 : ∃ μ2, Rel ad μ2 ∧ ∀ k, tl_4 N Λ L sc μ k v0 (ad 0) (ad 181) (ad 200) (n3 i) = k (n3 (i + 6), μ2) := by
    unfold tl_4
    by_cases e : (sc (n3 i).toNatClampNeg) &&& 63 = 4
    · simp only [if_pos e]; exact lc_4 hN hY hi hL hr v0
    · simp only [if_neg e]; exact t5
  have t3 : ∃ μ2, Rel ad μ2 ∧ ∀ k, tl_3 N Λ L sc μ k v0 (ad 0) (ad 181) (ad 200) (n3 i) = k (n3 (i + 6), μ2) := by
    unfold tl_3
    by_cases e : (sc (n3 i).toNatClampNeg) &&& 63 = 3
    · simp only [if_pos e]; exact lc_3 hN hY hi hL hr v0
    · simp only [if_neg e]; exact t4
  have t2 : ∃ μ2, Rel ad μ2 ∧ ∀ k, tl_2 N Λ L sc μ k v0 (ad 0) (ad 181) (ad 200) (n3 i) = k (n3 (i + 6), μ2) := by
    unfold tl_2
    by_cases e : (sc (n3 i).toNatClampNeg) &&& 63 = 2
    · simp only [if_pos e]; exact lc_2 hN hY hi hL hr v0
    · simp only [if_neg e]; exact t3
  have t1 : ∃ μ2, Rel ad μ2 ∧ ∀ k, tl_1 N Λ L sc μ k v0 (ad 0) (ad 181) (ad 200) (n3 i) = k (n3 (i + 6), μ2) := by
    unfold tl_1
    by_cases e : (sc (n3 i).toNatClampNeg) &&& 63 = 1
    · simp only [if_pos e]; exact lc_1 hN hY hi hL hr v0
    · simp only [if_neg e]; exact t2
  have t0 : ∃ μ2, Rel ad μ2 ∧ ∀ k, tl_0 N Λ L sc μ k v0 (ad 0) (ad 181) (ad 200) (n3 i) = k (n3 (i + 6), μ2) := by
    unfold tl_0
    by_cases e : (sc (n3 i).toNatClampNeg) &&& 63 = 0
    · simp only [if_pos e]; exact lc_0 hN hY hi hL hr v0
    · simp only [if_neg e]; exact t1
  exact t0

/-! a line of the dock -/
theorem mset_id (μ : Mem) (a i : Nat) : mset μ a i (μ.1 a i) = μ := mset_same μ a i rfl
def Tm (T : Nat → Int32) (n m : Nat) : Prop := n ≤ 400 ∧ m ≤ n ∧ BT T n m = n ∧ ∀ i, i < m → BT T n i < n
theorem TkC.tm {ad : Nat → Nat} {μ : Mem} {r : Nat} {T : Nat → Int32} {n m : Nat} (h : TkC ad μ r T n m) : Tm T n m := ⟨h.1, h.2.1, h.2.2.1, h.2.2.2.1⟩
theorem Tm.kt {T : Nat → Int32} {n m : Nat} (h : Tm T n m) {i : Nat} (hi : i ≤ m) (hk : KT T n i ≠ 0) : i < m := by
  rcases Nat.lt_or_ge i m with h1 | h1
  · exact h1
  · have : i = m := by omega
    subst this
    exact absurd (KT_n h.2.2.1) hk
theorem Tm.w {T : Nat → Int32} {n m : Nat} (h : Tm T n m) {i : Nat} (hi : i ≤ m) {w : Nat} (hk : WT T n i w = true) : i + 1 ≤ m := h.kt hi (by rw [WT_K hk]; decide)
theorem Tm.nv {T : Nat → Int32} {n m : Nat} (h : Tm T n m) {i : Nat} (hi : i ≤ m) {lo hg : Nat} (hk : NVp T n i lo hg) : i + 1 ≤ m := h.kt hi (by rw [hk.1]; decide)
def LO (ad : Nat → Nat) (T : Nat → Int32) (n m : Nat) (G : Nat → Nat) (fc : Mem → Nat → Option (Int32 × Mem)) (fr : Mem → Option (Int32 × Mem)) : Prop := ∃ (ok : Bool) (i' : Nat) (G' : Nat → Nat), i' ≤ m ∧ (ok = true → WF G' ∧ LwE G G' ∧ G' 1 = G 1) ∧ (∀ μ v, TkC ad μ 48 T n m → CS ad μ 12 G → ∃ μ' v', fc μ v = some (n3 (bb (ok = true)), rd ad 48 μ' i' v') ∧ TkC ad μ' 48 T n m ∧ (ok = true → CS ad μ' 12 G') ∧ Fr ad (fun j => (12 ≤ j ∧ j ≤ 20) ∨ j = 48) μ μ') ∧ (∀ μ, TkR ad μ T n → Row μ (ad 182) 1222 G → ∃ μ' p' b', fr μ = some (n3 (bb (ok = true)), pt ad μ' p' b') ∧ TkR ad μ' T n ∧ (ok = true → Row μ' (ad 182) 1222 G' ∧ p' ≤ n ∧ nb T n p' = BT T n i') ∧ (ok = false → b' = BT T n i') ∧ Fr ad (fun j => j = 181 ∨ j = 182) μ μ' ∧ ∀ k, k ≠ 10 → k ≠ 12 → μ'.1 (ad 181) k = μ.1 (ad 181) k)
theorem TkR.fr {ad : Nat → Nat} {μ μ' : Mem} {T : Nat → Int32} {n : Nat} (h : TkR ad μ T n) (h1 : μ'.1 (ad 181) 11 = μ.1 (ad 181) 11) (h2 : μ'.1 (ad 187) = μ.1 (ad 187)) : TkR ad μ' T n := by
  unfold TkR at *; rw [h1, h2]; exact h
theorem TkR.w {ad : Nat → Nat} (hj : Inj ad) {μ : Mem} {T : Nat → Int32} {n : Nat} (h : TkR ad μ T n) (k : Nat) (x : Int32) : TkR ad (mset μ (ad 182) k x) T n := h.fr (by rw [mso hj (by omega)]) (by rw [mso hj (by omega)])
theorem TkC.w {ad : Nat → Nat} (hj : Inj ad) {μ : Mem} {r : Nat} {T : Nat → Int32} {n m : Nat} (h : TkC ad μ r T n m) {j : Nat} (hjr : j ≠ 1 ∧ j ≠ 2 ∧ j ≠ r ∧ j ≠ r + 1 ∧ j ≠ r + 2 ∧ j ≠ r + 3) (k : Nat) (x : Int32) : TkC ad (mset μ (ad j) k x) r T n m := h.fr (I := fun i => i = j) ((Fr.refl μ).set hj (by rfl)) (by omega) (by omega) (by omega) (by omega) (by omega) (by omega)
theorem LO.fail {ad : Nat → Nat} {T : Nat → Int32} {n m : Nat} {G : Nat → Nat} {fc : Mem → Nat → Option (Int32 × Mem)} {fr : Mem → Option (Int32 × Mem)} (i' : Nat) (hi : i' ≤ m) (hc : ∀ μ v, TkC ad μ 48 T n m → CS ad μ 12 G → ∃ v', fc μ v = some (n3 0, rd ad 48 μ i' v')) (hr : ∀ μ, TkR ad μ T n → Row μ (ad 182) 1222 G → ∃ p', fr μ = some (n3 0, pt ad μ p' (BT T n i'))) : LO ad T n m G fc fr := by
  refine ⟨false, i', G, hi, fun h => absurd h (by decide), fun μ v h1 h2 => ?_, fun μ h1 h2 => ?_⟩
  · obtain ⟨v', e⟩ := hc μ v h1 h2
    exact ⟨μ, v', e, h1, fun _ => h2, Fr.refl μ⟩
  · obtain ⟨p', e⟩ := hr μ h1 h2
    exact ⟨μ, p', _, e, h1, fun h => absurd h (by decide), fun _ => rfl, Fr.refl μ, fun _ _ _ => rfl⟩
/-- one figure is written -/
theorem LO.one {ad : Nat → Nat} (hj : Inj ad) {T : Nat → Int32} {n m : Nat} {G : Nat → Nat} (hw : WF G) {fc : Mem → Nat → Option (Int32 × Mem)} {fr : Mem → Option (Int32 × Mem)} (i' : Nat) (hi : i' ≤ m) (k v : Nat) (hk : k < 25) (hl : liv k) (h0 : k ≠ 0) (h11 : k ≠ 11) (a i : Nat) (ha : a = 12 + lcO k) (hii : i = lcI k) (hwf : WF (up G k v)) (pe : Nat) (hpe : pe ≤ n) (hpb : nb T n pe = BT T n i') (hc : ∀ μ w, TkC ad μ 48 T n m → CS ad μ 12 G → ∃ v', fc μ w = some (n3 1, rd ad 48 (mset μ (ad a) i (n3 v)) i' v')) (hr : ∀ μ, TkR ad μ T n → Row μ (ad 182) 1222 G → ∃ b', fr μ = some (n3 1, pt ad (mset μ (ad 182) k (n3 v)) pe b')) (hk1 : k ≠ 1 := by omega) : LO ad T n m G fc fr := by
  have hb := hw.1; unfold WB at hb
  have hal : ∀ k, k < 25 → lcO k ≤ 8 := by decide +kernel
  have hal := hal k hk
  refine ⟨true, i', up G k v, hi, fun _ => ⟨hwf, (LwE.refl G).up hl.1 (by omega), up_n (Ne.symm hk1)⟩, fun μ w h1 h2 => ?_, fun μ h1 h2 => ?_⟩
  · obtain ⟨v', e⟩ := hc μ w h1 h2
    exact ⟨_, v', e, h1.w hj (by omega) _ _, fun _ => h2.wr hj hb.1 hb.2.2.2.2.2.2.2.2.2.2.2.1 k v (by omega) hl h0 h11 a i ha hii, (Fr.refl μ).set hj (by omega)⟩
  · obtain ⟨b', e⟩ := hr μ h1 h2
    exact ⟨_, pe, b', e, h1.w hj _ _, fun _ => ⟨h2.set k v, hpe, hpb⟩, fun h => absurd h (by decide), (Fr.refl μ).set hj (by omega), fun q _ _ => by rw [mso hj (by omega)]⟩

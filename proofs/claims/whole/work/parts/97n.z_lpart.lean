/-! the law's text: codes -/
def tyR (H : Nat → Nat) (i : Nat) : Nat → List Bool → Option (List Bool)
  | 0, ts => some ts
  | k + 1, ts => (tyR H i k ts).bind (tyc (H (1271 + 2 * (i + k))))
theorem tyR_add (H : Nat → Nat) (i a : Nat) (ts : List Bool) : ∀ b, tyR H i (a + b) ts = (tyR H i a ts).bind (tyR H (i + a) b)
  | 0 => by
    show tyR H i a ts = _
    cases tyR H i a ts <;> rfl
  | b + 1 => by
    show (tyR H i (a + b) ts).bind (tyc (H (1271 + 2 * (i + (a + b))))) = _
    rw [tyR_add H i a ts b]
    cases tyR H i a ts with
    | none => rfl
    | some x =>
      show (tyR H (i + a) b x).bind _ = (tyR H (i + a) b x).bind (tyc (H (1271 + 2 * (i + a + b))))
      rw [show i + (a + b) = i + a + b by omega]
theorem tyR_congr {H H' : Nat → Nat} {i : Nat} {ts : List Bool} : ∀ k, (∀ j, j < k → H' (1271 + 2 * (i + j)) = H (1271 + 2 * (i + j))) → tyR H' i k ts = tyR H i k ts
  | 0, _ => rfl
  | k + 1, h => by
    show (tyR H' i k ts).bind _ = (tyR H i k ts).bind _
    rw [tyR_congr k (fun j hj => h j (by omega)), h k (by omega)]
theorem tyR_one (H : Nat → Nat) (i : Nat) (ts : List Bool) : tyR H i 1 ts = tyc (H (1271 + 2 * i)) ts := by
  show (some ts).bind (tyc (H (1271 + 2 * (i + 0)))) = _
  rfl
def EC (ad : Nat → Nat) (μ : Mem) (H : Nat → Nat) (c : Nat) : Prop := μ.1 (ad 36) 1 = n3 c ∧ ∀ i, i < c → μ.1 (ad 40) i = itm (H (1271 + 2 * i)) (H (1271 + 2 * i + 1))
def emH (H : Nat → Nat) (c code val : Nat) : Nat → Nat := up (up H (1271 + 2 * c) code) (1271 + 2 * c + 1) val
theorem emH_0 (H : Nat → Nat) (c code val : Nat) : emH H c code val (1271 + 2 * c) = code := by unfold emH; rw [up_n (by omega), up_e]
theorem emH_1 (H : Nat → Nat) (c code val : Nat) : emH H c code val (1271 + 2 * c + 1) = val := up_e _ _ _
theorem emH_lo {H : Nat → Nat} {c code val k : Nat} (h : k < 1271 + 2 * c) : emH H c code val k = H k := by unfold emH; rw [up_n (by omega), up_n (by omega)]
def emC (ad : Nat → Nat) (μ : Mem) (c : Nat) (x : Int32) : Mem := mset (mset μ (ad 40) c x) (ad 36) 1 (n3 (c + 1))
def emR (ad : Nat → Nat) (μ : Mem) (c code val : Nat) : Mem := mset (mset (mset μ (ad 182) (1271 + 2 * c) (n3 code)) (ad 182) (1271 + 2 * c + 1) (n3 val)) (ad 181) 16 (n3 (c + 1))
theorem EC.em {ad : Nat → Nat} (hj : Inj ad) {μ : Mem} {H : Nat → Nat} {c : Nat} (h : EC ad μ H c) (code val : Nat) : EC ad (emC ad μ c (itm code val)) (emH H c code val) (c + 1) := by
  refine ⟨mse _ _ _ _, fun i hi => ?_⟩
  unfold emC
  rw [mso hj (by omega)]
  by_cases e : i = c
  · subst e; rw [mse, emH_0, emH_1]
  · rw [msn e, emH_lo (by omega), emH_lo (by omega)]; exact h.2 i (by omega)
theorem emC_fr {ad : Nat → Nat} (hj : Inj ad) (μ : Mem) (c : Nat) (x : Int32) : Fr ad (fun j => j = 36 ∨ j = 40 ∨ j = 52) μ (emC ad μ c x) := ((Fr.refl μ).set hj (by omega)).set hj (by omega)
theorem emC_0 {ad : Nat → Nat} (hj : Inj ad) (μ : Mem) (c : Nat) (x : Int32) : (emC ad μ c x).1 (ad 36) 0 = μ.1 (ad 36) 0 := by unfold emC; rw [msn (by omega), mso hj (by omega)]
theorem TkC.em {ad : Nat → Nat} (hj : Inj ad) {μ : Mem} {T : Nat → Int32} {n m : Nat} (h : TkC ad μ 52 T n m) (c : Nat) (x : Int32) : TkC ad (emC ad μ c x) 52 T n m := (h.w hj (by omega) c x).w hj (by omega) 1 (n3 (c + 1))
theorem c_add {N : Nat} {Λ : Lay} {ad : Nat → Nat} (hj : Inj ad) (hL : LyL Λ ad 36) {μ : Mem} {H : Nat → Nat} {c : Nat} (h : EC ad μ H c) (hc : c < 400) (i v : Nat) (x : Int32) : m_X2_add N Λ (rd ad 52 μ i v) (ad 36) x = some (n3 1, rd ad 52 (emC ad μ c x) i v) := by
  have e1 : (rd ad 52 μ i v).1 (ad 36) 1 = n3 c := by rw [rd_o hj (by omega)]; exact h.1
  have e2 : (rd ad 52 (mset μ (ad 40) c x) i v).1 (ad 36) 1 = n3 c := by rw [rd_o hj (by omega), mso hj (by omega)]; exact h.1
  unfold emC
  simp (disch := omega) only [m_X2_add, jn_X2_add_30, ↓ob (hL.1), ↓ob (hL.2.1), ↓ob (hL.2.2.1), ↓ob (hL.2.2.2.1), ↓ob (hL.2.2.2.2.1), hL.2.2.2.2.2.1, hL.2.2.2.2.2.2.1, hL.2.2.2.2.2.2.2.1, hL.2.2.2.2.2.2.2.2.1, hL.2.2.2.2.2.2.2.2.2, e1, rd_w hj, e2, ↓lt_e, ↓gd_e, ↓Option.bind_some, ↓reduceIte, if_true, if_false, if_pT, if_nF, decide_true, Bool.not_true, Bool.not_false, not_true_eq_false, not_false_eq_true, Bool.false_eq_true, Bool.true_eq_false, eq_self, n3_lit, n3_add, n3_mul, n3_sub, n3_tn, n3_le_t, n3_le_f, n3_lt_t, n3_lt_f, n3_eq_f, n3_eq_t, n3_inb, n3_rem, n3_div, n3_zb, bb_0, bb_1, zb_bb, bb_T, bb_F, n3_dec, n3_m1, n3_eqm, n3_eqmt, n3_ltm, n3_mlt, n3_lem, n3_mle, n3_neg_lt, n3_nlt_neg, n3_nle_neg, n3_neg_le]
theorem r_emits {N : Nat} {Λ : Lay} {ad : Nat → Nat} (hj : Inj ad) (hR : LyR Λ ad) {μ : Mem} {c : Nat} (h : μ.1 (ad 181) 16 = n3 c) (hc : c < 400) (p b code val : Nat) : m_X12_emits N Λ (pt ad μ p b) (ad 181) (n3 code) (n3 val) = some (pt ad (emR ad μ c code val) p b) := by
  have e1 : (pt ad μ p b).1 (ad 181) 16 = n3 c := by rw [pt_k ad μ p b (by omega)]; exact h
  have e2 : (pt ad (mset μ (ad 182) (1271 + 2 * c) (n3 code)) p b).1 (ad 181) 16 = n3 c := by rw [pt_k ad _ p b (by omega), mso hj (by omega)]; exact h
  have e3 : (pt ad (mset (mset μ (ad 182) (1271 + 2 * c) (n3 code)) (ad 182) (1271 + 2 * c + 1) (n3 val)) p b).1 (ad 181) 16 = n3 c := by rw [pt_k ad _ p b (by omega), mso hj (by omega), mso hj (by omega)]; exact h
  unfold emR
  simp (disch := omega) only [m_X12_emits, ↓ob (hR.1), ↓ob (hR.2.1), ↓ob (hR.2.2.1), ↓ob (hR.2.2.2.1), ↓ob (hR.2.2.2.2.1), ↓ob (hR.2.2.2.2.2.1), ↓ob (hR.2.2.2.2.2.2.1), ↓ob (hR.2.2.2.2.2.2.2.1), ↓ob (hR.2.2.2.2.2.2.2.2.1), ↓ob (hR.2.2.2.2.2.2.2.2.2.1), ↓ob (hR.2.2.2.2.2.2.2.2.2.2.1), ↓ob (hR.2.2.2.2.2.2.2.2.2.2.2.1), ↓ob (hR.2.2.2.2.2.2.2.2.2.2.2.2.1), ↓ob (hR.2.2.2.2.2.2.2.2.2.2.2.2.2.1), ↓ob (hR.2.2.2.2.2.2.2.2.2.2.2.2.2.2.1), ↓ob (hR.2.2.2.2.2.2.2.2.2.2.2.2.2.2.2.1), ↓ob (hR.2.2.2.2.2.2.2.2.2.2.2.2.2.2.2.2.1), ↓ob (hR.2.2.2.2.2.2.2.2.2.2.2.2.2.2.2.2.2.1), hR.2.2.2.2.2.2.2.2.2.2.2.2.2.2.2.2.2.2.1, hR.2.2.2.2.2.2.2.2.2.2.2.2.2.2.2.2.2.2.2.1, hR.2.2.2.2.2.2.2.2.2.2.2.2.2.2.2.2.2.2.2.2.1, hR.2.2.2.2.2.2.2.2.2.2.2.2.2.2.2.2.2.2.2.2.2.1, hR.2.2.2.2.2.2.2.2.2.2.2.2.2.2.2.2.2.2.2.2.2.2.1, hR.2.2.2.2.2.2.2.2.2.2.2.2.2.2.2.2.2.2.2.2.2.2.2.1, hR.2.2.2.2.2.2.2.2.2.2.2.2.2.2.2.2.2.2.2.2.2.2.2.2.1, hR.2.2.2.2.2.2.2.2.2.2.2.2.2.2.2.2.2.2.2.2.2.2.2.2.2.1, hR.2.2.2.2.2.2.2.2.2.2.2.2.2.2.2.2.2.2.2.2.2.2.2.2.2.2.1, hR.2.2.2.2.2.2.2.2.2.2.2.2.2.2.2.2.2.2.2.2.2.2.2.2.2.2.2.1, hR.2.2.2.2.2.2.2.2.2.2.2.2.2.2.2.2.2.2.2.2.2.2.2.2.2.2.2.2.1, hR.2.2.2.2.2.2.2.2.2.2.2.2.2.2.2.2.2.2.2.2.2.2.2.2.2.2.2.2.2.1, hR.2.2.2.2.2.2.2.2.2.2.2.2.2.2.2.2.2.2.2.2.2.2.2.2.2.2.2.2.2.2.1, hR.2.2.2.2.2.2.2.2.2.2.2.2.2.2.2.2.2.2.2.2.2.2.2.2.2.2.2.2.2.2.2.1, hR.2.2.2.2.2.2.2.2.2.2.2.2.2.2.2.2.2.2.2.2.2.2.2.2.2.2.2.2.2.2.2.2.1, hR.2.2.2.2.2.2.2.2.2.2.2.2.2.2.2.2.2.2.2.2.2.2.2.2.2.2.2.2.2.2.2.2.2.1, hR.2.2.2.2.2.2.2.2.2.2.2.2.2.2.2.2.2.2.2.2.2.2.2.2.2.2.2.2.2.2.2.2.2.2.1, hR.2.2.2.2.2.2.2.2.2.2.2.2.2.2.2.2.2.2.2.2.2.2.2.2.2.2.2.2.2.2.2.2.2.2.2, e1, pt_w hj, e2, e3, pt_wk, ↓lt_e, ↓gd_e, ↓Option.bind_some, ↓reduceIte, if_true, if_false, if_pT, if_nF, decide_true, Bool.not_true, Bool.not_false, not_true_eq_false, not_false_eq_true, Bool.false_eq_true, Bool.true_eq_false, eq_self, n3_lit, n3_add, n3_mul, n3_sub, n3_tn, n3_le_t, n3_le_f, n3_lt_t, n3_lt_f, n3_eq_f, n3_eq_t, n3_inb, n3_rem, n3_div, n3_zb, bb_0, bb_1, zb_bb, bb_T, bb_F, n3_dec, n3_m1, n3_eqm, n3_eqmt, n3_ltm, n3_mlt, n3_lem, n3_mle, n3_neg_lt, n3_nlt_neg, n3_nle_neg, n3_neg_le]
theorem emR_row {ad : Nat → Nat} (hj : Inj ad) {μ : Mem} {H : Nat → Nat} (h : Row μ (ad 182) 2071 H) (c code val : Nat) : Row (emR ad μ c code val) (ad 182) 2071 (emH H c code val) := ((h.set _ _).set _ _).off (mso hj (by omega))
theorem emR_16 (ad : Nat → Nat) (μ : Mem) (c code val : Nat) : (emR ad μ c code val).1 (ad 181) 16 = n3 (c + 1) := mse _ _ _ _
theorem emR_k {ad : Nat → Nat} (hj : Inj ad) (μ : Mem) (c code val : Nat) {k : Nat} (h : k ≠ 16) : (emR ad μ c code val).1 (ad 181) k = μ.1 (ad 181) k := by unfold emR; rw [msn h, mso hj (by omega), mso hj (by omega)]
theorem emR_fr {ad : Nat → Nat} (hj : Inj ad) (μ : Mem) (c code val : Nat) : Fr ad (fun j => j = 181 ∨ j = 182) μ (emR ad μ c code val) := (((Fr.refl μ).set hj (by omega)).set hj (by omega)).set hj (by omega)
theorem emR_lo {ad : Nat → Nat} (hj : Inj ad) (μ : Mem) (c code val : Nat) {k : Nat} (h : k < 1271 + 2 * c) : (emR ad μ c code val).1 (ad 182) k = μ.1 (ad 182) k := by unfold emR; rw [mso hj (by omega), msn (by omega), msn (by omega)]
theorem TkR.em {ad : Nat → Nat} (hj : Inj ad) {μ : Mem} {T : Nat → Int32} {n : Nat} (h : TkR ad μ T n) (c code val : Nat) : TkR ad (emR ad μ c code val) T n := h.fr (emR_k hj μ c code val (by omega)) (by rw [(emR_fr hj μ c code val 187 (by omega)).1])
/-- what the class does of an expression -/
def XC (ad : Nat → Nat) (T : Nat → Int32) (n m : Nat) (H : Nat → Nat) (c : Nat) (ok : Bool) (i' c' : Nat) (H' : Nat → Nat) (fc : Mem → Nat → Option (Int32 × Mem)) : Prop := ∀ μ v, TkC ad μ 52 T n m → EC ad μ H c → ∃ μ' v', fc μ v = some (n3 (bb (ok = true)), rd ad 52 μ' i' v') ∧ TkC ad μ' 52 T n m ∧ (ok = true → EC ad μ' H' c') ∧ Fr ad (fun j => j = 36 ∨ j = 40 ∨ j = 52) μ μ' ∧ μ'.1 (ad 36) 0 = μ.1 (ad 36) 0
def XR (ad : Nat → Nat) (T : Nat → Int32) (n : Nat) (H : Nat → Nat) (c dp : Nat) (ok : Bool) (i' c' : Nat) (H' : Nat → Nat) (fr : Mem → Option (Int32 × Mem)) : Prop := ∀ μ, TkR ad μ T n → Row μ (ad 182) 2071 H → μ.1 (ad 181) 16 = n3 c → μ.1 (ad 181) 13 = n3 dp → ∃ μ' p' b', fr μ = some (n3 (bb (ok = true)), pt ad μ' p' b') ∧ TkR ad μ' T n ∧ (ok = true → Row μ' (ad 182) 2071 H' ∧ μ'.1 (ad 181) 16 = n3 c' ∧ μ'.1 (ad 181) 13 = n3 dp ∧ p' ≤ n ∧ nb T n p' = BT T n i') ∧ (ok = false → b' = BT T n i') ∧ Fr ad (fun j => j = 181 ∨ j = 182) μ μ' ∧ (∀ k, k < 1271 + 2 * c → μ'.1 (ad 182) k = μ.1 (ad 182) k) ∧ ∀ k, k ≠ 10 → k ≠ 12 → k ≠ 13 → k ≠ 16 → μ'.1 (ad 181) k = μ.1 (ad 181) k
/-- what has been told so far is well placed -/
def XT (H : Nat → Nat) (c i : Nat) (s k : Bool) (L i' c' : Nat) (H' : Nat → Nat) : Prop := c ≤ c' ∧ i ≤ i' ∧ c' + i ≤ c + i' ∧ (∀ q, q < 1271 + 2 * c → H' q = H q) ∧ (∀ ts : List Bool, ts.length ≤ L → tyR H' c (c' - c) (if s = true then k :: ts else ts) = some (k :: ts)) ∧ ∀ j, c ≤ j → j < c' → H' (1271 + 2 * j + 1) ≤ 999
def XO (ad : Nat → Nat) (T : Nat → Int32) (n m : Nat) (H : Nat → Nat) (c i dp : Nat) (s k : Bool) (L : Nat) (fc : Mem → Nat → Option (Int32 × Mem)) (fr : Mem → Option (Int32 × Mem)) : Prop := ∃ (ok : Bool) (i' c' : Nat) (H' : Nat → Nat), i' ≤ m ∧ (ok = true → XT H c i s k L i' c' H') ∧ XC ad T n m H c ok i' c' H' fc ∧ XR ad T n H c dp ok i' c' H' fr
theorem XO.of {ad : Nat → Nat} {T : Nat → Int32} {n m : Nat} {H : Nat → Nat} {c i dp : Nat} {s k : Bool} {L : Nat} {fc fc' : Mem → Nat → Option (Int32 × Mem)} {fr fr' : Mem → Option (Int32 × Mem)} (h : XO ad T n m H c i dp s k L fc' fr') (hc : ∀ μ v, TkC ad μ 52 T n m → EC ad μ H c → ∃ v2, fc μ v = fc' μ v2) (hr : ∀ μ, TkR ad μ T n → Row μ (ad 182) 2071 H → μ.1 (ad 181) 16 = n3 c → μ.1 (ad 181) 13 = n3 dp → fr μ = fr' μ) : XO ad T n m H c i dp s k L fc fr := by
  obtain ⟨ok, i', c', H', h1, h2, h3, h4⟩ := h
  refine ⟨ok, i', c', H', h1, h2, fun μ v t e => ?_, fun μ t r e1 e2 => ?_⟩
  · obtain ⟨v2, q⟩ := hc μ v t e
    rw [q]; exact h3 μ v2 t e
  · rw [hr μ t r e1 e2]; exact h4 μ t r e1 e2
theorem XO.fail {ad : Nat → Nat} {T : Nat → Int32} {n m : Nat} {H : Nat → Nat} {c i dp : Nat} {s k : Bool} {L : Nat} {fc : Mem → Nat → Option (Int32 × Mem)} {fr : Mem → Option (Int32 × Mem)} (i' : Nat) (hi : i' ≤ m) (hc : ∀ μ v, TkC ad μ 52 T n m → EC ad μ H c → ∃ v', fc μ v = some (n3 0, rd ad 52 μ i' v')) (hr : ∀ μ, TkR ad μ T n → Row μ (ad 182) 2071 H → μ.1 (ad 181) 16 = n3 c → μ.1 (ad 181) 13 = n3 dp → ∃ p', fr μ = some (n3 0, pt ad μ p' (BT T n i'))) : XO ad T n m H c i dp s k L fc fr := by
  refine ⟨false, i', c, H, hi, fun h => absurd h (by decide), fun μ v t e => ?_, fun μ t r e1 e2 => ?_⟩
  · obtain ⟨v', q⟩ := hc μ v t e
    exact ⟨μ, v', q, t, fun _ => e, Fr.refl μ, rfl⟩
  · obtain ⟨p', q⟩ := hr μ t r e1 e2
    exact ⟨μ, p', _, q, t, fun h => absurd h (by decide), fun _ => rfl, Fr.refl μ, fun _ _ => rfl, fun _ _ _ _ _ => rfl⟩
/-- one code is told, and a thing passed -/
theorem XO.one {ad : Nat → Nat} (hj : Inj ad) {T : Nat → Int32} {n m : Nat} {H : Nat → Nat} {c i dp : Nat} {k : Bool} {L : Nat} {fc : Mem → Nat → Option (Int32 × Mem)} {fr : Mem → Option (Int32 × Mem)} (code val : Nat) (hi : i + 1 ≤ m) (hv : val ≤ 999) (hty : ∀ ts : List Bool, ts.length ≤ L → tyc code ts = some (k :: ts)) (hc : ∀ μ v, TkC ad μ 52 T n m → EC ad μ H c → ∃ v', fc μ v = some (n3 1, rd ad 52 (emC ad μ c (itm code val)) (i + 1) v')) (hr : ∀ μ, TkR ad μ T n → Row μ (ad 182) 2071 H → μ.1 (ad 181) 16 = n3 c → μ.1 (ad 181) 13 = n3 dp → ∃ b', fr μ = some (n3 1, pt ad (emR ad μ c code val) (te T n (BT T n i)) b')) : XO ad T n m H c i dp false k L fc fr := by
  refine ⟨true, i + 1, c + 1, emH H c code val, hi, fun _ => ⟨by omega, by omega, by omega, fun q hq => emH_lo hq, fun ts hts => ?_, fun j h1 h2 => ?_⟩, fun μ v t e => ?_, fun μ t r e1 e2 => ?_⟩
  · rw [if_neg (by decide), Nat.add_sub_cancel_left, tyR_one, emH_0]; exact hty ts hts
  · have : j = c := by omega
    subst this; rw [emH_1]; exact hv
  · obtain ⟨v', q⟩ := hc μ v t e
    exact ⟨_, v', q, t.em hj _ _, fun _ => e.em hj code val, emC_fr hj μ c _, emC_0 hj μ c _⟩
  · obtain ⟨b', q⟩ := hr μ t r e1 e2
    exact ⟨_, _, b', q, t.em hj _ _ _, fun _ => ⟨emR_row hj r c code val, emR_16 ad μ c code val, by rw [emR_k hj μ c code val (by omega)]; exact e2, te_le T (BT_le T n i), rfl⟩, fun h => absurd h (by decide), emR_fr hj μ c code val, fun q hq => emR_lo hj μ c code val hq, fun q _ _ _ h16 => emR_k hj μ c code val h16⟩

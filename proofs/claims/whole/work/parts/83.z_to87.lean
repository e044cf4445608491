/-! ships two by two: sets -/
def lo (d : Nat) : Nat := ff d.testBit 8
theorem lo_lt {d : Nat} (h0 : 0 < d) (hd : d < 256) : lo d < 8 := by
  rcases Nat.lt_or_ge (lo d) 8 with h | h
  · exact h
  · exfalso
    have hl := ff_le d.testBit 8
    have e : lo d = 8 := by unfold lo at *; omega
    have : d = 0 := by
      apply Nat.eq_of_testBit_eq
      intro i
      rw [Nat.zero_testBit]
      rcases Nat.lt_or_ge i 8 with h1 | h1
      · exact ff_no (p := d.testBit) (n := 8) (by unfold lo at e; omega)
      · exact Nat.testBit_lt_two_pow (Nat.lt_of_lt_of_le hd (Nat.pow_le_pow_right (n := 2) (by decide) h1))
    omega
theorem lo_bit {d : Nat} (h0 : 0 < d) (hd : d < 256) : d.testBit (lo d) = true := ff_yes (lo_lt h0 hd)
theorem lo_no {d i : Nat} (h : i < lo d) : d.testBit i = false := ff_no (p := d.testBit) h
theorem lo_eq {d s : Nat} (hs : s < 8) (h1 : d.testBit s = true) (h2 : ∀ i, i < s → d.testBit i = false) : lo d = s := ff_eq (by omega) h2 (Or.inr h1)
def rmv (d s : Nat) : Nat := clm d (2 ^ s)
theorem rmv_bit (d s t : Nat) (hs : s < 32) (hd : d < 4294967296) : (rmv d s).testBit t = (d.testBit t && !decide (s = t)) := by
  have := clr_bit d s t
  unfold clr at this
  unfold rmv clm
  rw [this]
  by_cases ht : t < 32
  · have e : decide (t < 32) = true := decide_eq_true ht
    rw [e, Bool.xor_true]
  · have e : d.testBit t = false := Nat.testBit_lt_two_pow (Nat.lt_of_lt_of_le hd (Nat.pow_le_pow_right (n := 2) (by decide) (show 32 ≤ t by omega)))
    rw [e]; rfl
theorem rmv_le (d s : Nat) : rmv d s ≤ d := Nat.and_le_left
theorem rmv_lt {d s : Nat} (hs : s < 32) (hd : d < 4294967296) (h : d.testBit s = true) : rmv d s < d := by
  rcases Nat.lt_or_eq_of_le (rmv_le d s) with h1 | h1
  · exact h1
  · have := rmv_bit d s s hs hd
    rw [h1, h] at this; simp at this
theorem rmv_and (d s A : Nat) : rmv d s &&& A = rmv (d &&& A) s := by
  unfold rmv clm
  rw [Nat.and_assoc, Nat.and_comm (2 ^ s ^^^ 4294967295) A, ← Nat.and_assoc]
theorem and_m1 : ∀ d, d < 256 → 0 < d → d &&& (d - 1) = rmv d (lo d) := by decide +kernel
theorem xor_rm : ∀ d, d < 256 → ∀ s, s < 8 → d.testBit s = true → d ^^^ 2 ^ s = rmv d s := by decide +kernel
def ntz1 (v : Int32) : Option Int32 := m_XI_ntz 0 ([], fun _ => 0, fun _ _ => none, fun _ => 0, fun _ => 0, (fun _ => 0, fun _ _ => 0), fun _ => 0) (fun _ _ => 0, fun _ _ => 0) v
theorem r_ntz1 {N : Nat} {Λ : Lay} {μ : Mem} (v : Int32) : m_XI_ntz N Λ μ v = ntz1 v := rfl
theorem ntz_lo : ∀ d, d < 256 → 0 < d → ntz1 (n3 d) = some (n3 (lo d)) := by decide +kernel
/-! the most work of pairs -/
def cpb (F : Nat → Nat) (a b : Nat) : Bool := nog F a && (nog F b && decide (F (25 + 6 * a) + F (25 + 6 * b) ≤ 12))
theorem cpb_iff {F : Nat → Nat} {a b : Nat} : cpb F a b = true ↔ ¬ F (25 + 6 * a + 3) = 2 ∧ ¬ F (25 + 6 * b + 3) = 2 ∧ F (25 + 6 * a) + F (25 + 6 * b) ≤ 12 := by simp [cpb, nog]
def pcd (F : Nat → Nat) (d o : Nat) : Bool := (rmv d (lo d)).testBit o && cpb F (lo d) o
def pvl (F : Nat → Nat) (d : Nat) (T : Nat → Nat) (o : Nat) : Nat := F (25 + 6 * lo d + 2) + F (25 + 6 * o + 2) + T (rmv (rmv d (lo d)) o)
def mxP (F : Nat → Nat) (d : Nat) (T : Nat → Nat) : Nat → Nat
  | 0 => T (rmv d (lo d))
  | o + 1 => if pcd F d o = true then max (mxP F d T o) (pvl F d T o) else mxP F d T o
def tbu (val : Nat → (Nat → Nat) → Nat) : Nat → Nat → Nat
  | 0 => fun _ => 0
  | j + 1 => up (tbu val j) j (val j (tbu val j))
theorem tbu_stay (val : Nat → (Nat → Nat) → Nat) : ∀ (i j d : Nat), j ≤ i → d < j → tbu val i d = tbu val j d
  | 0, j, d, h1, h2 => by omega
  | i + 1, j, d, h1, h2 => by
    by_cases e : j = i + 1
    · rw [e]
    · have : tbu val (i + 1) d = tbu val i d := up_n (by omega)
      rw [this]; exact tbu_stay val i j d (by omega) h2
theorem tbu_rec (val : Nat → (Nat → Nat) → Nat) (hv : ∀ d T T', d < 256 → (∀ e, e < d → T e = T' e) → val d T = val d T') (d : Nat) (hd : d < 256) : tbu val 256 d = val d (tbu val 256) := by
  rw [tbu_stay val 256 (d + 1) d (by omega) (by omega)]
  have e : tbu val (d + 1) d = val d (tbu val d) := up_e _ _ _
  rw [e]
  exact hv d _ _ hd (fun e he => (tbu_stay val 256 d e (by omega) he).symm)
def prV (F : Nat → Nat) (d : Nat) (T : Nat → Nat) : Nat := if d = 0 then 0 else mxP F d T 8
def prF (F : Nat → Nat) : Nat → Nat := tbu (prV F) 256
theorem mxP_congr {F : Nat → Nat} {d : Nat} (h0 : 0 < d) (hd : d < 256) {T T' : Nat → Nat} (h : ∀ e, e < d → T e = T' e) : ∀ n, mxP F d T n = mxP F d T' n
  | 0 => h _ (rmv_lt (by have := lo_lt h0 hd; omega) (by omega) (lo_bit h0 hd))
  | o + 1 => by
    have hr := rmv_lt (s := lo d) (by have := lo_lt h0 hd; omega) (by omega) (lo_bit h0 hd)
    have hr2 := rmv_le (rmv d (lo d)) o
    unfold mxP
    rw [mxP_congr h0 hd h o]
    have : pvl F d T o = pvl F d T' o := by unfold pvl; rw [h _ (by omega)]
    rw [this]
theorem pr_rec (F : Nat → Nat) (d : Nat) (hd : d < 256) : prF F d = prV F d (prF F) := by
  refine tbu_rec (prV F) (fun d T T' hd' h => ?_) d hd
  unfold prV
  by_cases h0 : d = 0
  · rw [if_pos h0, if_pos h0]
  · rw [if_neg h0, if_neg h0]; exact mxP_congr (by omega) hd' h 8
theorem pr_0 (F : Nat → Nat) : prF F 0 = 0 := by rw [pr_rec F 0 (by omega)]; exact if_pos rfl
theorem pr_s (F : Nat → Nat) {d : Nat} (h0 : 0 < d) (hd : d < 256) : prF F d = mxP F d (prF F) 8 := by rw [pr_rec F d hd]; exact if_neg (by omega)
theorem pcd_f {F : Nat → Nat} {d o : Nat} (h : pcd F d o = true) : (rmv d (lo d)).testBit o = true ∧ cpb F (lo d) o = true := by
  unfold pcd at h
  cases h1 : (rmv d (lo d)).testBit o <;> cases h2 : cpb F (lo d) o <;> simp_all
theorem In_bit {F : Nat → Nat} {d o : Nat} (hd : d < 2 ^ F 0) (h : d.testBit o = true) : o < F 0 := InS.bit (F := F) (all := d) hd h
theorem pr_le {F : Nat → Nat} (hw : WF F) : ∀ n d, d ≤ n → d < 2 ^ F 0 → d < 256 → prF F d ≤ 200 * d := by
  intro n
  induction n with
  | zero => intro d hd _ _; rw [show d = 0 by omega, pr_0]; exact Nat.zero_le _
  | succ n ih =>
    intro d hdn hdF hd
    by_cases h0 : d = 0
    · rw [h0, pr_0]; exact Nat.zero_le _
    · have hpos : 0 < d := by omega
      rw [pr_s F hpos hd]
      have hlb := lo_bit hpos hd
      have hl8 := lo_lt hpos hd
      have hr := rmv_lt (s := lo d) (by omega) (by omega) hlb
      have hsl := hw.2.2.1 (lo d) (In_bit hdF hlb)
      unfold ShOk at hsl
      have key : ∀ m, mxP F d (prF F) m ≤ 200 * d := by
        intro m
        induction m with
        | zero =>
          have := ih (rmv d (lo d)) (by omega) (by omega) (by omega)
          show prF F (rmv d (lo d)) ≤ _
          omega
        | succ m ihm =>
          unfold mxP
          by_cases hc : pcd F d m = true
          · rw [if_pos hc]
            have hb := (pcd_f hc).1
            have hmF := In_bit (F := F) (by omega) hb
            have h8 : F 0 ≤ 8 := hw.1.1
            have hr2 := rmv_lt (s := m) (by omega) (by omega) hb
            have hsm := hw.2.2.1 m hmF
            unfold ShOk at hsm
            have := ih (rmv (rmv d (lo d)) m) (by omega) (by omega) (by omega)
            unfold pvl
            omega
          · rw [if_neg hc]; exact ihm
      exact key 8
theorem pr_B {F : Nat → Nat} (hw : WF F) {d : Nat} (hdF : d < 2 ^ F 0) (hd : d < 256) : prF F d ≤ 51200 := by
  have := pr_le hw d d (Nat.le_refl d) hdF hd; omega
/-- those not gone -/
def ngA (F : Nat → Nat) : Nat := sb (nog F) (F 0)
theorem ngA_bit {F : Nat → Nat} (s : Nat) : (ngA F).testBit s = (decide (s < F 0) && nog F s) := sb_bit _ _ _
theorem mxP_none {F : Nat → Nat} {d : Nat} {T : Nat → Nat} : ∀ n, (∀ o, o < n → pcd F d o = false) → mxP F d T n = T (rmv d (lo d))
  | 0, _ => rfl
  | o + 1, h => by unfold mxP; rw [if_neg (by rw [h o (by omega)]; decide)]; exact mxP_none o (fun q hq => h q (by omega))
theorem lo_and {F : Nat → Nat} {d : Nat} (h0 : 0 < d) (hd : d < 256) (hs : (ngA F).testBit (lo d) = true) : lo (d &&& ngA F) = lo d := by
  refine lo_eq (lo_lt h0 hd) ?_ (fun i hi => ?_)
  · rw [Nat.testBit_and, lo_bit h0 hd, hs]; rfl
  · rw [Nat.testBit_and, lo_no hi]; rfl
theorem pcd_and {F : Nat → Nat} {d : Nat} (h0 : 0 < d) (hd : d < 256) (hdF : d < 2 ^ F 0) (hs : (ngA F).testBit (lo d) = true) (o : Nat) : pcd F (d &&& ngA F) o = pcd F d o := by
  unfold pcd
  rw [lo_and h0 hd hs, ← rmv_and, Nat.testBit_and]
  cases h1 : (rmv d (lo d)).testBit o
  · rfl
  · cases h2 : cpb F (lo d) o
    · simp
    · have hoF : o < F 0 := In_bit (F := F) (Nat.lt_of_le_of_lt (rmv_le d (lo d)) hdF) h1
      have : (ngA F).testBit o = true := by
        rw [ngA_bit, decide_eq_true hoF]
        have := (cpb_iff.1 h2).2.1
        simp [nog, this]
      rw [this]; rfl
theorem pr_and {F : Nat → Nat} (hw : WF F) : ∀ n d, d ≤ n → d < 2 ^ F 0 → d < 256 → prF F (d &&& ngA F) = prF F d := by
  intro n
  induction n with
  | zero => intro d hd _ _; rw [show d = 0 by omega, Nat.zero_and]
  | succ n ih =>
    intro d hdn hdF hd
    by_cases h0 : d = 0
    · rw [h0, Nat.zero_and]
    · have hpos : 0 < d := by omega
      have hlb := lo_bit hpos hd
      have hl8 := lo_lt hpos hd
      have hr := rmv_lt (s := lo d) (by omega) (by omega) hlb
      have hlF := In_bit hdF hlb
      by_cases hs : (ngA F).testBit (lo d) = true
      · have hpos' : 0 < d &&& ngA F := by
          rcases Nat.eq_zero_or_pos (d &&& ngA F) with e | e
          · have : (d &&& ngA F).testBit (lo d) = true := by rw [Nat.testBit_and, hlb, hs]; rfl
            rw [e, Nat.zero_testBit] at this; cases this
          · exact e
        have hle' : d &&& ngA F ≤ d := Nat.and_le_left
        rw [pr_s F hpos hd, pr_s F hpos' (by omega)]
        have key : ∀ m, mxP F (d &&& ngA F) (prF F) m = mxP F d (prF F) m := by
          intro m
          induction m with
          | zero =>
            show prF F (rmv (d &&& ngA F) (lo (d &&& ngA F))) = prF F (rmv d (lo d))
            rw [lo_and hpos hd hs, ← rmv_and]
            exact ih _ (by omega) (by omega) (by omega)
          | succ m ihm =>
            unfold mxP
            rw [ihm, pcd_and hpos hd hdF hs m]
            by_cases hc : pcd F d m = true
            · rw [if_pos hc, if_pos hc]
              have : pvl F (d &&& ngA F) (prF F) m = pvl F d (prF F) m := by
                unfold pvl
                rw [lo_and hpos hd hs, ← rmv_and, ← rmv_and]
                have := rmv_le (rmv d (lo d)) m
                rw [ih (rmv (rmv d (lo d)) m) (by omega) (by omega) (by omega)]
              rw [this]
            · rw [if_neg hc, if_neg hc]
        exact key 8
      · have hsf : (ngA F).testBit (lo d) = false := Bool.eq_false_iff.2 hs
        have hg : nog F (lo d) = false := by rw [ngA_bit, decide_eq_true hlF, Bool.true_and] at hsf; exact hsf
        rw [pr_s F hpos hd, mxP_none 8 (fun o _ => by unfold pcd cpb; rw [hg]; simp)]
        have e : d &&& ngA F = rmv d (lo d) &&& ngA F := by
          apply Nat.eq_of_testBit_eq
          intro i
          rw [Nat.testBit_and, Nat.testBit_and, rmv_bit d (lo d) i (by omega) (by omega)]
          by_cases ei : lo d = i
          · rw [← ei, hsf, Bool.and_false, Bool.and_false]
          · have : decide (lo d = i) = false := decide_eq_false ei
            rw [this, Bool.not_false, Bool.and_true]
        rw [e]
        exact ih _ (by omega) (by omega) (by omega)
/-- of the fewest ships, with which -/
def pvb (F : Nat → Nat) (d o : Nat) : Bool := pcd F d o && decide (pvl F d (prF F) o = prF F d)
theorem mxP_le {F : Nat → Nat} {d : Nat} {T : Nat → Nat} : ∀ {n o : Nat}, o < n → pcd F d o = true → pvl F d T o ≤ mxP F d T n
  | n + 1, o, h, hc => by
    unfold mxP
    by_cases e : o = n
    · subst e; rw [if_pos hc]; omega
    · have := mxP_le (T := T) (n := n) (o := o) (by omega) hc
      split
      · omega
      · exact this
theorem mxP_at {F : Nat → Nat} {d : Nat} {T : Nat → Nat} : ∀ n, mxP F d T n = T (rmv d (lo d)) ∨ ∃ o, o < n ∧ pcd F d o = true ∧ pvl F d T o = mxP F d T n
  | 0 => Or.inl rfl
  | n + 1 => by
    have ih := mxP_at (F := F) (d := d) (T := T) n
    unfold mxP
    by_cases hc : pcd F d n = true
    · rw [if_pos hc]
      rcases Nat.le_total (mxP F d T n) (pvl F d T n) with h | h
      · rw [Nat.max_eq_right h]; exact Or.inr ⟨n, by omega, hc, rfl⟩
      · rw [Nat.max_eq_left h]
        rcases ih with e | ⟨o, ho, h1, h2⟩
        · exact Or.inl e
        · exact Or.inr ⟨o, by omega, h1, h2⟩
    · rw [if_neg hc]
      rcases ih with e | ⟨o, ho, h1, h2⟩
      · exact Or.inl e
      · exact Or.inr ⟨o, by omega, h1, h2⟩
def foP (F : Nat → Nat) (d : Nat) : Nat := ff (pvb F d) 8
theorem fo_lt {F : Nat → Nat} {d : Nat} (h0 : 0 < d) (hd : d < 256) (hne : prF F (rmv d (lo d)) ≠ prF F d) : foP F d < 8 ∧ pvb F d (foP F d) = true := by
  have hx : foP F d < 8 := by
    rcases Nat.lt_or_ge (foP F d) 8 with h | h
    · exact h
    · exfalso
      rcases mxP_at (F := F) (d := d) (T := prF F) 8 with e | ⟨o, ho, h1, h2⟩
      · rw [pr_s F h0 hd] at hne; exact hne e.symm
      · have hl := ff_le (pvb F d) 8
        have := ff_no (p := pvb F d) (n := 8) (i := o) (by unfold foP at h; omega)
        unfold pvb at this
        rw [h1, h2, ← pr_s F h0 hd] at this
        simp at this
  exact ⟨hx, ff_yes hx⟩
/-! the walk over the ships -/
def wkP (F : Nat → Nat) : Nat → Nat × (Nat → Nat)
  | 0 => (ngA F, fun _ => 4294967295)
  | i + 1 => if (wkP F i).1.testBit i = true then
      (if prF F (rmv (wkP F i).1 i) = prF F (wkP F i).1 then (rmv (wkP F i).1 i, (wkP F i).2)
      else (rmv (rmv (wkP F i).1 i) (foP F (wkP F i).1), up (up (wkP F i).2 i (foP F (wkP F i).1)) (foP F (wkP F i).1) i))
    else wkP F i
theorem wkP_s (F : Nat → Nat) (i : Nat) : wkP F (i + 1) = if (wkP F i).1.testBit i = true then
      (if prF F (rmv (wkP F i).1 i) = prF F (wkP F i).1 then (rmv (wkP F i).1 i, (wkP F i).2)
      else (rmv (rmv (wkP F i).1 i) (foP F (wkP F i).1), up (up (wkP F i).2 i (foP F (wkP F i).1)) (foP F (wkP F i).1) i))
    else wkP F i := rfl
theorem wk_inv {F : Nat → Nat} (h8 : F 0 ≤ 8) : ∀ i, i ≤ F 0 → (∀ t, (wkP F i).1.testBit t = true → i ≤ t ∧ (ngA F).testBit t = true) ∧ (wkP F i).1 ≤ ngA F ∧ (wkP F i).1 < 2 ^ F 0 ∧ (wkP F i).1 < 256
  | 0, _ => by
    have hl : ngA F < 2 ^ F 0 := sb_lt _ _
    exact ⟨fun t ht => ⟨Nat.zero_le t, ht⟩, Nat.le_refl _, hl, InS.lt (F := F) hl h8⟩
  | i + 1, hi => by
    obtain ⟨h1, h2, h3, h4⟩ := wk_inv h8 i (by omega)
    unfold wkP
    by_cases hb : (wkP F i).1.testBit i = true
    · rw [if_pos hb]
      have hr := rmv_le (wkP F i).1 i
      by_cases he : prF F (rmv (wkP F i).1 i) = prF F (wkP F i).1
      · rw [if_pos he]
        refine ⟨fun t ht => ?_, by show rmv _ i ≤ _; omega, by show rmv _ i < _; omega, by show rmv _ i < _; omega⟩
        rw [rmv_bit _ i t (by omega) (by omega)] at ht
        have ht1 : (wkP F i).1.testBit t = true := by cases hq : (wkP F i).1.testBit t <;> simp_all
        have ht2 : i ≠ t := by intro e; rw [e] at ht; simp at ht
        have := h1 t ht1
        exact ⟨by omega, this.2⟩
      · rw [if_neg he]
        have hr2 := rmv_le (rmv (wkP F i).1 i) (foP F (wkP F i).1)
        have hpos : 0 < (wkP F i).1 := by
          rcases Nat.eq_zero_or_pos (wkP F i).1 with e | e
          · rw [e, Nat.zero_testBit] at hb; cases hb
          · exact e
        have hlo : lo (wkP F i).1 = i := lo_eq (by omega) hb (fun q hq => by
          cases hqq : (wkP F i).1.testBit q
          · rfl
          · have := (h1 q hqq).1; omega)
        have hfo := fo_lt hpos h4 (by rw [hlo]; exact he)
        refine ⟨fun t ht => ?_, by show rmv _ _ ≤ _; omega, by show rmv _ _ < _; omega, by show rmv _ _ < _; omega⟩
        rw [rmv_bit _ _ t (by omega) (by omega), rmv_bit _ i t (by omega) (by omega)] at ht
        have ht1 : (wkP F i).1.testBit t = true := by cases hq : (wkP F i).1.testBit t <;> simp_all
        have ht2 : i ≠ t := by intro e; rw [e] at ht; simp at ht
        have := h1 t ht1
        exact ⟨by omega, this.2⟩
    · rw [if_neg hb]
      refine ⟨fun t ht => ?_, h2, h3, h4⟩
      have := h1 t ht
      have : t ≠ i := fun e => by rw [e] at ht; exact hb ht
      exact ⟨by omega, (h1 t ht).2⟩
theorem wk_lo {F : Nat → Nat} (h8 : F 0 ≤ 8) {i : Nat} (hi : i < F 0) (hb : (wkP F i).1.testBit i = true) : 0 < (wkP F i).1 ∧ lo (wkP F i).1 = i := by
  obtain ⟨h1, h2, h3, h4⟩ := wk_inv h8 i (by omega)
  refine ⟨?_, lo_eq (by omega) hb (fun q hq => ?_)⟩
  · rcases Nat.eq_zero_or_pos (wkP F i).1 with e | e
    · rw [e, Nat.zero_testBit] at hb; cases hb
    · exact e
  · cases hqq : (wkP F i).1.testBit q
    · rfl
    · have := (h1 q hqq).1; omega
/-- one who is no longer among those left keeps what he has -/
theorem wk_keep {F : Nat → Nat} (h8 : F 0 ≤ 8) {s : Nat} : ∀ j i, i ≤ j → j ≤ F 0 → (wkP F i).1.testBit s = false → (wkP F j).1.testBit s = false ∧ (wkP F j).2 s = (wkP F i).2 s
  | 0, i, h1, _, h3 => by rw [show i = 0 by omega] at *; exact ⟨h3, rfl⟩
  | j + 1, i, h1, h2, h3 => by
    by_cases e : i = j + 1
    · rw [← e]; exact ⟨h3, rfl⟩
    · obtain ⟨a1, a2⟩ := wk_keep h8 j i (by omega) (by omega) h3
      obtain ⟨w1, w2, w3, w4⟩ := wk_inv h8 j (by omega)
      rw [← a2, wkP_s F j]
      by_cases hb : (wkP F j).1.testBit j = true
      · rw [if_pos hb]
        obtain ⟨hpos, hlo⟩ := wk_lo h8 (by omega) hb
        have hr := rmv_le (wkP F j).1 j
        by_cases he : prF F (rmv (wkP F j).1 j) = prF F (wkP F j).1
        · rw [if_pos he]
          refine ⟨?_, rfl⟩
          show (rmv _ j).testBit s = false
          rw [rmv_bit _ j s (by omega) (by omega), a1]; rfl
        · rw [if_neg he]
          have hfo := fo_lt hpos w4 (by rw [hlo]; exact he)
          have hob : (rmv (wkP F j).1 j).testBit (foP F (wkP F j).1) = true := by
            have := hfo.2
            unfold pvb at this
            have hc : pcd F (wkP F j).1 (foP F (wkP F j).1) = true := by
              cases hq : pcd F (wkP F j).1 (foP F (wkP F j).1) <;> simp_all
            have := (pcd_f hc).1
            rw [hlo] at this; exact this
          have hso : s ≠ foP F (wkP F j).1 := fun es => by
            rw [← es, rmv_bit _ j s (by omega) (by omega), a1] at hob; simp at hob
          have hsj : s ≠ j := fun es => by rw [es] at a1; rw [a1] at hb; cases hb
          refine ⟨?_, ?_⟩
          · show (rmv (rmv _ j) _).testBit s = false
            rw [rmv_bit _ _ s (by omega) (by omega), rmv_bit _ j s (by omega) (by omega), a1]; rfl
          · show up (up _ j _) _ j s = _
            rw [up_n hso, up_n hsj]
      · rw [if_neg hb]; exact ⟨a1, rfl⟩
/-- one among those left has none yet -/
theorem wk_none {F : Nat → Nat} (h8 : F 0 ≤ 8) {s : Nat} : ∀ i, i ≤ F 0 → (wkP F i).1.testBit s = true → (wkP F i).2 s = 4294967295
  | 0, _, _ => rfl
  | i + 1, hi, hb' => by
    obtain ⟨w1, w2, w3, w4⟩ := wk_inv h8 i (by omega)
    by_cases hb : (wkP F i).1.testBit i = true
    · obtain ⟨hpos, hlo⟩ := wk_lo h8 (by omega) hb
      have hr := rmv_le (wkP F i).1 i
      unfold wkP at hb' ⊢
      rw [if_pos hb] at hb' ⊢
      by_cases he : prF F (rmv (wkP F i).1 i) = prF F (wkP F i).1
      · rw [if_pos he] at hb' ⊢
        have hb2 : (rmv (wkP F i).1 i).testBit s = true := hb'
        rw [rmv_bit _ i s (by omega) (by omega)] at hb2
        have : (wkP F i).1.testBit s = true := by cases hq : (wkP F i).1.testBit s <;> simp_all
        exact wk_none h8 i (by omega) this
      · rw [if_neg he] at hb' ⊢
        have hfo := fo_lt hpos w4 (by rw [hlo]; exact he)
        have hb2 : (rmv (rmv (wkP F i).1 i) (foP F (wkP F i).1)).testBit s = true := hb'
        rw [rmv_bit _ _ s (by omega) (by omega), rmv_bit _ i s (by omega) (by omega)] at hb2
        have h1 : (wkP F i).1.testBit s = true := by cases hq : (wkP F i).1.testBit s <;> simp_all
        have h2 : i ≠ s := by intro e; rw [e] at hb2; simp at hb2
        have h3 : foP F (wkP F i).1 ≠ s := by intro e; rw [e] at hb2; simp at hb2
        show up (up _ i _) _ i s = _
        rw [up_n (Ne.symm h3), up_n (Ne.symm h2)]
        exact wk_none h8 i (by omega) h1
    · unfold wkP at hb' ⊢
      rw [if_neg hb] at hb' ⊢
      exact wk_none h8 i (by omega) hb'
/-! pairs: the class -/
theorem Sub.trans {a b c : Nat} (h1 : Sub a b) (h2 : Sub b c) : Sub a c := by
  unfold Sub at *
  rw [← h1, Nat.and_assoc, h2]
theorem Sub_rmv (d s : Nat) : Sub (rmv d s) d := by
  show rmv d s &&& d = rmv d s
  unfold rmv clm
  rw [Nat.and_comm, ← Nat.and_assoc, Nat.and_self]
theorem Sub.refl (d : Nat) : Sub d d := Nat.and_self d
theorem ngA_f {F : Nat → Nat} {s : Nat} (h : (ngA F).testBit s = true) : s < F 0 ∧ ¬ F (25 + 6 * s + 3) = 2 := by
  rw [ngA_bit] at h
  have h1 : s < F 0 := by
    rcases Nat.lt_or_ge s (F 0) with hh | hh
    · exact hh
    · rw [decide_eq_false (by omega)] at h; cases h
  refine ⟨h1, fun e => ?_⟩
  rw [decide_eq_true h1, Bool.true_and] at h
  simp [nog, e] at h
theorem c_pairedWith {N : Nat} {Λ : Lay} {ad : Nat → Nat} {σ : Nat} {μ : Mem} {F : Nat → Nat} (hS : LyS Λ ad σ) (hC : CS ad μ σ F)  (hQ : LyQ Λ ad) (hw : WF F) {d o : Nat} (h0 : 0 < d) (hd : d < 256) (hsub : Sub d (ngA F)) (ho : o < 8) (hT : ∀ e, e < d → Sub e (ngA F) → μ.1 (ad 179) e = n3 (prF F e)) : m_X6_pairedWith N Λ μ (ad 175) (n3 (lo d)) (n3 o) (n3 (rmv d (lo d))) (ad σ) = some (n3 (if pcd F d o = true then pvl F d (prF F) o else 4294967295)) := by
  have hb := hw.1; unfold WB at hb
  have hl8 := lo_lt h0 hd
  have hlb := lo_bit h0 hd
  have hr := rmv_lt (s := lo d) (by omega) (by omega) hlb
  by_cases hbit : (rmv d (lo d)).testBit o = true
  · obtain ⟨hlF, hlg⟩ := ngA_f (hsub.bit hlb)
    obtain ⟨hoF, hog⟩ := ngA_f (((Sub_rmv d (lo d)).trans hsub).bit hbit)
    have hs1 := hw.2.2.1 _ hlF
    have hs2 := hw.2.2.1 _ hoF
    unfold ShOk at hs1 hs2
    have hx := xor_rm (rmv d (lo d)) (by omega) o ho hbit
    have hr2 := rmv_lt (s := o) (by omega) (by omega) hbit
    have ht := hT (rmv (rmv d (lo d)) o) (by omega) ((Sub_rmv _ _).trans ((Sub_rmv _ _).trans hsub))
    have hsh : n3 (rmv d (lo d)) ^^^ ishl (n3 1) (n3 o) = n3 (rmv (rmv d (lo d)) o) := by rw [n3_shl (by omega), Nat.one_mul, n3_xor, hx]
    by_cases hlen : F (25 + 6 * lo d) + F (25 + 6 * o) ≤ 12
    · have hc : pcd F d o = true := by unfold pcd; rw [hbit, cpb_iff.2 ⟨hlg, hog, hlen⟩]; rfl
      rw [if_pos hc]
      simp (disch := omega) only [jn_X6_pairedWith_28, m_X6_pairedWith, n3_bit, hbit, ↓ob (hS.1), ↓ob (hS.2.1), ↓ob (hS.2.2.1), ↓ob (hS.2.2.2.1), ↓ob (hS.2.2.2.2.1), ↓ob (hS.2.2.2.2.2.1), ↓ob (hS.2.2.2.2.2.2.1), ↓ob (hS.2.2.2.2.2.2.2.1), hS.2.2.2.2.2.2.2.2.1, hS.2.2.2.2.2.2.2.2.2.1, hS.2.2.2.2.2.2.2.2.2.2.1, hS.2.2.2.2.2.2.2.2.2.2.2.1, hS.2.2.2.2.2.2.2.2.2.2.2.2.1, hS.2.2.2.2.2.2.2.2.2.2.2.2.2.1, hS.2.2.2.2.2.2.2.2.2.2.2.2.2.2, hC.1, hC.2.1, hC.2.2.1, hC.2.2.2.1, hC.2.2.2.2.1, hC.2.2.2.2.2.1, hC.2.2.2.2.2.2.1, hC.2.2.2.2.2.2.2.1, hC.2.2.2.2.2.2.2.2.1, hC.2.2.2.2.2.2.2.2.2.1, hC.2.2.2.2.2.2.2.2.2.2.1, hC.2.2.2.2.2.2.2.2.2.2.2.1, hC.2.2.2.2.2.2.2.2.2.2.2.2.1, hC.2.2.2.2.2.2.2.2.2.2.2.2.2.1, hC.2.2.2.2.2.2.2.2.2.2.2.2.2.2.1, hC.2.2.2.2.2.2.2.2.2.2.2.2.2.2.2.1, hC.2.2.2.2.2.2.2.2.2.2.2.2.2.2.2.2.1, ↓ob (hQ.1), ↓ob (hQ.2.1), ↓ob (hQ.2.2.1), ↓ob (hQ.2.2.2.1), hQ.2.2.2.2.1, hQ.2.2.2.2.2.1, hQ.2.2.2.2.2.2.1, hQ.2.2.2.2.2.2.2.1, ↓ob (hQ.2.2.2.2.2.2.2.2.1), ↓ob (hQ.2.2.2.2.2.2.2.2.2.1), ↓ob (hQ.2.2.2.2.2.2.2.2.2.2.1), hQ.2.2.2.2.2.2.2.2.2.2.2.1, hQ.2.2.2.2.2.2.2.2.2.2.2.2.1, hQ.2.2.2.2.2.2.2.2.2.2.2.2.2.1, ↓ob (hQ.2.2.2.2.2.2.2.2.2.2.2.2.2.2.1), ↓ob (hQ.2.2.2.2.2.2.2.2.2.2.2.2.2.2.2.1), ↓ob (hQ.2.2.2.2.2.2.2.2.2.2.2.2.2.2.2.2.1), ↓ob (hQ.2.2.2.2.2.2.2.2.2.2.2.2.2.2.2.2.2.1), ↓ob (hQ.2.2.2.2.2.2.2.2.2.2.2.2.2.2.2.2.2.2.1), hQ.2.2.2.2.2.2.2.2.2.2.2.2.2.2.2.2.2.2.2.1, hQ.2.2.2.2.2.2.2.2.2.2.2.2.2.2.2.2.2.2.2.2.1, hQ.2.2.2.2.2.2.2.2.2.2.2.2.2.2.2.2.2.2.2.2.2.1, hQ.2.2.2.2.2.2.2.2.2.2.2.2.2.2.2.2.2.2.2.2.2.2.1, hQ.2.2.2.2.2.2.2.2.2.2.2.2.2.2.2.2.2.2.2.2.2.2.2, hsh, ht, ↓lt_e, ↓gd_e, ↓Option.bind_some, ↓reduceIte, if_true, if_false, if_pT, if_nF, decide_true, Bool.not_true, Bool.not_false, not_true_eq_false, not_false_eq_true, Bool.false_eq_true, Bool.true_eq_false, eq_self, n3_lit, n3_add, n3_mul, n3_sub, n3_tn, n3_le_t, n3_le_f, n3_lt_t, n3_lt_f, n3_eq_f, n3_eq_t, n3_inb, n3_rem, n3_div, n3_zb, bb_0, bb_1, zb_bb, bb_T, bb_F, n3_dec, n3_m1, n3_eqm, n3_eqmt, n3_ltm, n3_mlt, n3_lem, n3_mle, n3_neg_lt, n3_nlt_neg, n3_nle_neg, n3_neg_le, pvl]
    · have hc : ¬ pcd F d o = true := fun hc => hlen (cpb_iff.1 (pcd_f hc).2).2.2
      rw [if_neg hc]
      simp (disch := omega) only [jn_X6_pairedWith_28, m_X6_pairedWith, n3_bit, hbit, ↓ob (hS.1), ↓ob (hS.2.1), ↓ob (hS.2.2.1), ↓ob (hS.2.2.2.1), ↓ob (hS.2.2.2.2.1), ↓ob (hS.2.2.2.2.2.1), ↓ob (hS.2.2.2.2.2.2.1), ↓ob (hS.2.2.2.2.2.2.2.1), hS.2.2.2.2.2.2.2.2.1, hS.2.2.2.2.2.2.2.2.2.1, hS.2.2.2.2.2.2.2.2.2.2.1, hS.2.2.2.2.2.2.2.2.2.2.2.1, hS.2.2.2.2.2.2.2.2.2.2.2.2.1, hS.2.2.2.2.2.2.2.2.2.2.2.2.2.1, hS.2.2.2.2.2.2.2.2.2.2.2.2.2.2, hC.1, hC.2.1, hC.2.2.1, hC.2.2.2.1, hC.2.2.2.2.1, hC.2.2.2.2.2.1, hC.2.2.2.2.2.2.1, hC.2.2.2.2.2.2.2.1, hC.2.2.2.2.2.2.2.2.1, hC.2.2.2.2.2.2.2.2.2.1, hC.2.2.2.2.2.2.2.2.2.2.1, hC.2.2.2.2.2.2.2.2.2.2.2.1, hC.2.2.2.2.2.2.2.2.2.2.2.2.1, hC.2.2.2.2.2.2.2.2.2.2.2.2.2.1, hC.2.2.2.2.2.2.2.2.2.2.2.2.2.2.1, hC.2.2.2.2.2.2.2.2.2.2.2.2.2.2.2.1, hC.2.2.2.2.2.2.2.2.2.2.2.2.2.2.2.2.1, n3_neg1, ↓lt_e, ↓gd_e, ↓Option.bind_some, ↓reduceIte, if_true, if_false, if_pT, if_nF, decide_true, Bool.not_true, Bool.not_false, not_true_eq_false, not_false_eq_true, Bool.false_eq_true, Bool.true_eq_false, eq_self, n3_lit, n3_add, n3_mul, n3_sub, n3_tn, n3_le_t, n3_le_f, n3_lt_t, n3_lt_f, n3_eq_f, n3_eq_t, n3_inb, n3_rem, n3_div, n3_zb, bb_0, bb_1, zb_bb, bb_T, bb_F, n3_dec, n3_m1, n3_eqm, n3_eqmt, n3_ltm, n3_mlt, n3_lem, n3_mle, n3_neg_lt, n3_nlt_neg, n3_nle_neg, n3_neg_le]
  · have hc : ¬ pcd F d o = true := fun hc => hbit (pcd_f hc).1
    rw [if_neg hc]
    simp (disch := omega) only [jn_X6_pairedWith_28, m_X6_pairedWith, n3_bit, hbit, n3_neg1, ↓ob (hS.1), ↓ob (hS.2.1), ↓ob (hS.2.2.1), ↓ob (hS.2.2.2.1), ↓ob (hS.2.2.2.2.1), ↓ob (hS.2.2.2.2.2.1), ↓ob (hS.2.2.2.2.2.2.1), ↓ob (hS.2.2.2.2.2.2.2.1), hS.2.2.2.2.2.2.2.2.1, hS.2.2.2.2.2.2.2.2.2.1, hS.2.2.2.2.2.2.2.2.2.2.1, hS.2.2.2.2.2.2.2.2.2.2.2.1, hS.2.2.2.2.2.2.2.2.2.2.2.2.1, hS.2.2.2.2.2.2.2.2.2.2.2.2.2.1, hS.2.2.2.2.2.2.2.2.2.2.2.2.2.2, ↓lt_e, ↓gd_e, ↓Option.bind_some, ↓reduceIte, if_true, if_false, if_pT, if_nF, decide_true, Bool.not_true, Bool.not_false, not_true_eq_false, not_false_eq_true, Bool.false_eq_true, Bool.true_eq_false, eq_self, n3_lit, n3_add, n3_mul, n3_sub, n3_tn, n3_le_t, n3_le_f, n3_lt_t, n3_lt_f, n3_eq_f, n3_eq_t, n3_inb, n3_rem, n3_div, n3_zb, bb_0, bb_1, zb_bb, bb_T, bb_F, n3_dec, n3_m1, n3_eqm, n3_eqmt, n3_ltm, n3_mlt, n3_lem, n3_mle, n3_neg_lt, n3_nlt_neg, n3_nle_neg, n3_neg_le]
theorem pvl_le {F : Nat → Nat} (hw : WF F) {d o : Nat} (h0 : 0 < d) (hd : d < 256) (hdF : d < 2 ^ F 0) (hc : pcd F d o = true) : pvl F d (prF F) o ≤ 52000 := by
  have hlF := In_bit hdF (lo_bit h0 hd)
  have hb := (pcd_f hc).1
  have hr := rmv_le d (lo d)
  have hoF := In_bit (F := F) (Nat.lt_of_le_of_lt hr hdF) hb
  have hs1 := hw.2.2.1 _ hlF
  have hs2 := hw.2.2.1 _ hoF
  have hr2 := rmv_le (rmv d (lo d)) o
  have := pr_B hw (d := rmv (rmv d (lo d)) o) (by omega) (by omega)
  unfold ShOk at hs1 hs2
  unfold pvl; omega
theorem mxP_B {F : Nat → Nat} (hw : WF F) {d : Nat} (h0 : 0 < d) (hd : d < 256) (hdF : d < 2 ^ F 0) : ∀ n, mxP F d (prF F) n ≤ 52000
  | 0 => by
    have hr := rmv_le d (lo d)
    have := pr_B hw (d := rmv d (lo d)) (by omega) (by omega)
    show prF F (rmv d (lo d)) ≤ _
    omega
  | o + 1 => by
    have := mxP_B hw h0 hd hdF o
    unfold mxP; split
    · next hc => have := pvl_le hw h0 hd hdF hc; omega
    · exact this
theorem pcd_lo {F : Nat → Nat} {d o : Nat} (h0 : 0 < d) (hd : d < 256) (h : o ≤ lo d) : pcd F d o = false := by
  have hl8 := lo_lt h0 hd
  unfold pcd
  rw [rmv_bit d (lo d) o (by omega) (by omega)]
  by_cases e : lo d = o
  · simp [e]
  · rw [lo_no (show o < lo d by omega)]; rfl
theorem c_pairedWork {N : Nat} (hN : 1099511627776 ≤ N) {Λ : Lay} {ad : Nat → Nat} {σ : Nat} {μ : Mem} {F : Nat → Nat} (hS : LyS Λ ad σ) (hC : CS ad μ σ F)  (hQ : LyQ Λ ad) (hw : WF F) {d : Nat} (h0 : 0 < d) (hd : d < 256) (hsub : Sub d (ngA F)) (hT : ∀ e, e < d → Sub e (ngA F) → μ.1 (ad 179) e = n3 (prF F e)) : m_X6_pairedWork N Λ μ (ad 175) (n3 d) (ad σ) = some (n3 (prF F d)) := by
  have hl8 := lo_lt h0 hd
  have hlb := lo_bit h0 hd
  have hr := rmv_lt (s := lo d) (by omega) (by omega) hlb
  have hnz : m_XI_ntz N Λ μ (n3 d) = some (n3 (lo d)) := by rw [r_ntz1]; exact ntz_lo d hd h0
  have hrs : n3 d &&& (n3 d - n3 1) = n3 (rmv d (lo d)) := by rw [n3_sub (by omega), n3_and, and_m1 d hd h0]
  have ht := hT (rmv d (lo d)) hr ((Sub_rmv _ _).trans hsub)
  have hdF : d < 2 ^ F 0 := Nat.lt_of_le_of_lt hsub.le (sb_lt _ _)
  simp (disch := omega) only [m_X6_pairedWork, hnz, ↓lt_e, ↓gd_e, ↓Option.bind_some, ↓reduceIte, if_true, if_false, if_pT, if_nF, decide_true, Bool.not_true, Bool.not_false, not_true_eq_false, not_false_eq_true, Bool.false_eq_true, Bool.true_eq_false, eq_self, n3_lit, hrs, ↓ob (hQ.1), ↓ob (hQ.2.1), ↓ob (hQ.2.2.1), ↓ob (hQ.2.2.2.1), hQ.2.2.2.2.1, hQ.2.2.2.2.2.1, hQ.2.2.2.2.2.2.1, hQ.2.2.2.2.2.2.2.1, ↓ob (hQ.2.2.2.2.2.2.2.2.1), ↓ob (hQ.2.2.2.2.2.2.2.2.2.1), ↓ob (hQ.2.2.2.2.2.2.2.2.2.2.1), hQ.2.2.2.2.2.2.2.2.2.2.2.1, hQ.2.2.2.2.2.2.2.2.2.2.2.2.1, hQ.2.2.2.2.2.2.2.2.2.2.2.2.2.1, ↓ob (hQ.2.2.2.2.2.2.2.2.2.2.2.2.2.2.1), ↓ob (hQ.2.2.2.2.2.2.2.2.2.2.2.2.2.2.2.1), ↓ob (hQ.2.2.2.2.2.2.2.2.2.2.2.2.2.2.2.2.1), ↓ob (hQ.2.2.2.2.2.2.2.2.2.2.2.2.2.2.2.2.2.1), ↓ob (hQ.2.2.2.2.2.2.2.2.2.2.2.2.2.2.2.2.2.2.1), hQ.2.2.2.2.2.2.2.2.2.2.2.2.2.2.2.2.2.2.2.1, hQ.2.2.2.2.2.2.2.2.2.2.2.2.2.2.2.2.2.2.2.2.1, hQ.2.2.2.2.2.2.2.2.2.2.2.2.2.2.2.2.2.2.2.2.2.1, hQ.2.2.2.2.2.2.2.2.2.2.2.2.2.2.2.2.2.2.2.2.2.2.1, hQ.2.2.2.2.2.2.2.2.2.2.2.2.2.2.2.2.2.2.2.2.2.2.2, n3_inb, n3_tn, ht, n3_add, lp_X6_pairedWork_26]
  rw [pr_s F h0 hd]
  have hm0 : mxP F d (prF F) (lo d + 1) = prF F (rmv d (lo d)) := mxP_none _ (fun o ho => pcd_lo h0 hd (by omega))
  refine cw_it (fun j => (n3 (mxP F d (prF F) (lo d + 1 + j)), n3 (lo d + 1 + j))) (8 - (lo d + 1)) (by rw [Nat.add_zero, hm0]) (fun j hj' k => ?_) (fun k => ?_) (by omega)
  · have hp := c_pairedWith (N := N) hS hC hQ hw h0 hd hsub (o := lo d + 1 + j) (by omega) hT
    have es : mxP F d (prF F) (lo d + 1 + (j + 1)) = if pcd F d (lo d + 1 + j) = true then max (mxP F d (prF F) (lo d + 1 + j)) (pvl F d (prF F) (lo d + 1 + j)) else mxP F d (prF F) (lo d + 1 + j) := rfl
    rw [es, show lo d + 1 + (j + 1) = lo d + 1 + j + 1 from rfl]
    have hb1 := mxP_B hw h0 hd hdF (lo d + 1 + j)
    by_cases hc : pcd F d (lo d + 1 + j) = true
    · rw [if_pos hc] at hp ⊢
      have hb2 := pvl_le hw h0 hd hdF hc
      simp (disch := omega) only [bd_X6_pairedWork_26, hp, n3_imax, ↓lt_e, ↓gd_e, ↓Option.bind_some, ↓reduceIte, if_true, if_false, if_pT, if_nF, decide_true, Bool.not_true, Bool.not_false, not_true_eq_false, not_false_eq_true, Bool.false_eq_true, Bool.true_eq_false, eq_self, n3_lit, n3_add, n3_mul, n3_sub, n3_tn, n3_le_t, n3_le_f, n3_lt_t, n3_lt_f, n3_eq_f, n3_eq_t, n3_inb, n3_rem, n3_div, n3_zb, bb_0, bb_1, zb_bb, bb_T, bb_F, n3_dec, n3_m1, n3_eqm, n3_eqmt, n3_ltm, n3_mlt, n3_lem, n3_mle, n3_neg_lt, n3_nlt_neg, n3_nle_neg, n3_neg_le]
    · rw [if_neg hc] at hp ⊢
      simp (disch := omega) only [bd_X6_pairedWork_26, hp, n3_imax1, ↓lt_e, ↓gd_e, ↓Option.bind_some, ↓reduceIte, if_true, if_false, if_pT, if_nF, decide_true, Bool.not_true, Bool.not_false, not_true_eq_false, not_false_eq_true, Bool.false_eq_true, Bool.true_eq_false, eq_self, n3_lit, n3_add, n3_mul, n3_sub, n3_tn, n3_le_t, n3_le_f, n3_lt_t, n3_lt_f, n3_eq_f, n3_eq_t, n3_inb, n3_rem, n3_div, n3_zb, bb_0, bb_1, zb_bb, bb_T, bb_F, n3_dec, n3_m1, n3_eqm, n3_eqmt, n3_ltm, n3_mlt, n3_lem, n3_mle, n3_neg_lt, n3_nlt_neg, n3_nle_neg, n3_neg_le]
  · rw [show lo d + 1 + (8 - (lo d + 1)) = 8 by omega]
    simp (disch := omega) only [bd_X6_pairedWork_26, ↓lt_e, ↓gd_e, ↓Option.bind_some, ↓reduceIte, if_true, if_false, if_pT, if_nF, decide_true, Bool.not_true, Bool.not_false, not_true_eq_false, not_false_eq_true, Bool.false_eq_true, Bool.true_eq_false, eq_self, n3_lit, n3_add, n3_mul, n3_sub, n3_tn, n3_le_t, n3_le_f, n3_lt_t, n3_lt_f, n3_eq_f, n3_eq_t, n3_inb, n3_rem, n3_div, n3_zb, bb_0, bb_1, zb_bb, bb_T, bb_F, n3_dec, n3_m1, n3_eqm, n3_eqmt, n3_ltm, n3_mlt, n3_lem, n3_mle, n3_neg_lt, n3_nlt_neg, n3_nle_neg, n3_neg_le]
theorem c_findMates {N : Nat} (hN : 1099511627776 ≤ N) {Λ : Lay} {ad : Nat → Nat} {σ : Nat} {μ : Mem} {F : Nat → Nat} (hS : LyS Λ ad σ) (hC : CS ad μ σ F)  (hQ : LyQ Λ ad) (hj : Inj ad) (hw : WF F) (hσ : σ + 8 < 166) (hT : ∀ e, e < 256 → Sub e (ngA F) → μ.1 (ad 179) e = n3 (prF F e)) (hM : ∀ j, j < F 0 → μ.1 (ad 176) j = n3 4294967295) : ∃ μ', m_X6_findMates N Λ μ (ad 175) (n3 (ngA F)) (ad σ) = some μ' ∧ (∀ j, j < F 0 → μ'.1 (ad 176) j = n3 ((wkP F (F 0)).2 j)) ∧ Fr ad (fun i => i = 176) μ μ' := by
  have hb := hw.1; unfold WB at hb
  unfold m_X6_findMates lp_X6_findMates_5
  refine cw_iv (P := fun i x => ∃ μ1 : Mem, x = (n3 (wkP F i).1, n3 i, μ1) ∧ (∀ j, j < F 0 → μ1.1 (ad 176) j = n3 ((wkP F i).2 j)) ∧ Fr ad (fun i => i = 176) μ μ1) (Q := fun X => ∃ μ', X = some μ' ∧ (∀ j, j < F 0 → μ'.1 (ad 176) j = n3 ((wkP F (F 0)).2 j)) ∧ Fr ad (fun i => i = 176) μ μ') (F 0) ⟨μ, rfl, hM, Fr.refl μ⟩ (fun i hi x hx => ?_) (fun x hx => ?_) (show F 0 < N by omega)
  · obtain ⟨μ1, rfl, hM1, hf⟩ := hx
    left
    have hC1 := hC.fr hf (fun i a b => by omega)
    have hT1 : ∀ e, e < 256 → Sub e (ngA F) → μ1.1 (ad 179) e = n3 (prF F e) := fun e h1 h2 => by rw [(hf 179 (by omega)).1]; exact hT e h1 h2
    have q8 : μ1.1 (ad σ) 8 = n3 (F 0) := hC1.2.2.2.2.2.2.2.2.1
    obtain ⟨w1, w2, w3, w4⟩ := wk_inv hb.1 i (by omega)
    have hsub : Sub (wkP F i).1 (ngA F) := by
      apply Nat.eq_of_testBit_eq
      intro t
      rw [Nat.testBit_and]
      cases hq : (wkP F i).1.testBit t
      · rfl
      · rw [(w1 t hq).2]; rfl
    rw [wkP_s F i]
    by_cases hbit : (wkP F i).1.testBit i = true
    · rw [if_pos hbit]
      obtain ⟨hpos, hlo⟩ := wk_lo hb.1 hi hbit
      have hfo := fun he => fo_lt (F := F) hpos w4 he
      have hwn := wk_none hb.1 (s := i) i (by omega) hbit
      generalize hl : (wkP F i).1 = l at *
      have hx := xor_rm l w4 i (by omega) hbit
      have hr := rmv_lt (s := i) (by omega) (by omega) hbit
      have ht1 := hT1 l w4 hsub
      have ht2 := hT1 (rmv l i) (by omega) ((Sub_rmv _ _).trans hsub)
      have hsh : n3 l ^^^ ishl (n3 1) (n3 i) = n3 (rmv l i) := by rw [n3_shl (by omega), Nat.one_mul, n3_xor, hx]
      have p1 := pr_B hw w3 w4
      have p2 := pr_B hw (d := rmv l i) (by omega) (by omega)
      by_cases he : prF F (rmv l i) = prF F l
      · rw [if_pos he]
        refine ⟨_, ⟨μ1, rfl, hM1, hf⟩, fun k => ?_⟩
        rw [he] at ht2
        simp (disch := omega) only [jn_X6_findMates_65, bd_X6_findMates_5, ↓ob (hQ.1), ↓ob (hQ.2.1), ↓ob (hQ.2.2.1), ↓ob (hQ.2.2.2.1), hQ.2.2.2.2.1, hQ.2.2.2.2.2.1, hQ.2.2.2.2.2.2.1, hQ.2.2.2.2.2.2.2.1, ↓ob (hQ.2.2.2.2.2.2.2.2.1), ↓ob (hQ.2.2.2.2.2.2.2.2.2.1), ↓ob (hQ.2.2.2.2.2.2.2.2.2.2.1), hQ.2.2.2.2.2.2.2.2.2.2.2.1, hQ.2.2.2.2.2.2.2.2.2.2.2.2.1, hQ.2.2.2.2.2.2.2.2.2.2.2.2.2.1, ↓ob (hQ.2.2.2.2.2.2.2.2.2.2.2.2.2.2.1), ↓ob (hQ.2.2.2.2.2.2.2.2.2.2.2.2.2.2.2.1), ↓ob (hQ.2.2.2.2.2.2.2.2.2.2.2.2.2.2.2.2.1), ↓ob (hQ.2.2.2.2.2.2.2.2.2.2.2.2.2.2.2.2.2.1), ↓ob (hQ.2.2.2.2.2.2.2.2.2.2.2.2.2.2.2.2.2.2.1), hQ.2.2.2.2.2.2.2.2.2.2.2.2.2.2.2.2.2.2.2.1, hQ.2.2.2.2.2.2.2.2.2.2.2.2.2.2.2.2.2.2.2.2.1, hQ.2.2.2.2.2.2.2.2.2.2.2.2.2.2.2.2.2.2.2.2.2.1, hQ.2.2.2.2.2.2.2.2.2.2.2.2.2.2.2.2.2.2.2.2.2.2.1, hQ.2.2.2.2.2.2.2.2.2.2.2.2.2.2.2.2.2.2.2.2.2.2.2, q8, n3_bit, hbit, hsh, ht1, ht2, ↓lt_e, ↓gd_e, ↓Option.bind_some, ↓reduceIte, if_true, if_false, if_pT, if_nF, decide_true, Bool.not_true, Bool.not_false, not_true_eq_false, not_false_eq_true, Bool.false_eq_true, Bool.true_eq_false, eq_self, n3_lit, n3_add, n3_mul, n3_sub, n3_tn, n3_le_t, n3_le_f, n3_lt_t, n3_lt_f, n3_eq_f, n3_eq_t, n3_inb, n3_rem, n3_div, n3_zb, bb_0, bb_1, zb_bb, bb_T, bb_F, n3_dec, n3_m1, n3_eqm, n3_eqmt, n3_ltm, n3_mlt, n3_lem, n3_mle, n3_neg_lt, n3_nlt_neg, n3_nle_neg, n3_neg_le]
      · rw [if_neg he]
        obtain ⟨ho8, hov⟩ := hfo (by rw [hlo]; exact he)
        have hpc : pcd F l (foP F l) = true := by
          unfold pvb at hov
          cases hq : pcd F l (foP F l) <;> simp_all
        have hpv : pvl F l (prF F) (foP F l) = prF F l := by
          unfold pvb at hov
          rw [hpc] at hov
          simpa using hov
        have hrb : (rmv l i).testBit (foP F l) = true := by have := (pcd_f hpc).1; rw [hlo] at this; exact this
        have hoF := (ngA_f (((Sub_rmv l i).trans hsub).bit hrb)).1
        have hgt : i < foP F l := by
          rcases Nat.lt_or_ge i (foP F l) with hh | hh
          · exact hh
          · have := pcd_lo (F := F) hpos w4 (o := foP F l) (by omega)
            rw [this] at hpc; cases hpc
        have hfm : m_X6_findMate N Λ μ1 (ad 175) (n3 i) (n3 (rmv l i)) (n3 (prF F l)) (ad σ) = some (n3 (foP F l), mset (mset μ1 (ad 176) i (n3 (foP F l))) (ad 176) (foP F l) (n3 i)) := by
          unfold m_X6_findMate
          simp (disch := omega) only [↓lt_e, ↓gd_e, ↓Option.bind_some, ↓reduceIte, if_true, if_false, if_pT, if_nF, decide_true, Bool.not_true, Bool.not_false, not_true_eq_false, not_false_eq_true, Bool.false_eq_true, Bool.true_eq_false, eq_self, n3_lit, n3_add, lp_X6_findMate_5]
          refine cw_it (fun j => (n3 (i + 1 + j), μ1)) (foP F l - (i + 1)) rfl (fun j hj' k => ?_) (fun k => ?_) (by omega)
          · have hp := c_pairedWith (N := N) hS hC1 hQ hw hpos w4 hsub (o := i + 1 + j) (by omega) (fun e h1 h2 => hT1 e (by omega) h2)
            rw [hlo] at hp
            have hno := ff_no (p := pvb F l) (n := 8) (i := i + 1 + j) (by unfold foP at hj'; omega)
            have hne : (n3 (if pcd F l (i + 1 + j) = true then pvl F l (prF F) (i + 1 + j) else 4294967295) = n3 (prF F l)) = False := by
              by_cases hc : pcd F l (i + 1 + j) = true
              · rw [if_pos hc]
                have := pvl_le hw hpos w4 w3 hc
                unfold pvb at hno
                rw [hc] at hno
                refine n3_eq_f (fun e => ?_) (by omega) (by omega)
                simp [e] at hno
              · rw [if_neg hc]; exact n3_eq_f (by omega) (by omega) (by omega)
            show _ = k (n3 (i + 1 + j + 1), μ1)
            simp (disch := omega) only [bd_X6_findMate_5, q8, hp, hne, ↓ob (hQ.1), ↓ob (hQ.2.1), ↓ob (hQ.2.2.1), ↓ob (hQ.2.2.2.1), hQ.2.2.2.2.1, hQ.2.2.2.2.2.1, hQ.2.2.2.2.2.2.1, hQ.2.2.2.2.2.2.2.1, ↓ob (hQ.2.2.2.2.2.2.2.2.1), ↓ob (hQ.2.2.2.2.2.2.2.2.2.1), ↓ob (hQ.2.2.2.2.2.2.2.2.2.2.1), hQ.2.2.2.2.2.2.2.2.2.2.2.1, hQ.2.2.2.2.2.2.2.2.2.2.2.2.1, hQ.2.2.2.2.2.2.2.2.2.2.2.2.2.1, ↓ob (hQ.2.2.2.2.2.2.2.2.2.2.2.2.2.2.1), ↓ob (hQ.2.2.2.2.2.2.2.2.2.2.2.2.2.2.2.1), ↓ob (hQ.2.2.2.2.2.2.2.2.2.2.2.2.2.2.2.2.1), ↓ob (hQ.2.2.2.2.2.2.2.2.2.2.2.2.2.2.2.2.2.1), ↓ob (hQ.2.2.2.2.2.2.2.2.2.2.2.2.2.2.2.2.2.2.1), hQ.2.2.2.2.2.2.2.2.2.2.2.2.2.2.2.2.2.2.2.1, hQ.2.2.2.2.2.2.2.2.2.2.2.2.2.2.2.2.2.2.2.2.1, hQ.2.2.2.2.2.2.2.2.2.2.2.2.2.2.2.2.2.2.2.2.2.1, hQ.2.2.2.2.2.2.2.2.2.2.2.2.2.2.2.2.2.2.2.2.2.2.1, hQ.2.2.2.2.2.2.2.2.2.2.2.2.2.2.2.2.2.2.2.2.2.2.2, ↓lt_e, ↓gd_e, ↓Option.bind_some, ↓reduceIte, if_true, if_false, if_pT, if_nF, decide_true, Bool.not_true, Bool.not_false, not_true_eq_false, not_false_eq_true, Bool.false_eq_true, Bool.true_eq_false, eq_self, n3_lit, n3_le_f, n3_add]
          · have hp := c_pairedWith (N := N) hS hC1 hQ hw hpos w4 hsub (o := foP F l) ho8 (fun e h1 h2 => hT1 e (by omega) h2)
            rw [hlo, if_pos hpc, hpv] at hp
            rw [show i + 1 + (foP F l - (i + 1)) = foP F l by omega]
            simp (disch := omega) only [bd_X6_findMate_5, q8, hp, ↓ob (hQ.1), ↓ob (hQ.2.1), ↓ob (hQ.2.2.1), ↓ob (hQ.2.2.2.1), hQ.2.2.2.2.1, hQ.2.2.2.2.2.1, hQ.2.2.2.2.2.2.1, hQ.2.2.2.2.2.2.2.1, ↓ob (hQ.2.2.2.2.2.2.2.2.1), ↓ob (hQ.2.2.2.2.2.2.2.2.2.1), ↓ob (hQ.2.2.2.2.2.2.2.2.2.2.1), hQ.2.2.2.2.2.2.2.2.2.2.2.1, hQ.2.2.2.2.2.2.2.2.2.2.2.2.1, hQ.2.2.2.2.2.2.2.2.2.2.2.2.2.1, ↓ob (hQ.2.2.2.2.2.2.2.2.2.2.2.2.2.2.1), ↓ob (hQ.2.2.2.2.2.2.2.2.2.2.2.2.2.2.2.1), ↓ob (hQ.2.2.2.2.2.2.2.2.2.2.2.2.2.2.2.2.1), ↓ob (hQ.2.2.2.2.2.2.2.2.2.2.2.2.2.2.2.2.2.1), ↓ob (hQ.2.2.2.2.2.2.2.2.2.2.2.2.2.2.2.2.2.2.1), hQ.2.2.2.2.2.2.2.2.2.2.2.2.2.2.2.2.2.2.2.1, hQ.2.2.2.2.2.2.2.2.2.2.2.2.2.2.2.2.2.2.2.2.1, hQ.2.2.2.2.2.2.2.2.2.2.2.2.2.2.2.2.2.2.2.2.2.1, hQ.2.2.2.2.2.2.2.2.2.2.2.2.2.2.2.2.2.2.2.2.2.2.1, hQ.2.2.2.2.2.2.2.2.2.2.2.2.2.2.2.2.2.2.2.2.2.2.2, ↓lt_e, ↓gd_e, ↓Option.bind_some, ↓reduceIte, if_true, if_false, if_pT, if_nF, decide_true, Bool.not_true, Bool.not_false, not_true_eq_false, not_false_eq_true, Bool.false_eq_true, Bool.true_eq_false, eq_self, n3_lit, n3_add, n3_mul, n3_sub, n3_tn, n3_le_t, n3_le_f, n3_lt_t, n3_lt_f, n3_eq_f, n3_eq_t, n3_inb, n3_rem, n3_div, n3_zb, bb_0, bb_1, zb_bb, bb_T, bb_F, n3_dec, n3_m1, n3_eqm, n3_eqmt, n3_ltm, n3_mlt, n3_lem, n3_mle, n3_neg_lt, n3_nlt_neg, n3_nle_neg, n3_neg_le]
        have hx2 := xor_rm (rmv l i) (by omega) (foP F l) ho8 hrb
        have hsh2 : n3 (rmv l i) ^^^ ishl (n3 1) (n3 (foP F l)) = n3 (rmv (rmv l i) (foP F l)) := by rw [n3_shl (by omega), Nat.one_mul, n3_xor, hx2]
        refine ⟨_, ⟨mset (mset μ1 (ad 176) i (n3 (foP F l))) (ad 176) (foP F l) (n3 i), rfl, fun j hjF => ?_, (hf.set hj (by rfl)).set hj (by rfl)⟩, fun k => ?_⟩
        · show (mset (mset μ1 (ad 176) i (n3 (foP F l))) (ad 176) (foP F l) (n3 i)).1 (ad 176) j = n3 (up (up _ i (foP F l)) (foP F l) i j)
          by_cases e1 : j = foP F l
          · rw [e1, mse, up_e]
          · rw [msn e1, up_n e1]
            by_cases e2 : j = i
            · rw [e2, mse, up_e]
            · rw [msn e2, up_n e2]; exact hM1 j hjF
        · simp (disch := omega) only [jn_X6_findMates_65, bd_X6_findMates_5, ↓ob (hQ.1), ↓ob (hQ.2.1), ↓ob (hQ.2.2.1), ↓ob (hQ.2.2.2.1), hQ.2.2.2.2.1, hQ.2.2.2.2.2.1, hQ.2.2.2.2.2.2.1, hQ.2.2.2.2.2.2.2.1, ↓ob (hQ.2.2.2.2.2.2.2.2.1), ↓ob (hQ.2.2.2.2.2.2.2.2.2.1), ↓ob (hQ.2.2.2.2.2.2.2.2.2.2.1), hQ.2.2.2.2.2.2.2.2.2.2.2.1, hQ.2.2.2.2.2.2.2.2.2.2.2.2.1, hQ.2.2.2.2.2.2.2.2.2.2.2.2.2.1, ↓ob (hQ.2.2.2.2.2.2.2.2.2.2.2.2.2.2.1), ↓ob (hQ.2.2.2.2.2.2.2.2.2.2.2.2.2.2.2.1), ↓ob (hQ.2.2.2.2.2.2.2.2.2.2.2.2.2.2.2.2.1), ↓ob (hQ.2.2.2.2.2.2.2.2.2.2.2.2.2.2.2.2.2.1), ↓ob (hQ.2.2.2.2.2.2.2.2.2.2.2.2.2.2.2.2.2.2.1), hQ.2.2.2.2.2.2.2.2.2.2.2.2.2.2.2.2.2.2.2.1, hQ.2.2.2.2.2.2.2.2.2.2.2.2.2.2.2.2.2.2.2.2.1, hQ.2.2.2.2.2.2.2.2.2.2.2.2.2.2.2.2.2.2.2.2.2.1, hQ.2.2.2.2.2.2.2.2.2.2.2.2.2.2.2.2.2.2.2.2.2.2.1, hQ.2.2.2.2.2.2.2.2.2.2.2.2.2.2.2.2.2.2.2.2.2.2.2, q8, n3_bit, hbit, hsh, ht1, ht2, hfm, hsh2, ↓lt_e, ↓gd_e, ↓Option.bind_some, ↓reduceIte, if_true, if_false, if_pT, if_nF, decide_true, Bool.not_true, Bool.not_false, not_true_eq_false, not_false_eq_true, Bool.false_eq_true, Bool.true_eq_false, eq_self, n3_lit, n3_add, n3_mul, n3_sub, n3_tn, n3_le_t, n3_le_f, n3_lt_t, n3_lt_f, n3_eq_f, n3_eq_t, n3_inb, n3_rem, n3_div, n3_zb, bb_0, bb_1, zb_bb, bb_T, bb_F, n3_dec, n3_m1, n3_eqm, n3_eqmt, n3_ltm, n3_mlt, n3_lem, n3_mle, n3_neg_lt, n3_nlt_neg, n3_nle_neg, n3_neg_le]
    · rw [if_neg hbit]
      refine ⟨_, ⟨μ1, rfl, hM1, hf⟩, fun k => ?_⟩
      simp (disch := omega) only [jn_X6_findMates_65, bd_X6_findMates_5, ↓ob (hQ.1), ↓ob (hQ.2.1), ↓ob (hQ.2.2.1), ↓ob (hQ.2.2.2.1), hQ.2.2.2.2.1, hQ.2.2.2.2.2.1, hQ.2.2.2.2.2.2.1, hQ.2.2.2.2.2.2.2.1, ↓ob (hQ.2.2.2.2.2.2.2.2.1), ↓ob (hQ.2.2.2.2.2.2.2.2.2.1), ↓ob (hQ.2.2.2.2.2.2.2.2.2.2.1), hQ.2.2.2.2.2.2.2.2.2.2.2.1, hQ.2.2.2.2.2.2.2.2.2.2.2.2.1, hQ.2.2.2.2.2.2.2.2.2.2.2.2.2.1, ↓ob (hQ.2.2.2.2.2.2.2.2.2.2.2.2.2.2.1), ↓ob (hQ.2.2.2.2.2.2.2.2.2.2.2.2.2.2.2.1), ↓ob (hQ.2.2.2.2.2.2.2.2.2.2.2.2.2.2.2.2.1), ↓ob (hQ.2.2.2.2.2.2.2.2.2.2.2.2.2.2.2.2.2.1), ↓ob (hQ.2.2.2.2.2.2.2.2.2.2.2.2.2.2.2.2.2.2.1), hQ.2.2.2.2.2.2.2.2.2.2.2.2.2.2.2.2.2.2.2.1, hQ.2.2.2.2.2.2.2.2.2.2.2.2.2.2.2.2.2.2.2.2.1, hQ.2.2.2.2.2.2.2.2.2.2.2.2.2.2.2.2.2.2.2.2.2.1, hQ.2.2.2.2.2.2.2.2.2.2.2.2.2.2.2.2.2.2.2.2.2.2.1, hQ.2.2.2.2.2.2.2.2.2.2.2.2.2.2.2.2.2.2.2.2.2.2.2, q8, n3_bit, hbit, ↓lt_e, ↓gd_e, ↓Option.bind_some, ↓reduceIte, if_true, if_false, if_pT, if_nF, decide_true, Bool.not_true, Bool.not_false, not_true_eq_false, not_false_eq_true, Bool.false_eq_true, Bool.true_eq_false, eq_self, n3_lit, n3_add, n3_mul, n3_sub, n3_tn, n3_le_t, n3_le_f, n3_lt_t, n3_lt_f, n3_eq_f, n3_eq_t, n3_inb, n3_rem, n3_div, n3_zb, bb_0, bb_1, zb_bb, bb_T, bb_F, n3_dec, n3_m1, n3_eqm, n3_eqmt, n3_ltm, n3_mlt, n3_lem, n3_mle, n3_neg_lt, n3_nlt_neg, n3_nle_neg, n3_neg_le]
  · obtain ⟨μ1, rfl, hM1, hf⟩ := hx
    have hC1 := hC.fr hf (fun i a b => by omega)
    have q8 : μ1.1 (ad σ) 8 = n3 (F 0) := hC1.2.2.2.2.2.2.2.2.1
    exact ⟨_, ⟨μ1, rfl, hM1, hf⟩, fun k => by simp (disch := omega) only [jn_X6_findMates_65, bd_X6_findMates_5, ↓ob (hQ.1), ↓ob (hQ.2.1), ↓ob (hQ.2.2.1), ↓ob (hQ.2.2.2.1), hQ.2.2.2.2.1, hQ.2.2.2.2.2.1, hQ.2.2.2.2.2.2.1, hQ.2.2.2.2.2.2.2.1, ↓ob (hQ.2.2.2.2.2.2.2.2.1), ↓ob (hQ.2.2.2.2.2.2.2.2.2.1), ↓ob (hQ.2.2.2.2.2.2.2.2.2.2.1), hQ.2.2.2.2.2.2.2.2.2.2.2.1, hQ.2.2.2.2.2.2.2.2.2.2.2.2.1, hQ.2.2.2.2.2.2.2.2.2.2.2.2.2.1, ↓ob (hQ.2.2.2.2.2.2.2.2.2.2.2.2.2.2.1), ↓ob (hQ.2.2.2.2.2.2.2.2.2.2.2.2.2.2.2.1), ↓ob (hQ.2.2.2.2.2.2.2.2.2.2.2.2.2.2.2.2.1), ↓ob (hQ.2.2.2.2.2.2.2.2.2.2.2.2.2.2.2.2.2.1), ↓ob (hQ.2.2.2.2.2.2.2.2.2.2.2.2.2.2.2.2.2.2.1), hQ.2.2.2.2.2.2.2.2.2.2.2.2.2.2.2.2.2.2.2.1, hQ.2.2.2.2.2.2.2.2.2.2.2.2.2.2.2.2.2.2.2.2.1, hQ.2.2.2.2.2.2.2.2.2.2.2.2.2.2.2.2.2.2.2.2.2.1, hQ.2.2.2.2.2.2.2.2.2.2.2.2.2.2.2.2.2.2.2.2.2.2.1, hQ.2.2.2.2.2.2.2.2.2.2.2.2.2.2.2.2.2.2.2.2.2.2.2, q8, ↓lt_e, ↓gd_e, ↓Option.bind_some, ↓reduceIte, if_true, if_false, if_pT, if_nF, decide_true, Bool.not_true, Bool.not_false, not_true_eq_false, not_false_eq_true, Bool.false_eq_true, Bool.true_eq_false, eq_self, n3_lit, n3_add, n3_mul, n3_sub, n3_tn, n3_le_t, n3_le_f, n3_lt_t, n3_lt_f, n3_eq_f, n3_eq_t, n3_inb, n3_rem, n3_div, n3_zb, bb_0, bb_1, zb_bb, bb_T, bb_F, n3_dec, n3_m1, n3_eqm, n3_eqmt, n3_ltm, n3_mlt, n3_lem, n3_mle, n3_neg_lt, n3_nlt_neg, n3_nle_neg, n3_neg_le]⟩
theorem c_pairShips {N : Nat} (hN : 1099511627776 ≤ N) {Λ : Lay} {ad : Nat → Nat} {σ : Nat} {μ : Mem} {F : Nat → Nat} (hS : LyS Λ ad σ) (hC : CS ad μ σ F)  (hQ : LyQ Λ ad) (hj : Inj ad) (hw : WF F) (hσ : σ + 8 < 166) : ∃ μ', m_X6_pairShips N Λ μ (ad 175) (ad σ) = some μ' ∧ μ'.1 (ad 175) 0 = n3 (prF F (ngA F)) ∧ (∀ j, j < F 0 → μ'.1 (ad 176) j = n3 ((wkP F (F 0)).2 j)) ∧ Fr ad (fun i => i = 175 ∨ i = 176 ∨ i = 179) μ μ' := by
  have hb := hw.1; unfold WB at hb
  have hnF : ngA F < 2 ^ F 0 := sb_lt _ _
  have hn8 : ngA F < 256 := InS.lt (F := F) hnF hb.1
  unfold m_X6_pairShips lp_X6_pairShips_4
  refine cw_ik (P := fun i x => ∃ μ1 : Mem, x = (n3 (sb (nog F) i), n3 i, μ1) ∧ (∀ j, j < i → μ1.1 (ad 176) j = n3 4294967295) ∧ Fr ad (fun i => i = 176) μ μ1) (Q := fun X => ∃ μ', X = some μ' ∧ μ'.1 (ad 175) 0 = n3 (prF F (ngA F)) ∧ (∀ j, j < F 0 → μ'.1 (ad 176) j = n3 ((wkP F (F 0)).2 j)) ∧ Fr ad (fun i => i = 175 ∨ i = 176 ∨ i = 179) μ μ') (F 0) ⟨μ, rfl, fun j hj => absurd hj (Nat.not_lt_zero j), Fr.refl μ⟩ (fun i hi x hx k => ?_) (fun x hx k => ?_) (show F 0 < N by omega)
  · obtain ⟨μ1, rfl, hM1, hf⟩ := hx
    left
    have hC1 := hC.fr hf (fun i a b => by omega)
    have q8 : μ1.1 (ad σ) 8 = n3 (F 0) := hC1.2.2.2.2.2.2.2.2.1
    have q3 : μ1.1 (ad (σ + 5)) i = n3 (F (25 + 6 * i + 3)) := hC1.2.2.2.2.2.2.2.2.2.2.2.2.2.2.2.1 i hi
    have hso := hw.2.2.1 i hi
    unfold ShOk at hso
    refine ⟨_, ⟨mset μ1 (ad 176) i (n3 4294967295), rfl, fun j hji => ?_, hf.set hj (by rfl)⟩, ?_⟩
    · by_cases e : j = i
      · rw [e, mse]
      · rw [msn e]; exact hM1 j (by omega)
    · by_cases hg : F (25 + 6 * i + 3) = 2
      · have e : nog F i = false := by simp [nog, hg]
        simp (disch := omega) only [bd_X6_pairShips_4, jn_X6_pairShips_30, ↓ob (hS.1), ↓ob (hS.2.1), ↓ob (hS.2.2.1), ↓ob (hS.2.2.2.1), ↓ob (hS.2.2.2.2.1), ↓ob (hS.2.2.2.2.2.1), ↓ob (hS.2.2.2.2.2.2.1), ↓ob (hS.2.2.2.2.2.2.2.1), hS.2.2.2.2.2.2.2.2.1, hS.2.2.2.2.2.2.2.2.2.1, hS.2.2.2.2.2.2.2.2.2.2.1, hS.2.2.2.2.2.2.2.2.2.2.2.1, hS.2.2.2.2.2.2.2.2.2.2.2.2.1, hS.2.2.2.2.2.2.2.2.2.2.2.2.2.1, hS.2.2.2.2.2.2.2.2.2.2.2.2.2.2, ↓ob (hQ.1), ↓ob (hQ.2.1), ↓ob (hQ.2.2.1), ↓ob (hQ.2.2.2.1), hQ.2.2.2.2.1, hQ.2.2.2.2.2.1, hQ.2.2.2.2.2.2.1, hQ.2.2.2.2.2.2.2.1, ↓ob (hQ.2.2.2.2.2.2.2.2.1), ↓ob (hQ.2.2.2.2.2.2.2.2.2.1), ↓ob (hQ.2.2.2.2.2.2.2.2.2.2.1), hQ.2.2.2.2.2.2.2.2.2.2.2.1, hQ.2.2.2.2.2.2.2.2.2.2.2.2.1, hQ.2.2.2.2.2.2.2.2.2.2.2.2.2.1, ↓ob (hQ.2.2.2.2.2.2.2.2.2.2.2.2.2.2.1), ↓ob (hQ.2.2.2.2.2.2.2.2.2.2.2.2.2.2.2.1), ↓ob (hQ.2.2.2.2.2.2.2.2.2.2.2.2.2.2.2.2.1), ↓ob (hQ.2.2.2.2.2.2.2.2.2.2.2.2.2.2.2.2.2.1), ↓ob (hQ.2.2.2.2.2.2.2.2.2.2.2.2.2.2.2.2.2.2.1), hQ.2.2.2.2.2.2.2.2.2.2.2.2.2.2.2.2.2.2.2.1, hQ.2.2.2.2.2.2.2.2.2.2.2.2.2.2.2.2.2.2.2.2.1, hQ.2.2.2.2.2.2.2.2.2.2.2.2.2.2.2.2.2.2.2.2.2.1, hQ.2.2.2.2.2.2.2.2.2.2.2.2.2.2.2.2.2.2.2.2.2.2.1, hQ.2.2.2.2.2.2.2.2.2.2.2.2.2.2.2.2.2.2.2.2.2.2.2, q8, q3, hg, sb_s, e, n3_or, n3_neg1, ↓lt_e, ↓gd_e, ↓Option.bind_some, ↓reduceIte, if_true, if_false, if_pT, if_nF, decide_true, Bool.not_true, Bool.not_false, not_true_eq_false, not_false_eq_true, Bool.false_eq_true, Bool.true_eq_false, eq_self, n3_lit, n3_add, n3_mul, n3_sub, n3_tn, n3_le_t, n3_le_f, n3_lt_t, n3_lt_f, n3_eq_f, n3_eq_t, n3_inb, n3_rem, n3_div, n3_zb, bb_0, bb_1, zb_bb, bb_T, bb_F, n3_dec, n3_m1, n3_eqm, n3_eqmt, n3_ltm, n3_mlt, n3_lem, n3_mle, n3_neg_lt, n3_nlt_neg, n3_nle_neg, n3_neg_le]
      · have e : nog F i = true := by simp [nog, hg]
        simp (disch := omega) only [bd_X6_pairShips_4, jn_X6_pairShips_30, ↓ob (hS.1), ↓ob (hS.2.1), ↓ob (hS.2.2.1), ↓ob (hS.2.2.2.1), ↓ob (hS.2.2.2.2.1), ↓ob (hS.2.2.2.2.2.1), ↓ob (hS.2.2.2.2.2.2.1), ↓ob (hS.2.2.2.2.2.2.2.1), hS.2.2.2.2.2.2.2.2.1, hS.2.2.2.2.2.2.2.2.2.1, hS.2.2.2.2.2.2.2.2.2.2.1, hS.2.2.2.2.2.2.2.2.2.2.2.1, hS.2.2.2.2.2.2.2.2.2.2.2.2.1, hS.2.2.2.2.2.2.2.2.2.2.2.2.2.1, hS.2.2.2.2.2.2.2.2.2.2.2.2.2.2, ↓ob (hQ.1), ↓ob (hQ.2.1), ↓ob (hQ.2.2.1), ↓ob (hQ.2.2.2.1), hQ.2.2.2.2.1, hQ.2.2.2.2.2.1, hQ.2.2.2.2.2.2.1, hQ.2.2.2.2.2.2.2.1, ↓ob (hQ.2.2.2.2.2.2.2.2.1), ↓ob (hQ.2.2.2.2.2.2.2.2.2.1), ↓ob (hQ.2.2.2.2.2.2.2.2.2.2.1), hQ.2.2.2.2.2.2.2.2.2.2.2.1, hQ.2.2.2.2.2.2.2.2.2.2.2.2.1, hQ.2.2.2.2.2.2.2.2.2.2.2.2.2.1, ↓ob (hQ.2.2.2.2.2.2.2.2.2.2.2.2.2.2.1), ↓ob (hQ.2.2.2.2.2.2.2.2.2.2.2.2.2.2.2.1), ↓ob (hQ.2.2.2.2.2.2.2.2.2.2.2.2.2.2.2.2.1), ↓ob (hQ.2.2.2.2.2.2.2.2.2.2.2.2.2.2.2.2.2.1), ↓ob (hQ.2.2.2.2.2.2.2.2.2.2.2.2.2.2.2.2.2.2.1), hQ.2.2.2.2.2.2.2.2.2.2.2.2.2.2.2.2.2.2.2.1, hQ.2.2.2.2.2.2.2.2.2.2.2.2.2.2.2.2.2.2.2.2.1, hQ.2.2.2.2.2.2.2.2.2.2.2.2.2.2.2.2.2.2.2.2.2.1, hQ.2.2.2.2.2.2.2.2.2.2.2.2.2.2.2.2.2.2.2.2.2.2.1, hQ.2.2.2.2.2.2.2.2.2.2.2.2.2.2.2.2.2.2.2.2.2.2.2, q8, q3, hg, sb_s, e, n3_shl, Nat.one_mul, n3_or, n3_neg1, ↓lt_e, ↓gd_e, ↓Option.bind_some, ↓reduceIte, if_true, if_false, if_pT, if_nF, decide_true, Bool.not_true, Bool.not_false, not_true_eq_false, not_false_eq_true, Bool.false_eq_true, Bool.true_eq_false, eq_self, n3_lit, n3_add, n3_mul, n3_sub, n3_tn, n3_le_t, n3_le_f, n3_lt_t, n3_lt_f, n3_eq_f, n3_eq_t, n3_inb, n3_rem, n3_div, n3_zb, bb_0, bb_1, zb_bb, bb_T, bb_F, n3_dec, n3_m1, n3_eqm, n3_eqmt, n3_ltm, n3_mlt, n3_lem, n3_mle, n3_neg_lt, n3_nlt_neg, n3_nle_neg, n3_neg_le]
  · obtain ⟨μ1, rfl, hM1, hf⟩ := hx
    have hC1 := hC.fr hf (fun i a b => by omega)
    have q8 : μ1.1 (ad σ) 8 = n3 (F 0) := hC1.2.2.2.2.2.2.2.2.1
    show ∃ μ', bd_X6_pairShips_4 N Λ μ1 k (ad 175) (ad σ) (n3 (ngA F)) (n3 (F 0)) = some μ' ∧ μ'.1 (ad 175) 0 = n3 (prF F (ngA F)) ∧ (∀ j, j < F 0 → μ'.1 (ad 176) j = n3 ((wkP F (F 0)).2 j)) ∧ Fr ad (fun i => i = 175 ∨ i = 176 ∨ i = 179) μ μ'
    have est : bd_X6_pairShips_4 N Λ μ1 k (ad 175) (ad σ) (n3 (ngA F)) (n3 (F 0)) = lp_X6_pairShips_54 N Λ (ad 175) (ad σ) (n3 (ngA F)) (n3 1, mset μ1 (ad 179) 0 (n3 0)) := by
      simp (disch := omega) only [bd_X6_pairShips_4, ↓ob (hS.1), ↓ob (hS.2.1), ↓ob (hS.2.2.1), ↓ob (hS.2.2.2.1), ↓ob (hS.2.2.2.2.1), ↓ob (hS.2.2.2.2.2.1), ↓ob (hS.2.2.2.2.2.2.1), ↓ob (hS.2.2.2.2.2.2.2.1), hS.2.2.2.2.2.2.2.2.1, hS.2.2.2.2.2.2.2.2.2.1, hS.2.2.2.2.2.2.2.2.2.2.1, hS.2.2.2.2.2.2.2.2.2.2.2.1, hS.2.2.2.2.2.2.2.2.2.2.2.2.1, hS.2.2.2.2.2.2.2.2.2.2.2.2.2.1, hS.2.2.2.2.2.2.2.2.2.2.2.2.2.2, ↓ob (hQ.1), ↓ob (hQ.2.1), ↓ob (hQ.2.2.1), ↓ob (hQ.2.2.2.1), hQ.2.2.2.2.1, hQ.2.2.2.2.2.1, hQ.2.2.2.2.2.2.1, hQ.2.2.2.2.2.2.2.1, ↓ob (hQ.2.2.2.2.2.2.2.2.1), ↓ob (hQ.2.2.2.2.2.2.2.2.2.1), ↓ob (hQ.2.2.2.2.2.2.2.2.2.2.1), hQ.2.2.2.2.2.2.2.2.2.2.2.1, hQ.2.2.2.2.2.2.2.2.2.2.2.2.1, hQ.2.2.2.2.2.2.2.2.2.2.2.2.2.1, ↓ob (hQ.2.2.2.2.2.2.2.2.2.2.2.2.2.2.1), ↓ob (hQ.2.2.2.2.2.2.2.2.2.2.2.2.2.2.2.1), ↓ob (hQ.2.2.2.2.2.2.2.2.2.2.2.2.2.2.2.2.1), ↓ob (hQ.2.2.2.2.2.2.2.2.2.2.2.2.2.2.2.2.2.1), ↓ob (hQ.2.2.2.2.2.2.2.2.2.2.2.2.2.2.2.2.2.2.1), hQ.2.2.2.2.2.2.2.2.2.2.2.2.2.2.2.2.2.2.2.1, hQ.2.2.2.2.2.2.2.2.2.2.2.2.2.2.2.2.2.2.2.2.1, hQ.2.2.2.2.2.2.2.2.2.2.2.2.2.2.2.2.2.2.2.2.2.1, hQ.2.2.2.2.2.2.2.2.2.2.2.2.2.2.2.2.2.2.2.2.2.2.1, hQ.2.2.2.2.2.2.2.2.2.2.2.2.2.2.2.2.2.2.2.2.2.2.2, q8, ↓lt_e, ↓gd_e, ↓Option.bind_some, ↓reduceIte, if_true, if_false, if_pT, if_nF, decide_true, Bool.not_true, Bool.not_false, not_true_eq_false, not_false_eq_true, Bool.false_eq_true, Bool.true_eq_false, eq_self, n3_lit, n3_add, n3_mul, n3_sub, n3_tn, n3_le_t, n3_le_f, n3_lt_t, n3_lt_f, n3_eq_f, n3_eq_t, n3_inb, n3_rem, n3_div, n3_zb, bb_0, bb_1, zb_bb, bb_T, bb_F, n3_dec, n3_m1, n3_eqm, n3_eqmt, n3_ltm, n3_mlt, n3_lem, n3_mle, n3_neg_lt, n3_nlt_neg, n3_nle_neg, n3_neg_le]
    rw [est]
    unfold lp_X6_pairShips_54
    refine cw_iv (P := fun i x => ∃ μ2 : Mem, x = (n3 (i + 1), μ2) ∧ (∀ e, e < i + 1 → Sub e (ngA F) → μ2.1 (ad 179) e = n3 (prF F e)) ∧ Fr ad (fun i => i = 179) μ1 μ2) (Q := fun X => ∃ μ', X = some μ' ∧ μ'.1 (ad 175) 0 = n3 (prF F (ngA F)) ∧ (∀ j, j < F 0 → μ'.1 (ad 176) j = n3 ((wkP F (F 0)).2 j)) ∧ Fr ad (fun i => i = 175 ∨ i = 176 ∨ i = 179) μ μ') (ngA F) ⟨_, rfl, fun e h1 h2 => by rw [show e = 0 by omega, mse, pr_0], (Fr.refl μ1).set hj (by rfl)⟩ (fun i hi x hx => ?_) (fun x hx => ?_) (show ngA F < N by omega)
    · obtain ⟨μ2, rfl, hT2, hf2⟩ := hx
      left
      have hC2 := hC1.fr hf2 (fun i a b => by omega)
      by_cases hsub : Sub (i + 1) (ngA F)
      · have hz : (n3 (i + 1) &&& (n3 (ngA F) ^^^ -n3 1) = n3 0) = True := by rw [n3_sub0 (by omega)]; exact eq_true hsub
        have hpw := c_pairedWork hN hS hC2 hQ hw (d := i + 1) (by omega) (by omega) hsub hT2
        refine ⟨_, ⟨mset μ2 (ad 179) (i + 1) (n3 (prF F (i + 1))), rfl, fun e h1 h2 => ?_, hf2.set hj (by rfl)⟩, fun k => ?_⟩
        · by_cases ee : e = i + 1
          · rw [ee, mse]
          · rw [msn ee]; exact hT2 e (by omega) h2
        · simp (disch := omega) only [bd_X6_pairShips_54, jn_X6_pairShips_79, ↓ob (hQ.1), ↓ob (hQ.2.1), ↓ob (hQ.2.2.1), ↓ob (hQ.2.2.2.1), hQ.2.2.2.2.1, hQ.2.2.2.2.2.1, hQ.2.2.2.2.2.2.1, hQ.2.2.2.2.2.2.2.1, ↓ob (hQ.2.2.2.2.2.2.2.2.1), ↓ob (hQ.2.2.2.2.2.2.2.2.2.1), ↓ob (hQ.2.2.2.2.2.2.2.2.2.2.1), hQ.2.2.2.2.2.2.2.2.2.2.2.1, hQ.2.2.2.2.2.2.2.2.2.2.2.2.1, hQ.2.2.2.2.2.2.2.2.2.2.2.2.2.1, ↓ob (hQ.2.2.2.2.2.2.2.2.2.2.2.2.2.2.1), ↓ob (hQ.2.2.2.2.2.2.2.2.2.2.2.2.2.2.2.1), ↓ob (hQ.2.2.2.2.2.2.2.2.2.2.2.2.2.2.2.2.1), ↓ob (hQ.2.2.2.2.2.2.2.2.2.2.2.2.2.2.2.2.2.1), ↓ob (hQ.2.2.2.2.2.2.2.2.2.2.2.2.2.2.2.2.2.2.1), hQ.2.2.2.2.2.2.2.2.2.2.2.2.2.2.2.2.2.2.2.1, hQ.2.2.2.2.2.2.2.2.2.2.2.2.2.2.2.2.2.2.2.2.1, hQ.2.2.2.2.2.2.2.2.2.2.2.2.2.2.2.2.2.2.2.2.2.1, hQ.2.2.2.2.2.2.2.2.2.2.2.2.2.2.2.2.2.2.2.2.2.2.1, hQ.2.2.2.2.2.2.2.2.2.2.2.2.2.2.2.2.2.2.2.2.2.2.2, hz, hpw, ↓lt_e, ↓gd_e, ↓Option.bind_some, ↓reduceIte, if_true, if_false, if_pT, if_nF, decide_true, Bool.not_true, Bool.not_false, not_true_eq_false, not_false_eq_true, Bool.false_eq_true, Bool.true_eq_false, eq_self, n3_lit, n3_lt_f, n3_inb, n3_tn, n3_add]
      · have hz : (n3 (i + 1) &&& (n3 (ngA F) ^^^ -n3 1) = n3 0) = False := by rw [n3_sub0 (by omega)]; exact eq_false hsub
        refine ⟨_, ⟨μ2, rfl, fun e h1 h2 => ?_, hf2⟩, fun k => ?_⟩
        · by_cases ee : e = i + 1
          · rw [ee] at h2; exact absurd h2 hsub
          · exact hT2 e (by omega) h2
        · simp (disch := omega) only [bd_X6_pairShips_54, jn_X6_pairShips_79, ↓ob (hQ.1), ↓ob (hQ.2.1), ↓ob (hQ.2.2.1), ↓ob (hQ.2.2.2.1), hQ.2.2.2.2.1, hQ.2.2.2.2.2.1, hQ.2.2.2.2.2.2.1, hQ.2.2.2.2.2.2.2.1, ↓ob (hQ.2.2.2.2.2.2.2.2.1), ↓ob (hQ.2.2.2.2.2.2.2.2.2.1), ↓ob (hQ.2.2.2.2.2.2.2.2.2.2.1), hQ.2.2.2.2.2.2.2.2.2.2.2.1, hQ.2.2.2.2.2.2.2.2.2.2.2.2.1, hQ.2.2.2.2.2.2.2.2.2.2.2.2.2.1, ↓ob (hQ.2.2.2.2.2.2.2.2.2.2.2.2.2.2.1), ↓ob (hQ.2.2.2.2.2.2.2.2.2.2.2.2.2.2.2.1), ↓ob (hQ.2.2.2.2.2.2.2.2.2.2.2.2.2.2.2.2.1), ↓ob (hQ.2.2.2.2.2.2.2.2.2.2.2.2.2.2.2.2.2.1), ↓ob (hQ.2.2.2.2.2.2.2.2.2.2.2.2.2.2.2.2.2.2.1), hQ.2.2.2.2.2.2.2.2.2.2.2.2.2.2.2.2.2.2.2.1, hQ.2.2.2.2.2.2.2.2.2.2.2.2.2.2.2.2.2.2.2.2.1, hQ.2.2.2.2.2.2.2.2.2.2.2.2.2.2.2.2.2.2.2.2.2.1, hQ.2.2.2.2.2.2.2.2.2.2.2.2.2.2.2.2.2.2.2.2.2.2.1, hQ.2.2.2.2.2.2.2.2.2.2.2.2.2.2.2.2.2.2.2.2.2.2.2, hz, ↓lt_e, ↓gd_e, ↓Option.bind_some, ↓reduceIte, if_true, if_false, if_pT, if_nF, decide_true, Bool.not_true, Bool.not_false, not_true_eq_false, not_false_eq_true, Bool.false_eq_true, Bool.true_eq_false, eq_self, n3_lit, n3_lt_f, n3_add]
    · obtain ⟨μ2, rfl, hT2, hf2⟩ := hx
      have ht := hT2 (ngA F) (by omega) (Sub.refl _)
      have f3 : Fr ad (fun i => i = 175) μ2 (mset μ2 (ad 175) 0 (n3 (prF F (ngA F)))) := (Fr.refl μ2).set hj (by rfl)
      have hC3 := (hC1.fr hf2 (fun i a b => by omega)).fr f3 (fun i a b => by omega)
      obtain ⟨μ4, e4, hM4, f4⟩ := c_findMates hN hS hC3 hQ hj hw hσ (fun e h1 h2 => by rw [(f3 179 (by omega)).1]; exact hT2 e (by have := h2.le; omega) h2) (fun j hjF => by rw [(f3 176 (by omega)).1, (hf2 176 (by omega)).1]; exact hM1 j hjF)
      refine ⟨_, ⟨μ4, rfl, by rw [(f4 175 (by omega)).1, mse], hM4, (hf.mono (fun i hi => by omega)).trans ((hf2.mono (fun i hi => by omega)).trans ((f3.mono (fun i hi => by omega)).trans (f4.mono (fun i hi => by omega))))⟩, fun k => ?_⟩
      simp (disch := omega) only [bd_X6_pairShips_54, ↓ob (hQ.1), ↓ob (hQ.2.1), ↓ob (hQ.2.2.1), ↓ob (hQ.2.2.2.1), hQ.2.2.2.2.1, hQ.2.2.2.2.2.1, hQ.2.2.2.2.2.2.1, hQ.2.2.2.2.2.2.2.1, ↓ob (hQ.2.2.2.2.2.2.2.2.1), ↓ob (hQ.2.2.2.2.2.2.2.2.2.1), ↓ob (hQ.2.2.2.2.2.2.2.2.2.2.1), hQ.2.2.2.2.2.2.2.2.2.2.2.1, hQ.2.2.2.2.2.2.2.2.2.2.2.2.1, hQ.2.2.2.2.2.2.2.2.2.2.2.2.2.1, ↓ob (hQ.2.2.2.2.2.2.2.2.2.2.2.2.2.2.1), ↓ob (hQ.2.2.2.2.2.2.2.2.2.2.2.2.2.2.2.1), ↓ob (hQ.2.2.2.2.2.2.2.2.2.2.2.2.2.2.2.2.1), ↓ob (hQ.2.2.2.2.2.2.2.2.2.2.2.2.2.2.2.2.2.1), ↓ob (hQ.2.2.2.2.2.2.2.2.2.2.2.2.2.2.2.2.2.2.1), hQ.2.2.2.2.2.2.2.2.2.2.2.2.2.2.2.2.2.2.2.1, hQ.2.2.2.2.2.2.2.2.2.2.2.2.2.2.2.2.2.2.2.2.1, hQ.2.2.2.2.2.2.2.2.2.2.2.2.2.2.2.2.2.2.2.2.2.1, hQ.2.2.2.2.2.2.2.2.2.2.2.2.2.2.2.2.2.2.2.2.2.2.1, hQ.2.2.2.2.2.2.2.2.2.2.2.2.2.2.2.2.2.2.2.2.2.2.2, ht, e4, ↓lt_e, ↓gd_e, ↓Option.bind_some, ↓reduceIte, if_true, if_false, if_pT, if_nF, decide_true, Bool.not_true, Bool.not_false, not_true_eq_false, not_false_eq_true, Bool.false_eq_true, Bool.true_eq_false, eq_self, n3_lit, n3_add, n3_mul, n3_sub, n3_tn, n3_le_t, n3_le_f, n3_lt_t, n3_lt_f, n3_eq_f, n3_eq_t, n3_inb, n3_rem, n3_div, n3_zb, bb_0, bb_1, zb_bb, bb_T, bb_F, n3_dec, n3_m1, n3_eqm, n3_eqmt, n3_ltm, n3_mlt, n3_lem, n3_mle, n3_neg_lt, n3_nlt_neg, n3_nle_neg, n3_neg_le]
theorem C_pairs_f {N : Nat} (hN : 1099511627776 ≤ N) {Λ : Lay} {ad : Nat → Nat} {μ : Mem} {F : Nat → Nat} {m : Nat} {A : Nat → Nat → Nat} {b : Nat} {J : Nat → Nat} {T : Nat → Int32} {n : Nat} {f : Int32} (hY : Ly Λ ad) (h : RC ad μ F m A b J T n f) (ho : Ok F m A b J T n)  (x : Int32) (hx : inr x (F 0) = false) (hm : ¬ x = n3 4294967295) : CT ad μ (m_X11_pairs N Λ μ (ad 0) x) 3 0 F m A b J T n f := by
  have hj := hY.1
  have hP := hY.2.2.1
  have hS := hY.2.2.2.1 3 (Or.inl rfl)
  have hL := hY.2.2.2.2.1 30 (Or.inl rfl)
  have hC := h.1
  have hw := ho.1
  have hl := ho.2.1
  have hb := hw.1; unfold WB at hb
  refine CT.same h ?_
  unfold m_X11_pairs
  rw [m1_n3, if_neg hm, c_need1 hP hC, hx]; rfl
theorem C_pairs_m {N : Nat} (hN : 1099511627776 ≤ N) {Λ : Lay} {ad : Nat → Nat} {μ : Mem} {F : Nat → Nat} {m : Nat} {A : Nat → Nat → Nat} {b : Nat} {J : Nat → Nat} {T : Nat → Int32} {n : Nat} {f : Int32} (hY : Ly Λ ad) (h : RC ad μ F m A b J T n f) (ho : Ok F m A b J T n)  : CT ad μ (m_X11_pairs N Λ μ (ad 0) (n3 4294967295)) 0 (n3 (prF F (ngA F))) F m A b J T n f := by
  have hj := hY.1
  have hP := hY.2.2.1
  have hS := hY.2.2.2.1 3 (Or.inl rfl)
  have hL := hY.2.2.2.2.1 30 (Or.inl rfl)
  have hC := h.1
  have hw := ho.1
  have hl := ho.2.1
  have hb := hw.1; unfold WB at hb
  obtain ⟨μ1, e1, h1, h2, f1⟩ := c_pairShips hN hS hC hY.2.2.2.2.2.2.2.1 hj hw (by omega)
  exact CT.scr h (f1.mono (fun i hi => by unfold ScC; omega)) (by simp (disch := omega) only [jn_X11_pairs_45, jn_X11_pairs_10, m_X11_pairs, ↓ob (hP.1), ↓ob (hP.2.1), ↓ob (hP.2.2.1), ↓ob (hP.2.2.2.1), ↓ob (hP.2.2.2.2.1), ↓ob (hP.2.2.2.2.2.1), ↓ob (hP.2.2.2.2.2.2.1), ↓ob (hP.2.2.2.2.2.2.2.1), ↓ob (hP.2.2.2.2.2.2.2.2.1), ↓ob (hP.2.2.2.2.2.2.2.2.2.1), ↓ob (hP.2.2.2.2.2.2.2.2.2.2.1), ↓ob (hP.2.2.2.2.2.2.2.2.2.2.2.1), ↓ob (hP.2.2.2.2.2.2.2.2.2.2.2.2.1), ↓ob (hP.2.2.2.2.2.2.2.2.2.2.2.2.2.1), hP.2.2.2.2.2.2.2.2.2.2.2.2.2.2, e1, h1, n3_neg1, ↓lt_e, ↓gd_e, ↓Option.bind_some, ↓reduceIte, if_true, if_false, if_pT, if_nF, decide_true, Bool.not_true, Bool.not_false, not_true_eq_false, not_false_eq_true, Bool.false_eq_true, Bool.true_eq_false, eq_self, n3_lit, n3_add, n3_mul, n3_sub, n3_tn, n3_le_t, n3_le_f, n3_lt_t, n3_lt_f, n3_eq_f, n3_eq_t, n3_inb, n3_rem, n3_div, n3_zb, bb_0, bb_1, zb_bb, bb_T, bb_F, n3_dec, n3_m1, n3_eqm, n3_eqmt, n3_ltm, n3_mlt, n3_lem, n3_mle, n3_neg_lt, n3_nlt_neg, n3_nle_neg, n3_neg_le])
theorem C_pairs_t {N : Nat} (hN : 1099511627776 ≤ N) {Λ : Lay} {ad : Nat → Nat} {μ : Mem} {F : Nat → Nat} {m : Nat} {A : Nat → Nat → Nat} {b : Nat} {J : Nat → Nat} {T : Nat → Int32} {n : Nat} {f : Int32} (hY : Ly Λ ad) (h : RC ad μ F m A b J T n f) (ho : Ok F m A b J T n)  (s : Nat) (hs : s < F 0) : CT ad μ (m_X11_pairs N Λ μ (ad 0) (n3 s)) 0 (n3 ((wkP F (F 0)).2 s)) F m A b J T n f := by
  have hj := hY.1
  have hP := hY.2.2.1
  have hS := hY.2.2.2.1 3 (Or.inl rfl)
  have hL := hY.2.2.2.2.1 30 (Or.inl rfl)
  have hC := h.1
  have hw := ho.1
  have hl := ho.2.1
  have hb := hw.1; unfold WB at hb
  have hQ := hY.2.2.2.2.2.2.2.1
  obtain ⟨μ1, e1, h1, h2, f1⟩ := c_pairShips hN hS hC hQ hj hw (by omega)
  have h2s := h2 s hs
  exact CT.scr h (f1.mono (fun i hi => by unfold ScC; omega)) (by simp (disch := omega) only [jn_X11_pairs_45, jn_X11_pairs_10, m_X11_pairs, ↓ob (hP.1), ↓ob (hP.2.1), ↓ob (hP.2.2.1), ↓ob (hP.2.2.2.1), ↓ob (hP.2.2.2.2.1), ↓ob (hP.2.2.2.2.2.1), ↓ob (hP.2.2.2.2.2.2.1), ↓ob (hP.2.2.2.2.2.2.2.1), ↓ob (hP.2.2.2.2.2.2.2.2.1), ↓ob (hP.2.2.2.2.2.2.2.2.2.1), ↓ob (hP.2.2.2.2.2.2.2.2.2.2.1), ↓ob (hP.2.2.2.2.2.2.2.2.2.2.2.1), ↓ob (hP.2.2.2.2.2.2.2.2.2.2.2.2.1), ↓ob (hP.2.2.2.2.2.2.2.2.2.2.2.2.2.1), hP.2.2.2.2.2.2.2.2.2.2.2.2.2.2, ↓ob (hQ.1), ↓ob (hQ.2.1), ↓ob (hQ.2.2.1), ↓ob (hQ.2.2.2.1), hQ.2.2.2.2.1, hQ.2.2.2.2.2.1, hQ.2.2.2.2.2.2.1, hQ.2.2.2.2.2.2.2.1, ↓ob (hQ.2.2.2.2.2.2.2.2.1), ↓ob (hQ.2.2.2.2.2.2.2.2.2.1), ↓ob (hQ.2.2.2.2.2.2.2.2.2.2.1), hQ.2.2.2.2.2.2.2.2.2.2.2.1, hQ.2.2.2.2.2.2.2.2.2.2.2.2.1, hQ.2.2.2.2.2.2.2.2.2.2.2.2.2.1, ↓ob (hQ.2.2.2.2.2.2.2.2.2.2.2.2.2.2.1), ↓ob (hQ.2.2.2.2.2.2.2.2.2.2.2.2.2.2.2.1), ↓ob (hQ.2.2.2.2.2.2.2.2.2.2.2.2.2.2.2.2.1), ↓ob (hQ.2.2.2.2.2.2.2.2.2.2.2.2.2.2.2.2.2.1), ↓ob (hQ.2.2.2.2.2.2.2.2.2.2.2.2.2.2.2.2.2.2.1), hQ.2.2.2.2.2.2.2.2.2.2.2.2.2.2.2.2.2.2.2.1, hQ.2.2.2.2.2.2.2.2.2.2.2.2.2.2.2.2.2.2.2.2.1, hQ.2.2.2.2.2.2.2.2.2.2.2.2.2.2.2.2.2.2.2.2.2.1, hQ.2.2.2.2.2.2.2.2.2.2.2.2.2.2.2.2.2.2.2.2.2.2.1, hQ.2.2.2.2.2.2.2.2.2.2.2.2.2.2.2.2.2.2.2.2.2.2.2, c_need1 hP hC, inr_n3, thn_T, thn_0, thn_1, thn_2, thn_3, thn_4, thn_5, e1, h2s, ↓lt_e, ↓gd_e, ↓Option.bind_some, ↓reduceIte, if_true, if_false, if_pT, if_nF, decide_true, Bool.not_true, Bool.not_false, not_true_eq_false, not_false_eq_true, Bool.false_eq_true, Bool.true_eq_false, eq_self, n3_lit, n3_add, n3_mul, n3_sub, n3_tn, n3_le_t, n3_le_f, n3_lt_t, n3_lt_f, n3_eq_f, n3_eq_t, n3_inb, n3_rem, n3_div, n3_zb, bb_0, bb_1, zb_bb, bb_T, bb_F, n3_dec, n3_m1, n3_eqm, n3_eqmt, n3_ltm, n3_mlt, n3_lem, n3_mle, n3_neg_lt, n3_nlt_neg, n3_nle_neg, n3_neg_le])
/-! pairs: the reference -/
theorem n3_rmv {d s : Nat} (hs : s < 32) : n3 d &&& (ishl (n3 1) (n3 s) ^^^ -n3 1) = n3 (rmv d s) := by
  rw [n3_shl hs, Nat.one_mul]; exact n3_clm d (2 ^ s)
theorem r_canPair {N : Nat} {Λ : Lay} {ad : Nat → Nat} {μ : Mem} {F : Nat → Nat} (hR : LyR Λ ad) (hW : Row μ (ad 182) 1222 F)  (hw : WF F) {a b : Nat} (ha : a < F 0) (hb : b < F 0) : m_X12_canPair N Λ μ (ad 181) (n3 a) (n3 b) = some (n3 (bb (cpb F a b = true))) := by
  have hb0 := hw.1; unfold WB at hb0
  have hs1 := hw.2.2.1 _ ha
  have hs2 := hw.2.2.1 _ hb
  unfold ShOk at hs1 hs2
  by_cases h1 : F (25 + 6 * a + 3) = 2
  · rw [bb_f (fun hc => (cpb_iff.1 hc).1 h1)]
    simp (disch := omega) only [jn_X12_canPair_43, jn_X12_canPair_42, m_X12_canPair, r_of hR hW, h1, ↓lt_e, ↓gd_e, ↓Option.bind_some, ↓reduceIte, if_true, if_false, if_pT, if_nF, decide_true, Bool.not_true, Bool.not_false, not_true_eq_false, not_false_eq_true, Bool.false_eq_true, Bool.true_eq_false, eq_self, n3_lit, n3_add, n3_mul, n3_sub, n3_tn, n3_le_t, n3_le_f, n3_lt_t, n3_lt_f, n3_eq_f, n3_eq_t, n3_inb, n3_rem, n3_div, n3_zb, bb_0, bb_1, zb_bb, bb_T, bb_F, n3_dec, n3_m1, n3_eqm, n3_eqmt, n3_ltm, n3_mlt, n3_lem, n3_mle, n3_neg_lt, n3_nlt_neg, n3_nle_neg, n3_neg_le]
  · by_cases h2 : F (25 + 6 * b + 3) = 2
    · rw [bb_f (fun hc => (cpb_iff.1 hc).2.1 h2)]
      simp (disch := omega) only [jn_X12_canPair_43, jn_X12_canPair_42, m_X12_canPair, r_of hR hW, h1, h2, ↓lt_e, ↓gd_e, ↓Option.bind_some, ↓reduceIte, if_true, if_false, if_pT, if_nF, decide_true, Bool.not_true, Bool.not_false, not_true_eq_false, not_false_eq_true, Bool.false_eq_true, Bool.true_eq_false, eq_self, n3_lit, n3_add, n3_mul, n3_sub, n3_tn, n3_le_t, n3_le_f, n3_lt_t, n3_lt_f, n3_eq_f, n3_eq_t, n3_inb, n3_rem, n3_div, n3_zb, bb_0, bb_1, zb_bb, bb_T, bb_F, n3_dec, n3_m1, n3_eqm, n3_eqmt, n3_ltm, n3_mlt, n3_lem, n3_mle, n3_neg_lt, n3_nlt_neg, n3_nle_neg, n3_neg_le]
    · by_cases h3 : F (25 + 6 * a) + F (25 + 6 * b) ≤ 12
      · rw [bb_t (cpb_iff.2 ⟨h1, h2, h3⟩)]
        simp (disch := omega) only [jn_X12_canPair_43, jn_X12_canPair_42, m_X12_canPair, r_of hR hW, h1, h2, Nat.add_zero, ↓lt_e, ↓gd_e, ↓Option.bind_some, ↓reduceIte, if_true, if_false, if_pT, if_nF, decide_true, Bool.not_true, Bool.not_false, not_true_eq_false, not_false_eq_true, Bool.false_eq_true, Bool.true_eq_false, eq_self, n3_lit, n3_add, n3_mul, n3_sub, n3_tn, n3_le_t, n3_le_f, n3_lt_t, n3_lt_f, n3_eq_f, n3_eq_t, n3_inb, n3_rem, n3_div, n3_zb, bb_0, bb_1, zb_bb, bb_T, bb_F, n3_dec, n3_m1, n3_eqm, n3_eqmt, n3_ltm, n3_mlt, n3_lem, n3_mle, n3_neg_lt, n3_nlt_neg, n3_nle_neg, n3_neg_le]
      · rw [bb_f (fun hc => h3 (cpb_iff.1 hc).2.2)]
        simp (disch := omega) only [jn_X12_canPair_43, jn_X12_canPair_42, m_X12_canPair, r_of hR hW, h1, h2, Nat.add_zero, ↓lt_e, ↓gd_e, ↓Option.bind_some, ↓reduceIte, if_true, if_false, if_pT, if_nF, decide_true, Bool.not_true, Bool.not_false, not_true_eq_false, not_false_eq_true, Bool.false_eq_true, Bool.true_eq_false, eq_self, n3_lit, n3_add, n3_mul, n3_sub, n3_tn, n3_le_t, n3_le_f, n3_lt_t, n3_lt_f, n3_eq_f, n3_eq_t, n3_inb, n3_rem, n3_div, n3_zb, bb_0, bb_1, zb_bb, bb_T, bb_F, n3_dec, n3_m1, n3_eqm, n3_eqmt, n3_ltm, n3_mlt, n3_lem, n3_mle, n3_neg_lt, n3_nlt_neg, n3_nle_neg, n3_neg_le]
theorem r_pairedBy {N : Nat} {Λ : Lay} {ad : Nat → Nat} {μ : Mem} {F : Nat → Nat} (hR : LyR Λ ad) (hW : Row μ (ad 182) 1222 F)  (hw : WF F) {d o : Nat} (h0 : 0 < d) (hd : d < 256) (hdF : d < 2 ^ F 0) (ho : o < 8) (hT : ∀ e, e < d → μ.1 (ad 198) e = n3 (prF F e)) : m_X12_pairedBy N Λ μ (ad 181) (n3 d) (n3 o) = some (n3 (if pcd F d o = true then pvl F d (prF F) o else 4294967295)) := by
  have hb := hw.1; unfold WB at hb
  have hl8 := lo_lt h0 hd
  have hlb := lo_bit h0 hd
  have hlF := In_bit hdF hlb
  have hr := rmv_lt (s := lo d) (by omega) (by omega) hlb
  have hnz : m_XI_ntz N Λ μ (n3 d) = some (n3 (lo d)) := by rw [r_ntz1]; exact ntz_lo d hd h0
  have hrs : n3 d &&& (ishl (n3 1) (n3 (lo d)) ^^^ -n3 1) = n3 (rmv d (lo d)) := n3_rmv (by omega)
  by_cases hbit : (rmv d (lo d)).testBit o = true
  · have hoF := In_bit (F := F) (by omega) hbit
    have cp := r_canPair (N := N) hR hW hw hlF hoF
    have hs1 := hw.2.2.1 _ hlF
    have hs2 := hw.2.2.1 _ hoF
    unfold ShOk at hs1 hs2
    have hr2 := rmv_lt (s := o) (by omega) (by omega) hbit
    have hrs2 : n3 (rmv d (lo d)) &&& (ishl (n3 1) (n3 o) ^^^ -n3 1) = n3 (rmv (rmv d (lo d)) o) := n3_rmv (by omega)
    have ht := hT (rmv (rmv d (lo d)) o) (by omega)
    by_cases hcp : cpb F (lo d) o = true
    · have hc : pcd F d o = true := by unfold pcd; rw [hbit, hcp]; rfl
      rw [if_pos hc]
      simp (disch := omega) only [jn_X12_pairedBy_76, jn_X12_pairedBy_75, m_X12_pairedBy, m_X12_firstOf, hnz, ↓lt_e, ↓gd_e, ↓Option.bind_some, ↓reduceIte, if_true, if_false, if_pT, if_nF, decide_true, Bool.not_true, Bool.not_false, not_true_eq_false, not_false_eq_true, Bool.false_eq_true, Bool.true_eq_false, eq_self, n3_lit, hrs, n3_eqm, r_has, hbit, cp, hcp, bb_T, n3_eq_f, r_of hR hW, ↓ob (hR.1), ↓ob (hR.2.1), ↓ob (hR.2.2.1), ↓ob (hR.2.2.2.1), ↓ob (hR.2.2.2.2.1), ↓ob (hR.2.2.2.2.2.1), ↓ob (hR.2.2.2.2.2.2.1), ↓ob (hR.2.2.2.2.2.2.2.1), ↓ob (hR.2.2.2.2.2.2.2.2.1), ↓ob (hR.2.2.2.2.2.2.2.2.2.1), ↓ob (hR.2.2.2.2.2.2.2.2.2.2.1), ↓ob (hR.2.2.2.2.2.2.2.2.2.2.2.1), ↓ob (hR.2.2.2.2.2.2.2.2.2.2.2.2.1), ↓ob (hR.2.2.2.2.2.2.2.2.2.2.2.2.2.1), ↓ob (hR.2.2.2.2.2.2.2.2.2.2.2.2.2.2.1), ↓ob (hR.2.2.2.2.2.2.2.2.2.2.2.2.2.2.2.1), ↓ob (hR.2.2.2.2.2.2.2.2.2.2.2.2.2.2.2.2.1), ↓ob (hR.2.2.2.2.2.2.2.2.2.2.2.2.2.2.2.2.2.1), hR.2.2.2.2.2.2.2.2.2.2.2.2.2.2.2.2.2.2.1, hR.2.2.2.2.2.2.2.2.2.2.2.2.2.2.2.2.2.2.2.1, hR.2.2.2.2.2.2.2.2.2.2.2.2.2.2.2.2.2.2.2.2.1, hR.2.2.2.2.2.2.2.2.2.2.2.2.2.2.2.2.2.2.2.2.2.1, hR.2.2.2.2.2.2.2.2.2.2.2.2.2.2.2.2.2.2.2.2.2.2.1, hR.2.2.2.2.2.2.2.2.2.2.2.2.2.2.2.2.2.2.2.2.2.2.2.1, hR.2.2.2.2.2.2.2.2.2.2.2.2.2.2.2.2.2.2.2.2.2.2.2.2.1, hR.2.2.2.2.2.2.2.2.2.2.2.2.2.2.2.2.2.2.2.2.2.2.2.2.2.1, hR.2.2.2.2.2.2.2.2.2.2.2.2.2.2.2.2.2.2.2.2.2.2.2.2.2.2.1, hR.2.2.2.2.2.2.2.2.2.2.2.2.2.2.2.2.2.2.2.2.2.2.2.2.2.2.2.1, hR.2.2.2.2.2.2.2.2.2.2.2.2.2.2.2.2.2.2.2.2.2.2.2.2.2.2.2.2.1, hR.2.2.2.2.2.2.2.2.2.2.2.2.2.2.2.2.2.2.2.2.2.2.2.2.2.2.2.2.2.1, hR.2.2.2.2.2.2.2.2.2.2.2.2.2.2.2.2.2.2.2.2.2.2.2.2.2.2.2.2.2.2.1, hR.2.2.2.2.2.2.2.2.2.2.2.2.2.2.2.2.2.2.2.2.2.2.2.2.2.2.2.2.2.2.2.1, hR.2.2.2.2.2.2.2.2.2.2.2.2.2.2.2.2.2.2.2.2.2.2.2.2.2.2.2.2.2.2.2.2.1, hR.2.2.2.2.2.2.2.2.2.2.2.2.2.2.2.2.2.2.2.2.2.2.2.2.2.2.2.2.2.2.2.2.2.1, hR.2.2.2.2.2.2.2.2.2.2.2.2.2.2.2.2.2.2.2.2.2.2.2.2.2.2.2.2.2.2.2.2.2.2.1, hR.2.2.2.2.2.2.2.2.2.2.2.2.2.2.2.2.2.2.2.2.2.2.2.2.2.2.2.2.2.2.2.2.2.2.2, hrs2, n3_inb, n3_tn, ht, n3_add, pvl]
    · have hc : ¬ pcd F d o = true := fun hc => hcp (pcd_f hc).2
      rw [if_neg hc]
      simp (disch := omega) only [jn_X12_pairedBy_76, jn_X12_pairedBy_75, m_X12_pairedBy, m_X12_firstOf, hnz, ↓lt_e, ↓gd_e, ↓Option.bind_some, ↓reduceIte, if_true, if_false, if_pT, if_nF, decide_true, Bool.not_true, Bool.not_false, not_true_eq_false, not_false_eq_true, Bool.false_eq_true, Bool.true_eq_false, eq_self, n3_lit, hrs, n3_eqm, r_has, hbit, cp, hcp, bb_T, bb_F, n3_eq_f, n3_eq_t]
      rw [n3_neg1]
  · have hc : ¬ pcd F d o = true := fun hc => hbit (pcd_f hc).1
    rw [if_neg hc]
    simp (disch := omega) only [jn_X12_pairedBy_76, jn_X12_pairedBy_75, m_X12_pairedBy, m_X12_firstOf, hnz, ↓lt_e, ↓gd_e, ↓Option.bind_some, ↓reduceIte, if_true, if_false, if_pT, if_nF, decide_true, Bool.not_true, Bool.not_false, not_true_eq_false, not_false_eq_true, Bool.false_eq_true, Bool.true_eq_false, eq_self, n3_lit, hrs, n3_eqm, r_has, hbit, bb_F, n3_eq_t]
    rw [n3_neg1]
theorem r_pairedBy0 {N : Nat} {Λ : Lay} {ad : Nat → Nat} {μ : Mem} {F : Nat → Nat} (hR : LyR Λ ad) (hW : Row μ (ad 182) 1222 F)  {d : Nat} (h0 : 0 < d) (hd : d < 256) (hT : ∀ e, e < d → μ.1 (ad 198) e = n3 (prF F e)) : m_X12_pairedBy N Λ μ (ad 181) (n3 d) (n3 4294967295) = some (n3 (prF F (rmv d (lo d)))) := by
  have hl8 := lo_lt h0 hd
  have hlb := lo_bit h0 hd
  have hr := rmv_lt (s := lo d) (by omega) (by omega) hlb
  have hnz : m_XI_ntz N Λ μ (n3 d) = some (n3 (lo d)) := by rw [r_ntz1]; exact ntz_lo d hd h0
  have hrs : n3 d &&& (ishl (n3 1) (n3 (lo d)) ^^^ -n3 1) = n3 (rmv d (lo d)) := n3_rmv (by omega)
  have ht := hT (rmv d (lo d)) hr
  simp (disch := omega) only [jn_X12_pairedBy_76, jn_X12_pairedBy_75, m_X12_pairedBy, m_X12_firstOf, hnz, ↓lt_e, ↓gd_e, ↓Option.bind_some, ↓reduceIte, if_true, if_false, if_pT, if_nF, decide_true, Bool.not_true, Bool.not_false, not_true_eq_false, not_false_eq_true, Bool.false_eq_true, Bool.true_eq_false, eq_self, n3_lit, hrs, n3_eqmt, ↓ob (hR.1), ↓ob (hR.2.1), ↓ob (hR.2.2.1), ↓ob (hR.2.2.2.1), ↓ob (hR.2.2.2.2.1), ↓ob (hR.2.2.2.2.2.1), ↓ob (hR.2.2.2.2.2.2.1), ↓ob (hR.2.2.2.2.2.2.2.1), ↓ob (hR.2.2.2.2.2.2.2.2.1), ↓ob (hR.2.2.2.2.2.2.2.2.2.1), ↓ob (hR.2.2.2.2.2.2.2.2.2.2.1), ↓ob (hR.2.2.2.2.2.2.2.2.2.2.2.1), ↓ob (hR.2.2.2.2.2.2.2.2.2.2.2.2.1), ↓ob (hR.2.2.2.2.2.2.2.2.2.2.2.2.2.1), ↓ob (hR.2.2.2.2.2.2.2.2.2.2.2.2.2.2.1), ↓ob (hR.2.2.2.2.2.2.2.2.2.2.2.2.2.2.2.1), ↓ob (hR.2.2.2.2.2.2.2.2.2.2.2.2.2.2.2.2.1), ↓ob (hR.2.2.2.2.2.2.2.2.2.2.2.2.2.2.2.2.2.1), hR.2.2.2.2.2.2.2.2.2.2.2.2.2.2.2.2.2.2.1, hR.2.2.2.2.2.2.2.2.2.2.2.2.2.2.2.2.2.2.2.1, hR.2.2.2.2.2.2.2.2.2.2.2.2.2.2.2.2.2.2.2.2.1, hR.2.2.2.2.2.2.2.2.2.2.2.2.2.2.2.2.2.2.2.2.2.1, hR.2.2.2.2.2.2.2.2.2.2.2.2.2.2.2.2.2.2.2.2.2.2.1, hR.2.2.2.2.2.2.2.2.2.2.2.2.2.2.2.2.2.2.2.2.2.2.2.1, hR.2.2.2.2.2.2.2.2.2.2.2.2.2.2.2.2.2.2.2.2.2.2.2.2.1, hR.2.2.2.2.2.2.2.2.2.2.2.2.2.2.2.2.2.2.2.2.2.2.2.2.2.1, hR.2.2.2.2.2.2.2.2.2.2.2.2.2.2.2.2.2.2.2.2.2.2.2.2.2.2.1, hR.2.2.2.2.2.2.2.2.2.2.2.2.2.2.2.2.2.2.2.2.2.2.2.2.2.2.2.1, hR.2.2.2.2.2.2.2.2.2.2.2.2.2.2.2.2.2.2.2.2.2.2.2.2.2.2.2.2.1, hR.2.2.2.2.2.2.2.2.2.2.2.2.2.2.2.2.2.2.2.2.2.2.2.2.2.2.2.2.2.1, hR.2.2.2.2.2.2.2.2.2.2.2.2.2.2.2.2.2.2.2.2.2.2.2.2.2.2.2.2.2.2.1, hR.2.2.2.2.2.2.2.2.2.2.2.2.2.2.2.2.2.2.2.2.2.2.2.2.2.2.2.2.2.2.2.1, hR.2.2.2.2.2.2.2.2.2.2.2.2.2.2.2.2.2.2.2.2.2.2.2.2.2.2.2.2.2.2.2.2.1, hR.2.2.2.2.2.2.2.2.2.2.2.2.2.2.2.2.2.2.2.2.2.2.2.2.2.2.2.2.2.2.2.2.2.1, hR.2.2.2.2.2.2.2.2.2.2.2.2.2.2.2.2.2.2.2.2.2.2.2.2.2.2.2.2.2.2.2.2.2.2.1, hR.2.2.2.2.2.2.2.2.2.2.2.2.2.2.2.2.2.2.2.2.2.2.2.2.2.2.2.2.2.2.2.2.2.2.2, n3_inb, n3_tn, ht]
theorem r_laysPairs {N : Nat} (hN : 1099511627776 ≤ N) {Λ : Lay} {ad : Nat → Nat} {μ : Mem} {F : Nat → Nat} (hR : LyR Λ ad) (hW : Row μ (ad 182) 1222 F)  (hj : Inj ad) (hw : WF F) : ∃ μ', m_X12_laysPairs N Λ μ (ad 181) = some μ' ∧ (∀ e, e < 2 ^ F 0 → μ'.1 (ad 198) e = n3 (prF F e)) ∧ Fr ad (fun i => i = 198) μ μ' := by
  have hb := hw.1; unfold WB at hb
  have h2 : 2 ^ F 0 ≤ 2 ^ 8 := Nat.pow_le_pow_right (by decide) hb.1
  have h21 : 1 ≤ 2 ^ F 0 := Nat.two_pow_pos _
  have est : m_X12_laysPairs N Λ μ (ad 181) = lp_X12_laysPairs_9 N Λ (ad 181) (n3 1, mset μ (ad 198) 0 (n3 0)) := by
    simp (disch := omega) only [m_X12_laysPairs, ↓ob (hR.1), ↓ob (hR.2.1), ↓ob (hR.2.2.1), ↓ob (hR.2.2.2.1), ↓ob (hR.2.2.2.2.1), ↓ob (hR.2.2.2.2.2.1), ↓ob (hR.2.2.2.2.2.2.1), ↓ob (hR.2.2.2.2.2.2.2.1), ↓ob (hR.2.2.2.2.2.2.2.2.1), ↓ob (hR.2.2.2.2.2.2.2.2.2.1), ↓ob (hR.2.2.2.2.2.2.2.2.2.2.1), ↓ob (hR.2.2.2.2.2.2.2.2.2.2.2.1), ↓ob (hR.2.2.2.2.2.2.2.2.2.2.2.2.1), ↓ob (hR.2.2.2.2.2.2.2.2.2.2.2.2.2.1), ↓ob (hR.2.2.2.2.2.2.2.2.2.2.2.2.2.2.1), ↓ob (hR.2.2.2.2.2.2.2.2.2.2.2.2.2.2.2.1), ↓ob (hR.2.2.2.2.2.2.2.2.2.2.2.2.2.2.2.2.1), ↓ob (hR.2.2.2.2.2.2.2.2.2.2.2.2.2.2.2.2.2.1), hR.2.2.2.2.2.2.2.2.2.2.2.2.2.2.2.2.2.2.1, hR.2.2.2.2.2.2.2.2.2.2.2.2.2.2.2.2.2.2.2.1, hR.2.2.2.2.2.2.2.2.2.2.2.2.2.2.2.2.2.2.2.2.1, hR.2.2.2.2.2.2.2.2.2.2.2.2.2.2.2.2.2.2.2.2.2.1, hR.2.2.2.2.2.2.2.2.2.2.2.2.2.2.2.2.2.2.2.2.2.2.1, hR.2.2.2.2.2.2.2.2.2.2.2.2.2.2.2.2.2.2.2.2.2.2.2.1, hR.2.2.2.2.2.2.2.2.2.2.2.2.2.2.2.2.2.2.2.2.2.2.2.2.1, hR.2.2.2.2.2.2.2.2.2.2.2.2.2.2.2.2.2.2.2.2.2.2.2.2.2.1, hR.2.2.2.2.2.2.2.2.2.2.2.2.2.2.2.2.2.2.2.2.2.2.2.2.2.2.1, hR.2.2.2.2.2.2.2.2.2.2.2.2.2.2.2.2.2.2.2.2.2.2.2.2.2.2.2.1, hR.2.2.2.2.2.2.2.2.2.2.2.2.2.2.2.2.2.2.2.2.2.2.2.2.2.2.2.2.1, hR.2.2.2.2.2.2.2.2.2.2.2.2.2.2.2.2.2.2.2.2.2.2.2.2.2.2.2.2.2.1, hR.2.2.2.2.2.2.2.2.2.2.2.2.2.2.2.2.2.2.2.2.2.2.2.2.2.2.2.2.2.2.1, hR.2.2.2.2.2.2.2.2.2.2.2.2.2.2.2.2.2.2.2.2.2.2.2.2.2.2.2.2.2.2.2.1, hR.2.2.2.2.2.2.2.2.2.2.2.2.2.2.2.2.2.2.2.2.2.2.2.2.2.2.2.2.2.2.2.2.1, hR.2.2.2.2.2.2.2.2.2.2.2.2.2.2.2.2.2.2.2.2.2.2.2.2.2.2.2.2.2.2.2.2.2.1, hR.2.2.2.2.2.2.2.2.2.2.2.2.2.2.2.2.2.2.2.2.2.2.2.2.2.2.2.2.2.2.2.2.2.2.1, hR.2.2.2.2.2.2.2.2.2.2.2.2.2.2.2.2.2.2.2.2.2.2.2.2.2.2.2.2.2.2.2.2.2.2.2, ↓lt_e, ↓gd_e, ↓Option.bind_some, ↓reduceIte, if_true, if_false, if_pT, if_nF, decide_true, Bool.not_true, Bool.not_false, not_true_eq_false, not_false_eq_true, Bool.false_eq_true, Bool.true_eq_false, eq_self, n3_lit, n3_add, n3_mul, n3_sub, n3_tn, n3_le_t, n3_le_f, n3_lt_t, n3_lt_f, n3_eq_f, n3_eq_t, n3_inb, n3_rem, n3_div, n3_zb, bb_0, bb_1, zb_bb, bb_T, bb_F, n3_dec, n3_m1, n3_eqm, n3_eqmt, n3_ltm, n3_mlt, n3_lem, n3_mle, n3_neg_lt, n3_nlt_neg, n3_nle_neg, n3_neg_le]
  rw [est]
  unfold lp_X12_laysPairs_9
  refine cw_ik (P := fun i x => ∃ μ1 : Mem, x = (n3 (i + 1), μ1) ∧ (∀ e, e < i + 1 → μ1.1 (ad 198) e = n3 (prF F e)) ∧ Fr ad (fun i => i = 198) μ μ1) (Q := fun X => ∃ μ', X = some μ' ∧ (∀ e, e < 2 ^ F 0 → μ'.1 (ad 198) e = n3 (prF F e)) ∧ Fr ad (fun i => i = 198) μ μ') (2 ^ F 0 - 1) ⟨_, rfl, fun e h1 => by rw [show e = 0 by omega, mse, pr_0], (Fr.refl μ).set hj (by rfl)⟩ (fun i hi x hx k => ?_) (fun x hx k => ?_) (show 2 ^ F 0 - 1 < N by omega)
  · obtain ⟨μ1, rfl, hT1, hf1⟩ := hx
    left
    have hW1 := hW.fr hf1 (by omega)
    have hdF : i + 1 < 2 ^ F 0 := by omega
    have hlF := In_bit hdF (lo_bit (show 0 < i + 1 by omega) (by omega))
    have e9 : bd_X12_laysPairs_9 N Λ μ1 k (ad 181) (n3 (i + 1)) = lp_X12_laysPairs_23 N Λ k (ad 181) (n3 (i + 1)) (n3 0, n3 0 - n3 1, μ1) := by
      simp (disch := omega) only [bd_X12_laysPairs_9, r_ships hR hW1, n3_shl, Nat.one_mul, n3_neg1, ↓lt_e, ↓gd_e, ↓Option.bind_some, ↓reduceIte, if_true, if_false, if_pT, if_nF, decide_true, Bool.not_true, Bool.not_false, not_true_eq_false, not_false_eq_true, Bool.false_eq_true, Bool.true_eq_false, eq_self, n3_lit, n3_add, n3_mul, n3_sub, n3_tn, n3_le_t, n3_le_f, n3_lt_t, n3_lt_f, n3_eq_f, n3_eq_t, n3_inb, n3_rem, n3_div, n3_zb, bb_0, bb_1, zb_bb, bb_T, bb_F, n3_dec, n3_m1, n3_eqm, n3_eqmt, n3_ltm, n3_mlt, n3_lem, n3_mle, n3_neg_lt, n3_nlt_neg, n3_nle_neg, n3_neg_le]
    refine ⟨(n3 (i + 1 + 1), mset μ1 (ad 198) (i + 1) (n3 (prF F (i + 1)))), ⟨_, rfl, fun e h1 => ?_, hf1.set hj (by rfl)⟩, ?_⟩
    · by_cases ee : e = i + 1
      · rw [ee, mse]
      · rw [msn ee]; exact hT1 e (by omega)
    · show bd_X12_laysPairs_9 N Λ μ1 k (ad 181) (n3 (i + 1)) = _
      rw [e9]
      generalize hd : i + 1 = d at *
      have h0 : 0 < d := by omega
      have hd8 : d < 256 := by omega
      have hrb := pr_B hw (d := rmv d (lo d)) (by have := rmv_le d (lo d); omega) (by have := rmv_le d (lo d); omega)
      have hmF : mxP F d (prF F) 8 = mxP F d (prF F) (F 0) := by
        have key : ∀ m, F 0 ≤ m → mxP F d (prF F) m = mxP F d (prF F) (F 0) := by
          intro m
          induction m with
          | zero => intro hm; rw [show F 0 = 0 by omega]
          | succ m ih =>
            intro hm
            by_cases e : F 0 = m + 1
            · rw [e]
            · show (if pcd F d m = true then _ else mxP F d (prF F) m) = _
              rw [if_neg (fun hc => by have := In_bit (F := F) (Nat.lt_of_le_of_lt (rmv_le d (lo d)) hdF) (pcd_f hc).1; omega)]
              exact ih (by omega)
        exact key 8 hb.1
      unfold lp_X12_laysPairs_23
      refine cw_it (fun j => (n3 (if j = 0 then 0 else mxP F d (prF F) (j - 1)), n3 j - n3 1, μ1)) (F 0 + 1) rfl (fun j hj' k' => ?_) (fun k' => ?_) (by omega)
      · rw [if_neg (show ¬ j + 1 = 0 by omega), Nat.add_sub_cancel]
        by_cases j0 : j = 0
        · have hp := r_pairedBy0 (N := N) hR hW1 h0 hd8 hT1
          rw [if_pos j0, j0]
          have em : mxP F d (prF F) 0 = prF F (rmv d (lo d)) := rfl
          rw [em]
          simp (disch := omega) only [bd_X12_laysPairs_23, r_ships hR hW1, n3_m1, hp, ↓lt_e, ↓gd_e, ↓Option.bind_some, ↓reduceIte, if_true, if_false, if_pT, if_nF, decide_true, Bool.not_true, Bool.not_false, not_true_eq_false, not_false_eq_true, Bool.false_eq_true, Bool.true_eq_false, eq_self, n3_lit, n3_nle_neg, n3_imax]
          rw [show max 0 (prF F (rmv d (lo d))) = prF F (rmv d (lo d)) by omega]
          rfl
        · rw [if_neg j0]
          have hp := r_pairedBy (N := N) hR hW1 hw h0 hd8 hdF (o := j - 1) (by omega) hT1
          have es : mxP F d (prF F) j = if pcd F d (j - 1) = true then max (mxP F d (prF F) (j - 1)) (pvl F d (prF F) (j - 1)) else mxP F d (prF F) (j - 1) := by
            obtain ⟨q, rfl⟩ : ∃ q, j = q + 1 := ⟨j - 1, by omega⟩
            rfl
          rw [es]
          have hb1 := mxP_B hw h0 hd8 hdF (j - 1)
          have ej : n3 (j - 1) + n3 1 = n3 (j + 1) - n3 1 := by rw [n3_add, n3_sub (by omega)]; congr 1; omega
          by_cases hc : pcd F d (j - 1) = true
          · rw [if_pos hc] at hp ⊢
            have hb2 := pvl_le hw h0 hd8 hdF hc
            simp (disch := omega) only [bd_X12_laysPairs_23, r_ships hR hW1, ↓lt_e, ↓gd_e, ↓Option.bind_some, ↓reduceIte, if_true, if_false, if_pT, if_nF, decide_true, Bool.not_true, Bool.not_false, not_true_eq_false, not_false_eq_true, Bool.false_eq_true, Bool.true_eq_false, eq_self, n3_lit, n3_sub, hp, n3_le_f, n3_imax, n3_add]
            rw [show j - 1 + 1 = j + 1 - 1 by omega]
          · rw [if_neg hc] at hp ⊢
            simp (disch := omega) only [bd_X12_laysPairs_23, r_ships hR hW1, ↓lt_e, ↓gd_e, ↓Option.bind_some, ↓reduceIte, if_true, if_false, if_pT, if_nF, decide_true, Bool.not_true, Bool.not_false, not_true_eq_false, not_false_eq_true, Bool.false_eq_true, Bool.true_eq_false, eq_self, n3_lit, n3_sub, hp, n3_le_f, n3_imax1, n3_add]
            rw [show j - 1 + 1 = j + 1 - 1 by omega]
      · rw [if_neg (show ¬ F 0 + 1 = 0 by omega), Nat.add_sub_cancel, ← hmF, ← pr_s F h0 hd8]
        simp (disch := omega) only [bd_X12_laysPairs_23, r_ships hR hW1, ↓ob (hR.1), ↓ob (hR.2.1), ↓ob (hR.2.2.1), ↓ob (hR.2.2.2.1), ↓ob (hR.2.2.2.2.1), ↓ob (hR.2.2.2.2.2.1), ↓ob (hR.2.2.2.2.2.2.1), ↓ob (hR.2.2.2.2.2.2.2.1), ↓ob (hR.2.2.2.2.2.2.2.2.1), ↓ob (hR.2.2.2.2.2.2.2.2.2.1), ↓ob (hR.2.2.2.2.2.2.2.2.2.2.1), ↓ob (hR.2.2.2.2.2.2.2.2.2.2.2.1), ↓ob (hR.2.2.2.2.2.2.2.2.2.2.2.2.1), ↓ob (hR.2.2.2.2.2.2.2.2.2.2.2.2.2.1), ↓ob (hR.2.2.2.2.2.2.2.2.2.2.2.2.2.2.1), ↓ob (hR.2.2.2.2.2.2.2.2.2.2.2.2.2.2.2.1), ↓ob (hR.2.2.2.2.2.2.2.2.2.2.2.2.2.2.2.2.1), ↓ob (hR.2.2.2.2.2.2.2.2.2.2.2.2.2.2.2.2.2.1), hR.2.2.2.2.2.2.2.2.2.2.2.2.2.2.2.2.2.2.1, hR.2.2.2.2.2.2.2.2.2.2.2.2.2.2.2.2.2.2.2.1, hR.2.2.2.2.2.2.2.2.2.2.2.2.2.2.2.2.2.2.2.2.1, hR.2.2.2.2.2.2.2.2.2.2.2.2.2.2.2.2.2.2.2.2.2.1, hR.2.2.2.2.2.2.2.2.2.2.2.2.2.2.2.2.2.2.2.2.2.2.1, hR.2.2.2.2.2.2.2.2.2.2.2.2.2.2.2.2.2.2.2.2.2.2.2.1, hR.2.2.2.2.2.2.2.2.2.2.2.2.2.2.2.2.2.2.2.2.2.2.2.2.1, hR.2.2.2.2.2.2.2.2.2.2.2.2.2.2.2.2.2.2.2.2.2.2.2.2.2.1, hR.2.2.2.2.2.2.2.2.2.2.2.2.2.2.2.2.2.2.2.2.2.2.2.2.2.2.1, hR.2.2.2.2.2.2.2.2.2.2.2.2.2.2.2.2.2.2.2.2.2.2.2.2.2.2.2.1, hR.2.2.2.2.2.2.2.2.2.2.2.2.2.2.2.2.2.2.2.2.2.2.2.2.2.2.2.2.1, hR.2.2.2.2.2.2.2.2.2.2.2.2.2.2.2.2.2.2.2.2.2.2.2.2.2.2.2.2.2.1, hR.2.2.2.2.2.2.2.2.2.2.2.2.2.2.2.2.2.2.2.2.2.2.2.2.2.2.2.2.2.2.1, hR.2.2.2.2.2.2.2.2.2.2.2.2.2.2.2.2.2.2.2.2.2.2.2.2.2.2.2.2.2.2.2.1, hR.2.2.2.2.2.2.2.2.2.2.2.2.2.2.2.2.2.2.2.2.2.2.2.2.2.2.2.2.2.2.2.2.1, hR.2.2.2.2.2.2.2.2.2.2.2.2.2.2.2.2.2.2.2.2.2.2.2.2.2.2.2.2.2.2.2.2.2.1, hR.2.2.2.2.2.2.2.2.2.2.2.2.2.2.2.2.2.2.2.2.2.2.2.2.2.2.2.2.2.2.2.2.2.2.1, hR.2.2.2.2.2.2.2.2.2.2.2.2.2.2.2.2.2.2.2.2.2.2.2.2.2.2.2.2.2.2.2.2.2.2.2, ↓lt_e, ↓gd_e, ↓Option.bind_some, ↓reduceIte, if_true, if_false, if_pT, if_nF, decide_true, Bool.not_true, Bool.not_false, not_true_eq_false, not_false_eq_true, Bool.false_eq_true, Bool.true_eq_false, eq_self, n3_lit, n3_sub, n3_le_t, n3_inb, n3_tn, n3_add]
  · obtain ⟨μ1, rfl, hT1, hf1⟩ := hx
    have hW1 := hW.fr hf1 (by omega)
    refine ⟨μ1, ?_, fun e he => hT1 e (by omega), hf1⟩
    rw [show 2 ^ F 0 - 1 + 1 = 2 ^ F 0 by omega]
    simp (disch := omega) only [bd_X12_laysPairs_9, r_ships hR hW1, n3_shl, Nat.one_mul, ↓lt_e, ↓gd_e, ↓Option.bind_some, ↓reduceIte, if_true, if_false, if_pT, if_nF, decide_true, Bool.not_true, Bool.not_false, not_true_eq_false, not_false_eq_true, Bool.false_eq_true, Bool.true_eq_false, eq_self, n3_lit, n3_add, n3_mul, n3_sub, n3_tn, n3_le_t, n3_le_f, n3_lt_t, n3_lt_f, n3_eq_f, n3_eq_t, n3_inb, n3_rem, n3_div, n3_zb, bb_0, bb_1, zb_bb, bb_T, bb_F, n3_dec, n3_m1, n3_eqm, n3_eqmt, n3_ltm, n3_mlt, n3_lem, n3_mle, n3_neg_lt, n3_nlt_neg, n3_nle_neg, n3_neg_le]
theorem R_pairs_f {N : Nat} (hN : 1099511627776 ≤ N) {Λ : Lay} {ad : Nat → Nat} {μ : Mem} {F : Nat → Nat} {m : Nat} {A : Nat → Nat → Nat} {b : Nat} {J : Nat → Nat} {T : Nat → Int32} {n : Nat} {f : Int32} (hY : Ly Λ ad) (h : RR ad μ F m A b J T n f) (ho : Ok F m A b J T n)  (x : Int32) (hx : inr x (F 0) = false) (hm : ¬ x = n3 4294967295) : RV ad μ (m_X12_pairs N Λ μ (ad 181) x) 1 0 F m A b J T n f := by
  have hj := hY.1
  have hR := hY.2.1
  have hW := h.1
  have hw := ho.1
  have hl := ho.2.1
  have hb := hw.1; unfold WB at hb
  unfold m_X12_pairs
  refine RV.start hY.1 h (fun μ0 h0 t0 => RV.thrown hY.1 h0 ?_)
  have ns := r_noSh (N := N) hR h0.1 hb.1 x
  rw [m1_n3, if_neg hm, ns, hx]
  have e : jn_X12_pairs_24 N Λ μ0 (ad 181) x (ad 181) (n3 1) = some (n3 0, mset μ0 (ad 181) 0 (n3 1)) := by
    unfold jn_X12_pairs_24; rw [r_thr1]; rfl
  simp (disch := omega) only [n3_lit, e, ↓lt_e, ↓gd_e, ↓Option.bind_some, ↓reduceIte, if_true, if_false, if_pT, if_nF, decide_true, Bool.not_true, Bool.not_false, not_true_eq_false, not_false_eq_true, Bool.false_eq_true, Bool.true_eq_false, eq_self, n3_lit, n3_add, n3_mul, n3_sub, n3_tn, n3_le_t, n3_le_f, n3_lt_t, n3_lt_f, n3_eq_f, n3_eq_t, n3_inb, n3_rem, n3_div, n3_zb, bb_0, bb_1, zb_bb, bb_T, bb_F, n3_dec, n3_m1, n3_eqm, n3_eqmt, n3_ltm, n3_mlt, n3_lem, n3_mle, n3_neg_lt, n3_nlt_neg, n3_nle_neg, n3_neg_le]
theorem full_and {F : Nat → Nat} : (2 ^ F 0 - 1) &&& ngA F = ngA F := by
  have hn : ngA F < 2 ^ F 0 := sb_lt _ _
  rw [Nat.and_comm, Nat.and_two_pow_sub_one_eq_mod]
  exact Nat.mod_eq_of_lt hn
theorem R_pairs_m {N : Nat} (hN : 1099511627776 ≤ N) {Λ : Lay} {ad : Nat → Nat} {μ : Mem} {F : Nat → Nat} {m : Nat} {A : Nat → Nat → Nat} {b : Nat} {J : Nat → Nat} {T : Nat → Int32} {n : Nat} {f : Int32} (hY : Ly Λ ad) (h : RR ad μ F m A b J T n f) (ho : Ok F m A b J T n)  : RV ad μ (m_X12_pairs N Λ μ (ad 181) (n3 4294967295)) 0 (n3 (prF F (ngA F))) F m A b J T n f := by
  have hj := hY.1
  have hR := hY.2.1
  have hW := h.1
  have hw := ho.1
  have hl := ho.2.1
  have hb := hw.1; unfold WB at hb
  have h2 : 2 ^ F 0 ≤ 2 ^ 8 := Nat.pow_le_pow_right (by decide) hb.1
  have h21 : 1 ≤ 2 ^ F 0 := Nat.two_pow_pos _
  unfold m_X12_pairs
  refine RV.start hY.1 h (fun μ0 h0 t0 => ?_)
  obtain ⟨μ1, e1, hT, f1⟩ := r_laysPairs hN hR h0.1 hj hw
  have hW1 := h0.1.fr f1 (by omega)
  have ht := hT (2 ^ F 0 - 1) (by omega)
  rw [← pr_and hw (2 ^ F 0 - 1) (2 ^ F 0 - 1) (Nat.le_refl _) (by omega) (by omega), full_and] at ht
  refine RV.scr h0 t0 (f1.mono (fun i hi => by unfold ScX; omega)) ?_
  simp (disch := omega) only [jn_X12_pairs_23, jn_X12_pairs_24, r_thr0, e1, r_ships hR hW1, n3_shl, Nat.one_mul, n3_neg1, ↓ob (hR.1), ↓ob (hR.2.1), ↓ob (hR.2.2.1), ↓ob (hR.2.2.2.1), ↓ob (hR.2.2.2.2.1), ↓ob (hR.2.2.2.2.2.1), ↓ob (hR.2.2.2.2.2.2.1), ↓ob (hR.2.2.2.2.2.2.2.1), ↓ob (hR.2.2.2.2.2.2.2.2.1), ↓ob (hR.2.2.2.2.2.2.2.2.2.1), ↓ob (hR.2.2.2.2.2.2.2.2.2.2.1), ↓ob (hR.2.2.2.2.2.2.2.2.2.2.2.1), ↓ob (hR.2.2.2.2.2.2.2.2.2.2.2.2.1), ↓ob (hR.2.2.2.2.2.2.2.2.2.2.2.2.2.1), ↓ob (hR.2.2.2.2.2.2.2.2.2.2.2.2.2.2.1), ↓ob (hR.2.2.2.2.2.2.2.2.2.2.2.2.2.2.2.1), ↓ob (hR.2.2.2.2.2.2.2.2.2.2.2.2.2.2.2.2.1), ↓ob (hR.2.2.2.2.2.2.2.2.2.2.2.2.2.2.2.2.2.1), hR.2.2.2.2.2.2.2.2.2.2.2.2.2.2.2.2.2.2.1, hR.2.2.2.2.2.2.2.2.2.2.2.2.2.2.2.2.2.2.2.1, hR.2.2.2.2.2.2.2.2.2.2.2.2.2.2.2.2.2.2.2.2.1, hR.2.2.2.2.2.2.2.2.2.2.2.2.2.2.2.2.2.2.2.2.2.1, hR.2.2.2.2.2.2.2.2.2.2.2.2.2.2.2.2.2.2.2.2.2.2.1, hR.2.2.2.2.2.2.2.2.2.2.2.2.2.2.2.2.2.2.2.2.2.2.2.1, hR.2.2.2.2.2.2.2.2.2.2.2.2.2.2.2.2.2.2.2.2.2.2.2.2.1, hR.2.2.2.2.2.2.2.2.2.2.2.2.2.2.2.2.2.2.2.2.2.2.2.2.2.1, hR.2.2.2.2.2.2.2.2.2.2.2.2.2.2.2.2.2.2.2.2.2.2.2.2.2.2.1, hR.2.2.2.2.2.2.2.2.2.2.2.2.2.2.2.2.2.2.2.2.2.2.2.2.2.2.2.1, hR.2.2.2.2.2.2.2.2.2.2.2.2.2.2.2.2.2.2.2.2.2.2.2.2.2.2.2.2.1, hR.2.2.2.2.2.2.2.2.2.2.2.2.2.2.2.2.2.2.2.2.2.2.2.2.2.2.2.2.2.1, hR.2.2.2.2.2.2.2.2.2.2.2.2.2.2.2.2.2.2.2.2.2.2.2.2.2.2.2.2.2.2.1, hR.2.2.2.2.2.2.2.2.2.2.2.2.2.2.2.2.2.2.2.2.2.2.2.2.2.2.2.2.2.2.2.1, hR.2.2.2.2.2.2.2.2.2.2.2.2.2.2.2.2.2.2.2.2.2.2.2.2.2.2.2.2.2.2.2.2.1, hR.2.2.2.2.2.2.2.2.2.2.2.2.2.2.2.2.2.2.2.2.2.2.2.2.2.2.2.2.2.2.2.2.2.1, hR.2.2.2.2.2.2.2.2.2.2.2.2.2.2.2.2.2.2.2.2.2.2.2.2.2.2.2.2.2.2.2.2.2.2.1, hR.2.2.2.2.2.2.2.2.2.2.2.2.2.2.2.2.2.2.2.2.2.2.2.2.2.2.2.2.2.2.2.2.2.2.2, ht, ↓lt_e, ↓gd_e, ↓Option.bind_some, ↓reduceIte, if_true, if_false, if_pT, if_nF, decide_true, Bool.not_true, Bool.not_false, not_true_eq_false, not_false_eq_true, Bool.false_eq_true, Bool.true_eq_false, eq_self, n3_lit, n3_add, n3_mul, n3_sub, n3_tn, n3_le_t, n3_le_f, n3_lt_t, n3_lt_f, n3_eq_f, n3_eq_t, n3_inb, n3_rem, n3_div, n3_zb, bb_0, bb_1, zb_bb, bb_T, bb_F, n3_dec, n3_m1, n3_eqm, n3_eqmt, n3_ltm, n3_mlt, n3_lem, n3_mle, n3_neg_lt, n3_nlt_neg, n3_nle_neg, n3_neg_le]
theorem wk_skip {F : Nat → Nat} {i : Nat} : ∀ j, i ≤ j → (∀ t, i ≤ t → t < j → (wkP F i).1.testBit t = false) → wkP F j = wkP F i
  | 0, h, _ => by rw [show i = 0 by omega]
  | j + 1, h, hb => by
    by_cases e : i = j + 1
    · rw [e]
    · have ih := wk_skip (F := F) (i := i) j (by omega) (fun t h1 h2 => hb t h1 (by omega))
      rw [wkP_s F j, ih, if_neg (by rw [hb j (by omega) (by omega)]; decide)]
theorem pvb_and {F : Nat → Nat} (hw : WF F) {d : Nat} (h0 : 0 < d) (hd : d < 256) (hdF : d < 2 ^ F 0) (hs : (ngA F).testBit (lo d) = true) (o : Nat) : pvb F (d &&& ngA F) o = pvb F d o := by
  have hr := rmv_le d (lo d)
  have hr2 := rmv_le (rmv d (lo d)) o
  unfold pvb
  rw [pcd_and h0 hd hdF hs o, pr_and hw d d (Nat.le_refl _) hdF hd]
  have : pvl F (d &&& ngA F) (prF F) o = pvl F d (prF F) o := by
    unfold pvl
    rw [lo_and h0 hd hs, ← rmv_and, ← rmv_and, pr_and hw _ _ (Nat.le_refl _) (by omega) (by omega)]
  rw [this]
/-- what one step of the walk takes away -/
def nxP (F : Nat → Nat) (d : Nat) : Nat := if prF F (rmv d (lo d)) = prF F d then rmv d (lo d) else rmv (rmv d (lo d)) (foP F d)
theorem nx_wk {F : Nat → Nat} (hw : WF F) {d : Nat} (h0 : 0 < d) (hd : d < 256) (hdF : d < 2 ^ F 0) (hi : d &&& ngA F = (wkP F (lo d)).1) : nxP F d &&& ngA F = (wkP F (lo d + 1)).1 ∧ (∀ s, (wkP F (lo d + 1)).2 s = if (ngA F).testBit (lo d) = true ∧ ¬ prF F (rmv d (lo d)) = prF F d then up (up (wkP F (lo d)).2 (lo d) (foP F d)) (foP F d) (lo d) s else (wkP F (lo d)).2 s) := by
  have hb := hw.1; unfold WB at hb
  have hlb := lo_bit h0 hd
  have hl8 := lo_lt h0 hd
  have hr := rmv_le d (lo d)
  rw [wkP_s F (lo d), ← hi, Nat.testBit_and, hlb, Bool.true_and]
  by_cases hs : (ngA F).testBit (lo d) = true
  · rw [if_pos hs, ← rmv_and, pr_and hw (rmv d (lo d)) _ (Nat.le_refl _) (by omega) (by omega), pr_and hw d d (Nat.le_refl _) hdF hd]
    unfold nxP
    have hfo : foP F (d &&& ngA F) = foP F d := by unfold foP; exact ff_congr (fun o _ => pvb_and hw h0 hd hdF hs o)
    by_cases he : prF F (rmv d (lo d)) = prF F d
    · rw [if_pos he, if_pos he]
      exact ⟨rfl, fun s => by rw [if_neg (fun hc => hc.2 he)]⟩
    · rw [if_neg he, if_neg he, hfo]
      exact ⟨rmv_and _ _ _, fun s => by rw [if_pos ⟨hs, he⟩]⟩
  · have hsf : (ngA F).testBit (lo d) = false := Bool.eq_false_iff.2 hs
    rw [if_neg hs]
    have hlF := In_bit hdF hlb
    have hg : nog F (lo d) = false := by rw [ngA_bit, decide_eq_true hlF, Bool.true_and] at hsf; exact hsf
    have he : prF F (rmv d (lo d)) = prF F d := by rw [pr_s F h0 hd, mxP_none 8 (fun o _ => by unfold pcd cpb; rw [hg]; simp)]
    unfold nxP
    rw [if_pos he]
    refine ⟨?_, fun s => by rw [if_neg (fun hc => hs hc.1)]⟩
    rw [← hi]
    apply Nat.eq_of_testBit_eq
    intro i
    rw [Nat.testBit_and, Nat.testBit_and, rmv_bit d (lo d) i (by omega) (by omega)]
    by_cases ei : lo d = i
    · rw [← ei, hsf, Bool.and_false, Bool.and_false]
    · have : decide (lo d = i) = false := decide_eq_false ei
      rw [this, Bool.not_false, Bool.and_true]
/-- one turn of the reference's walk -/
theorem r_turn {N : Nat} (hN : 1099511627776 ≤ N) {Λ : Lay} {ad : Nat → Nat} {μ : Mem} {F : Nat → Nat} (hR : LyR Λ ad) (hW : Row μ (ad 182) 1222 F)  (hw : WF F) {d s : Nat} (h0 : 0 < d) (hd : d < 256) (hdF : d < 2 ^ F 0) (hs : s < F 0) (hT : ∀ e, e < 2 ^ F 0 → μ.1 (ad 198) e = n3 (prF F e)) (w : Int32) (k) : bd_X12_pairs_63 N Λ μ k (ad 181) (n3 s) (n3 d) w (n3 0) = k (n3 (nxP F d), n3 (if lo d = s then (if prF F (rmv d (lo d)) = prF F d then 4294967295 else foP F d) else lo d), n3 (bb (lo d = s ∨ (¬ prF F (rmv d (lo d)) = prF F d ∧ foP F d = s))), μ) := by
  have hb := hw.1; unfold WB at hb
  have hlb := lo_bit h0 hd
  have hl8 := lo_lt h0 hd
  have hr := rmv_le d (lo d)
  have hnz : m_XI_ntz N Λ μ (n3 d) = some (n3 (lo d)) := by rw [r_ntz1]; exact ntz_lo d hd h0
  have est : bd_X12_pairs_63 N Λ μ k (ad 181) (n3 s) (n3 d) w (n3 0) = lp_X12_pairs_77 N Λ k (ad 181) (n3 s) (n3 d) (n3 (lo d)) (n3 0 - n3 1, μ) := by
    simp (disch := omega) only [bd_X12_pairs_63, m_X12_firstOf, hnz, n3_neg1, ↓lt_e, ↓gd_e, ↓Option.bind_some, ↓reduceIte, if_true, if_false, if_pT, if_nF, decide_true, Bool.not_true, Bool.not_false, not_true_eq_false, not_false_eq_true, Bool.false_eq_true, Bool.true_eq_false, eq_self, n3_lit, n3_add, n3_mul, n3_sub, n3_tn, n3_le_t, n3_le_f, n3_lt_t, n3_lt_f, n3_eq_f, n3_eq_t, n3_inb, n3_rem, n3_div, n3_zb, bb_0, bb_1, zb_bb, bb_T, bb_F, n3_dec, n3_m1, n3_eqm, n3_eqmt, n3_ltm, n3_mlt, n3_lem, n3_mle, n3_neg_lt, n3_nlt_neg, n3_nle_neg, n3_neg_le]
  rw [est]
  have htd := hT d hdF
  have pb := pr_B hw hdF hd
  have pb2 := pr_B hw (d := rmv d (lo d)) (by omega) (by omega)
  have hp0 := r_pairedBy0 (N := N) hR hW h0 hd (fun e he => hT e (by omega))
  have hrs : n3 d &&& (ishl (n3 1) (n3 (lo d)) ^^^ -n3 1) = n3 (rmv d (lo d)) := n3_rmv (by omega)
  unfold lp_X12_pairs_77 nxP
  by_cases he : prF F (rmv d (lo d)) = prF F d
  · rw [if_pos he, if_pos he]
    rw [he] at hp0
    refine cw_it (fun _ => (n3 0 - n3 1, μ)) 0 rfl (fun i hi => absurd hi (Nat.not_lt_zero i)) (fun k' => ?_) (by omega)
    by_cases hls : lo d = s
    · rw [if_pos hls, bb_t (Or.inl hls)]
      simp (disch := omega) only [jn_X12_pairs_159, jn_X12_pairs_131, jn_X12_pairs_116, jn_X12_pairs_111, bd_X12_pairs_77, bd_X12_pairs_63, jn_X12_pairs_24, jn_X12_pairs_23, n3_m1, hp0, ↓ob (hR.1), ↓ob (hR.2.1), ↓ob (hR.2.2.1), ↓ob (hR.2.2.2.1), ↓ob (hR.2.2.2.2.1), ↓ob (hR.2.2.2.2.2.1), ↓ob (hR.2.2.2.2.2.2.1), ↓ob (hR.2.2.2.2.2.2.2.1), ↓ob (hR.2.2.2.2.2.2.2.2.1), ↓ob (hR.2.2.2.2.2.2.2.2.2.1), ↓ob (hR.2.2.2.2.2.2.2.2.2.2.1), ↓ob (hR.2.2.2.2.2.2.2.2.2.2.2.1), ↓ob (hR.2.2.2.2.2.2.2.2.2.2.2.2.1), ↓ob (hR.2.2.2.2.2.2.2.2.2.2.2.2.2.1), ↓ob (hR.2.2.2.2.2.2.2.2.2.2.2.2.2.2.1), ↓ob (hR.2.2.2.2.2.2.2.2.2.2.2.2.2.2.2.1), ↓ob (hR.2.2.2.2.2.2.2.2.2.2.2.2.2.2.2.2.1), ↓ob (hR.2.2.2.2.2.2.2.2.2.2.2.2.2.2.2.2.2.1), hR.2.2.2.2.2.2.2.2.2.2.2.2.2.2.2.2.2.2.1, hR.2.2.2.2.2.2.2.2.2.2.2.2.2.2.2.2.2.2.2.1, hR.2.2.2.2.2.2.2.2.2.2.2.2.2.2.2.2.2.2.2.2.1, hR.2.2.2.2.2.2.2.2.2.2.2.2.2.2.2.2.2.2.2.2.2.1, hR.2.2.2.2.2.2.2.2.2.2.2.2.2.2.2.2.2.2.2.2.2.2.1, hR.2.2.2.2.2.2.2.2.2.2.2.2.2.2.2.2.2.2.2.2.2.2.2.1, hR.2.2.2.2.2.2.2.2.2.2.2.2.2.2.2.2.2.2.2.2.2.2.2.2.1, hR.2.2.2.2.2.2.2.2.2.2.2.2.2.2.2.2.2.2.2.2.2.2.2.2.2.1, hR.2.2.2.2.2.2.2.2.2.2.2.2.2.2.2.2.2.2.2.2.2.2.2.2.2.2.1, hR.2.2.2.2.2.2.2.2.2.2.2.2.2.2.2.2.2.2.2.2.2.2.2.2.2.2.2.1, hR.2.2.2.2.2.2.2.2.2.2.2.2.2.2.2.2.2.2.2.2.2.2.2.2.2.2.2.2.1, hR.2.2.2.2.2.2.2.2.2.2.2.2.2.2.2.2.2.2.2.2.2.2.2.2.2.2.2.2.2.1, hR.2.2.2.2.2.2.2.2.2.2.2.2.2.2.2.2.2.2.2.2.2.2.2.2.2.2.2.2.2.2.1, hR.2.2.2.2.2.2.2.2.2.2.2.2.2.2.2.2.2.2.2.2.2.2.2.2.2.2.2.2.2.2.2.1, hR.2.2.2.2.2.2.2.2.2.2.2.2.2.2.2.2.2.2.2.2.2.2.2.2.2.2.2.2.2.2.2.2.1, hR.2.2.2.2.2.2.2.2.2.2.2.2.2.2.2.2.2.2.2.2.2.2.2.2.2.2.2.2.2.2.2.2.2.1, hR.2.2.2.2.2.2.2.2.2.2.2.2.2.2.2.2.2.2.2.2.2.2.2.2.2.2.2.2.2.2.2.2.2.2.1, hR.2.2.2.2.2.2.2.2.2.2.2.2.2.2.2.2.2.2.2.2.2.2.2.2.2.2.2.2.2.2.2.2.2.2.2, ↓lt_e, ↓gd_e, ↓Option.bind_some, ↓reduceIte, if_true, if_false, if_pT, if_nF, decide_true, Bool.not_true, Bool.not_false, not_true_eq_false, not_false_eq_true, Bool.false_eq_true, Bool.true_eq_false, eq_self, n3_lit, n3_inb, n3_tn, htd, n3_eq_t, hrs, n3_eqmt]
    · rw [if_neg hls, bb_f (fun hc => hc.elim hls (fun hc => hc.1 he))]
      simp (disch := omega) only [jn_X12_pairs_159, jn_X12_pairs_131, jn_X12_pairs_116, jn_X12_pairs_111, bd_X12_pairs_77, bd_X12_pairs_63, jn_X12_pairs_24, jn_X12_pairs_23, n3_m1, hp0, ↓ob (hR.1), ↓ob (hR.2.1), ↓ob (hR.2.2.1), ↓ob (hR.2.2.2.1), ↓ob (hR.2.2.2.2.1), ↓ob (hR.2.2.2.2.2.1), ↓ob (hR.2.2.2.2.2.2.1), ↓ob (hR.2.2.2.2.2.2.2.1), ↓ob (hR.2.2.2.2.2.2.2.2.1), ↓ob (hR.2.2.2.2.2.2.2.2.2.1), ↓ob (hR.2.2.2.2.2.2.2.2.2.2.1), ↓ob (hR.2.2.2.2.2.2.2.2.2.2.2.1), ↓ob (hR.2.2.2.2.2.2.2.2.2.2.2.2.1), ↓ob (hR.2.2.2.2.2.2.2.2.2.2.2.2.2.1), ↓ob (hR.2.2.2.2.2.2.2.2.2.2.2.2.2.2.1), ↓ob (hR.2.2.2.2.2.2.2.2.2.2.2.2.2.2.2.1), ↓ob (hR.2.2.2.2.2.2.2.2.2.2.2.2.2.2.2.2.1), ↓ob (hR.2.2.2.2.2.2.2.2.2.2.2.2.2.2.2.2.2.1), hR.2.2.2.2.2.2.2.2.2.2.2.2.2.2.2.2.2.2.1, hR.2.2.2.2.2.2.2.2.2.2.2.2.2.2.2.2.2.2.2.1, hR.2.2.2.2.2.2.2.2.2.2.2.2.2.2.2.2.2.2.2.2.1, hR.2.2.2.2.2.2.2.2.2.2.2.2.2.2.2.2.2.2.2.2.2.1, hR.2.2.2.2.2.2.2.2.2.2.2.2.2.2.2.2.2.2.2.2.2.2.1, hR.2.2.2.2.2.2.2.2.2.2.2.2.2.2.2.2.2.2.2.2.2.2.2.1, hR.2.2.2.2.2.2.2.2.2.2.2.2.2.2.2.2.2.2.2.2.2.2.2.2.1, hR.2.2.2.2.2.2.2.2.2.2.2.2.2.2.2.2.2.2.2.2.2.2.2.2.2.1, hR.2.2.2.2.2.2.2.2.2.2.2.2.2.2.2.2.2.2.2.2.2.2.2.2.2.2.1, hR.2.2.2.2.2.2.2.2.2.2.2.2.2.2.2.2.2.2.2.2.2.2.2.2.2.2.2.1, hR.2.2.2.2.2.2.2.2.2.2.2.2.2.2.2.2.2.2.2.2.2.2.2.2.2.2.2.2.1, hR.2.2.2.2.2.2.2.2.2.2.2.2.2.2.2.2.2.2.2.2.2.2.2.2.2.2.2.2.2.1, hR.2.2.2.2.2.2.2.2.2.2.2.2.2.2.2.2.2.2.2.2.2.2.2.2.2.2.2.2.2.2.1, hR.2.2.2.2.2.2.2.2.2.2.2.2.2.2.2.2.2.2.2.2.2.2.2.2.2.2.2.2.2.2.2.1, hR.2.2.2.2.2.2.2.2.2.2.2.2.2.2.2.2.2.2.2.2.2.2.2.2.2.2.2.2.2.2.2.2.1, hR.2.2.2.2.2.2.2.2.2.2.2.2.2.2.2.2.2.2.2.2.2.2.2.2.2.2.2.2.2.2.2.2.2.1, hR.2.2.2.2.2.2.2.2.2.2.2.2.2.2.2.2.2.2.2.2.2.2.2.2.2.2.2.2.2.2.2.2.2.2.1, hR.2.2.2.2.2.2.2.2.2.2.2.2.2.2.2.2.2.2.2.2.2.2.2.2.2.2.2.2.2.2.2.2.2.2.2, ↓lt_e, ↓gd_e, ↓Option.bind_some, ↓reduceIte, if_true, if_false, if_pT, if_nF, decide_true, Bool.not_true, Bool.not_false, not_true_eq_false, not_false_eq_true, Bool.false_eq_true, Bool.true_eq_false, eq_self, n3_lit, n3_inb, n3_tn, htd, n3_eq_t, n3_eq_f, hrs, n3_eqmt]
  · rw [if_neg he, if_neg he]
    obtain ⟨ho8, hov⟩ := fo_lt (F := F) h0 hd he
    have hpc : pcd F d (foP F d) = true := by
      unfold pvb at hov
      cases hq : pcd F d (foP F d) <;> simp_all
    have hpv : pvl F d (prF F) (foP F d) = prF F d := by
      unfold pvb at hov
      rw [hpc] at hov
      simpa using hov
    have hrb := (pcd_f hpc).1
    have hne0 : foP F d ≠ lo d := fun e => by
      have := pcd_lo (F := F) h0 hd (o := foP F d) (by omega)
      rw [this] at hpc; cases hpc
    have hrs2 : n3 (rmv d (lo d)) &&& (ishl (n3 1) (n3 (foP F d)) ^^^ -n3 1) = n3 (rmv (rmv d (lo d)) (foP F d)) := n3_rmv (by omega)
    refine cw_it (fun j => (n3 j - n3 1, μ)) (foP F d + 1) rfl (fun j hj' k' => ?_) (fun k' => ?_) (by omega)
    · by_cases j0 : j = 0
      · rw [j0]
        have hne : (n3 (prF F (rmv d (lo d))) = n3 (prF F d)) = False := n3_eq_f he (by omega) (by omega)
        simp (disch := omega) only [bd_X12_pairs_77, n3_m1, hp0, ↓ob (hR.1), ↓ob (hR.2.1), ↓ob (hR.2.2.1), ↓ob (hR.2.2.2.1), ↓ob (hR.2.2.2.2.1), ↓ob (hR.2.2.2.2.2.1), ↓ob (hR.2.2.2.2.2.2.1), ↓ob (hR.2.2.2.2.2.2.2.1), ↓ob (hR.2.2.2.2.2.2.2.2.1), ↓ob (hR.2.2.2.2.2.2.2.2.2.1), ↓ob (hR.2.2.2.2.2.2.2.2.2.2.1), ↓ob (hR.2.2.2.2.2.2.2.2.2.2.2.1), ↓ob (hR.2.2.2.2.2.2.2.2.2.2.2.2.1), ↓ob (hR.2.2.2.2.2.2.2.2.2.2.2.2.2.1), ↓ob (hR.2.2.2.2.2.2.2.2.2.2.2.2.2.2.1), ↓ob (hR.2.2.2.2.2.2.2.2.2.2.2.2.2.2.2.1), ↓ob (hR.2.2.2.2.2.2.2.2.2.2.2.2.2.2.2.2.1), ↓ob (hR.2.2.2.2.2.2.2.2.2.2.2.2.2.2.2.2.2.1), hR.2.2.2.2.2.2.2.2.2.2.2.2.2.2.2.2.2.2.1, hR.2.2.2.2.2.2.2.2.2.2.2.2.2.2.2.2.2.2.2.1, hR.2.2.2.2.2.2.2.2.2.2.2.2.2.2.2.2.2.2.2.2.1, hR.2.2.2.2.2.2.2.2.2.2.2.2.2.2.2.2.2.2.2.2.2.1, hR.2.2.2.2.2.2.2.2.2.2.2.2.2.2.2.2.2.2.2.2.2.2.1, hR.2.2.2.2.2.2.2.2.2.2.2.2.2.2.2.2.2.2.2.2.2.2.2.1, hR.2.2.2.2.2.2.2.2.2.2.2.2.2.2.2.2.2.2.2.2.2.2.2.2.1, hR.2.2.2.2.2.2.2.2.2.2.2.2.2.2.2.2.2.2.2.2.2.2.2.2.2.1, hR.2.2.2.2.2.2.2.2.2.2.2.2.2.2.2.2.2.2.2.2.2.2.2.2.2.2.1, hR.2.2.2.2.2.2.2.2.2.2.2.2.2.2.2.2.2.2.2.2.2.2.2.2.2.2.2.1, hR.2.2.2.2.2.2.2.2.2.2.2.2.2.2.2.2.2.2.2.2.2.2.2.2.2.2.2.2.1, hR.2.2.2.2.2.2.2.2.2.2.2.2.2.2.2.2.2.2.2.2.2.2.2.2.2.2.2.2.2.1, hR.2.2.2.2.2.2.2.2.2.2.2.2.2.2.2.2.2.2.2.2.2.2.2.2.2.2.2.2.2.2.1, hR.2.2.2.2.2.2.2.2.2.2.2.2.2.2.2.2.2.2.2.2.2.2.2.2.2.2.2.2.2.2.2.1, hR.2.2.2.2.2.2.2.2.2.2.2.2.2.2.2.2.2.2.2.2.2.2.2.2.2.2.2.2.2.2.2.2.1, hR.2.2.2.2.2.2.2.2.2.2.2.2.2.2.2.2.2.2.2.2.2.2.2.2.2.2.2.2.2.2.2.2.2.1, hR.2.2.2.2.2.2.2.2.2.2.2.2.2.2.2.2.2.2.2.2.2.2.2.2.2.2.2.2.2.2.2.2.2.2.1, hR.2.2.2.2.2.2.2.2.2.2.2.2.2.2.2.2.2.2.2.2.2.2.2.2.2.2.2.2.2.2.2.2.2.2.2, ↓lt_e, ↓gd_e, ↓Option.bind_some, ↓reduceIte, if_true, if_false, if_pT, if_nF, decide_true, Bool.not_true, Bool.not_false, not_true_eq_false, not_false_eq_true, Bool.false_eq_true, Bool.true_eq_false, eq_self, n3_lit, n3_inb, n3_tn, htd, hne]
        rfl
      · have hp := r_pairedBy (N := N) hR hW hw h0 hd hdF (o := j - 1) (by omega) (fun e he => hT e (by omega))
        have hno := ff_no (p := pvb F d) (n := 8) (i := j - 1) (by unfold foP at hj'; omega)
        have hne : (n3 (if pcd F d (j - 1) = true then pvl F d (prF F) (j - 1) else 4294967295) = n3 (prF F d)) = False := by
          by_cases hc : pcd F d (j - 1) = true
          · rw [if_pos hc]
            have := pvl_le hw h0 hd hdF hc
            unfold pvb at hno
            rw [hc] at hno
            refine n3_eq_f (fun e => ?_) (by omega) (by omega)
            simp [e] at hno
          · rw [if_neg hc]; exact n3_eq_f (by omega) (by omega) (by omega)
        simp (disch := omega) only [bd_X12_pairs_77, ↓ob (hR.1), ↓ob (hR.2.1), ↓ob (hR.2.2.1), ↓ob (hR.2.2.2.1), ↓ob (hR.2.2.2.2.1), ↓ob (hR.2.2.2.2.2.1), ↓ob (hR.2.2.2.2.2.2.1), ↓ob (hR.2.2.2.2.2.2.2.1), ↓ob (hR.2.2.2.2.2.2.2.2.1), ↓ob (hR.2.2.2.2.2.2.2.2.2.1), ↓ob (hR.2.2.2.2.2.2.2.2.2.2.1), ↓ob (hR.2.2.2.2.2.2.2.2.2.2.2.1), ↓ob (hR.2.2.2.2.2.2.2.2.2.2.2.2.1), ↓ob (hR.2.2.2.2.2.2.2.2.2.2.2.2.2.1), ↓ob (hR.2.2.2.2.2.2.2.2.2.2.2.2.2.2.1), ↓ob (hR.2.2.2.2.2.2.2.2.2.2.2.2.2.2.2.1), ↓ob (hR.2.2.2.2.2.2.2.2.2.2.2.2.2.2.2.2.1), ↓ob (hR.2.2.2.2.2.2.2.2.2.2.2.2.2.2.2.2.2.1), hR.2.2.2.2.2.2.2.2.2.2.2.2.2.2.2.2.2.2.1, hR.2.2.2.2.2.2.2.2.2.2.2.2.2.2.2.2.2.2.2.1, hR.2.2.2.2.2.2.2.2.2.2.2.2.2.2.2.2.2.2.2.2.1, hR.2.2.2.2.2.2.2.2.2.2.2.2.2.2.2.2.2.2.2.2.2.1, hR.2.2.2.2.2.2.2.2.2.2.2.2.2.2.2.2.2.2.2.2.2.2.1, hR.2.2.2.2.2.2.2.2.2.2.2.2.2.2.2.2.2.2.2.2.2.2.2.1, hR.2.2.2.2.2.2.2.2.2.2.2.2.2.2.2.2.2.2.2.2.2.2.2.2.1, hR.2.2.2.2.2.2.2.2.2.2.2.2.2.2.2.2.2.2.2.2.2.2.2.2.2.1, hR.2.2.2.2.2.2.2.2.2.2.2.2.2.2.2.2.2.2.2.2.2.2.2.2.2.2.1, hR.2.2.2.2.2.2.2.2.2.2.2.2.2.2.2.2.2.2.2.2.2.2.2.2.2.2.2.1, hR.2.2.2.2.2.2.2.2.2.2.2.2.2.2.2.2.2.2.2.2.2.2.2.2.2.2.2.2.1, hR.2.2.2.2.2.2.2.2.2.2.2.2.2.2.2.2.2.2.2.2.2.2.2.2.2.2.2.2.2.1, hR.2.2.2.2.2.2.2.2.2.2.2.2.2.2.2.2.2.2.2.2.2.2.2.2.2.2.2.2.2.2.1, hR.2.2.2.2.2.2.2.2.2.2.2.2.2.2.2.2.2.2.2.2.2.2.2.2.2.2.2.2.2.2.2.1, hR.2.2.2.2.2.2.2.2.2.2.2.2.2.2.2.2.2.2.2.2.2.2.2.2.2.2.2.2.2.2.2.2.1, hR.2.2.2.2.2.2.2.2.2.2.2.2.2.2.2.2.2.2.2.2.2.2.2.2.2.2.2.2.2.2.2.2.2.1, hR.2.2.2.2.2.2.2.2.2.2.2.2.2.2.2.2.2.2.2.2.2.2.2.2.2.2.2.2.2.2.2.2.2.2.1, hR.2.2.2.2.2.2.2.2.2.2.2.2.2.2.2.2.2.2.2.2.2.2.2.2.2.2.2.2.2.2.2.2.2.2.2, ↓lt_e, ↓gd_e, ↓Option.bind_some, ↓reduceIte, if_true, if_false, if_pT, if_nF, decide_true, Bool.not_true, Bool.not_false, not_true_eq_false, not_false_eq_true, Bool.false_eq_true, Bool.true_eq_false, eq_self, n3_lit, n3_sub, hp, n3_inb, n3_tn, htd, hne, n3_add]
        rw [show j - 1 + 1 = j + 1 - 1 by omega]
    · have hp := r_pairedBy (N := N) hR hW hw h0 hd hdF (o := foP F d) ho8 (fun e he => hT e (by omega))
      rw [if_pos hpc, hpv] at hp
      rw [n3_sub (show 1 ≤ foP F d + 1 by omega), Nat.add_sub_cancel]
      by_cases hls : lo d = s
      · rw [if_pos hls, bb_t (Or.inl hls)]
        simp (disch := omega) only [jn_X12_pairs_159, jn_X12_pairs_131, jn_X12_pairs_116, jn_X12_pairs_111, bd_X12_pairs_77, bd_X12_pairs_63, jn_X12_pairs_24, jn_X12_pairs_23, hp, ↓ob (hR.1), ↓ob (hR.2.1), ↓ob (hR.2.2.1), ↓ob (hR.2.2.2.1), ↓ob (hR.2.2.2.2.1), ↓ob (hR.2.2.2.2.2.1), ↓ob (hR.2.2.2.2.2.2.1), ↓ob (hR.2.2.2.2.2.2.2.1), ↓ob (hR.2.2.2.2.2.2.2.2.1), ↓ob (hR.2.2.2.2.2.2.2.2.2.1), ↓ob (hR.2.2.2.2.2.2.2.2.2.2.1), ↓ob (hR.2.2.2.2.2.2.2.2.2.2.2.1), ↓ob (hR.2.2.2.2.2.2.2.2.2.2.2.2.1), ↓ob (hR.2.2.2.2.2.2.2.2.2.2.2.2.2.1), ↓ob (hR.2.2.2.2.2.2.2.2.2.2.2.2.2.2.1), ↓ob (hR.2.2.2.2.2.2.2.2.2.2.2.2.2.2.2.1), ↓ob (hR.2.2.2.2.2.2.2.2.2.2.2.2.2.2.2.2.1), ↓ob (hR.2.2.2.2.2.2.2.2.2.2.2.2.2.2.2.2.2.1), hR.2.2.2.2.2.2.2.2.2.2.2.2.2.2.2.2.2.2.1, hR.2.2.2.2.2.2.2.2.2.2.2.2.2.2.2.2.2.2.2.1, hR.2.2.2.2.2.2.2.2.2.2.2.2.2.2.2.2.2.2.2.2.1, hR.2.2.2.2.2.2.2.2.2.2.2.2.2.2.2.2.2.2.2.2.2.1, hR.2.2.2.2.2.2.2.2.2.2.2.2.2.2.2.2.2.2.2.2.2.2.1, hR.2.2.2.2.2.2.2.2.2.2.2.2.2.2.2.2.2.2.2.2.2.2.2.1, hR.2.2.2.2.2.2.2.2.2.2.2.2.2.2.2.2.2.2.2.2.2.2.2.2.1, hR.2.2.2.2.2.2.2.2.2.2.2.2.2.2.2.2.2.2.2.2.2.2.2.2.2.1, hR.2.2.2.2.2.2.2.2.2.2.2.2.2.2.2.2.2.2.2.2.2.2.2.2.2.2.1, hR.2.2.2.2.2.2.2.2.2.2.2.2.2.2.2.2.2.2.2.2.2.2.2.2.2.2.2.1, hR.2.2.2.2.2.2.2.2.2.2.2.2.2.2.2.2.2.2.2.2.2.2.2.2.2.2.2.2.1, hR.2.2.2.2.2.2.2.2.2.2.2.2.2.2.2.2.2.2.2.2.2.2.2.2.2.2.2.2.2.1, hR.2.2.2.2.2.2.2.2.2.2.2.2.2.2.2.2.2.2.2.2.2.2.2.2.2.2.2.2.2.2.1, hR.2.2.2.2.2.2.2.2.2.2.2.2.2.2.2.2.2.2.2.2.2.2.2.2.2.2.2.2.2.2.2.1, hR.2.2.2.2.2.2.2.2.2.2.2.2.2.2.2.2.2.2.2.2.2.2.2.2.2.2.2.2.2.2.2.2.1, hR.2.2.2.2.2.2.2.2.2.2.2.2.2.2.2.2.2.2.2.2.2.2.2.2.2.2.2.2.2.2.2.2.2.1, hR.2.2.2.2.2.2.2.2.2.2.2.2.2.2.2.2.2.2.2.2.2.2.2.2.2.2.2.2.2.2.2.2.2.2.1, hR.2.2.2.2.2.2.2.2.2.2.2.2.2.2.2.2.2.2.2.2.2.2.2.2.2.2.2.2.2.2.2.2.2.2.2, ↓lt_e, ↓gd_e, ↓Option.bind_some, ↓reduceIte, if_true, if_false, if_pT, if_nF, decide_true, Bool.not_true, Bool.not_false, not_true_eq_false, not_false_eq_true, Bool.false_eq_true, Bool.true_eq_false, eq_self, n3_lit, n3_inb, n3_tn, htd, n3_eq_t, hrs, hrs2, n3_eqm]
      · rw [if_neg hls]
        by_cases hos : foP F d = s
        · rw [bb_t (Or.inr ⟨he, hos⟩)]
          simp (disch := omega) only [jn_X12_pairs_159, jn_X12_pairs_131, jn_X12_pairs_116, jn_X12_pairs_111, bd_X12_pairs_77, bd_X12_pairs_63, jn_X12_pairs_24, jn_X12_pairs_23, hp, ↓ob (hR.1), ↓ob (hR.2.1), ↓ob (hR.2.2.1), ↓ob (hR.2.2.2.1), ↓ob (hR.2.2.2.2.1), ↓ob (hR.2.2.2.2.2.1), ↓ob (hR.2.2.2.2.2.2.1), ↓ob (hR.2.2.2.2.2.2.2.1), ↓ob (hR.2.2.2.2.2.2.2.2.1), ↓ob (hR.2.2.2.2.2.2.2.2.2.1), ↓ob (hR.2.2.2.2.2.2.2.2.2.2.1), ↓ob (hR.2.2.2.2.2.2.2.2.2.2.2.1), ↓ob (hR.2.2.2.2.2.2.2.2.2.2.2.2.1), ↓ob (hR.2.2.2.2.2.2.2.2.2.2.2.2.2.1), ↓ob (hR.2.2.2.2.2.2.2.2.2.2.2.2.2.2.1), ↓ob (hR.2.2.2.2.2.2.2.2.2.2.2.2.2.2.2.1), ↓ob (hR.2.2.2.2.2.2.2.2.2.2.2.2.2.2.2.2.1), ↓ob (hR.2.2.2.2.2.2.2.2.2.2.2.2.2.2.2.2.2.1), hR.2.2.2.2.2.2.2.2.2.2.2.2.2.2.2.2.2.2.1, hR.2.2.2.2.2.2.2.2.2.2.2.2.2.2.2.2.2.2.2.1, hR.2.2.2.2.2.2.2.2.2.2.2.2.2.2.2.2.2.2.2.2.1, hR.2.2.2.2.2.2.2.2.2.2.2.2.2.2.2.2.2.2.2.2.2.1, hR.2.2.2.2.2.2.2.2.2.2.2.2.2.2.2.2.2.2.2.2.2.2.1, hR.2.2.2.2.2.2.2.2.2.2.2.2.2.2.2.2.2.2.2.2.2.2.2.1, hR.2.2.2.2.2.2.2.2.2.2.2.2.2.2.2.2.2.2.2.2.2.2.2.2.1, hR.2.2.2.2.2.2.2.2.2.2.2.2.2.2.2.2.2.2.2.2.2.2.2.2.2.1, hR.2.2.2.2.2.2.2.2.2.2.2.2.2.2.2.2.2.2.2.2.2.2.2.2.2.2.1, hR.2.2.2.2.2.2.2.2.2.2.2.2.2.2.2.2.2.2.2.2.2.2.2.2.2.2.2.1, hR.2.2.2.2.2.2.2.2.2.2.2.2.2.2.2.2.2.2.2.2.2.2.2.2.2.2.2.2.1, hR.2.2.2.2.2.2.2.2.2.2.2.2.2.2.2.2.2.2.2.2.2.2.2.2.2.2.2.2.2.1, hR.2.2.2.2.2.2.2.2.2.2.2.2.2.2.2.2.2.2.2.2.2.2.2.2.2.2.2.2.2.2.1, hR.2.2.2.2.2.2.2.2.2.2.2.2.2.2.2.2.2.2.2.2.2.2.2.2.2.2.2.2.2.2.2.1, hR.2.2.2.2.2.2.2.2.2.2.2.2.2.2.2.2.2.2.2.2.2.2.2.2.2.2.2.2.2.2.2.2.1, hR.2.2.2.2.2.2.2.2.2.2.2.2.2.2.2.2.2.2.2.2.2.2.2.2.2.2.2.2.2.2.2.2.2.1, hR.2.2.2.2.2.2.2.2.2.2.2.2.2.2.2.2.2.2.2.2.2.2.2.2.2.2.2.2.2.2.2.2.2.2.1, hR.2.2.2.2.2.2.2.2.2.2.2.2.2.2.2.2.2.2.2.2.2.2.2.2.2.2.2.2.2.2.2.2.2.2.2, ↓lt_e, ↓gd_e, ↓Option.bind_some, ↓reduceIte, if_true, if_false, if_pT, if_nF, decide_true, Bool.not_true, Bool.not_false, not_true_eq_false, not_false_eq_true, Bool.false_eq_true, Bool.true_eq_false, eq_self, n3_lit, n3_inb, n3_tn, htd, n3_eq_t, n3_eq_f, hrs, hrs2, n3_eqm]
        · rw [bb_f (fun hc => hc.elim hls (fun hc => hos hc.2))]
          simp (disch := omega) only [jn_X12_pairs_159, jn_X12_pairs_131, jn_X12_pairs_116, jn_X12_pairs_111, bd_X12_pairs_77, bd_X12_pairs_63, jn_X12_pairs_24, jn_X12_pairs_23, hp, ↓ob (hR.1), ↓ob (hR.2.1), ↓ob (hR.2.2.1), ↓ob (hR.2.2.2.1), ↓ob (hR.2.2.2.2.1), ↓ob (hR.2.2.2.2.2.1), ↓ob (hR.2.2.2.2.2.2.1), ↓ob (hR.2.2.2.2.2.2.2.1), ↓ob (hR.2.2.2.2.2.2.2.2.1), ↓ob (hR.2.2.2.2.2.2.2.2.2.1), ↓ob (hR.2.2.2.2.2.2.2.2.2.2.1), ↓ob (hR.2.2.2.2.2.2.2.2.2.2.2.1), ↓ob (hR.2.2.2.2.2.2.2.2.2.2.2.2.1), ↓ob (hR.2.2.2.2.2.2.2.2.2.2.2.2.2.1), ↓ob (hR.2.2.2.2.2.2.2.2.2.2.2.2.2.2.1), ↓ob (hR.2.2.2.2.2.2.2.2.2.2.2.2.2.2.2.1), ↓ob (hR.2.2.2.2.2.2.2.2.2.2.2.2.2.2.2.2.1), ↓ob (hR.2.2.2.2.2.2.2.2.2.2.2.2.2.2.2.2.2.1), hR.2.2.2.2.2.2.2.2.2.2.2.2.2.2.2.2.2.2.1, hR.2.2.2.2.2.2.2.2.2.2.2.2.2.2.2.2.2.2.2.1, hR.2.2.2.2.2.2.2.2.2.2.2.2.2.2.2.2.2.2.2.2.1, hR.2.2.2.2.2.2.2.2.2.2.2.2.2.2.2.2.2.2.2.2.2.1, hR.2.2.2.2.2.2.2.2.2.2.2.2.2.2.2.2.2.2.2.2.2.2.1, hR.2.2.2.2.2.2.2.2.2.2.2.2.2.2.2.2.2.2.2.2.2.2.2.1, hR.2.2.2.2.2.2.2.2.2.2.2.2.2.2.2.2.2.2.2.2.2.2.2.2.1, hR.2.2.2.2.2.2.2.2.2.2.2.2.2.2.2.2.2.2.2.2.2.2.2.2.2.1, hR.2.2.2.2.2.2.2.2.2.2.2.2.2.2.2.2.2.2.2.2.2.2.2.2.2.2.1, hR.2.2.2.2.2.2.2.2.2.2.2.2.2.2.2.2.2.2.2.2.2.2.2.2.2.2.2.1, hR.2.2.2.2.2.2.2.2.2.2.2.2.2.2.2.2.2.2.2.2.2.2.2.2.2.2.2.2.1, hR.2.2.2.2.2.2.2.2.2.2.2.2.2.2.2.2.2.2.2.2.2.2.2.2.2.2.2.2.2.1, hR.2.2.2.2.2.2.2.2.2.2.2.2.2.2.2.2.2.2.2.2.2.2.2.2.2.2.2.2.2.2.1, hR.2.2.2.2.2.2.2.2.2.2.2.2.2.2.2.2.2.2.2.2.2.2.2.2.2.2.2.2.2.2.2.1, hR.2.2.2.2.2.2.2.2.2.2.2.2.2.2.2.2.2.2.2.2.2.2.2.2.2.2.2.2.2.2.2.2.1, hR.2.2.2.2.2.2.2.2.2.2.2.2.2.2.2.2.2.2.2.2.2.2.2.2.2.2.2.2.2.2.2.2.2.1, hR.2.2.2.2.2.2.2.2.2.2.2.2.2.2.2.2.2.2.2.2.2.2.2.2.2.2.2.2.2.2.2.2.2.2.1, hR.2.2.2.2.2.2.2.2.2.2.2.2.2.2.2.2.2.2.2.2.2.2.2.2.2.2.2.2.2.2.2.2.2.2.2, ↓lt_e, ↓gd_e, ↓Option.bind_some, ↓reduceIte, if_true, if_false, if_pT, if_nF, decide_true, Bool.not_true, Bool.not_false, not_true_eq_false, not_false_eq_true, Bool.false_eq_true, Bool.true_eq_false, eq_self, n3_lit, n3_inb, n3_tn, htd, n3_eq_t, n3_eq_f, hrs, hrs2, n3_eqm]
theorem R_pairs_t {N : Nat} (hN : 1099511627776 ≤ N) {Λ : Lay} {ad : Nat → Nat} {μ : Mem} {F : Nat → Nat} {m : Nat} {A : Nat → Nat → Nat} {b : Nat} {J : Nat → Nat} {T : Nat → Int32} {n : Nat} {f : Int32} (hY : Ly Λ ad) (h : RR ad μ F m A b J T n f) (ho : Ok F m A b J T n)  (s : Nat) (hs : s < F 0) : RV ad μ (m_X12_pairs N Λ μ (ad 181) (n3 s)) 0 (n3 ((wkP F (F 0)).2 s)) F m A b J T n f := by
  have hj := hY.1
  have hR := hY.2.1
  have hW := h.1
  have hw := ho.1
  have hl := ho.2.1
  have hb := hw.1; unfold WB at hb
  have h2 : 2 ^ F 0 ≤ 2 ^ 8 := Nat.pow_le_pow_right (by decide) hb.1
  have h21 : 1 ≤ 2 ^ F 0 := Nat.two_pow_pos _
  unfold m_X12_pairs
  refine RV.start hY.1 h (fun μ0 h0 t0 => ?_)
  obtain ⟨μ1, e1, hT, f1⟩ := r_laysPairs hN hR h0.1 hj hw
  have hW1 := h0.1.fr f1 (by omega)
  have ns := r_noSh (N := N) hR h0.1 hb.1 (n3 s)
  refine RV.scr h0 t0 (f1.mono (fun i hi => by unfold ScX; omega)) ?_
  simp (disch := omega) only [jn_X12_pairs_23, jn_X12_pairs_24, ns, inr_n3, r_thr0, e1, r_ships hR hW1, n3_shl, Nat.one_mul, ↓lt_e, ↓gd_e, ↓Option.bind_some, ↓reduceIte, if_true, if_false, if_pT, if_nF, decide_true, Bool.not_true, Bool.not_false, not_true_eq_false, not_false_eq_true, Bool.false_eq_true, Bool.true_eq_false, eq_self, n3_lit, n3_add, n3_mul, n3_sub, n3_tn, n3_le_t, n3_le_f, n3_lt_t, n3_lt_f, n3_eq_f, n3_eq_t, n3_inb, n3_rem, n3_div, n3_zb, bb_0, bb_1, zb_bb, bb_T, bb_F, n3_dec, n3_m1, n3_eqm, n3_eqmt, n3_ltm, n3_mlt, n3_lem, n3_mle, n3_neg_lt, n3_nlt_neg, n3_nle_neg, n3_neg_le, lp_X12_pairs_63, n3_neg1]
  refine cw_me (P := fun x : Int32 × Int32 × Int32 × Mem => (∃ d : Nat, ∃ w, x = (n3 d, w, n3 0, μ1) ∧ 0 < d ∧ d < 2 ^ F 0 ∧ d.testBit s = true ∧ d &&& ngA F = (wkP F (lo d)).1) ∨ (∃ d : Nat, x = (n3 d, n3 ((wkP F (F 0)).2 s), n3 1, μ1))) (Q := fun X => X = some (n3 ((wkP F (F 0)).2 s), μ1)) (fun x => if x.2.2.1 = n3 1 then 0 else u3 x.1 + 1) (fun x hx => ?_) N _ ?_ ?_
  · rcases hx with ⟨d, w, rfl, hd0, hdF, hds, hdi⟩ | ⟨d, rfl⟩
    · left
      have hd8 : d < 256 := by omega
      have hlb := lo_bit hd0 hd8
      have hl8 := lo_lt hd0 hd8
      have hr := rmv_lt (s := lo d) (by omega) (by omega) hlb
      have hlF := In_bit hdF hlb
      obtain ⟨n1, n2⟩ := nx_wk hw hd0 hd8 hdF hdi
      have hnle : nxP F d < d := by
        unfold nxP; split
        · exact hr
        · have := rmv_le (rmv d (lo d)) (foP F d); omega
      have hgone : (ngA F).testBit s = false → (wkP F (F 0)).2 s = 4294967295 := fun hg => (wk_keep hb.1 (F 0) 0 (by omega) (Nat.le_refl _) hg).2
      have hnbit : ∀ t, (nxP F d).testBit t = (d.testBit t && !(decide (lo d = t) || (!decide (prF F (rmv d (lo d)) = prF F d) && decide (foP F d = t)))) := by
        intro t
        unfold nxP
        by_cases he : prF F (rmv d (lo d)) = prF F d
        · rw [if_pos he, rmv_bit d (lo d) t (by omega) (by omega)]; simp [he]
        · have hfo := fo_lt (F := F) hd0 hd8 he
          rw [if_neg he, rmv_bit _ _ t (by omega) (by omega), rmv_bit d (lo d) t (by omega) (by omega)]
          simp only [he, decide_false, Bool.not_false, Bool.true_and, Bool.not_or, Bool.and_assoc]
      by_cases hfound : lo d = s ∨ (¬ prF F (rmv d (lo d)) = prF F d ∧ foP F d = s)
      · refine ⟨_, Or.inr ⟨nxP F d, rfl⟩, ?_, fun k => ?_⟩
        · show (if n3 1 = n3 1 then 0 else _) < (if n3 0 = n3 1 then 0 else u3 (n3 d) + 1)
          rw [if_pos rfl, if_neg (by decide)]; omega
        · show bd_X12_pairs_63 N Λ μ1 k (ad 181) (n3 s) (n3 d) w (n3 0) = _
          rw [r_turn hN hR hW1 hw hd0 hd8 hdF hs hT w k, bb_t hfound]
          have hval : (if lo d = s then (if prF F (rmv d (lo d)) = prF F d then 4294967295 else foP F d) else lo d) = (wkP F (F 0)).2 s := by
            have hsn : (nxP F d).testBit s = false := by
              rw [hnbit s]
              rcases hfound with e | ⟨e, e2⟩
              · simp [e]
              · simp [e, e2]
            by_cases hg : (ngA F).testBit s = true
            · have hk := wk_keep hb.1 (s := s) (F 0) (lo d + 1) (by omega) (Nat.le_refl _) (by rw [← n1, Nat.testBit_and, hsn]; rfl)
              rw [hk.2, n2 s]
              have hwn : (wkP F (lo d)).2 s = 4294967295 := wk_none hb.1 (lo d) (by omega) (by rw [← hdi, Nat.testBit_and, hds, hg]; rfl)
              by_cases he : prF F (rmv d (lo d)) = prF F d
              · have hls : lo d = s := by
                  rcases hfound with e | ⟨e, _⟩
                  · exact e
                  · exact absurd he e
                rw [if_pos hls, if_pos he, if_neg (fun hc => hc.2 he), hwn]
              · have hla : (ngA F).testBit (lo d) = true := by
                  cases hq : (ngA F).testBit (lo d)
                  · exfalso
                    have hgl : nog F (lo d) = false := by rw [ngA_bit, decide_eq_true hlF, Bool.true_and] at hq; exact hq
                    exact he (by rw [pr_s F hd0 hd8, mxP_none 8 (fun o _ => by unfold pcd cpb; rw [hgl]; simp)])
                  · rfl
                have hne0 : foP F d ≠ lo d := fun e => by
                  obtain ⟨_, hov⟩ := fo_lt (F := F) hd0 hd8 he
                  unfold pvb at hov
                  have := pcd_lo (F := F) hd0 hd8 (o := foP F d) (by omega)
                  rw [this] at hov; simp at hov
                have hc2 : (ngA F).testBit (lo d) = true ∧ ¬ prF F (rmv d (lo d)) = prF F d := ⟨hla, he⟩
                by_cases hls : lo d = s
                · rw [if_pos hls, if_neg he, if_pos hc2, up_n (by omega), ← hls, up_e]
                · rcases hfound with e | ⟨_, e2⟩
                  · exact absurd e hls
                  · rw [if_neg hls, if_pos hc2, ← e2, up_e]
            · have hgf : (ngA F).testBit s = false := Bool.eq_false_iff.2 hg
              rw [hgone hgf]
              rcases hfound with e | ⟨e1', e2⟩
              · rw [if_pos e]
                have hgl : nog F (lo d) = false := by
                  rw [ngA_bit, decide_eq_true hs, Bool.true_and] at hgf
                  rw [e]; exact hgf
                rw [if_pos (by rw [pr_s F hd0 hd8, mxP_none 8 (fun o _ => by unfold pcd cpb; rw [hgl]; simp)])]
              · exfalso
                obtain ⟨_, hov⟩ := fo_lt (F := F) hd0 hd8 e1'
                have hpc : pcd F d (foP F d) = true := by
                  unfold pvb at hov
                  cases hq : pcd F d (foP F d) <;> simp_all
                have := (cpb_iff.1 (pcd_f hpc).2).2.1
                rw [e2] at this
                rw [ngA_bit, decide_eq_true hs, Bool.true_and] at hgf
                simp [nog, this] at hgf
          rw [hval]
      · have hsn : (nxP F d).testBit s = true := by
          rw [hnbit s, hds]
          have a1 : ¬ lo d = s := fun e => hfound (Or.inl e)
          by_cases he : prF F (rmv d (lo d)) = prF F d
          · simp [a1, he]
          · have a2 : ¬ foP F d = s := fun e => hfound (Or.inr ⟨he, e⟩)
            simp [a1, a2]
        have hn0 : 0 < nxP F d := by
          rcases Nat.eq_zero_or_pos (nxP F d) with e | e
          · rw [e, Nat.zero_testBit] at hsn; cases hsn
          · exact e
        have hlt : lo d < lo (nxP F d) := by
          rcases Nat.lt_or_ge (lo d) (lo (nxP F d)) with hh | hh
          · exact hh
          · exfalso
            have hb1 := lo_bit hn0 (show nxP F d < 256 by omega)
            rw [hnbit] at hb1
            by_cases e : lo d = lo (nxP F d)
            · simp [← e] at hb1
            · rw [lo_no (show lo (nxP F d) < lo d by omega)] at hb1; cases hb1
        refine ⟨_, Or.inl ⟨nxP F d, n3 (if lo d = s then (if prF F (rmv d (lo d)) = prF F d then 4294967295 else foP F d) else lo d), rfl, hn0, by omega, hsn, ?_⟩, ?_, fun k => ?_⟩
        · rw [n1, wk_skip (i := lo d + 1) (lo (nxP F d)) (by omega) (fun t _ ht => by rw [← n1, Nat.testBit_and, lo_no ht]; rfl)]
        · show (if n3 0 = n3 1 then 0 else u3 (n3 (nxP F d)) + 1) < (if n3 0 = n3 1 then 0 else u3 (n3 d) + 1)
          rw [if_neg (by decide), if_neg (by decide), u3_n3 (by omega), u3_n3 (by omega)]; omega
        · show bd_X12_pairs_63 N Λ μ1 k (ad 181) (n3 s) (n3 d) w (n3 0) = _
          rw [r_turn hN hR hW1 hw hd0 hd8 hdF hs hT w k, bb_f hfound]
    · right
      exact ⟨_, rfl, fun k => by simp (disch := omega) only [bd_X12_pairs_63, ↓lt_e, ↓gd_e, ↓Option.bind_some, ↓reduceIte, if_true, if_false, if_pT, if_nF, decide_true, Bool.not_true, Bool.not_false, not_true_eq_false, not_false_eq_true, Bool.false_eq_true, Bool.true_eq_false, eq_self, n3_lit, n3_add, n3_mul, n3_sub, n3_tn, n3_le_t, n3_le_f, n3_lt_t, n3_lt_f, n3_eq_f, n3_eq_t, n3_inb, n3_rem, n3_div, n3_zb, bb_0, bb_1, zb_bb, bb_T, bb_F, n3_dec, n3_m1, n3_eqm, n3_eqmt, n3_ltm, n3_mlt, n3_lem, n3_mle, n3_neg_lt, n3_nlt_neg, n3_nle_neg, n3_neg_le]⟩
  · left
    have hp1 : 1 ≤ 2 ^ F 0 - 1 := by
      have : 2 ^ 1 ≤ 2 ^ F 0 := Nat.pow_le_pow_right (by decide) (by omega)
      omega
    have hsb : (2 ^ F 0 - 1).testBit s = true := by rw [Nat.testBit_two_pow_sub_one]; exact decide_eq_true hs
    have hlo : lo (2 ^ F 0 - 1) = 0 := lo_eq (by omega) (by rw [Nat.testBit_two_pow_sub_one]; exact decide_eq_true (by omega)) (fun i hi => by omega)
    exact ⟨2 ^ F 0 - 1, _, rfl, by omega, by omega, hsb, by rw [hlo, full_and]; rfl⟩
  · show (if n3 0 = n3 1 then 0 else u3 (n3 (2 ^ F 0 - 1)) + 1) < N
    rw [if_neg (by decide), u3_n3 (by omega)]; omega
/-! ships put to places -/
def wtb (F : Nat → Nat) (s q : Nat) : Bool := decide (F (25 + 6 * s + 3) = 0) && fitb (tkn F (F 0)) q (F (25 + 6 * s))
theorem wtb_iff {F : Nat → Nat} {s q : Nat} : wtb F s q = true ↔ F (25 + 6 * s + 3) = 0 ∧ fitb (tkn F (F 0)) q (F (25 + 6 * s)) = true := by simp [wtb]
theorem wtb_le {F : Nat → Nat} {s q : Nat} (h : wtb F s q = true) : q + F (25 + 6 * s) ≤ 24 := (fitb_iff.1 (wtb_iff.1 h).2).1
def mb (w : Nat → Bool) (v : Nat → Nat) (st p : Nat) : Nat → Nat
  | 0 => st
  | k + 1 => if w (p + k) = true then max (mb w v st p k) (v (p + k)) else mb w v st p k
theorem mb_le {w : Nat → Bool} {v : Nat → Nat} {st p X : Nat} : ∀ k, mb w v st p k ≤ X ↔ st ≤ X ∧ ∀ q, p ≤ q → q < p + k → w q = true → v q ≤ X
  | 0 => ⟨fun h => ⟨h, fun q h1 h2 => by omega⟩, fun h => h.1⟩
  | k + 1 => by
    have ih := mb_le (w := w) (v := v) (st := st) (p := p) (X := X) k
    unfold mb
    by_cases hw : w (p + k) = true
    · rw [if_pos hw, Nat.max_le, ih]
      refine ⟨fun h => ⟨h.1.1, fun q h1 h2 h3 => ?_⟩, fun h => ⟨⟨h.1, fun q h1 h2 h3 => h.2 q h1 (by omega) h3⟩, h.2 _ (by omega) (by omega) hw⟩⟩
      by_cases e : q = p + k
      · rw [e]; exact h.2
      · exact h.1.2 q h1 (by omega) h3
    · rw [if_neg hw, ih]
      refine ⟨fun h => ⟨h.1, fun q h1 h2 h3 => ?_⟩, fun h => ⟨h.1, fun q h1 h2 h3 => h.2 q h1 (by omega) h3⟩⟩
      by_cases e : q = p + k
      · rw [e] at h3; exact absurd h3 hw
      · exact h.2 q h1 (by omega) h3
theorem mb_at {w : Nat → Bool} {v : Nat → Nat} {st p : Nat} : ∀ k, mb w v st p k = st ∨ ∃ q, p ≤ q ∧ q < p + k ∧ w q = true ∧ v q = mb w v st p k
  | 0 => Or.inl rfl
  | k + 1 => by
    have ih := mb_at (w := w) (v := v) (st := st) (p := p) k
    unfold mb
    by_cases hw : w (p + k) = true
    · rw [if_pos hw]
      rcases Nat.le_total (mb w v st p k) (v (p + k)) with h | h
      · rw [Nat.max_eq_right h]; exact Or.inr ⟨p + k, by omega, by omega, hw, rfl⟩
      · rw [Nat.max_eq_left h]
        rcases ih with e | ⟨q, a, b, c, d⟩
        · exact Or.inl e
        · exact Or.inr ⟨q, a, by omega, c, d⟩
    · rw [if_neg hw]
      rcases ih with e | ⟨q, a, b, c, d⟩
      · exact Or.inl e
      · exact Or.inr ⟨q, a, by omega, c, d⟩
def bdF (F : Nat → Nat) : Nat → Nat → Nat
  | 0, _ => 0
  | j + 1, p => mb (wtb F (F 0 - (j + 1))) (fun q => F (25 + 6 * (F 0 - (j + 1))) + bdF F j (q + F (25 + 6 * (F 0 - (j + 1))))) (bdF F j p) p (24 - p)
def bB (F : Nat → Nat) (s p : Nat) : Nat := bdF F (F 0 - s) p
def bhv (F : Nat → Nat) (s q : Nat) : Nat := F (25 + 6 * s) + bB F (s + 1) (q + F (25 + 6 * s))
theorem bB_s {F : Nat → Nat} {s : Nat} (hs : s < F 0) (p : Nat) : bB F s p = mb (wtb F s) (bhv F s) (bB F (s + 1) p) p (24 - p) := by
  unfold bB bhv
  obtain ⟨j, hj⟩ : ∃ j, F 0 - s = j + 1 := ⟨F 0 - s - 1, by omega⟩
  have e1 : F 0 - (s + 1) = j := by omega
  have e2 : F 0 - (j + 1) = s := by omega
  rw [hj]
  show mb (wtb F (F 0 - (j + 1))) (fun q => F (25 + 6 * (F 0 - (j + 1))) + bdF F j (q + F (25 + 6 * (F 0 - (j + 1))))) (bdF F j p) p (24 - p) = _
  rw [e2]
  unfold bB
  rw [e1]
theorem bB_e (F : Nat → Nat) (p : Nat) : bB F (F 0) p = 0 := by unfold bB; rw [Nat.sub_self]; rfl
theorem bB_le {F : Nat → Nat} {s p X : Nat} (hs : s < F 0) (hp : p ≤ 24) : bB F s p ≤ X ↔ bB F (s + 1) p ≤ X ∧ ∀ q, p ≤ q → q < 24 → wtb F s q = true → bhv F s q ≤ X := by
  rw [bB_s hs p, mb_le, show p + (24 - p) = 24 by omega]
theorem bB_mono {F : Nat → Nat} : ∀ j s, F 0 - s = j → s ≤ F 0 → ∀ p, p < 24 → bB F s (p + 1) ≤ bB F s p := by
  intro j
  induction j with
  | zero => intro s hj hs p hp; rw [show s = F 0 by omega, bB_e, bB_e]; exact Nat.le_refl _
  | succ j ih =>
    intro s hj hs p hp
    have h1 := (bB_le (F := F) (s := s) (p := p) (X := bB F s p) (by omega) (by omega)).1 (Nat.le_refl _)
    refine (bB_le (by omega) (by omega)).2 ⟨?_, fun q a b c => h1.2 q (by omega) b c⟩
    exact Nat.le_trans (ih (s + 1) (by omega) (by omega) p hp) h1.1
theorem bB_bd {F : Nat → Nat} (hw : WF F) : ∀ j s, F 0 - s = j → s ≤ F 0 → ∀ p, p ≤ 24 → bB F s p ≤ 12 * j := by
  intro j
  induction j with
  | zero => intro s hj hs p hp; rw [show s = F 0 by omega, bB_e]; exact Nat.zero_le _
  | succ j ih =>
    intro s hj hs p hp
    have hso := hw.2.2.1 s (by omega)
    unfold ShOk at hso
    refine (bB_le (by omega) hp).2 ⟨by have := ih (s + 1) (by omega) (by omega) p hp; omega, fun q a b c => ?_⟩
    have := ih (s + 1) (by omega) (by omega) (q + F (25 + 6 * s)) (wtb_le c)
    unfold bhv; omega
theorem bB_100 {F : Nat → Nat} (hw : WF F) {s p : Nat} (hs : s ≤ F 0) (hp : p ≤ 24) : bB F s p ≤ 96 := by
  have h8 : F 0 ≤ 8 := hw.1.1
  have := bB_bd hw (F 0 - s) s rfl hs p hp
  omega
theorem bhv_100 {F : Nat → Nat} (hw : WF F) {s q : Nat} (hs : s < F 0) (hc : wtb F s q = true) : bhv F s q ≤ 108 := by
  have hso := hw.2.2.1 s hs
  have := bB_100 hw (s := s + 1) (by omega) (wtb_le hc)
  unfold ShOk at hso
  unfold bhv; omega
/-- as the class makes it -/
theorem wtb_lt {F : Nat → Nat} (hw : WF F) {s q : Nat} (hs : s < F 0) (h : wtb F s q = true) : q < 24 := by
  have h1 := wtb_le h
  have hso := hw.2.2.1 s hs
  unfold ShOk at hso
  omega
theorem bB_c {F : Nat → Nat} (hw : WF F) {s p : Nat} (hs : s < F 0) (hp : p ≤ 24) : bB F s p = max (bB F (s + 1) p) (max (if p < 24 then bB F s (p + 1) else 0) (if wtb F s p = true then bhv F s p else 0)) := by
  have h1 := (bB_le (F := F) (s := s) (p := p) (X := bB F s p) hs hp).1 (Nat.le_refl _)
  apply Nat.le_antisymm
  · refine (bB_le hs hp).2 ⟨by omega, fun q a b c => ?_⟩
    by_cases e : q = p
    · subst e; rw [if_pos c]; omega
    · have h2 := (bB_le (F := F) (s := s) (p := p + 1) (X := bB F s (p + 1)) hs (by omega)).1 (Nat.le_refl _)
      have := h2.2 q (by omega) b c
      rw [if_pos (show p < 24 by omega)]; omega
  · rw [Nat.max_le, Nat.max_le]
    refine ⟨h1.1, ?_, ?_⟩
    · split
      · next h => exact bB_mono (F 0 - s) s rfl (by omega) p h
      · omega
    · split
      · next h => exact h1.2 p (Nat.le_refl p) (wtb_lt hw hs h) h
      · omega
/-! the places taken -/
def bqp (F : Nat → Nat) (s fr : Nat) (t : Nat) : Bool := wtb F s (fr + t) && decide (bhv F s (fr + t) = bB F s fr)
def bq (F : Nat → Nat) (s fr : Nat) : Nat := fr + ff (bqp F s fr) (24 - fr)
theorem bq_le {F : Nat → Nat} {s fr : Nat} (h : fr ≤ 24) : fr ≤ bq F s fr ∧ bq F s fr ≤ 24 := by
  have := ff_le (bqp F s fr) (24 - fr)
  unfold bq; omega
theorem bq_no {F : Nat → Nat} {s fr q : Nat} (h1 : fr ≤ q) (h2 : q < bq F s fr) : wtb F s q = true → ¬ bhv F s q = bB F s fr := by
  intro hc he
  have := ff_no (p := bqp F s fr) (n := 24 - fr) (i := q - fr) (by unfold bq at h2; omega)
  unfold bqp at this
  rw [show fr + (q - fr) = q by omega, hc, he] at this
  simp at this
theorem bq_yes {F : Nat → Nat} {s fr : Nat} (h : fr ≤ 24) (h2 : bq F s fr < 24) : wtb F s (bq F s fr) = true ∧ bhv F s (bq F s fr) = bB F s fr := by
  have := ff_yes (p := bqp F s fr) (n := 24 - fr) (by unfold bq at h2; omega)
  unfold bqp at this
  change (wtb F s (bq F s fr) && decide (bhv F s (bq F s fr) = bB F s fr)) = true at this
  simpa using this
theorem bq_24 {F : Nat → Nat} {s fr : Nat} (hs : s < F 0) (h : fr ≤ 24) (h2 : bq F s fr = 24) : bB F s fr = bB F (s + 1) fr := by
  rw [bB_s hs fr]
  rcases mb_at (w := wtb F s) (v := bhv F s) (st := bB F (s + 1) fr) (p := fr) (24 - fr) with e | ⟨q, a, b, c, d⟩
  · exact e
  · exfalso
    rw [← bB_s hs fr] at d
    exact bq_no a (by omega) c d
def bdW (F : Nat → Nat) : Nat → Nat × (Nat → Nat)
  | 0 => (0, fun _ => 4294967295)
  | s + 1 => (if bq F s (bdW F s).1 < 24 then bq F s (bdW F s).1 + F (25 + 6 * s) else (bdW F s).1, up (bdW F s).2 s (if bq F s (bdW F s).1 < 24 then bq F s (bdW F s).1 else 4294967295))
theorem bdW_le {F : Nat → Nat} : ∀ s, (bdW F s).1 ≤ 24
  | 0 => Nat.zero_le _
  | s + 1 => by
    have ih := bdW_le (F := F) s
    unfold bdW
    show (if _ then _ else _) ≤ 24
    split
    · next h => exact wtb_le (bq_yes ih h).1
    · exact ih
theorem bdW_keep {F : Nat → Nat} : ∀ j s, s < j → (bdW F j).2 s = (bdW F (s + 1)).2 s
  | 0, s, h => by omega
  | j + 1, s, h => by
    by_cases e : s = j
    · rw [e]
    · have ih := bdW_keep (F := F) j s (by omega)
      rw [← ih]
      show up (bdW F j).2 j _ s = _
      rw [up_n e]
theorem bdW_at (F : Nat → Nat) (s : Nat) : (bdW F (s + 1)).2 s = if bq F s (bdW F s).1 < 24 then bq F s (bdW F s).1 else 4294967295 := up_e _ _ _
theorem bdW_1 (F : Nat → Nat) (s : Nat) : (bdW F (s + 1)).1 = if bq F s (bdW F s).1 < 24 then bq F s (bdW F s).1 + F (25 + 6 * s) else (bdW F s).1 := rfl
theorem bdW_2 (F : Nat → Nat) (s : Nat) : (bdW F (s + 1)).2 = up (bdW F s).2 s (if bq F s (bdW F s).1 < 24 then bq F s (bdW F s).1 else 4294967295) := rfl
/-! beds: the class -/
theorem c_beddedAt {N : Nat} (hN : 1099511627776 ≤ N) {Λ : Lay} {ad : Nat → Nat} {σ : Nat} {μ : Mem} {F : Nat → Nat} (hS : LyS Λ ad σ) (hC : CS ad μ σ F)  (hQ : LyQ Λ ad) (hw : WF F) {s p : Nat} (hs : s < F 0) (hp : p ≤ 24) (hT : ∀ q, q ≤ 24 → μ.1 (ad 180) ((s + 1) * 25 + q) = n3 (bB F (s + 1) q)) : m_X6_beddedAt N Λ μ (ad 175) (ad σ) (n3 (tkn F (F 0))) (n3 s) (n3 p) = some (n3 (if wtb F s p = true then bhv F s p else 4294967295)) := by
  have hb := hw.1; unfold WB at hb
  have tl := tkn_lt (F 0) hw.2.2.1
  have hso := hw.2.2.1 s hs
  unfold ShOk at hso
  by_cases h3 : F (25 + 6 * s + 3) = 0
  · by_cases hf : fitb (tkn F (F 0)) p (F (25 + 6 * s)) = true
    · have hwt := wtb_iff.2 ⟨h3, hf⟩
      rw [if_pos hwt]
      have hle := wtb_le hwt
      have ht := hT (p + F (25 + 6 * s)) hle
      simp (disch := omega) only [jn_X6_beddedAt_28, m_X6_beddedAt, m_X6_bed, ↓ob (hS.1), ↓ob (hS.2.1), ↓ob (hS.2.2.1), ↓ob (hS.2.2.2.1), ↓ob (hS.2.2.2.2.1), ↓ob (hS.2.2.2.2.2.1), ↓ob (hS.2.2.2.2.2.2.1), ↓ob (hS.2.2.2.2.2.2.2.1), hS.2.2.2.2.2.2.2.2.1, hS.2.2.2.2.2.2.2.2.2.1, hS.2.2.2.2.2.2.2.2.2.2.1, hS.2.2.2.2.2.2.2.2.2.2.2.1, hS.2.2.2.2.2.2.2.2.2.2.2.2.1, hS.2.2.2.2.2.2.2.2.2.2.2.2.2.1, hS.2.2.2.2.2.2.2.2.2.2.2.2.2.2, hC.1, hC.2.1, hC.2.2.1, hC.2.2.2.1, hC.2.2.2.2.1, hC.2.2.2.2.2.1, hC.2.2.2.2.2.2.1, hC.2.2.2.2.2.2.2.1, hC.2.2.2.2.2.2.2.2.1, hC.2.2.2.2.2.2.2.2.2.1, hC.2.2.2.2.2.2.2.2.2.2.1, hC.2.2.2.2.2.2.2.2.2.2.2.1, hC.2.2.2.2.2.2.2.2.2.2.2.2.1, hC.2.2.2.2.2.2.2.2.2.2.2.2.2.1, hC.2.2.2.2.2.2.2.2.2.2.2.2.2.2.1, hC.2.2.2.2.2.2.2.2.2.2.2.2.2.2.2.1, hC.2.2.2.2.2.2.2.2.2.2.2.2.2.2.2.2.1, h3, c_isRoom, hf, ↓ob (hQ.1), ↓ob (hQ.2.1), ↓ob (hQ.2.2.1), ↓ob (hQ.2.2.2.1), hQ.2.2.2.2.1, hQ.2.2.2.2.2.1, hQ.2.2.2.2.2.2.1, hQ.2.2.2.2.2.2.2.1, ↓ob (hQ.2.2.2.2.2.2.2.2.1), ↓ob (hQ.2.2.2.2.2.2.2.2.2.1), ↓ob (hQ.2.2.2.2.2.2.2.2.2.2.1), hQ.2.2.2.2.2.2.2.2.2.2.2.1, hQ.2.2.2.2.2.2.2.2.2.2.2.2.1, hQ.2.2.2.2.2.2.2.2.2.2.2.2.2.1, ↓ob (hQ.2.2.2.2.2.2.2.2.2.2.2.2.2.2.1), ↓ob (hQ.2.2.2.2.2.2.2.2.2.2.2.2.2.2.2.1), ↓ob (hQ.2.2.2.2.2.2.2.2.2.2.2.2.2.2.2.2.1), ↓ob (hQ.2.2.2.2.2.2.2.2.2.2.2.2.2.2.2.2.2.1), ↓ob (hQ.2.2.2.2.2.2.2.2.2.2.2.2.2.2.2.2.2.2.1), hQ.2.2.2.2.2.2.2.2.2.2.2.2.2.2.2.2.2.2.2.1, hQ.2.2.2.2.2.2.2.2.2.2.2.2.2.2.2.2.2.2.2.2.1, hQ.2.2.2.2.2.2.2.2.2.2.2.2.2.2.2.2.2.2.2.2.2.1, hQ.2.2.2.2.2.2.2.2.2.2.2.2.2.2.2.2.2.2.2.2.2.2.1, hQ.2.2.2.2.2.2.2.2.2.2.2.2.2.2.2.2.2.2.2.2.2.2.2, ht, ↓lt_e, ↓gd_e, ↓Option.bind_some, ↓reduceIte, if_true, if_false, if_pT, if_nF, decide_true, Bool.not_true, Bool.not_false, not_true_eq_false, not_false_eq_true, Bool.false_eq_true, Bool.true_eq_false, eq_self, n3_lit, n3_add, n3_mul, n3_sub, n3_tn, n3_le_t, n3_le_f, n3_lt_t, n3_lt_f, n3_eq_f, n3_eq_t, n3_inb, n3_rem, n3_div, n3_zb, bb_0, bb_1, zb_bb, bb_T, bb_F, n3_dec, n3_m1, n3_eqm, n3_eqmt, n3_ltm, n3_mlt, n3_lem, n3_mle, n3_neg_lt, n3_nlt_neg, n3_nle_neg, n3_neg_le, bhv]
    · rw [if_neg (fun hc => hf (wtb_iff.1 hc).2)]
      simp (disch := omega) only [jn_X6_beddedAt_28, m_X6_beddedAt, ↓ob (hS.1), ↓ob (hS.2.1), ↓ob (hS.2.2.1), ↓ob (hS.2.2.2.1), ↓ob (hS.2.2.2.2.1), ↓ob (hS.2.2.2.2.2.1), ↓ob (hS.2.2.2.2.2.2.1), ↓ob (hS.2.2.2.2.2.2.2.1), hS.2.2.2.2.2.2.2.2.1, hS.2.2.2.2.2.2.2.2.2.1, hS.2.2.2.2.2.2.2.2.2.2.1, hS.2.2.2.2.2.2.2.2.2.2.2.1, hS.2.2.2.2.2.2.2.2.2.2.2.2.1, hS.2.2.2.2.2.2.2.2.2.2.2.2.2.1, hS.2.2.2.2.2.2.2.2.2.2.2.2.2.2, hC.1, hC.2.1, hC.2.2.1, hC.2.2.2.1, hC.2.2.2.2.1, hC.2.2.2.2.2.1, hC.2.2.2.2.2.2.1, hC.2.2.2.2.2.2.2.1, hC.2.2.2.2.2.2.2.2.1, hC.2.2.2.2.2.2.2.2.2.1, hC.2.2.2.2.2.2.2.2.2.2.1, hC.2.2.2.2.2.2.2.2.2.2.2.1, hC.2.2.2.2.2.2.2.2.2.2.2.2.1, hC.2.2.2.2.2.2.2.2.2.2.2.2.2.1, hC.2.2.2.2.2.2.2.2.2.2.2.2.2.2.1, hC.2.2.2.2.2.2.2.2.2.2.2.2.2.2.2.1, hC.2.2.2.2.2.2.2.2.2.2.2.2.2.2.2.2.1, h3, c_isRoom, hf, n3_neg1, ↓ob (hQ.1), ↓ob (hQ.2.1), ↓ob (hQ.2.2.1), ↓ob (hQ.2.2.2.1), hQ.2.2.2.2.1, hQ.2.2.2.2.2.1, hQ.2.2.2.2.2.2.1, hQ.2.2.2.2.2.2.2.1, ↓ob (hQ.2.2.2.2.2.2.2.2.1), ↓ob (hQ.2.2.2.2.2.2.2.2.2.1), ↓ob (hQ.2.2.2.2.2.2.2.2.2.2.1), hQ.2.2.2.2.2.2.2.2.2.2.2.1, hQ.2.2.2.2.2.2.2.2.2.2.2.2.1, hQ.2.2.2.2.2.2.2.2.2.2.2.2.2.1, ↓ob (hQ.2.2.2.2.2.2.2.2.2.2.2.2.2.2.1), ↓ob (hQ.2.2.2.2.2.2.2.2.2.2.2.2.2.2.2.1), ↓ob (hQ.2.2.2.2.2.2.2.2.2.2.2.2.2.2.2.2.1), ↓ob (hQ.2.2.2.2.2.2.2.2.2.2.2.2.2.2.2.2.2.1), ↓ob (hQ.2.2.2.2.2.2.2.2.2.2.2.2.2.2.2.2.2.2.1), hQ.2.2.2.2.2.2.2.2.2.2.2.2.2.2.2.2.2.2.2.1, hQ.2.2.2.2.2.2.2.2.2.2.2.2.2.2.2.2.2.2.2.2.1, hQ.2.2.2.2.2.2.2.2.2.2.2.2.2.2.2.2.2.2.2.2.2.1, hQ.2.2.2.2.2.2.2.2.2.2.2.2.2.2.2.2.2.2.2.2.2.2.1, hQ.2.2.2.2.2.2.2.2.2.2.2.2.2.2.2.2.2.2.2.2.2.2.2, ↓lt_e, ↓gd_e, ↓Option.bind_some, ↓reduceIte, if_true, if_false, if_pT, if_nF, decide_true, Bool.not_true, Bool.not_false, not_true_eq_false, not_false_eq_true, Bool.false_eq_true, Bool.true_eq_false, eq_self, n3_lit, n3_add, n3_mul, n3_sub, n3_tn, n3_le_t, n3_le_f, n3_lt_t, n3_lt_f, n3_eq_f, n3_eq_t, n3_inb, n3_rem, n3_div, n3_zb, bb_0, bb_1, zb_bb, bb_T, bb_F, n3_dec, n3_m1, n3_eqm, n3_eqmt, n3_ltm, n3_mlt, n3_lem, n3_mle, n3_neg_lt, n3_nlt_neg, n3_nle_neg, n3_neg_le]
  · rw [if_neg (fun hc => h3 (wtb_iff.1 hc).1)]
    simp (disch := omega) only [jn_X6_beddedAt_28, m_X6_beddedAt, ↓ob (hS.1), ↓ob (hS.2.1), ↓ob (hS.2.2.1), ↓ob (hS.2.2.2.1), ↓ob (hS.2.2.2.2.1), ↓ob (hS.2.2.2.2.2.1), ↓ob (hS.2.2.2.2.2.2.1), ↓ob (hS.2.2.2.2.2.2.2.1), hS.2.2.2.2.2.2.2.2.1, hS.2.2.2.2.2.2.2.2.2.1, hS.2.2.2.2.2.2.2.2.2.2.1, hS.2.2.2.2.2.2.2.2.2.2.2.1, hS.2.2.2.2.2.2.2.2.2.2.2.2.1, hS.2.2.2.2.2.2.2.2.2.2.2.2.2.1, hS.2.2.2.2.2.2.2.2.2.2.2.2.2.2, hC.1, hC.2.1, hC.2.2.1, hC.2.2.2.1, hC.2.2.2.2.1, hC.2.2.2.2.2.1, hC.2.2.2.2.2.2.1, hC.2.2.2.2.2.2.2.1, hC.2.2.2.2.2.2.2.2.1, hC.2.2.2.2.2.2.2.2.2.1, hC.2.2.2.2.2.2.2.2.2.2.1, hC.2.2.2.2.2.2.2.2.2.2.2.1, hC.2.2.2.2.2.2.2.2.2.2.2.2.1, hC.2.2.2.2.2.2.2.2.2.2.2.2.2.1, hC.2.2.2.2.2.2.2.2.2.2.2.2.2.2.1, hC.2.2.2.2.2.2.2.2.2.2.2.2.2.2.2.1, hC.2.2.2.2.2.2.2.2.2.2.2.2.2.2.2.2.1, n3_neg1, ↓ob (hQ.1), ↓ob (hQ.2.1), ↓ob (hQ.2.2.1), ↓ob (hQ.2.2.2.1), hQ.2.2.2.2.1, hQ.2.2.2.2.2.1, hQ.2.2.2.2.2.2.1, hQ.2.2.2.2.2.2.2.1, ↓ob (hQ.2.2.2.2.2.2.2.2.1), ↓ob (hQ.2.2.2.2.2.2.2.2.2.1), ↓ob (hQ.2.2.2.2.2.2.2.2.2.2.1), hQ.2.2.2.2.2.2.2.2.2.2.2.1, hQ.2.2.2.2.2.2.2.2.2.2.2.2.1, hQ.2.2.2.2.2.2.2.2.2.2.2.2.2.1, ↓ob (hQ.2.2.2.2.2.2.2.2.2.2.2.2.2.2.1), ↓ob (hQ.2.2.2.2.2.2.2.2.2.2.2.2.2.2.2.1), ↓ob (hQ.2.2.2.2.2.2.2.2.2.2.2.2.2.2.2.2.1), ↓ob (hQ.2.2.2.2.2.2.2.2.2.2.2.2.2.2.2.2.2.1), ↓ob (hQ.2.2.2.2.2.2.2.2.2.2.2.2.2.2.2.2.2.2.1), hQ.2.2.2.2.2.2.2.2.2.2.2.2.2.2.2.2.2.2.2.1, hQ.2.2.2.2.2.2.2.2.2.2.2.2.2.2.2.2.2.2.2.2.1, hQ.2.2.2.2.2.2.2.2.2.2.2.2.2.2.2.2.2.2.2.2.2.1, hQ.2.2.2.2.2.2.2.2.2.2.2.2.2.2.2.2.2.2.2.2.2.2.1, hQ.2.2.2.2.2.2.2.2.2.2.2.2.2.2.2.2.2.2.2.2.2.2.2, ↓lt_e, ↓gd_e, ↓Option.bind_some, ↓reduceIte, if_true, if_false, if_pT, if_nF, decide_true, Bool.not_true, Bool.not_false, not_true_eq_false, not_false_eq_true, Bool.false_eq_true, Bool.true_eq_false, eq_self, n3_lit, n3_add, n3_mul, n3_sub, n3_tn, n3_le_t, n3_le_f, n3_lt_t, n3_lt_f, n3_eq_f, n3_eq_t, n3_inb, n3_rem, n3_div, n3_zb, bb_0, bb_1, zb_bb, bb_T, bb_F, n3_dec, n3_m1, n3_eqm, n3_eqmt, n3_ltm, n3_mlt, n3_lem, n3_mle, n3_neg_lt, n3_nlt_neg, n3_nle_neg, n3_neg_le]
theorem c_findBeds {N : Nat} (hN : 1099511627776 ≤ N) {Λ : Lay} {ad : Nat → Nat} {σ : Nat} {μ : Mem} {F : Nat → Nat} (hS : LyS Λ ad σ) (hC : CS ad μ σ F)  (hQ : LyQ Λ ad) (hj : Inj ad) (hw : WF F) (hσ : σ + 8 < 166) (hT : ∀ s q, s ≤ F 0 → q ≤ 24 → μ.1 (ad 180) (s * 25 + q) = n3 (bB F s q)) : ∃ μ', m_X6_findBeds N Λ μ (ad 175) (ad σ) (n3 (tkn F (F 0))) = some μ' ∧ (∀ j, j < F 0 → μ'.1 (ad 176) j = n3 ((bdW F (F 0)).2 j)) ∧ Fr ad (fun i => i = 176) μ μ' := by
  have hb := hw.1; unfold WB at hb
  unfold m_X6_findBeds lp_X6_findBeds_5
  refine cw_ik (P := fun i x => ∃ μ1 : Mem, x = (n3 (bdW F i).1, n3 i, μ1) ∧ (∀ j, j < i → μ1.1 (ad 176) j = n3 ((bdW F i).2 j)) ∧ Fr ad (fun i => i = 176) μ μ1) (Q := fun X => ∃ μ', X = some μ' ∧ (∀ j, j < F 0 → μ'.1 (ad 176) j = n3 ((bdW F (F 0)).2 j)) ∧ Fr ad (fun i => i = 176) μ μ') (F 0) ⟨μ, rfl, fun j hj => absurd hj (Nat.not_lt_zero j), Fr.refl μ⟩ (fun i hi x hx k => ?_) (fun x hx k => ?_) (show F 0 < N by omega)
  · obtain ⟨μ1, rfl, hM1, hf⟩ := hx
    left
    have hfr := bdW_le (F := F) i
    rw [bdW_1, bdW_2]
    generalize hfv : (bdW F i).1 = fr at hfr
    have hT1 : ∀ s q, s ≤ F 0 → q ≤ 24 → μ1.1 (ad 180) (s * 25 + q) = n3 (bB F s q) := fun s q h1 h2 => by rw [(hf 180 (by omega)).1]; exact hT s q h1 h2
    have hC1 := hC.fr hf (fun i a b => by omega)
    have q8 : μ1.1 (ad σ) 8 = n3 (F 0) := hC1.2.2.2.2.2.2.2.2.1
    have ht := hT1 i fr (by omega) hfr
    have bb1 := bB_100 hw (s := i) (by omega) hfr
    have hso := hw.2.2.1 i hi
    unfold ShOk at hso
    have est : bd_X6_findBeds_5 N Λ μ1 k (ad 175) (ad σ) (n3 (tkn F (F 0))) (n3 fr) (n3 i) = lp_X6_findBeds_38 N Λ k (ad 175) (ad σ) (n3 (tkn F (F 0))) (n3 i) (n3 (bB F i fr)) (n3 fr, n3 fr, mset μ1 (ad 176) i (n3 4294967295)) := by
      simp (disch := omega) only [bd_X6_findBeds_5, m_X6_bed, ↓ob (hQ.1), ↓ob (hQ.2.1), ↓ob (hQ.2.2.1), ↓ob (hQ.2.2.2.1), hQ.2.2.2.2.1, hQ.2.2.2.2.2.1, hQ.2.2.2.2.2.2.1, hQ.2.2.2.2.2.2.2.1, ↓ob (hQ.2.2.2.2.2.2.2.2.1), ↓ob (hQ.2.2.2.2.2.2.2.2.2.1), ↓ob (hQ.2.2.2.2.2.2.2.2.2.2.1), hQ.2.2.2.2.2.2.2.2.2.2.2.1, hQ.2.2.2.2.2.2.2.2.2.2.2.2.1, hQ.2.2.2.2.2.2.2.2.2.2.2.2.2.1, ↓ob (hQ.2.2.2.2.2.2.2.2.2.2.2.2.2.2.1), ↓ob (hQ.2.2.2.2.2.2.2.2.2.2.2.2.2.2.2.1), ↓ob (hQ.2.2.2.2.2.2.2.2.2.2.2.2.2.2.2.2.1), ↓ob (hQ.2.2.2.2.2.2.2.2.2.2.2.2.2.2.2.2.2.1), ↓ob (hQ.2.2.2.2.2.2.2.2.2.2.2.2.2.2.2.2.2.2.1), hQ.2.2.2.2.2.2.2.2.2.2.2.2.2.2.2.2.2.2.2.1, hQ.2.2.2.2.2.2.2.2.2.2.2.2.2.2.2.2.2.2.2.2.1, hQ.2.2.2.2.2.2.2.2.2.2.2.2.2.2.2.2.2.2.2.2.2.1, hQ.2.2.2.2.2.2.2.2.2.2.2.2.2.2.2.2.2.2.2.2.2.2.1, hQ.2.2.2.2.2.2.2.2.2.2.2.2.2.2.2.2.2.2.2.2.2.2.2, q8, ht, n3_neg1, ↓lt_e, ↓gd_e, ↓Option.bind_some, ↓reduceIte, if_true, if_false, if_pT, if_nF, decide_true, Bool.not_true, Bool.not_false, not_true_eq_false, not_false_eq_true, Bool.false_eq_true, Bool.true_eq_false, eq_self, n3_lit, n3_add, n3_mul, n3_sub, n3_tn, n3_le_t, n3_le_f, n3_lt_t, n3_lt_f, n3_eq_f, n3_eq_t, n3_inb, n3_rem, n3_div, n3_zb, bb_0, bb_1, zb_bb, bb_T, bb_F, n3_dec, n3_m1, n3_eqm, n3_eqmt, n3_ltm, n3_mlt, n3_lem, n3_mle, n3_neg_lt, n3_nlt_neg, n3_nle_neg, n3_neg_le]
    obtain ⟨hq1, hq2⟩ := bq_le (F := F) (s := i) hfr
    have f2 : Fr ad (fun i => i = 176) μ1 (mset μ1 (ad 176) i (n3 4294967295)) := (Fr.refl μ1).set hj (by rfl)
    have hC2 := hC1.fr f2 (fun i a b => by omega)
    have hT2 : ∀ q, q ≤ 24 → (mset μ1 (ad 176) i (n3 4294967295)).1 (ad 180) ((i + 1) * 25 + q) = n3 (bB F (i + 1) q) := fun q h2 => by rw [(f2 180 (by omega)).1]; exact hT1 (i + 1) q (by omega) h2
    have hstep : ∀ q, fr ≤ q → q < bq F i fr → ∀ k', bd_X6_findBeds_38 N Λ (mset μ1 (ad 176) i (n3 4294967295)) k k' (ad 175) (ad σ) (n3 (tkn F (F 0))) (n3 fr) (n3 i) (n3 (bB F i fr)) (n3 q) = k' (n3 fr, n3 (q + 1), mset μ1 (ad 176) i (n3 4294967295)) := by
      intro q h1 h2 k'
      have ba := c_beddedAt hN hS hC2 hQ hw hi (p := q) (by omega) hT2
      have hne : (n3 (if wtb F i q = true then bhv F i q else 4294967295) = n3 (bB F i fr)) = False := by
        by_cases hc : wtb F i q = true
        · rw [if_pos hc]
          have := bhv_100 hw hi hc
          exact n3_eq_f (bq_no h1 h2 hc) (by omega) (by omega)
        · rw [if_neg hc]; exact n3_eq_f (by omega) (by omega) (by omega)
      simp (disch := omega) only [bd_X6_findBeds_38, jn_X6_findBeds_91, ↓ob (hQ.1), ↓ob (hQ.2.1), ↓ob (hQ.2.2.1), ↓ob (hQ.2.2.2.1), hQ.2.2.2.2.1, hQ.2.2.2.2.2.1, hQ.2.2.2.2.2.2.1, hQ.2.2.2.2.2.2.2.1, ↓ob (hQ.2.2.2.2.2.2.2.2.1), ↓ob (hQ.2.2.2.2.2.2.2.2.2.1), ↓ob (hQ.2.2.2.2.2.2.2.2.2.2.1), hQ.2.2.2.2.2.2.2.2.2.2.2.1, hQ.2.2.2.2.2.2.2.2.2.2.2.2.1, hQ.2.2.2.2.2.2.2.2.2.2.2.2.2.1, ↓ob (hQ.2.2.2.2.2.2.2.2.2.2.2.2.2.2.1), ↓ob (hQ.2.2.2.2.2.2.2.2.2.2.2.2.2.2.2.1), ↓ob (hQ.2.2.2.2.2.2.2.2.2.2.2.2.2.2.2.2.1), ↓ob (hQ.2.2.2.2.2.2.2.2.2.2.2.2.2.2.2.2.2.1), ↓ob (hQ.2.2.2.2.2.2.2.2.2.2.2.2.2.2.2.2.2.2.1), hQ.2.2.2.2.2.2.2.2.2.2.2.2.2.2.2.2.2.2.2.1, hQ.2.2.2.2.2.2.2.2.2.2.2.2.2.2.2.2.2.2.2.2.1, hQ.2.2.2.2.2.2.2.2.2.2.2.2.2.2.2.2.2.2.2.2.2.1, hQ.2.2.2.2.2.2.2.2.2.2.2.2.2.2.2.2.2.2.2.2.2.2.1, hQ.2.2.2.2.2.2.2.2.2.2.2.2.2.2.2.2.2.2.2.2.2.2.2, mse, n3_eqmt, ba, hne, ↓lt_e, ↓gd_e, ↓Option.bind_some, ↓reduceIte, if_true, if_false, if_pT, if_nF, decide_true, Bool.not_true, Bool.not_false, not_true_eq_false, not_false_eq_true, Bool.false_eq_true, Bool.true_eq_false, eq_self, n3_lit, n3_le_f, n3_inb, n3_tn, n3_add]
    by_cases hq : bq F i fr < 24
    · rw [if_pos hq, if_pos hq]
      obtain ⟨y1, y2⟩ := bq_yes hfr hq
      have hle := wtb_le y1
      have ba := c_beddedAt hN hS hC2 hQ hw hi (p := bq F i fr) (by omega) hT2
      rw [if_pos y1, y2] at ba
      have ql : (mset (mset μ1 (ad 176) i (n3 4294967295)) (ad 176) i (n3 (bq F i fr))).1 (ad (σ + 2)) i = n3 (F (25 + 6 * i)) := by
        rw [mso hj (by omega), mso hj (by omega)]; exact hC1.2.2.2.2.2.2.2.2.2.2.2.2.1 i hi
      refine ⟨(n3 (bq F i fr + F (25 + 6 * i)), n3 (i + 1), mset (mset μ1 (ad 176) i (n3 4294967295)) (ad 176) i (n3 (bq F i fr))), ⟨_, rfl, fun j hji => ?_, (hf.set hj (by rfl)).set hj (by rfl)⟩, ?_⟩
      · by_cases e : j = i
        · rw [e, mse, up_e]
        · rw [msn e, msn e, up_n e]; exact hM1 j (by omega)
      · show bd_X6_findBeds_5 N Λ μ1 k (ad 175) (ad σ) (n3 (tkn F (F 0))) (n3 fr) (n3 i) = _
        rw [est]
        unfold lp_X6_findBeds_38
        refine cw_it (fun j => if j ≤ bq F i fr - fr then (n3 fr, n3 (fr + j), mset μ1 (ad 176) i (n3 4294967295)) else (n3 (bq F i fr + F (25 + 6 * i)), n3 (bq F i fr + 1), mset (mset μ1 (ad 176) i (n3 4294967295)) (ad 176) i (n3 (bq F i fr)))) (bq F i fr - fr + 1) (by rw [if_pos (Nat.zero_le _)]; rfl) (fun j hj' k' => ?_) (fun k' => ?_) (by omega)
        · rw [if_pos (show j ≤ bq F i fr - fr by omega)]
          by_cases ej : j = bq F i fr - fr
          · rw [if_neg (show ¬ j + 1 ≤ bq F i fr - fr by omega), show fr + j = bq F i fr by omega]
            simp (disch := omega) only [bd_X6_findBeds_38, jn_X6_findBeds_91, ↓ob (hQ.1), ↓ob (hQ.2.1), ↓ob (hQ.2.2.1), ↓ob (hQ.2.2.2.1), hQ.2.2.2.2.1, hQ.2.2.2.2.2.1, hQ.2.2.2.2.2.2.1, hQ.2.2.2.2.2.2.2.1, ↓ob (hQ.2.2.2.2.2.2.2.2.1), ↓ob (hQ.2.2.2.2.2.2.2.2.2.1), ↓ob (hQ.2.2.2.2.2.2.2.2.2.2.1), hQ.2.2.2.2.2.2.2.2.2.2.2.1, hQ.2.2.2.2.2.2.2.2.2.2.2.2.1, hQ.2.2.2.2.2.2.2.2.2.2.2.2.2.1, ↓ob (hQ.2.2.2.2.2.2.2.2.2.2.2.2.2.2.1), ↓ob (hQ.2.2.2.2.2.2.2.2.2.2.2.2.2.2.2.1), ↓ob (hQ.2.2.2.2.2.2.2.2.2.2.2.2.2.2.2.2.1), ↓ob (hQ.2.2.2.2.2.2.2.2.2.2.2.2.2.2.2.2.2.1), ↓ob (hQ.2.2.2.2.2.2.2.2.2.2.2.2.2.2.2.2.2.2.1), hQ.2.2.2.2.2.2.2.2.2.2.2.2.2.2.2.2.2.2.2.1, hQ.2.2.2.2.2.2.2.2.2.2.2.2.2.2.2.2.2.2.2.2.1, hQ.2.2.2.2.2.2.2.2.2.2.2.2.2.2.2.2.2.2.2.2.2.1, hQ.2.2.2.2.2.2.2.2.2.2.2.2.2.2.2.2.2.2.2.2.2.2.1, hQ.2.2.2.2.2.2.2.2.2.2.2.2.2.2.2.2.2.2.2.2.2.2.2, ↓ob (hS.1), ↓ob (hS.2.1), ↓ob (hS.2.2.1), ↓ob (hS.2.2.2.1), ↓ob (hS.2.2.2.2.1), ↓ob (hS.2.2.2.2.2.1), ↓ob (hS.2.2.2.2.2.2.1), ↓ob (hS.2.2.2.2.2.2.2.1), hS.2.2.2.2.2.2.2.2.1, hS.2.2.2.2.2.2.2.2.2.1, hS.2.2.2.2.2.2.2.2.2.2.1, hS.2.2.2.2.2.2.2.2.2.2.2.1, hS.2.2.2.2.2.2.2.2.2.2.2.2.1, hS.2.2.2.2.2.2.2.2.2.2.2.2.2.1, hS.2.2.2.2.2.2.2.2.2.2.2.2.2.2, mse, n3_eqmt, ba, ql, ↓lt_e, ↓gd_e, ↓Option.bind_some, ↓reduceIte, if_true, if_false, if_pT, if_nF, decide_true, Bool.not_true, Bool.not_false, not_true_eq_false, not_false_eq_true, Bool.false_eq_true, Bool.true_eq_false, eq_self, n3_lit, n3_le_f, n3_inb, n3_tn, n3_add, n3_eq_t]
          · rw [if_pos (show j + 1 ≤ bq F i fr - fr by omega)]
            exact hstep (fr + j) (by omega) (by omega) k'
        · rw [if_neg (show ¬ bq F i fr - fr + 1 ≤ bq F i fr - fr by omega)]
          by_cases e24 : bq F i fr + 1 = 24
          · simp (disch := omega) only [bd_X6_findBeds_38, jn_X6_findBeds_97, ↓ob (hQ.1), ↓ob (hQ.2.1), ↓ob (hQ.2.2.1), ↓ob (hQ.2.2.2.1), hQ.2.2.2.2.1, hQ.2.2.2.2.2.1, hQ.2.2.2.2.2.2.1, hQ.2.2.2.2.2.2.2.1, ↓ob (hQ.2.2.2.2.2.2.2.2.1), ↓ob (hQ.2.2.2.2.2.2.2.2.2.1), ↓ob (hQ.2.2.2.2.2.2.2.2.2.2.1), hQ.2.2.2.2.2.2.2.2.2.2.2.1, hQ.2.2.2.2.2.2.2.2.2.2.2.2.1, hQ.2.2.2.2.2.2.2.2.2.2.2.2.2.1, ↓ob (hQ.2.2.2.2.2.2.2.2.2.2.2.2.2.2.1), ↓ob (hQ.2.2.2.2.2.2.2.2.2.2.2.2.2.2.2.1), ↓ob (hQ.2.2.2.2.2.2.2.2.2.2.2.2.2.2.2.2.1), ↓ob (hQ.2.2.2.2.2.2.2.2.2.2.2.2.2.2.2.2.2.1), ↓ob (hQ.2.2.2.2.2.2.2.2.2.2.2.2.2.2.2.2.2.2.1), hQ.2.2.2.2.2.2.2.2.2.2.2.2.2.2.2.2.2.2.2.1, hQ.2.2.2.2.2.2.2.2.2.2.2.2.2.2.2.2.2.2.2.2.1, hQ.2.2.2.2.2.2.2.2.2.2.2.2.2.2.2.2.2.2.2.2.2.1, hQ.2.2.2.2.2.2.2.2.2.2.2.2.2.2.2.2.2.2.2.2.2.2.1, hQ.2.2.2.2.2.2.2.2.2.2.2.2.2.2.2.2.2.2.2.2.2.2.2, ↓lt_e, ↓gd_e, ↓Option.bind_some, ↓reduceIte, if_true, if_false, if_pT, if_nF, decide_true, Bool.not_true, Bool.not_false, not_true_eq_false, not_false_eq_true, Bool.false_eq_true, Bool.true_eq_false, eq_self, n3_lit, n3_add, n3_mul, n3_sub, n3_tn, n3_le_t, n3_le_f, n3_lt_t, n3_lt_f, n3_eq_f, n3_eq_t, n3_inb, n3_rem, n3_div, n3_zb, bb_0, bb_1, zb_bb, bb_T, bb_F, n3_dec, n3_m1, n3_eqm, n3_eqmt, n3_ltm, n3_mlt, n3_lem, n3_mle, n3_neg_lt, n3_nlt_neg, n3_nle_neg, n3_neg_le]
          · simp (disch := omega) only [bd_X6_findBeds_38, jn_X6_findBeds_97, ↓ob (hQ.1), ↓ob (hQ.2.1), ↓ob (hQ.2.2.1), ↓ob (hQ.2.2.2.1), hQ.2.2.2.2.1, hQ.2.2.2.2.2.1, hQ.2.2.2.2.2.2.1, hQ.2.2.2.2.2.2.2.1, ↓ob (hQ.2.2.2.2.2.2.2.2.1), ↓ob (hQ.2.2.2.2.2.2.2.2.2.1), ↓ob (hQ.2.2.2.2.2.2.2.2.2.2.1), hQ.2.2.2.2.2.2.2.2.2.2.2.1, hQ.2.2.2.2.2.2.2.2.2.2.2.2.1, hQ.2.2.2.2.2.2.2.2.2.2.2.2.2.1, ↓ob (hQ.2.2.2.2.2.2.2.2.2.2.2.2.2.2.1), ↓ob (hQ.2.2.2.2.2.2.2.2.2.2.2.2.2.2.2.1), ↓ob (hQ.2.2.2.2.2.2.2.2.2.2.2.2.2.2.2.2.1), ↓ob (hQ.2.2.2.2.2.2.2.2.2.2.2.2.2.2.2.2.2.1), ↓ob (hQ.2.2.2.2.2.2.2.2.2.2.2.2.2.2.2.2.2.2.1), hQ.2.2.2.2.2.2.2.2.2.2.2.2.2.2.2.2.2.2.2.1, hQ.2.2.2.2.2.2.2.2.2.2.2.2.2.2.2.2.2.2.2.2.1, hQ.2.2.2.2.2.2.2.2.2.2.2.2.2.2.2.2.2.2.2.2.2.1, hQ.2.2.2.2.2.2.2.2.2.2.2.2.2.2.2.2.2.2.2.2.2.2.1, hQ.2.2.2.2.2.2.2.2.2.2.2.2.2.2.2.2.2.2.2.2.2.2.2, mse, ↓lt_e, ↓gd_e, ↓Option.bind_some, ↓reduceIte, if_true, if_false, if_pT, if_nF, decide_true, Bool.not_true, Bool.not_false, not_true_eq_false, not_false_eq_true, Bool.false_eq_true, Bool.true_eq_false, eq_self, n3_lit, n3_add, n3_mul, n3_sub, n3_tn, n3_le_t, n3_le_f, n3_lt_t, n3_lt_f, n3_eq_f, n3_eq_t, n3_inb, n3_rem, n3_div, n3_zb, bb_0, bb_1, zb_bb, bb_T, bb_F, n3_dec, n3_m1, n3_eqm, n3_eqmt, n3_ltm, n3_mlt, n3_lem, n3_mle, n3_neg_lt, n3_nlt_neg, n3_nle_neg, n3_neg_le]
    · rw [if_neg hq, if_neg hq]
      have hq24 : bq F i fr = 24 := by omega
      refine ⟨(n3 fr, n3 (i + 1), mset μ1 (ad 176) i (n3 4294967295)), ⟨_, rfl, fun j hji => ?_, hf.set hj (by rfl)⟩, ?_⟩
      · by_cases e : j = i
        · rw [e, mse, up_e]
        · rw [msn e, up_n e]; exact hM1 j (by omega)
      · show bd_X6_findBeds_5 N Λ μ1 k (ad 175) (ad σ) (n3 (tkn F (F 0))) (n3 fr) (n3 i) = _
        rw [est]
        unfold lp_X6_findBeds_38
        refine cw_it (fun j => (n3 fr, n3 (fr + j), mset μ1 (ad 176) i (n3 4294967295))) (24 - fr) rfl (fun j hj' k' => ?_) (fun k' => ?_) (by omega)
        · exact hstep (fr + j) (by omega) (by omega) k'
        · rw [show fr + (24 - fr) = 24 by omega]
          simp (disch := omega) only [bd_X6_findBeds_38, jn_X6_findBeds_97, ↓ob (hQ.1), ↓ob (hQ.2.1), ↓ob (hQ.2.2.1), ↓ob (hQ.2.2.2.1), hQ.2.2.2.2.1, hQ.2.2.2.2.2.1, hQ.2.2.2.2.2.2.1, hQ.2.2.2.2.2.2.2.1, ↓ob (hQ.2.2.2.2.2.2.2.2.1), ↓ob (hQ.2.2.2.2.2.2.2.2.2.1), ↓ob (hQ.2.2.2.2.2.2.2.2.2.2.1), hQ.2.2.2.2.2.2.2.2.2.2.2.1, hQ.2.2.2.2.2.2.2.2.2.2.2.2.1, hQ.2.2.2.2.2.2.2.2.2.2.2.2.2.1, ↓ob (hQ.2.2.2.2.2.2.2.2.2.2.2.2.2.2.1), ↓ob (hQ.2.2.2.2.2.2.2.2.2.2.2.2.2.2.2.1), ↓ob (hQ.2.2.2.2.2.2.2.2.2.2.2.2.2.2.2.2.1), ↓ob (hQ.2.2.2.2.2.2.2.2.2.2.2.2.2.2.2.2.2.1), ↓ob (hQ.2.2.2.2.2.2.2.2.2.2.2.2.2.2.2.2.2.2.1), hQ.2.2.2.2.2.2.2.2.2.2.2.2.2.2.2.2.2.2.2.1, hQ.2.2.2.2.2.2.2.2.2.2.2.2.2.2.2.2.2.2.2.2.1, hQ.2.2.2.2.2.2.2.2.2.2.2.2.2.2.2.2.2.2.2.2.2.1, hQ.2.2.2.2.2.2.2.2.2.2.2.2.2.2.2.2.2.2.2.2.2.2.1, hQ.2.2.2.2.2.2.2.2.2.2.2.2.2.2.2.2.2.2.2.2.2.2.2, ↓lt_e, ↓gd_e, ↓Option.bind_some, ↓reduceIte, if_true, if_false, if_pT, if_nF, decide_true, Bool.not_true, Bool.not_false, not_true_eq_false, not_false_eq_true, Bool.false_eq_true, Bool.true_eq_false, eq_self, n3_lit, n3_add, n3_mul, n3_sub, n3_tn, n3_le_t, n3_le_f, n3_lt_t, n3_lt_f, n3_eq_f, n3_eq_t, n3_inb, n3_rem, n3_div, n3_zb, bb_0, bb_1, zb_bb, bb_T, bb_F, n3_dec, n3_m1, n3_eqm, n3_eqmt, n3_ltm, n3_mlt, n3_lem, n3_mle, n3_neg_lt, n3_nlt_neg, n3_nle_neg, n3_neg_le]
  · obtain ⟨μ1, rfl, hM1, hf⟩ := hx
    have hC1 := hC.fr hf (fun i a b => by omega)
    have q8 : μ1.1 (ad σ) 8 = n3 (F 0) := hC1.2.2.2.2.2.2.2.2.1
    refine ⟨μ1, ?_, hM1, hf⟩
    simp (disch := omega) only [bd_X6_findBeds_5, ↓ob (hQ.1), ↓ob (hQ.2.1), ↓ob (hQ.2.2.1), ↓ob (hQ.2.2.2.1), hQ.2.2.2.2.1, hQ.2.2.2.2.2.1, hQ.2.2.2.2.2.2.1, hQ.2.2.2.2.2.2.2.1, ↓ob (hQ.2.2.2.2.2.2.2.2.1), ↓ob (hQ.2.2.2.2.2.2.2.2.2.1), ↓ob (hQ.2.2.2.2.2.2.2.2.2.2.1), hQ.2.2.2.2.2.2.2.2.2.2.2.1, hQ.2.2.2.2.2.2.2.2.2.2.2.2.1, hQ.2.2.2.2.2.2.2.2.2.2.2.2.2.1, ↓ob (hQ.2.2.2.2.2.2.2.2.2.2.2.2.2.2.1), ↓ob (hQ.2.2.2.2.2.2.2.2.2.2.2.2.2.2.2.1), ↓ob (hQ.2.2.2.2.2.2.2.2.2.2.2.2.2.2.2.2.1), ↓ob (hQ.2.2.2.2.2.2.2.2.2.2.2.2.2.2.2.2.2.1), ↓ob (hQ.2.2.2.2.2.2.2.2.2.2.2.2.2.2.2.2.2.2.1), hQ.2.2.2.2.2.2.2.2.2.2.2.2.2.2.2.2.2.2.2.1, hQ.2.2.2.2.2.2.2.2.2.2.2.2.2.2.2.2.2.2.2.2.1, hQ.2.2.2.2.2.2.2.2.2.2.2.2.2.2.2.2.2.2.2.2.2.1, hQ.2.2.2.2.2.2.2.2.2.2.2.2.2.2.2.2.2.2.2.2.2.2.1, hQ.2.2.2.2.2.2.2.2.2.2.2.2.2.2.2.2.2.2.2.2.2.2.2, q8, ↓lt_e, ↓gd_e, ↓Option.bind_some, ↓reduceIte, if_true, if_false, if_pT, if_nF, decide_true, Bool.not_true, Bool.not_false, not_true_eq_false, not_false_eq_true, Bool.false_eq_true, Bool.true_eq_false, eq_self, n3_lit, n3_add, n3_mul, n3_sub, n3_tn, n3_le_t, n3_le_f, n3_lt_t, n3_lt_f, n3_eq_f, n3_eq_t, n3_inb, n3_rem, n3_div, n3_zb, bb_0, bb_1, zb_bb, bb_T, bb_F, n3_dec, n3_m1, n3_eqm, n3_eqmt, n3_ltm, n3_mlt, n3_lem, n3_mle, n3_neg_lt, n3_nlt_neg, n3_nle_neg, n3_neg_le]
theorem n3_imax2 {a : Nat} (ha : a < 2147483648) : imax (n3 a) (n3 4294967295) = n3 a := n3_imax1 ha
theorem c_putToBeds {N : Nat} (hN : 1099511627776 ≤ N) {Λ : Lay} {ad : Nat → Nat} {σ : Nat} {μ : Mem} {F : Nat → Nat} (hS : LyS Λ ad σ) (hC : CS ad μ σ F)  (hQ : LyQ Λ ad) (hj : Inj ad) (hw : WF F) (hσ : σ + 8 < 166) : ∃ μ', m_X6_putToBeds N Λ μ (ad 175) (ad σ) = some μ' ∧ μ'.1 (ad 175) 0 = n3 (bB F 0 0) ∧ (∀ j, j < F 0 → μ'.1 (ad 176) j = n3 ((bdW F (F 0)).2 j)) ∧ Fr ad (fun i => i = 175 ∨ i = 176 ∨ i = 180) μ μ' := by
  have hb := hw.1; unfold WB at hb
  have tk := c_taken hN hS hC hw.2.2.1 hb.1
  have tl := tkn_lt (F 0) hw.2.2.1
  have est0 : m_X6_putToBeds N Λ μ (ad 175) (ad σ) = lp_X6_putToBeds_7 N Λ (ad 175) (ad σ) (n3 (tkn F (F 0))) (n3 0, μ) := by
    simp (disch := omega) only [m_X6_putToBeds, tk, ↓lt_e, ↓gd_e, ↓Option.bind_some, ↓reduceIte, if_true, if_false, if_pT, if_nF, decide_true, Bool.not_true, Bool.not_false, not_true_eq_false, not_false_eq_true, Bool.false_eq_true, Bool.true_eq_false, eq_self, n3_lit, n3_add, n3_mul, n3_sub, n3_tn, n3_le_t, n3_le_f, n3_lt_t, n3_lt_f, n3_eq_f, n3_eq_t, n3_inb, n3_rem, n3_div, n3_zb, bb_0, bb_1, zb_bb, bb_T, bb_F, n3_dec, n3_m1, n3_eqm, n3_eqmt, n3_ltm, n3_mlt, n3_lem, n3_mle, n3_neg_lt, n3_nlt_neg, n3_nle_neg, n3_neg_le]
  rw [est0]
  unfold lp_X6_putToBeds_7
  refine cw_ik (P := fun i x => ∃ μ1 : Mem, x = (n3 i, μ1) ∧ (∀ e, e < i → μ1.1 (ad 180) e = n3 0) ∧ Fr ad (fun i => i = 180) μ μ1) (Q := fun X => ∃ μ', X = some μ' ∧ μ'.1 (ad 175) 0 = n3 (bB F 0 0) ∧ (∀ j, j < F 0 → μ'.1 (ad 176) j = n3 ((bdW F (F 0)).2 j)) ∧ Fr ad (fun i => i = 175 ∨ i = 176 ∨ i = 180) μ μ') 225 ⟨μ, rfl, fun e he => absurd he (Nat.not_lt_zero e), Fr.refl μ⟩ (fun i hi x hx k => ?_) (fun x hx k => ?_) (show 225 < N by omega)
  · obtain ⟨μ1, rfl, hz, hf⟩ := hx
    left
    refine ⟨_, ⟨mset μ1 (ad 180) i (n3 0), rfl, fun e he => ?_, hf.set hj (by rfl)⟩, ?_⟩
    · by_cases ee : e = i
      · rw [ee, mse]
      · rw [msn ee]; exact hz e (by omega)
    · simp (disch := omega) only [bd_X6_putToBeds_7, ↓ob (hQ.1), ↓ob (hQ.2.1), ↓ob (hQ.2.2.1), ↓ob (hQ.2.2.2.1), hQ.2.2.2.2.1, hQ.2.2.2.2.2.1, hQ.2.2.2.2.2.2.1, hQ.2.2.2.2.2.2.2.1, ↓ob (hQ.2.2.2.2.2.2.2.2.1), ↓ob (hQ.2.2.2.2.2.2.2.2.2.1), ↓ob (hQ.2.2.2.2.2.2.2.2.2.2.1), hQ.2.2.2.2.2.2.2.2.2.2.2.1, hQ.2.2.2.2.2.2.2.2.2.2.2.2.1, hQ.2.2.2.2.2.2.2.2.2.2.2.2.2.1, ↓ob (hQ.2.2.2.2.2.2.2.2.2.2.2.2.2.2.1), ↓ob (hQ.2.2.2.2.2.2.2.2.2.2.2.2.2.2.2.1), ↓ob (hQ.2.2.2.2.2.2.2.2.2.2.2.2.2.2.2.2.1), ↓ob (hQ.2.2.2.2.2.2.2.2.2.2.2.2.2.2.2.2.2.1), ↓ob (hQ.2.2.2.2.2.2.2.2.2.2.2.2.2.2.2.2.2.2.1), hQ.2.2.2.2.2.2.2.2.2.2.2.2.2.2.2.2.2.2.2.1, hQ.2.2.2.2.2.2.2.2.2.2.2.2.2.2.2.2.2.2.2.2.1, hQ.2.2.2.2.2.2.2.2.2.2.2.2.2.2.2.2.2.2.2.2.2.1, hQ.2.2.2.2.2.2.2.2.2.2.2.2.2.2.2.2.2.2.2.2.2.2.1, hQ.2.2.2.2.2.2.2.2.2.2.2.2.2.2.2.2.2.2.2.2.2.2.2, ↓lt_e, ↓gd_e, ↓Option.bind_some, ↓reduceIte, if_true, if_false, if_pT, if_nF, decide_true, Bool.not_true, Bool.not_false, not_true_eq_false, not_false_eq_true, Bool.false_eq_true, Bool.true_eq_false, eq_self, n3_lit, n3_add, n3_mul, n3_sub, n3_tn, n3_le_t, n3_le_f, n3_lt_t, n3_lt_f, n3_eq_f, n3_eq_t, n3_inb, n3_rem, n3_div, n3_zb, bb_0, bb_1, zb_bb, bb_T, bb_F, n3_dec, n3_m1, n3_eqm, n3_eqmt, n3_ltm, n3_mlt, n3_lem, n3_mle, n3_neg_lt, n3_nlt_neg, n3_nle_neg, n3_neg_le]
  · obtain ⟨μ1, rfl, hz, hf⟩ := hx
    have hC1 := hC.fr hf (fun i a b => by omega)
    have q8 : μ1.1 (ad σ) 8 = n3 (F 0) := hC1.2.2.2.2.2.2.2.2.1
    have est1 : bd_X6_putToBeds_7 N Λ μ1 k (ad 175) (ad σ) (n3 (tkn F (F 0))) (n3 225) = lp_X6_putToBeds_34 N Λ (ad 175) (ad σ) (n3 (tkn F (F 0))) (n3 (F 0) - n3 1, μ1) := by
      simp (disch := omega) only [bd_X6_putToBeds_7, q8, ↓ob (hQ.1), ↓ob (hQ.2.1), ↓ob (hQ.2.2.1), ↓ob (hQ.2.2.2.1), hQ.2.2.2.2.1, hQ.2.2.2.2.2.1, hQ.2.2.2.2.2.2.1, hQ.2.2.2.2.2.2.2.1, ↓ob (hQ.2.2.2.2.2.2.2.2.1), ↓ob (hQ.2.2.2.2.2.2.2.2.2.1), ↓ob (hQ.2.2.2.2.2.2.2.2.2.2.1), hQ.2.2.2.2.2.2.2.2.2.2.2.1, hQ.2.2.2.2.2.2.2.2.2.2.2.2.1, hQ.2.2.2.2.2.2.2.2.2.2.2.2.2.1, ↓ob (hQ.2.2.2.2.2.2.2.2.2.2.2.2.2.2.1), ↓ob (hQ.2.2.2.2.2.2.2.2.2.2.2.2.2.2.2.1), ↓ob (hQ.2.2.2.2.2.2.2.2.2.2.2.2.2.2.2.2.1), ↓ob (hQ.2.2.2.2.2.2.2.2.2.2.2.2.2.2.2.2.2.1), ↓ob (hQ.2.2.2.2.2.2.2.2.2.2.2.2.2.2.2.2.2.2.1), hQ.2.2.2.2.2.2.2.2.2.2.2.2.2.2.2.2.2.2.2.1, hQ.2.2.2.2.2.2.2.2.2.2.2.2.2.2.2.2.2.2.2.2.1, hQ.2.2.2.2.2.2.2.2.2.2.2.2.2.2.2.2.2.2.2.2.2.1, hQ.2.2.2.2.2.2.2.2.2.2.2.2.2.2.2.2.2.2.2.2.2.2.1, hQ.2.2.2.2.2.2.2.2.2.2.2.2.2.2.2.2.2.2.2.2.2.2.2, ↓lt_e, ↓gd_e, ↓Option.bind_some, ↓reduceIte, if_true, if_false, if_pT, if_nF, decide_true, Bool.not_true, Bool.not_false, not_true_eq_false, not_false_eq_true, Bool.false_eq_true, Bool.true_eq_false, eq_self, n3_lit, n3_add, n3_mul, n3_sub, n3_tn, n3_le_t, n3_le_f, n3_lt_t, n3_lt_f, n3_eq_f, n3_eq_t, n3_inb, n3_rem, n3_div, n3_zb, bb_0, bb_1, zb_bb, bb_T, bb_F, n3_dec, n3_m1, n3_eqm, n3_eqmt, n3_ltm, n3_mlt, n3_lem, n3_mle, n3_neg_lt, n3_nlt_neg, n3_nle_neg, n3_neg_le]
    show ∃ μ', bd_X6_putToBeds_7 N Λ μ1 k (ad 175) (ad σ) (n3 (tkn F (F 0))) (n3 225) = some μ' ∧ μ'.1 (ad 175) 0 = n3 (bB F 0 0) ∧ (∀ j, j < F 0 → μ'.1 (ad 176) j = n3 ((bdW F (F 0)).2 j)) ∧ Fr ad (fun i => i = 175 ∨ i = 176 ∨ i = 180) μ μ'
    rw [est1]
    unfold lp_X6_putToBeds_34
    refine cw_ik (P := fun i x => ∃ μ2 : Mem, x = (n3 (F 0 - i) - n3 1, μ2) ∧ (∀ s q, F 0 - i ≤ s → s ≤ F 0 → q ≤ 24 → μ2.1 (ad 180) (s * 25 + q) = n3 (bB F s q)) ∧ Fr ad (fun i => i = 180) μ μ2) (Q := fun X => ∃ μ', X = some μ' ∧ μ'.1 (ad 175) 0 = n3 (bB F 0 0) ∧ (∀ j, j < F 0 → μ'.1 (ad 176) j = n3 ((bdW F (F 0)).2 j)) ∧ Fr ad (fun i => i = 175 ∨ i = 176 ∨ i = 180) μ μ') (F 0) ⟨μ1, rfl, fun s q h1 h2 h3 => ?_, hf⟩ (fun i hi x hx k => ?_) (fun x hx k => ?_) (show F 0 < N by omega)
    · rw [show s = F 0 by omega, bB_e]; exact hz _ (by omega)
    · obtain ⟨μ2, rfl, hT2, hf2⟩ := hx
      left
      have e1 : F 0 - i - 1 = F 0 - (i + 1) := by omega
      have est2 : bd_X6_putToBeds_34 N Λ μ2 k (ad 175) (ad σ) (n3 (tkn F (F 0))) (n3 (F 0 - i) - n3 1) = lp_X6_putToBeds_42 N Λ k (ad 175) (ad σ) (n3 (tkn F (F 0))) (n3 (F 0 - (i + 1))) (n3 25 - n3 1, μ2) := by
        simp (disch := omega) only [bd_X6_putToBeds_34, e1, ↓ob (hQ.1), ↓ob (hQ.2.1), ↓ob (hQ.2.2.1), ↓ob (hQ.2.2.2.1), hQ.2.2.2.2.1, hQ.2.2.2.2.2.1, hQ.2.2.2.2.2.2.1, hQ.2.2.2.2.2.2.2.1, ↓ob (hQ.2.2.2.2.2.2.2.2.1), ↓ob (hQ.2.2.2.2.2.2.2.2.2.1), ↓ob (hQ.2.2.2.2.2.2.2.2.2.2.1), hQ.2.2.2.2.2.2.2.2.2.2.2.1, hQ.2.2.2.2.2.2.2.2.2.2.2.2.1, hQ.2.2.2.2.2.2.2.2.2.2.2.2.2.1, ↓ob (hQ.2.2.2.2.2.2.2.2.2.2.2.2.2.2.1), ↓ob (hQ.2.2.2.2.2.2.2.2.2.2.2.2.2.2.2.1), ↓ob (hQ.2.2.2.2.2.2.2.2.2.2.2.2.2.2.2.2.1), ↓ob (hQ.2.2.2.2.2.2.2.2.2.2.2.2.2.2.2.2.2.1), ↓ob (hQ.2.2.2.2.2.2.2.2.2.2.2.2.2.2.2.2.2.2.1), hQ.2.2.2.2.2.2.2.2.2.2.2.2.2.2.2.2.2.2.2.1, hQ.2.2.2.2.2.2.2.2.2.2.2.2.2.2.2.2.2.2.2.2.1, hQ.2.2.2.2.2.2.2.2.2.2.2.2.2.2.2.2.2.2.2.2.2.1, hQ.2.2.2.2.2.2.2.2.2.2.2.2.2.2.2.2.2.2.2.2.2.2.1, hQ.2.2.2.2.2.2.2.2.2.2.2.2.2.2.2.2.2.2.2.2.2.2.2, ↓lt_e, ↓gd_e, ↓Option.bind_some, ↓reduceIte, if_true, if_false, if_pT, if_nF, decide_true, Bool.not_true, Bool.not_false, not_true_eq_false, not_false_eq_true, Bool.false_eq_true, Bool.true_eq_false, eq_self, n3_lit, n3_add, n3_mul, n3_sub, n3_tn, n3_le_t, n3_le_f, n3_lt_t, n3_lt_f, n3_eq_f, n3_eq_t, n3_inb, n3_rem, n3_div, n3_zb, bb_0, bb_1, zb_bb, bb_T, bb_F, n3_dec, n3_m1, n3_eqm, n3_eqmt, n3_ltm, n3_mlt, n3_lem, n3_mle, n3_neg_lt, n3_nlt_neg, n3_nle_neg, n3_neg_le]
      show ∃ s', _ ∧ bd_X6_putToBeds_34 N Λ μ2 k (ad 175) (ad σ) (n3 (tkn F (F 0))) (n3 (F 0 - i) - n3 1) = k s'
      rw [est2]
      generalize hsv : F 0 - (i + 1) = s at *
      have hsF : s < F 0 := by omega
      unfold lp_X6_putToBeds_42
      refine cw_ik (P := fun j x => ∃ μ3 : Mem, x = (n3 (25 - j) - n3 1, μ3) ∧ (∀ t q, s + 1 ≤ t → t ≤ F 0 → q ≤ 24 → μ3.1 (ad 180) (t * 25 + q) = n3 (bB F t q)) ∧ (∀ q, 25 - j ≤ q → q ≤ 24 → μ3.1 (ad 180) (s * 25 + q) = n3 (bB F s q)) ∧ Fr ad (fun i => i = 180) μ μ3) (Q := fun X => ∃ s' : Int32 × Mem, (∃ μ3 : Mem, s' = (n3 s - n3 1, μ3) ∧ (∀ t q, s ≤ t → t ≤ F 0 → q ≤ 24 → μ3.1 (ad 180) (t * 25 + q) = n3 (bB F t q)) ∧ Fr ad (fun i => i = 180) μ μ3) ∧ X = k s') 25 ⟨μ2, rfl, fun t q h1 h2 h3 => hT2 t q (by omega) h2 h3, fun q h1 h2 => by omega, hf2⟩ (fun j hj' x hx k' => ?_) (fun x hx k' => ?_) (show 25 < N by omega)
      · obtain ⟨μ3, rfl, hA3, hB3, hf3⟩ := hx
        left
        have e2 : 25 - j - 1 = 24 - j := by omega
        have e3 : 25 - (j + 1) = 24 - j := by omega
        have hC3 := hC.fr hf3 (fun i a b => by omega)
        have ba := c_beddedAt hN hS hC3 hQ hw hsF (p := 24 - j) (by omega) (fun q h => hA3 (s + 1) q (by omega) (by omega) h)
        have r1 := hA3 (s + 1) (24 - j) (by omega) (by omega) (by omega)
        have b1 := bB_100 hw (s := s + 1) (p := 24 - j) (by omega) (by omega)
        have b0 := bB_100 hw (s := s) (p := 24 - j) (by omega) (by omega)
        have hcr := bB_c hw hsF (p := 24 - j) (by omega)
        refine ⟨_, ⟨mset μ3 (ad 180) (s * 25 + (24 - j)) (n3 (bB F s (24 - j))), rfl, fun t q h1 h2 h3 => ?_, fun q h1 h2 => ?_, hf3.set hj (by rfl)⟩, ?_⟩
        · rw [msn (by omega)]; exact hA3 t q h1 h2 h3
        · by_cases eq : q = 24 - j
          · rw [eq, mse]
          · rw [msn (by omega)]; exact hB3 q (by omega) h2
        · have himax : ∀ c, c ≤ 1000 → imax (n3 (bB F (s + 1) (24 - j))) (imax (n3 c) (n3 (if wtb F s (24 - j) = true then bhv F s (24 - j) else 4294967295))) = n3 (max (bB F (s + 1) (24 - j)) (max c (if wtb F s (24 - j) = true then bhv F s (24 - j) else 0))) := by
            intro c hc
            by_cases hwt : wtb F s (24 - j) = true
            · have := bhv_100 hw hsF hwt
              rw [if_pos hwt, if_pos hwt, n3_imax (by omega) (by omega), n3_imax (by omega) (by omega)]
            · rw [if_neg hwt, if_neg hwt, n3_imax2 (by omega), n3_imax (by omega) (by omega)]
              congr 1; omega
          rw [e3]
          by_cases ej : j = 0
          · have hm := himax 0 (by omega)
            rw [if_neg (show ¬ 24 - j < 24 by omega)] at hcr
            rw [← hcr] at hm
            simp (disch := omega) only [bd_X6_putToBeds_42, jn_X6_putToBeds_86, m_X6_bed, ↓ob (hQ.1), ↓ob (hQ.2.1), ↓ob (hQ.2.2.1), ↓ob (hQ.2.2.2.1), hQ.2.2.2.2.1, hQ.2.2.2.2.2.1, hQ.2.2.2.2.2.2.1, hQ.2.2.2.2.2.2.2.1, ↓ob (hQ.2.2.2.2.2.2.2.2.1), ↓ob (hQ.2.2.2.2.2.2.2.2.2.1), ↓ob (hQ.2.2.2.2.2.2.2.2.2.2.1), hQ.2.2.2.2.2.2.2.2.2.2.2.1, hQ.2.2.2.2.2.2.2.2.2.2.2.2.1, hQ.2.2.2.2.2.2.2.2.2.2.2.2.2.1, ↓ob (hQ.2.2.2.2.2.2.2.2.2.2.2.2.2.2.1), ↓ob (hQ.2.2.2.2.2.2.2.2.2.2.2.2.2.2.2.1), ↓ob (hQ.2.2.2.2.2.2.2.2.2.2.2.2.2.2.2.2.1), ↓ob (hQ.2.2.2.2.2.2.2.2.2.2.2.2.2.2.2.2.2.1), ↓ob (hQ.2.2.2.2.2.2.2.2.2.2.2.2.2.2.2.2.2.2.1), hQ.2.2.2.2.2.2.2.2.2.2.2.2.2.2.2.2.2.2.2.1, hQ.2.2.2.2.2.2.2.2.2.2.2.2.2.2.2.2.2.2.2.2.1, hQ.2.2.2.2.2.2.2.2.2.2.2.2.2.2.2.2.2.2.2.2.2.1, hQ.2.2.2.2.2.2.2.2.2.2.2.2.2.2.2.2.2.2.2.2.2.2.1, hQ.2.2.2.2.2.2.2.2.2.2.2.2.2.2.2.2.2.2.2.2.2.2.2, e2, r1, ba, ↓lt_e, ↓gd_e, ↓Option.bind_some, ↓reduceIte, if_true, if_false, if_pT, if_nF, decide_true, Bool.not_true, Bool.not_false, not_true_eq_false, not_false_eq_true, Bool.false_eq_true, Bool.true_eq_false, eq_self, n3_lit, n3_sub, n3_lt_f, n3_le_t, n3_inb, n3_tn, n3_add, n3_mul, hm, n3_dec]
          · have r2 := hB3 (24 - j + 1) (by omega) (by omega)
            have b2 := bB_100 hw (s := s) (p := 24 - j + 1) (by omega) (by omega)
            have hm := himax (bB F s (24 - j + 1)) (by omega)
            rw [if_pos (show 24 - j < 24 by omega)] at hcr
            rw [← hcr] at hm
            simp (disch := omega) only [bd_X6_putToBeds_42, jn_X6_putToBeds_86, m_X6_bed, ↓ob (hQ.1), ↓ob (hQ.2.1), ↓ob (hQ.2.2.1), ↓ob (hQ.2.2.2.1), hQ.2.2.2.2.1, hQ.2.2.2.2.2.1, hQ.2.2.2.2.2.2.1, hQ.2.2.2.2.2.2.2.1, ↓ob (hQ.2.2.2.2.2.2.2.2.1), ↓ob (hQ.2.2.2.2.2.2.2.2.2.1), ↓ob (hQ.2.2.2.2.2.2.2.2.2.2.1), hQ.2.2.2.2.2.2.2.2.2.2.2.1, hQ.2.2.2.2.2.2.2.2.2.2.2.2.1, hQ.2.2.2.2.2.2.2.2.2.2.2.2.2.1, ↓ob (hQ.2.2.2.2.2.2.2.2.2.2.2.2.2.2.1), ↓ob (hQ.2.2.2.2.2.2.2.2.2.2.2.2.2.2.2.1), ↓ob (hQ.2.2.2.2.2.2.2.2.2.2.2.2.2.2.2.2.1), ↓ob (hQ.2.2.2.2.2.2.2.2.2.2.2.2.2.2.2.2.2.1), ↓ob (hQ.2.2.2.2.2.2.2.2.2.2.2.2.2.2.2.2.2.2.1), hQ.2.2.2.2.2.2.2.2.2.2.2.2.2.2.2.2.2.2.2.1, hQ.2.2.2.2.2.2.2.2.2.2.2.2.2.2.2.2.2.2.2.2.1, hQ.2.2.2.2.2.2.2.2.2.2.2.2.2.2.2.2.2.2.2.2.2.1, hQ.2.2.2.2.2.2.2.2.2.2.2.2.2.2.2.2.2.2.2.2.2.2.1, hQ.2.2.2.2.2.2.2.2.2.2.2.2.2.2.2.2.2.2.2.2.2.2.2, e2, r1, r2, ba, ↓lt_e, ↓gd_e, ↓Option.bind_some, ↓reduceIte, if_true, if_false, if_pT, if_nF, decide_true, Bool.not_true, Bool.not_false, not_true_eq_false, not_false_eq_true, Bool.false_eq_true, Bool.true_eq_false, eq_self, n3_lit, n3_sub, n3_lt_f, n3_le_f, n3_inb, n3_tn, n3_add, n3_mul, hm, n3_dec]
      · obtain ⟨μ3, rfl, hA3, hB3, hf3⟩ := hx
        refine ⟨_, ⟨μ3, rfl, fun t q h1 h2 h3 => ?_, hf3⟩, ?_⟩
        · by_cases et : t = s
          · rw [et]; exact hB3 q (by omega) h3
          · exact hA3 t q (by omega) h2 h3
        · simp (disch := omega) only [bd_X6_putToBeds_42, Nat.sub_self, ↓ob (hQ.1), ↓ob (hQ.2.1), ↓ob (hQ.2.2.1), ↓ob (hQ.2.2.2.1), hQ.2.2.2.2.1, hQ.2.2.2.2.2.1, hQ.2.2.2.2.2.2.1, hQ.2.2.2.2.2.2.2.1, ↓ob (hQ.2.2.2.2.2.2.2.2.1), ↓ob (hQ.2.2.2.2.2.2.2.2.2.1), ↓ob (hQ.2.2.2.2.2.2.2.2.2.2.1), hQ.2.2.2.2.2.2.2.2.2.2.2.1, hQ.2.2.2.2.2.2.2.2.2.2.2.2.1, hQ.2.2.2.2.2.2.2.2.2.2.2.2.2.1, ↓ob (hQ.2.2.2.2.2.2.2.2.2.2.2.2.2.2.1), ↓ob (hQ.2.2.2.2.2.2.2.2.2.2.2.2.2.2.2.1), ↓ob (hQ.2.2.2.2.2.2.2.2.2.2.2.2.2.2.2.2.1), ↓ob (hQ.2.2.2.2.2.2.2.2.2.2.2.2.2.2.2.2.2.1), ↓ob (hQ.2.2.2.2.2.2.2.2.2.2.2.2.2.2.2.2.2.2.1), hQ.2.2.2.2.2.2.2.2.2.2.2.2.2.2.2.2.2.2.2.1, hQ.2.2.2.2.2.2.2.2.2.2.2.2.2.2.2.2.2.2.2.2.1, hQ.2.2.2.2.2.2.2.2.2.2.2.2.2.2.2.2.2.2.2.2.2.1, hQ.2.2.2.2.2.2.2.2.2.2.2.2.2.2.2.2.2.2.2.2.2.2.1, hQ.2.2.2.2.2.2.2.2.2.2.2.2.2.2.2.2.2.2.2.2.2.2.2, ↓lt_e, ↓gd_e, ↓Option.bind_some, ↓reduceIte, if_true, if_false, if_pT, if_nF, decide_true, Bool.not_true, Bool.not_false, not_true_eq_false, not_false_eq_true, Bool.false_eq_true, Bool.true_eq_false, eq_self, n3_lit, n3_m1, n3_neg_lt, n3_dec]
    · obtain ⟨μ2, rfl, hT2, hf2⟩ := hx
      have ht : μ2.1 (ad 180) 0 = n3 (bB F 0 0) := by have := hT2 0 0 (by omega) (by omega) (by omega); rw [Nat.zero_mul] at this; exact this
      have f3 : Fr ad (fun i => i = 175) μ2 (mset μ2 (ad 175) 0 (n3 (bB F 0 0))) := (Fr.refl μ2).set hj (by rfl)
      have hC3 := (hC.fr hf2 (fun i a b => by omega)).fr f3 (fun i a b => by omega)
      obtain ⟨μ4, e4, hM4, f4⟩ := c_findBeds hN hS hC3 hQ hj hw hσ (fun s q h1 h2 => by rw [(f3 180 (by omega)).1]; exact hT2 s q (by omega) h1 h2)
      refine ⟨μ4, ?_, by rw [(f4 175 (by omega)).1, mse], hM4, (hf2.mono (fun i hi => by omega)).trans ((f3.mono (fun i hi => by omega)).trans (f4.mono (fun i hi => by omega)))⟩
      simp (disch := omega) only [bd_X6_putToBeds_34, Nat.sub_self, ↓ob (hQ.1), ↓ob (hQ.2.1), ↓ob (hQ.2.2.1), ↓ob (hQ.2.2.2.1), hQ.2.2.2.2.1, hQ.2.2.2.2.2.1, hQ.2.2.2.2.2.2.1, hQ.2.2.2.2.2.2.2.1, ↓ob (hQ.2.2.2.2.2.2.2.2.1), ↓ob (hQ.2.2.2.2.2.2.2.2.2.1), ↓ob (hQ.2.2.2.2.2.2.2.2.2.2.1), hQ.2.2.2.2.2.2.2.2.2.2.2.1, hQ.2.2.2.2.2.2.2.2.2.2.2.2.1, hQ.2.2.2.2.2.2.2.2.2.2.2.2.2.1, ↓ob (hQ.2.2.2.2.2.2.2.2.2.2.2.2.2.2.1), ↓ob (hQ.2.2.2.2.2.2.2.2.2.2.2.2.2.2.2.1), ↓ob (hQ.2.2.2.2.2.2.2.2.2.2.2.2.2.2.2.2.1), ↓ob (hQ.2.2.2.2.2.2.2.2.2.2.2.2.2.2.2.2.2.1), ↓ob (hQ.2.2.2.2.2.2.2.2.2.2.2.2.2.2.2.2.2.2.1), hQ.2.2.2.2.2.2.2.2.2.2.2.2.2.2.2.2.2.2.2.1, hQ.2.2.2.2.2.2.2.2.2.2.2.2.2.2.2.2.2.2.2.2.1, hQ.2.2.2.2.2.2.2.2.2.2.2.2.2.2.2.2.2.2.2.2.2.1, hQ.2.2.2.2.2.2.2.2.2.2.2.2.2.2.2.2.2.2.2.2.2.2.1, hQ.2.2.2.2.2.2.2.2.2.2.2.2.2.2.2.2.2.2.2.2.2.2.2, ht, e4, ↓lt_e, ↓gd_e, ↓Option.bind_some, ↓reduceIte, if_true, if_false, if_pT, if_nF, decide_true, Bool.not_true, Bool.not_false, not_true_eq_false, not_false_eq_true, Bool.false_eq_true, Bool.true_eq_false, eq_self, n3_lit, n3_add, n3_mul, n3_sub, n3_tn, n3_le_t, n3_le_f, n3_lt_t, n3_lt_f, n3_eq_f, n3_eq_t, n3_inb, n3_rem, n3_div, n3_zb, bb_0, bb_1, zb_bb, bb_T, bb_F, n3_dec, n3_m1, n3_eqm, n3_eqmt, n3_ltm, n3_mlt, n3_lem, n3_mle, n3_neg_lt, n3_nlt_neg, n3_nle_neg, n3_neg_le]
theorem C_beds_f {N : Nat} (hN : 1099511627776 ≤ N) {Λ : Lay} {ad : Nat → Nat} {μ : Mem} {F : Nat → Nat} {m : Nat} {A : Nat → Nat → Nat} {b : Nat} {J : Nat → Nat} {T : Nat → Int32} {n : Nat} {f : Int32} (hY : Ly Λ ad) (h : RC ad μ F m A b J T n f) (ho : Ok F m A b J T n)  (x : Int32) (hx : inr x (F 0) = false) (hm : ¬ x = n3 4294967295) : CT ad μ (m_X11_beds N Λ μ (ad 0) x) 3 0 F m A b J T n f := by
  have hj := hY.1
  have hP := hY.2.2.1
  have hS := hY.2.2.2.1 3 (Or.inl rfl)
  have hL := hY.2.2.2.2.1 30 (Or.inl rfl)
  have hC := h.1
  have hw := ho.1
  have hl := ho.2.1
  have hb := hw.1; unfold WB at hb
  refine CT.same h ?_
  unfold m_X11_beds
  rw [m1_n3, if_neg hm, c_need1 hP hC, hx]; rfl
theorem C_beds_m {N : Nat} (hN : 1099511627776 ≤ N) {Λ : Lay} {ad : Nat → Nat} {μ : Mem} {F : Nat → Nat} {m : Nat} {A : Nat → Nat → Nat} {b : Nat} {J : Nat → Nat} {T : Nat → Int32} {n : Nat} {f : Int32} (hY : Ly Λ ad) (h : RC ad μ F m A b J T n f) (ho : Ok F m A b J T n)  : CT ad μ (m_X11_beds N Λ μ (ad 0) (n3 4294967295)) 0 (n3 (bB F 0 0)) F m A b J T n f := by
  have hj := hY.1
  have hP := hY.2.2.1
  have hS := hY.2.2.2.1 3 (Or.inl rfl)
  have hL := hY.2.2.2.2.1 30 (Or.inl rfl)
  have hC := h.1
  have hw := ho.1
  have hl := ho.2.1
  have hb := hw.1; unfold WB at hb
  obtain ⟨μ1, e1, h1, h2, f1⟩ := c_putToBeds hN hS hC hY.2.2.2.2.2.2.2.1 hj hw (by omega)
  exact CT.scr h (f1.mono (fun i hi => by unfold ScC; omega)) (by simp (disch := omega) only [jn_X11_beds_45, jn_X11_beds_10, m_X11_beds, ↓ob (hP.1), ↓ob (hP.2.1), ↓ob (hP.2.2.1), ↓ob (hP.2.2.2.1), ↓ob (hP.2.2.2.2.1), ↓ob (hP.2.2.2.2.2.1), ↓ob (hP.2.2.2.2.2.2.1), ↓ob (hP.2.2.2.2.2.2.2.1), ↓ob (hP.2.2.2.2.2.2.2.2.1), ↓ob (hP.2.2.2.2.2.2.2.2.2.1), ↓ob (hP.2.2.2.2.2.2.2.2.2.2.1), ↓ob (hP.2.2.2.2.2.2.2.2.2.2.2.1), ↓ob (hP.2.2.2.2.2.2.2.2.2.2.2.2.1), ↓ob (hP.2.2.2.2.2.2.2.2.2.2.2.2.2.1), hP.2.2.2.2.2.2.2.2.2.2.2.2.2.2, e1, h1, n3_neg1, ↓lt_e, ↓gd_e, ↓Option.bind_some, ↓reduceIte, if_true, if_false, if_pT, if_nF, decide_true, Bool.not_true, Bool.not_false, not_true_eq_false, not_false_eq_true, Bool.false_eq_true, Bool.true_eq_false, eq_self, n3_lit, n3_add, n3_mul, n3_sub, n3_tn, n3_le_t, n3_le_f, n3_lt_t, n3_lt_f, n3_eq_f, n3_eq_t, n3_inb, n3_rem, n3_div, n3_zb, bb_0, bb_1, zb_bb, bb_T, bb_F, n3_dec, n3_m1, n3_eqm, n3_eqmt, n3_ltm, n3_mlt, n3_lem, n3_mle, n3_neg_lt, n3_nlt_neg, n3_nle_neg, n3_neg_le])
theorem C_beds_t {N : Nat} (hN : 1099511627776 ≤ N) {Λ : Lay} {ad : Nat → Nat} {μ : Mem} {F : Nat → Nat} {m : Nat} {A : Nat → Nat → Nat} {b : Nat} {J : Nat → Nat} {T : Nat → Int32} {n : Nat} {f : Int32} (hY : Ly Λ ad) (h : RC ad μ F m A b J T n f) (ho : Ok F m A b J T n)  (s : Nat) (hs : s < F 0) : CT ad μ (m_X11_beds N Λ μ (ad 0) (n3 s)) 0 (n3 ((bdW F (F 0)).2 s)) F m A b J T n f := by
  have hj := hY.1
  have hP := hY.2.2.1
  have hS := hY.2.2.2.1 3 (Or.inl rfl)
  have hL := hY.2.2.2.2.1 30 (Or.inl rfl)
  have hC := h.1
  have hw := ho.1
  have hl := ho.2.1
  have hb := hw.1; unfold WB at hb
  have hQ := hY.2.2.2.2.2.2.2.1
  obtain ⟨μ1, e1, h1, h2, f1⟩ := c_putToBeds hN hS hC hQ hj hw (by omega)
  have h2s := h2 s hs
  exact CT.scr h (f1.mono (fun i hi => by unfold ScC; omega)) (by simp (disch := omega) only [jn_X11_beds_45, jn_X11_beds_10, m_X11_beds, ↓ob (hP.1), ↓ob (hP.2.1), ↓ob (hP.2.2.1), ↓ob (hP.2.2.2.1), ↓ob (hP.2.2.2.2.1), ↓ob (hP.2.2.2.2.2.1), ↓ob (hP.2.2.2.2.2.2.1), ↓ob (hP.2.2.2.2.2.2.2.1), ↓ob (hP.2.2.2.2.2.2.2.2.1), ↓ob (hP.2.2.2.2.2.2.2.2.2.1), ↓ob (hP.2.2.2.2.2.2.2.2.2.2.1), ↓ob (hP.2.2.2.2.2.2.2.2.2.2.2.1), ↓ob (hP.2.2.2.2.2.2.2.2.2.2.2.2.1), ↓ob (hP.2.2.2.2.2.2.2.2.2.2.2.2.2.1), hP.2.2.2.2.2.2.2.2.2.2.2.2.2.2, ↓ob (hQ.1), ↓ob (hQ.2.1), ↓ob (hQ.2.2.1), ↓ob (hQ.2.2.2.1), hQ.2.2.2.2.1, hQ.2.2.2.2.2.1, hQ.2.2.2.2.2.2.1, hQ.2.2.2.2.2.2.2.1, ↓ob (hQ.2.2.2.2.2.2.2.2.1), ↓ob (hQ.2.2.2.2.2.2.2.2.2.1), ↓ob (hQ.2.2.2.2.2.2.2.2.2.2.1), hQ.2.2.2.2.2.2.2.2.2.2.2.1, hQ.2.2.2.2.2.2.2.2.2.2.2.2.1, hQ.2.2.2.2.2.2.2.2.2.2.2.2.2.1, ↓ob (hQ.2.2.2.2.2.2.2.2.2.2.2.2.2.2.1), ↓ob (hQ.2.2.2.2.2.2.2.2.2.2.2.2.2.2.2.1), ↓ob (hQ.2.2.2.2.2.2.2.2.2.2.2.2.2.2.2.2.1), ↓ob (hQ.2.2.2.2.2.2.2.2.2.2.2.2.2.2.2.2.2.1), ↓ob (hQ.2.2.2.2.2.2.2.2.2.2.2.2.2.2.2.2.2.2.1), hQ.2.2.2.2.2.2.2.2.2.2.2.2.2.2.2.2.2.2.2.1, hQ.2.2.2.2.2.2.2.2.2.2.2.2.2.2.2.2.2.2.2.2.1, hQ.2.2.2.2.2.2.2.2.2.2.2.2.2.2.2.2.2.2.2.2.2.1, hQ.2.2.2.2.2.2.2.2.2.2.2.2.2.2.2.2.2.2.2.2.2.2.1, hQ.2.2.2.2.2.2.2.2.2.2.2.2.2.2.2.2.2.2.2.2.2.2.2, c_need1 hP hC, inr_n3, thn_T, thn_0, thn_1, thn_2, thn_3, thn_4, thn_5, e1, h2s, ↓lt_e, ↓gd_e, ↓Option.bind_some, ↓reduceIte, if_true, if_false, if_pT, if_nF, decide_true, Bool.not_true, Bool.not_false, not_true_eq_false, not_false_eq_true, Bool.false_eq_true, Bool.true_eq_false, eq_self, n3_lit, n3_add, n3_mul, n3_sub, n3_tn, n3_le_t, n3_le_f, n3_lt_t, n3_lt_f, n3_eq_f, n3_eq_t, n3_inb, n3_rem, n3_div, n3_zb, bb_0, bb_1, zb_bb, bb_T, bb_F, n3_dec, n3_m1, n3_eqm, n3_eqmt, n3_ltm, n3_mlt, n3_lem, n3_mle, n3_neg_lt, n3_nlt_neg, n3_nle_neg, n3_neg_le])
/-! beds: the reference -/
theorem r_bedIf54 {N : Nat} {Λ : Lay} {μ : Mem} {v : Nat} {a b : Int32} : jn_X12_bedIf_54 N Λ μ v a b = some (-1) := by
  unfold jn_X12_bedIf_54 jn_X12_bedIf_55
  exact if_pos rfl
theorem r_bedIfA {N : Nat} {Λ : Lay} {ad : Nat → Nat} {μ : Mem} {F : Nat → Nat} (hR : LyR Λ ad) (hW : Row μ (ad 182) 1222 F)  {s fr p : Nat} (b3 : s < 8) (hfr : fr ≤ 24) (hp : p < 24) (h3 : ¬ F (25 + 6 * s + 3) = 0) (hl : F (25 + 6 * s + 3) < 4294967296) : m_X12_bedIf N Λ μ (ad 181) (n3 s) (n3 fr) (n3 p) = some (-1) := by
  unfold m_X12_bedIf
  have e1 : (n3 p = 24) = False := n3_eq_f (b := 24) (by omega) (by omega) (by omega)
  have e2 : (n3 (F (25 + 6 * s + 3)) = 0) = False := n3_eq_f (b := 0) h3 hl (by omega)
  have e3 := r_of (N := N) hR hW s 3 (by omega)
  rw [if_neg (of_eq_false e1)]
  rw [show (3 : Int32) = n3 3 from rfl, e3]
  exact (if_neg (of_eq_false e2)).trans r_bedIf54
theorem r_bedIfB {N : Nat} {Λ : Lay} {ad : Nat → Nat} {μ : Mem} {F : Nat → Nat} (hR : LyR Λ ad) (hW : Row μ (ad 182) 1222 F)  {t : Nat} {s fr p : Nat} (b3 : s < 8) (hfr : fr ≤ 24) (hp : p < 24) (hle : fr ≤ p) (h3 : F (25 + 6 * s + 3) = 0) (e0 : m_X12_of N Λ μ (ad 181) (n3 s) (n3 0) = some (n3 (F (25 + 6 * s)))) (tk : m_X12_taken N Λ μ (ad 181) = some (n3 t)) (hl : t < 4294967296) (hl2 : F (25 + 6 * s) < 32) (hf : ¬ fitb t p (F (25 + 6 * s)) = true) : m_X12_bedIf N Λ μ (ad 181) (n3 s) (n3 fr) (n3 p) = some (-1) := by
  have e3 := r_of (N := N) hR hW s 3 (by omega)
  rw [h3] at e3
  simp (disch := omega) only [m_X12_bedIf, r_bedIf54, e3, e0, tk, r_fitsIn, hf, ↓lt_e, ↓gd_e, ↓Option.bind_some, ↓reduceIte, if_true, if_false, if_pT, if_nF, decide_true, Bool.not_true, Bool.not_false, not_true_eq_false, not_false_eq_true, Bool.false_eq_true, Bool.true_eq_false, eq_self, n3_lit, n3_eq_f, n3_lt_f, bb_F, bb_T]
theorem r_bedIf0 {N : Nat} (hN : 1099511627776 ≤ N) {Λ : Lay} {ad : Nat → Nat} {μ : Mem} {F : Nat → Nat} (hR : LyR Λ ad) (hW : Row μ (ad 182) 1222 F)  {z : Nat} (hz : -n3 1 = n3 z) (hw : WF F) {s fr p : Nat} (hs : s < F 0) (hfr : fr ≤ 24) (hp : p < 24) (hT : ∀ q, q ≤ 24 → μ.1 (ad 197) (25 * (s + 1) + q) = n3 (bB F (s + 1) q)) : m_X12_bedIf N Λ μ (ad 181) (n3 s) (n3 fr) (n3 p) = some (n3 (if fr ≤ p ∧ wtb F s p = true then bhv F s p else z)) := by
  have hb := hw.1; unfold WB at hb
  have tl := tkn_lt (F 0) hw.2.2.1
  have tk := r_taken hN hR hW hw.2.2.1 hb.1
  have hso := hw.2.2.1 s hs
  unfold ShOk at hso
  have e0 := r_of (N := N) hR hW s 0 (by omega)
  have ez : F (25 + 6 * s + 0) = F (25 + 6 * s) := congrArg F (by omega)
  rw [ez] at e0
  by_cases h3 : F (25 + 6 * s + 3) = 0
  · by_cases hle : fr ≤ p
    · by_cases hf : fitb (tkn F (F 0)) p (F (25 + 6 * s)) = true
      · have hwt := wtb_iff.2 ⟨h3, hf⟩
        rw [if_pos ⟨hle, hwt⟩]
        have hl := wtb_le hwt
        have ht := hT (p + F (25 + 6 * s)) hl
        simp (disch := omega) only [jn_X12_bedIf_92, jn_X12_bedIf_55, jn_X12_bedIf_54, m_X12_bedIf, m_X12_bedAt, r_of hR hW, e0, h3, tk, r_fitsIn, hf, ↓ob (hR.1), ↓ob (hR.2.1), ↓ob (hR.2.2.1), ↓ob (hR.2.2.2.1), ↓ob (hR.2.2.2.2.1), ↓ob (hR.2.2.2.2.2.1), ↓ob (hR.2.2.2.2.2.2.1), ↓ob (hR.2.2.2.2.2.2.2.1), ↓ob (hR.2.2.2.2.2.2.2.2.1), ↓ob (hR.2.2.2.2.2.2.2.2.2.1), ↓ob (hR.2.2.2.2.2.2.2.2.2.2.1), ↓ob (hR.2.2.2.2.2.2.2.2.2.2.2.1), ↓ob (hR.2.2.2.2.2.2.2.2.2.2.2.2.1), ↓ob (hR.2.2.2.2.2.2.2.2.2.2.2.2.2.1), ↓ob (hR.2.2.2.2.2.2.2.2.2.2.2.2.2.2.1), ↓ob (hR.2.2.2.2.2.2.2.2.2.2.2.2.2.2.2.1), ↓ob (hR.2.2.2.2.2.2.2.2.2.2.2.2.2.2.2.2.1), ↓ob (hR.2.2.2.2.2.2.2.2.2.2.2.2.2.2.2.2.2.1), hR.2.2.2.2.2.2.2.2.2.2.2.2.2.2.2.2.2.2.1, hR.2.2.2.2.2.2.2.2.2.2.2.2.2.2.2.2.2.2.2.1, hR.2.2.2.2.2.2.2.2.2.2.2.2.2.2.2.2.2.2.2.2.1, hR.2.2.2.2.2.2.2.2.2.2.2.2.2.2.2.2.2.2.2.2.2.1, hR.2.2.2.2.2.2.2.2.2.2.2.2.2.2.2.2.2.2.2.2.2.2.1, hR.2.2.2.2.2.2.2.2.2.2.2.2.2.2.2.2.2.2.2.2.2.2.2.1, hR.2.2.2.2.2.2.2.2.2.2.2.2.2.2.2.2.2.2.2.2.2.2.2.2.1, hR.2.2.2.2.2.2.2.2.2.2.2.2.2.2.2.2.2.2.2.2.2.2.2.2.2.1, hR.2.2.2.2.2.2.2.2.2.2.2.2.2.2.2.2.2.2.2.2.2.2.2.2.2.2.1, hR.2.2.2.2.2.2.2.2.2.2.2.2.2.2.2.2.2.2.2.2.2.2.2.2.2.2.2.1, hR.2.2.2.2.2.2.2.2.2.2.2.2.2.2.2.2.2.2.2.2.2.2.2.2.2.2.2.2.1, hR.2.2.2.2.2.2.2.2.2.2.2.2.2.2.2.2.2.2.2.2.2.2.2.2.2.2.2.2.2.1, hR.2.2.2.2.2.2.2.2.2.2.2.2.2.2.2.2.2.2.2.2.2.2.2.2.2.2.2.2.2.2.1, hR.2.2.2.2.2.2.2.2.2.2.2.2.2.2.2.2.2.2.2.2.2.2.2.2.2.2.2.2.2.2.2.1, hR.2.2.2.2.2.2.2.2.2.2.2.2.2.2.2.2.2.2.2.2.2.2.2.2.2.2.2.2.2.2.2.2.1, hR.2.2.2.2.2.2.2.2.2.2.2.2.2.2.2.2.2.2.2.2.2.2.2.2.2.2.2.2.2.2.2.2.2.1, hR.2.2.2.2.2.2.2.2.2.2.2.2.2.2.2.2.2.2.2.2.2.2.2.2.2.2.2.2.2.2.2.2.2.2.1, hR.2.2.2.2.2.2.2.2.2.2.2.2.2.2.2.2.2.2.2.2.2.2.2.2.2.2.2.2.2.2.2.2.2.2.2, ht, ↓lt_e, ↓gd_e, ↓Option.bind_some, ↓reduceIte, if_true, if_false, if_pT, if_nF, decide_true, Bool.not_true, Bool.not_false, not_true_eq_false, not_false_eq_true, Bool.false_eq_true, Bool.true_eq_false, eq_self, n3_lit, n3_add, n3_mul, n3_sub, n3_tn, n3_le_t, n3_le_f, n3_lt_t, n3_lt_f, n3_eq_f, n3_eq_t, n3_inb, n3_rem, n3_div, n3_zb, bb_0, bb_1, zb_bb, bb_T, bb_F, n3_dec, n3_m1, n3_eqm, n3_eqmt, n3_ltm, n3_mlt, n3_lem, n3_mle, n3_neg_lt, n3_nlt_neg, n3_nle_neg, n3_neg_le, bhv, ez]
      · rw [if_neg (fun hc => hf (wtb_iff.1 hc.2).2)]
        rw [r_bedIfB hR hW (by omega) hfr hp hle h3 e0 tk (by omega) (by omega) hf]; exact congrArg some hz
    · rw [if_neg (fun hc => hle hc.1)]
      simp (disch := omega) only [jn_X12_bedIf_92, jn_X12_bedIf_55, jn_X12_bedIf_54, m_X12_bedIf, r_of hR hW, h3, hz, ↓ob (hR.1), ↓ob (hR.2.1), ↓ob (hR.2.2.1), ↓ob (hR.2.2.2.1), ↓ob (hR.2.2.2.2.1), ↓ob (hR.2.2.2.2.2.1), ↓ob (hR.2.2.2.2.2.2.1), ↓ob (hR.2.2.2.2.2.2.2.1), ↓ob (hR.2.2.2.2.2.2.2.2.1), ↓ob (hR.2.2.2.2.2.2.2.2.2.1), ↓ob (hR.2.2.2.2.2.2.2.2.2.2.1), ↓ob (hR.2.2.2.2.2.2.2.2.2.2.2.1), ↓ob (hR.2.2.2.2.2.2.2.2.2.2.2.2.1), ↓ob (hR.2.2.2.2.2.2.2.2.2.2.2.2.2.1), ↓ob (hR.2.2.2.2.2.2.2.2.2.2.2.2.2.2.1), ↓ob (hR.2.2.2.2.2.2.2.2.2.2.2.2.2.2.2.1), ↓ob (hR.2.2.2.2.2.2.2.2.2.2.2.2.2.2.2.2.1), ↓ob (hR.2.2.2.2.2.2.2.2.2.2.2.2.2.2.2.2.2.1), hR.2.2.2.2.2.2.2.2.2.2.2.2.2.2.2.2.2.2.1, hR.2.2.2.2.2.2.2.2.2.2.2.2.2.2.2.2.2.2.2.1, hR.2.2.2.2.2.2.2.2.2.2.2.2.2.2.2.2.2.2.2.2.1, hR.2.2.2.2.2.2.2.2.2.2.2.2.2.2.2.2.2.2.2.2.2.1, hR.2.2.2.2.2.2.2.2.2.2.2.2.2.2.2.2.2.2.2.2.2.2.1, hR.2.2.2.2.2.2.2.2.2.2.2.2.2.2.2.2.2.2.2.2.2.2.2.1, hR.2.2.2.2.2.2.2.2.2.2.2.2.2.2.2.2.2.2.2.2.2.2.2.2.1, hR.2.2.2.2.2.2.2.2.2.2.2.2.2.2.2.2.2.2.2.2.2.2.2.2.2.1, hR.2.2.2.2.2.2.2.2.2.2.2.2.2.2.2.2.2.2.2.2.2.2.2.2.2.2.1, hR.2.2.2.2.2.2.2.2.2.2.2.2.2.2.2.2.2.2.2.2.2.2.2.2.2.2.2.1, hR.2.2.2.2.2.2.2.2.2.2.2.2.2.2.2.2.2.2.2.2.2.2.2.2.2.2.2.2.1, hR.2.2.2.2.2.2.2.2.2.2.2.2.2.2.2.2.2.2.2.2.2.2.2.2.2.2.2.2.2.1, hR.2.2.2.2.2.2.2.2.2.2.2.2.2.2.2.2.2.2.2.2.2.2.2.2.2.2.2.2.2.2.1, hR.2.2.2.2.2.2.2.2.2.2.2.2.2.2.2.2.2.2.2.2.2.2.2.2.2.2.2.2.2.2.2.1, hR.2.2.2.2.2.2.2.2.2.2.2.2.2.2.2.2.2.2.2.2.2.2.2.2.2.2.2.2.2.2.2.2.1, hR.2.2.2.2.2.2.2.2.2.2.2.2.2.2.2.2.2.2.2.2.2.2.2.2.2.2.2.2.2.2.2.2.2.1, hR.2.2.2.2.2.2.2.2.2.2.2.2.2.2.2.2.2.2.2.2.2.2.2.2.2.2.2.2.2.2.2.2.2.2.1, hR.2.2.2.2.2.2.2.2.2.2.2.2.2.2.2.2.2.2.2.2.2.2.2.2.2.2.2.2.2.2.2.2.2.2.2, ↓lt_e, ↓gd_e, ↓Option.bind_some, ↓reduceIte, if_true, if_false, if_pT, if_nF, decide_true, Bool.not_true, Bool.not_false, not_true_eq_false, not_false_eq_true, Bool.false_eq_true, Bool.true_eq_false, eq_self, n3_lit, n3_add, n3_mul, n3_sub, n3_tn, n3_le_t, n3_le_f, n3_lt_t, n3_lt_f, n3_eq_f, n3_eq_t, n3_inb, n3_rem, n3_div, n3_zb, bb_0, bb_1, zb_bb, bb_T, bb_F, n3_dec, n3_m1, n3_eqm, n3_eqmt, n3_ltm, n3_mlt, n3_lem, n3_mle, n3_neg_lt, n3_nlt_neg, n3_nle_neg, n3_neg_le]
  · rw [if_neg (fun hc => h3 (wtb_iff.1 hc.2).1)]
    rw [r_bedIfA hR hW (by omega) hfr hp h3 (by omega)]; exact congrArg some hz
theorem r_bedIf {N : Nat} (hN : 1099511627776 ≤ N) {Λ : Lay} {ad : Nat → Nat} {μ : Mem} {F : Nat → Nat} (hR : LyR Λ ad) (hW : Row μ (ad 182) 1222 F)  (hw : WF F) {s fr p : Nat} (hs : s < F 0) (hfr : fr ≤ 24) (hp : p < 24) (hT : ∀ q, q ≤ 24 → μ.1 (ad 197) (25 * (s + 1) + q) = n3 (bB F (s + 1) q)) : m_X12_bedIf N Λ μ (ad 181) (n3 s) (n3 fr) (n3 p) = some (n3 (if fr ≤ p ∧ wtb F s p = true then bhv F s p else 4294967295)) :=
  r_bedIf0 hN hR hW n3_neg1 hw hs hfr hp hT
theorem r_bedIf24 {N : Nat} {Λ : Lay} {ad : Nat → Nat} {μ : Mem} {F : Nat → Nat} (hR : LyR Λ ad) (hW : Row μ (ad 182) 1222 F)  {s fr : Nat} (hs : s < 8) (hfr : fr ≤ 24) (hT : ∀ q, q ≤ 24 → μ.1 (ad 197) (25 * (s + 1) + q) = n3 (bB F (s + 1) q)) : m_X12_bedIf N Λ μ (ad 181) (n3 s) (n3 fr) (n3 24) = some (n3 (bB F (s + 1) fr)) := by
  have ht := hT fr hfr
  simp (disch := omega) only [m_X12_bedIf, m_X12_bedAt, ↓ob (hR.1), ↓ob (hR.2.1), ↓ob (hR.2.2.1), ↓ob (hR.2.2.2.1), ↓ob (hR.2.2.2.2.1), ↓ob (hR.2.2.2.2.2.1), ↓ob (hR.2.2.2.2.2.2.1), ↓ob (hR.2.2.2.2.2.2.2.1), ↓ob (hR.2.2.2.2.2.2.2.2.1), ↓ob (hR.2.2.2.2.2.2.2.2.2.1), ↓ob (hR.2.2.2.2.2.2.2.2.2.2.1), ↓ob (hR.2.2.2.2.2.2.2.2.2.2.2.1), ↓ob (hR.2.2.2.2.2.2.2.2.2.2.2.2.1), ↓ob (hR.2.2.2.2.2.2.2.2.2.2.2.2.2.1), ↓ob (hR.2.2.2.2.2.2.2.2.2.2.2.2.2.2.1), ↓ob (hR.2.2.2.2.2.2.2.2.2.2.2.2.2.2.2.1), ↓ob (hR.2.2.2.2.2.2.2.2.2.2.2.2.2.2.2.2.1), ↓ob (hR.2.2.2.2.2.2.2.2.2.2.2.2.2.2.2.2.2.1), hR.2.2.2.2.2.2.2.2.2.2.2.2.2.2.2.2.2.2.1, hR.2.2.2.2.2.2.2.2.2.2.2.2.2.2.2.2.2.2.2.1, hR.2.2.2.2.2.2.2.2.2.2.2.2.2.2.2.2.2.2.2.2.1, hR.2.2.2.2.2.2.2.2.2.2.2.2.2.2.2.2.2.2.2.2.2.1, hR.2.2.2.2.2.2.2.2.2.2.2.2.2.2.2.2.2.2.2.2.2.2.1, hR.2.2.2.2.2.2.2.2.2.2.2.2.2.2.2.2.2.2.2.2.2.2.2.1, hR.2.2.2.2.2.2.2.2.2.2.2.2.2.2.2.2.2.2.2.2.2.2.2.2.1, hR.2.2.2.2.2.2.2.2.2.2.2.2.2.2.2.2.2.2.2.2.2.2.2.2.2.1, hR.2.2.2.2.2.2.2.2.2.2.2.2.2.2.2.2.2.2.2.2.2.2.2.2.2.2.1, hR.2.2.2.2.2.2.2.2.2.2.2.2.2.2.2.2.2.2.2.2.2.2.2.2.2.2.2.1, hR.2.2.2.2.2.2.2.2.2.2.2.2.2.2.2.2.2.2.2.2.2.2.2.2.2.2.2.2.1, hR.2.2.2.2.2.2.2.2.2.2.2.2.2.2.2.2.2.2.2.2.2.2.2.2.2.2.2.2.2.1, hR.2.2.2.2.2.2.2.2.2.2.2.2.2.2.2.2.2.2.2.2.2.2.2.2.2.2.2.2.2.2.1, hR.2.2.2.2.2.2.2.2.2.2.2.2.2.2.2.2.2.2.2.2.2.2.2.2.2.2.2.2.2.2.2.1, hR.2.2.2.2.2.2.2.2.2.2.2.2.2.2.2.2.2.2.2.2.2.2.2.2.2.2.2.2.2.2.2.2.1, hR.2.2.2.2.2.2.2.2.2.2.2.2.2.2.2.2.2.2.2.2.2.2.2.2.2.2.2.2.2.2.2.2.2.1, hR.2.2.2.2.2.2.2.2.2.2.2.2.2.2.2.2.2.2.2.2.2.2.2.2.2.2.2.2.2.2.2.2.2.2.1, hR.2.2.2.2.2.2.2.2.2.2.2.2.2.2.2.2.2.2.2.2.2.2.2.2.2.2.2.2.2.2.2.2.2.2.2, ht, ↓lt_e, ↓gd_e, ↓Option.bind_some, ↓reduceIte, if_true, if_false, if_pT, if_nF, decide_true, Bool.not_true, Bool.not_false, not_true_eq_false, not_false_eq_true, Bool.false_eq_true, Bool.true_eq_false, eq_self, n3_lit, n3_add, n3_mul, n3_sub, n3_tn, n3_le_t, n3_le_f, n3_lt_t, n3_lt_f, n3_eq_f, n3_eq_t, n3_inb, n3_rem, n3_div, n3_zb, bb_0, bb_1, zb_bb, bb_T, bb_F, n3_dec, n3_m1, n3_eqm, n3_eqmt, n3_ltm, n3_mlt, n3_lem, n3_mle, n3_neg_lt, n3_nlt_neg, n3_nle_neg, n3_neg_le]
/-- the most over places below one -/
def rb (F : Nat → Nat) (s fr : Nat) : Nat → Nat
  | 0 => 0
  | p + 1 => if fr ≤ p ∧ wtb F s p = true then max (rb F s fr p) (bhv F s p) else rb F s fr p
theorem rb_le {F : Nat → Nat} {s fr X : Nat} : ∀ n, rb F s fr n ≤ X ↔ ∀ q, fr ≤ q → q < n → wtb F s q = true → bhv F s q ≤ X
  | 0 => ⟨fun _ q _ h => by omega, fun _ => Nat.zero_le _⟩
  | n + 1 => by
    have ih := rb_le (F := F) (s := s) (fr := fr) (X := X) n
    unfold rb
    by_cases hc : fr ≤ n ∧ wtb F s n = true
    · rw [if_pos hc, Nat.max_le, ih]
      refine ⟨fun h q h1 h2 h3 => ?_, fun h => ⟨fun q h1 h2 h3 => h q h1 (by omega) h3, h n hc.1 (by omega) hc.2⟩⟩
      by_cases e : q = n
      · rw [e]; exact h.2
      · exact h.1 q h1 (by omega) h3
    · rw [if_neg hc, ih]
      refine ⟨fun h q h1 h2 h3 => ?_, fun h q h1 h2 h3 => h q h1 (by omega) h3⟩
      by_cases e : q = n
      · rw [e] at h1 h3; exact absurd ⟨h1, h3⟩ hc
      · exact h q h1 (by omega) h3
theorem rb_bB {F : Nat → Nat} {s fr : Nat} (hs : s < F 0) (hfr : fr ≤ 24) : max (rb F s fr 24) (bB F (s + 1) fr) = bB F s fr := by
  apply Nat.le_antisymm
  · have h := (bB_le (F := F) (s := s) (p := fr) (X := bB F s fr) hs hfr).1 (Nat.le_refl _)
    rw [Nat.max_le]
    exact ⟨(rb_le 24).2 (fun q h1 h2 h3 => h.2 q h1 h2 h3), h.1⟩
  · refine (bB_le hs hfr).2 ⟨by omega, fun q h1 h2 h3 => ?_⟩
    have := (rb_le (F := F) (s := s) (fr := fr) (X := rb F s fr 24) 24).1 (Nat.le_refl _) q h1 h2 h3
    omega
theorem rb_100 {F : Nat → Nat} (hw : WF F) {s fr : Nat} (hs : s < F 0) (n : Nat) : rb F s fr n ≤ 108 := (rb_le n).2 (fun q _ _ h => bhv_100 hw hs h)
/-- the walk of one ship's places -/
theorem r_bedwalk {N : Nat} (hN : 1099511627776 ≤ N) {Λ : Lay} {ad : Nat → Nat} {μ : Mem} {F : Nat → Nat} (hR : LyR Λ ad) (hW : Row μ (ad 182) 1222 F)  (hw : WF F) {s : Nat} (hs : s < F 0) (hT : ∀ t q, t ≤ F 0 → q ≤ 24 → μ.1 (ad 197) (25 * t + q) = n3 (bB F t q)) : lp_X12_beds_157 N Λ (ad 181) (n3 s) (n3 0, n3 0, n3 0, μ) = some (n3 ((bdW F (F 0)).2 s), μ) := by
  have hb := hw.1; unfold WB at hb
  unfold lp_X12_beds_157
  refine cw_it (fun i => (n3 (bdW F i).1, n3 (if i = 0 then 0 else (if (bdW F i).2 (i - 1) = 4294967295 then 24 else (bdW F i).2 (i - 1))), n3 i, μ)) (s + 1) rfl (fun i hi k => ?_) (fun k => ?_) (by omega)
  · have hfr := bdW_le (F := F) i
    rw [if_neg (show ¬ i + 1 = 0 by omega), Nat.add_sub_cancel, bdW_at, bdW_1]
    generalize (if i = 0 then 0 else (if (bdW F i).2 (i - 1) = 4294967295 then 24 else (bdW F i).2 (i - 1))) = w
    generalize (bdW F i).1 = fr at hfr
    have est : bd_X12_beds_157 N Λ μ k (ad 181) (n3 s) (n3 fr) (n3 w) (n3 i) = lp_X12_beds_165 N Λ k (ad 181) (n3 s) (n3 fr) (n3 i) (n3 0, μ) := by
      simp (disch := omega) only [bd_X12_beds_157, ↓ob (hR.1), ↓ob (hR.2.1), ↓ob (hR.2.2.1), ↓ob (hR.2.2.2.1), ↓ob (hR.2.2.2.2.1), ↓ob (hR.2.2.2.2.2.1), ↓ob (hR.2.2.2.2.2.2.1), ↓ob (hR.2.2.2.2.2.2.2.1), ↓ob (hR.2.2.2.2.2.2.2.2.1), ↓ob (hR.2.2.2.2.2.2.2.2.2.1), ↓ob (hR.2.2.2.2.2.2.2.2.2.2.1), ↓ob (hR.2.2.2.2.2.2.2.2.2.2.2.1), ↓ob (hR.2.2.2.2.2.2.2.2.2.2.2.2.1), ↓ob (hR.2.2.2.2.2.2.2.2.2.2.2.2.2.1), ↓ob (hR.2.2.2.2.2.2.2.2.2.2.2.2.2.2.1), ↓ob (hR.2.2.2.2.2.2.2.2.2.2.2.2.2.2.2.1), ↓ob (hR.2.2.2.2.2.2.2.2.2.2.2.2.2.2.2.2.1), ↓ob (hR.2.2.2.2.2.2.2.2.2.2.2.2.2.2.2.2.2.1), hR.2.2.2.2.2.2.2.2.2.2.2.2.2.2.2.2.2.2.1, hR.2.2.2.2.2.2.2.2.2.2.2.2.2.2.2.2.2.2.2.1, hR.2.2.2.2.2.2.2.2.2.2.2.2.2.2.2.2.2.2.2.2.1, hR.2.2.2.2.2.2.2.2.2.2.2.2.2.2.2.2.2.2.2.2.2.1, hR.2.2.2.2.2.2.2.2.2.2.2.2.2.2.2.2.2.2.2.2.2.2.1, hR.2.2.2.2.2.2.2.2.2.2.2.2.2.2.2.2.2.2.2.2.2.2.2.1, hR.2.2.2.2.2.2.2.2.2.2.2.2.2.2.2.2.2.2.2.2.2.2.2.2.1, hR.2.2.2.2.2.2.2.2.2.2.2.2.2.2.2.2.2.2.2.2.2.2.2.2.2.1, hR.2.2.2.2.2.2.2.2.2.2.2.2.2.2.2.2.2.2.2.2.2.2.2.2.2.2.1, hR.2.2.2.2.2.2.2.2.2.2.2.2.2.2.2.2.2.2.2.2.2.2.2.2.2.2.2.1, hR.2.2.2.2.2.2.2.2.2.2.2.2.2.2.2.2.2.2.2.2.2.2.2.2.2.2.2.2.1, hR.2.2.2.2.2.2.2.2.2.2.2.2.2.2.2.2.2.2.2.2.2.2.2.2.2.2.2.2.2.1, hR.2.2.2.2.2.2.2.2.2.2.2.2.2.2.2.2.2.2.2.2.2.2.2.2.2.2.2.2.2.2.1, hR.2.2.2.2.2.2.2.2.2.2.2.2.2.2.2.2.2.2.2.2.2.2.2.2.2.2.2.2.2.2.2.1, hR.2.2.2.2.2.2.2.2.2.2.2.2.2.2.2.2.2.2.2.2.2.2.2.2.2.2.2.2.2.2.2.2.1, hR.2.2.2.2.2.2.2.2.2.2.2.2.2.2.2.2.2.2.2.2.2.2.2.2.2.2.2.2.2.2.2.2.2.1, hR.2.2.2.2.2.2.2.2.2.2.2.2.2.2.2.2.2.2.2.2.2.2.2.2.2.2.2.2.2.2.2.2.2.2.1, hR.2.2.2.2.2.2.2.2.2.2.2.2.2.2.2.2.2.2.2.2.2.2.2.2.2.2.2.2.2.2.2.2.2.2.2, ↓lt_e, ↓gd_e, ↓Option.bind_some, ↓reduceIte, if_true, if_false, if_pT, if_nF, decide_true, Bool.not_true, Bool.not_false, not_true_eq_false, not_false_eq_true, Bool.false_eq_true, Bool.true_eq_false, eq_self, n3_lit, n3_add, n3_mul, n3_sub, n3_tn, n3_le_t, n3_le_f, n3_lt_t, n3_lt_f, n3_eq_f, n3_eq_t, n3_inb, n3_rem, n3_div, n3_zb, bb_0, bb_1, zb_bb, bb_T, bb_F, n3_dec, n3_m1, n3_eqm, n3_eqmt, n3_ltm, n3_mlt, n3_lem, n3_mle, n3_neg_lt, n3_nlt_neg, n3_nle_neg, n3_neg_le]
    show bd_X12_beds_157 N Λ μ k (ad 181) (n3 s) (n3 fr) (n3 w) (n3 i) = _
    rw [est]
    unfold lp_X12_beds_165
    obtain ⟨hq1, hq2⟩ := bq_le (F := F) (s := i) hfr
    have ht := hT i fr (by omega) hfr
    have b1 := bB_100 hw (s := i) (by omega) hfr
    refine cw_it (fun j => (n3 j, μ)) (bq F i fr) rfl (fun j hj' k' => ?_) (fun k' => ?_) (by omega)
    · have bi := r_bedIf hN hR hW hw (s := i) (fr := fr) (p := j) (by omega) hfr (by omega) (fun q h => hT (i + 1) q (by omega) h)
      have hne : (n3 (if fr ≤ j ∧ wtb F i j = true then bhv F i j else 4294967295) = n3 (bB F i fr)) = False := by
        by_cases hc : fr ≤ j ∧ wtb F i j = true
        · rw [if_pos hc]
          have := bhv_100 hw (show i < F 0 by omega) hc.2
          exact n3_eq_f (bq_no hc.1 hj' hc.2) (by omega) (by omega)
        · rw [if_neg hc]; exact n3_eq_f (by omega) (by omega) (by omega)
      simp (disch := omega) only [bd_X12_beds_165, m_X12_bedAt, bi, ↓ob (hR.1), ↓ob (hR.2.1), ↓ob (hR.2.2.1), ↓ob (hR.2.2.2.1), ↓ob (hR.2.2.2.2.1), ↓ob (hR.2.2.2.2.2.1), ↓ob (hR.2.2.2.2.2.2.1), ↓ob (hR.2.2.2.2.2.2.2.1), ↓ob (hR.2.2.2.2.2.2.2.2.1), ↓ob (hR.2.2.2.2.2.2.2.2.2.1), ↓ob (hR.2.2.2.2.2.2.2.2.2.2.1), ↓ob (hR.2.2.2.2.2.2.2.2.2.2.2.1), ↓ob (hR.2.2.2.2.2.2.2.2.2.2.2.2.1), ↓ob (hR.2.2.2.2.2.2.2.2.2.2.2.2.2.1), ↓ob (hR.2.2.2.2.2.2.2.2.2.2.2.2.2.2.1), ↓ob (hR.2.2.2.2.2.2.2.2.2.2.2.2.2.2.2.1), ↓ob (hR.2.2.2.2.2.2.2.2.2.2.2.2.2.2.2.2.1), ↓ob (hR.2.2.2.2.2.2.2.2.2.2.2.2.2.2.2.2.2.1), hR.2.2.2.2.2.2.2.2.2.2.2.2.2.2.2.2.2.2.1, hR.2.2.2.2.2.2.2.2.2.2.2.2.2.2.2.2.2.2.2.1, hR.2.2.2.2.2.2.2.2.2.2.2.2.2.2.2.2.2.2.2.2.1, hR.2.2.2.2.2.2.2.2.2.2.2.2.2.2.2.2.2.2.2.2.2.1, hR.2.2.2.2.2.2.2.2.2.2.2.2.2.2.2.2.2.2.2.2.2.2.1, hR.2.2.2.2.2.2.2.2.2.2.2.2.2.2.2.2.2.2.2.2.2.2.2.1, hR.2.2.2.2.2.2.2.2.2.2.2.2.2.2.2.2.2.2.2.2.2.2.2.2.1, hR.2.2.2.2.2.2.2.2.2.2.2.2.2.2.2.2.2.2.2.2.2.2.2.2.2.1, hR.2.2.2.2.2.2.2.2.2.2.2.2.2.2.2.2.2.2.2.2.2.2.2.2.2.2.1, hR.2.2.2.2.2.2.2.2.2.2.2.2.2.2.2.2.2.2.2.2.2.2.2.2.2.2.2.1, hR.2.2.2.2.2.2.2.2.2.2.2.2.2.2.2.2.2.2.2.2.2.2.2.2.2.2.2.2.1, hR.2.2.2.2.2.2.2.2.2.2.2.2.2.2.2.2.2.2.2.2.2.2.2.2.2.2.2.2.2.1, hR.2.2.2.2.2.2.2.2.2.2.2.2.2.2.2.2.2.2.2.2.2.2.2.2.2.2.2.2.2.2.1, hR.2.2.2.2.2.2.2.2.2.2.2.2.2.2.2.2.2.2.2.2.2.2.2.2.2.2.2.2.2.2.2.1, hR.2.2.2.2.2.2.2.2.2.2.2.2.2.2.2.2.2.2.2.2.2.2.2.2.2.2.2.2.2.2.2.2.1, hR.2.2.2.2.2.2.2.2.2.2.2.2.2.2.2.2.2.2.2.2.2.2.2.2.2.2.2.2.2.2.2.2.2.1, hR.2.2.2.2.2.2.2.2.2.2.2.2.2.2.2.2.2.2.2.2.2.2.2.2.2.2.2.2.2.2.2.2.2.2.1, hR.2.2.2.2.2.2.2.2.2.2.2.2.2.2.2.2.2.2.2.2.2.2.2.2.2.2.2.2.2.2.2.2.2.2.2, ht, hne, ↓lt_e, ↓gd_e, ↓Option.bind_some, ↓reduceIte, if_true, if_false, if_pT, if_nF, decide_true, Bool.not_true, Bool.not_false, not_true_eq_false, not_false_eq_true, Bool.false_eq_true, Bool.true_eq_false, eq_self, n3_lit, n3_inb, n3_tn, n3_mul, n3_add]
    · by_cases hq : bq F i fr < 24
      · obtain ⟨y1, y2⟩ := bq_yes hfr hq
        have bi := r_bedIf hN hR hW hw (s := i) (fr := fr) (p := bq F i fr) (by omega) hfr hq (fun q h => hT (i + 1) q (by omega) h)
        rw [if_pos ⟨hq1, y1⟩, y2] at bi
        have e0 := r_of (N := N) hR hW i 0 (by omega)
        rw [Nat.add_zero] at e0
        rw [if_pos hq, if_pos hq, if_neg (show ¬ bq F i fr = 4294967295 by omega)]
        simp (disch := omega) only [bd_X12_beds_165, jn_X12_beds_212, m_X12_bedAt, bi, e0, ↓ob (hR.1), ↓ob (hR.2.1), ↓ob (hR.2.2.1), ↓ob (hR.2.2.2.1), ↓ob (hR.2.2.2.2.1), ↓ob (hR.2.2.2.2.2.1), ↓ob (hR.2.2.2.2.2.2.1), ↓ob (hR.2.2.2.2.2.2.2.1), ↓ob (hR.2.2.2.2.2.2.2.2.1), ↓ob (hR.2.2.2.2.2.2.2.2.2.1), ↓ob (hR.2.2.2.2.2.2.2.2.2.2.1), ↓ob (hR.2.2.2.2.2.2.2.2.2.2.2.1), ↓ob (hR.2.2.2.2.2.2.2.2.2.2.2.2.1), ↓ob (hR.2.2.2.2.2.2.2.2.2.2.2.2.2.1), ↓ob (hR.2.2.2.2.2.2.2.2.2.2.2.2.2.2.1), ↓ob (hR.2.2.2.2.2.2.2.2.2.2.2.2.2.2.2.1), ↓ob (hR.2.2.2.2.2.2.2.2.2.2.2.2.2.2.2.2.1), ↓ob (hR.2.2.2.2.2.2.2.2.2.2.2.2.2.2.2.2.2.1), hR.2.2.2.2.2.2.2.2.2.2.2.2.2.2.2.2.2.2.1, hR.2.2.2.2.2.2.2.2.2.2.2.2.2.2.2.2.2.2.2.1, hR.2.2.2.2.2.2.2.2.2.2.2.2.2.2.2.2.2.2.2.2.1, hR.2.2.2.2.2.2.2.2.2.2.2.2.2.2.2.2.2.2.2.2.2.1, hR.2.2.2.2.2.2.2.2.2.2.2.2.2.2.2.2.2.2.2.2.2.2.1, hR.2.2.2.2.2.2.2.2.2.2.2.2.2.2.2.2.2.2.2.2.2.2.2.1, hR.2.2.2.2.2.2.2.2.2.2.2.2.2.2.2.2.2.2.2.2.2.2.2.2.1, hR.2.2.2.2.2.2.2.2.2.2.2.2.2.2.2.2.2.2.2.2.2.2.2.2.2.1, hR.2.2.2.2.2.2.2.2.2.2.2.2.2.2.2.2.2.2.2.2.2.2.2.2.2.2.1, hR.2.2.2.2.2.2.2.2.2.2.2.2.2.2.2.2.2.2.2.2.2.2.2.2.2.2.2.1, hR.2.2.2.2.2.2.2.2.2.2.2.2.2.2.2.2.2.2.2.2.2.2.2.2.2.2.2.2.1, hR.2.2.2.2.2.2.2.2.2.2.2.2.2.2.2.2.2.2.2.2.2.2.2.2.2.2.2.2.2.1, hR.2.2.2.2.2.2.2.2.2.2.2.2.2.2.2.2.2.2.2.2.2.2.2.2.2.2.2.2.2.2.1, hR.2.2.2.2.2.2.2.2.2.2.2.2.2.2.2.2.2.2.2.2.2.2.2.2.2.2.2.2.2.2.2.1, hR.2.2.2.2.2.2.2.2.2.2.2.2.2.2.2.2.2.2.2.2.2.2.2.2.2.2.2.2.2.2.2.2.1, hR.2.2.2.2.2.2.2.2.2.2.2.2.2.2.2.2.2.2.2.2.2.2.2.2.2.2.2.2.2.2.2.2.2.1, hR.2.2.2.2.2.2.2.2.2.2.2.2.2.2.2.2.2.2.2.2.2.2.2.2.2.2.2.2.2.2.2.2.2.2.1, hR.2.2.2.2.2.2.2.2.2.2.2.2.2.2.2.2.2.2.2.2.2.2.2.2.2.2.2.2.2.2.2.2.2.2.2, ht, ↓lt_e, ↓gd_e, ↓Option.bind_some, ↓reduceIte, if_true, if_false, if_pT, if_nF, decide_true, Bool.not_true, Bool.not_false, not_true_eq_false, not_false_eq_true, Bool.false_eq_true, Bool.true_eq_false, eq_self, n3_lit, n3_add, n3_mul, n3_sub, n3_tn, n3_le_t, n3_le_f, n3_lt_t, n3_lt_f, n3_eq_f, n3_eq_t, n3_inb, n3_rem, n3_div, n3_zb, bb_0, bb_1, zb_bb, bb_T, bb_F, n3_dec, n3_m1, n3_eqm, n3_eqmt, n3_ltm, n3_mlt, n3_lem, n3_mle, n3_neg_lt, n3_nlt_neg, n3_nle_neg, n3_neg_le]
      · have hq24 : bq F i fr = 24 := by omega
        have bi := r_bedIf24 (N := N) hR hW (s := i) (fr := fr) (by omega) hfr (fun q h => hT (i + 1) q (by omega) h)
        rw [← bq_24 (by omega) hfr hq24] at bi
        rw [if_neg hq, if_neg hq, if_pos rfl, hq24]
        simp (disch := omega) only [bd_X12_beds_165, jn_X12_beds_212, m_X12_bedAt, bi, ↓ob (hR.1), ↓ob (hR.2.1), ↓ob (hR.2.2.1), ↓ob (hR.2.2.2.1), ↓ob (hR.2.2.2.2.1), ↓ob (hR.2.2.2.2.2.1), ↓ob (hR.2.2.2.2.2.2.1), ↓ob (hR.2.2.2.2.2.2.2.1), ↓ob (hR.2.2.2.2.2.2.2.2.1), ↓ob (hR.2.2.2.2.2.2.2.2.2.1), ↓ob (hR.2.2.2.2.2.2.2.2.2.2.1), ↓ob (hR.2.2.2.2.2.2.2.2.2.2.2.1), ↓ob (hR.2.2.2.2.2.2.2.2.2.2.2.2.1), ↓ob (hR.2.2.2.2.2.2.2.2.2.2.2.2.2.1), ↓ob (hR.2.2.2.2.2.2.2.2.2.2.2.2.2.2.1), ↓ob (hR.2.2.2.2.2.2.2.2.2.2.2.2.2.2.2.1), ↓ob (hR.2.2.2.2.2.2.2.2.2.2.2.2.2.2.2.2.1), ↓ob (hR.2.2.2.2.2.2.2.2.2.2.2.2.2.2.2.2.2.1), hR.2.2.2.2.2.2.2.2.2.2.2.2.2.2.2.2.2.2.1, hR.2.2.2.2.2.2.2.2.2.2.2.2.2.2.2.2.2.2.2.1, hR.2.2.2.2.2.2.2.2.2.2.2.2.2.2.2.2.2.2.2.2.1, hR.2.2.2.2.2.2.2.2.2.2.2.2.2.2.2.2.2.2.2.2.2.1, hR.2.2.2.2.2.2.2.2.2.2.2.2.2.2.2.2.2.2.2.2.2.2.1, hR.2.2.2.2.2.2.2.2.2.2.2.2.2.2.2.2.2.2.2.2.2.2.2.1, hR.2.2.2.2.2.2.2.2.2.2.2.2.2.2.2.2.2.2.2.2.2.2.2.2.1, hR.2.2.2.2.2.2.2.2.2.2.2.2.2.2.2.2.2.2.2.2.2.2.2.2.2.1, hR.2.2.2.2.2.2.2.2.2.2.2.2.2.2.2.2.2.2.2.2.2.2.2.2.2.2.1, hR.2.2.2.2.2.2.2.2.2.2.2.2.2.2.2.2.2.2.2.2.2.2.2.2.2.2.2.1, hR.2.2.2.2.2.2.2.2.2.2.2.2.2.2.2.2.2.2.2.2.2.2.2.2.2.2.2.2.1, hR.2.2.2.2.2.2.2.2.2.2.2.2.2.2.2.2.2.2.2.2.2.2.2.2.2.2.2.2.2.1, hR.2.2.2.2.2.2.2.2.2.2.2.2.2.2.2.2.2.2.2.2.2.2.2.2.2.2.2.2.2.2.1, hR.2.2.2.2.2.2.2.2.2.2.2.2.2.2.2.2.2.2.2.2.2.2.2.2.2.2.2.2.2.2.2.1, hR.2.2.2.2.2.2.2.2.2.2.2.2.2.2.2.2.2.2.2.2.2.2.2.2.2.2.2.2.2.2.2.2.1, hR.2.2.2.2.2.2.2.2.2.2.2.2.2.2.2.2.2.2.2.2.2.2.2.2.2.2.2.2.2.2.2.2.2.1, hR.2.2.2.2.2.2.2.2.2.2.2.2.2.2.2.2.2.2.2.2.2.2.2.2.2.2.2.2.2.2.2.2.2.2.1, hR.2.2.2.2.2.2.2.2.2.2.2.2.2.2.2.2.2.2.2.2.2.2.2.2.2.2.2.2.2.2.2.2.2.2.2, ht, ↓lt_e, ↓gd_e, ↓Option.bind_some, ↓reduceIte, if_true, if_false, if_pT, if_nF, decide_true, Bool.not_true, Bool.not_false, not_true_eq_false, not_false_eq_true, Bool.false_eq_true, Bool.true_eq_false, eq_self, n3_lit, n3_add, n3_mul, n3_sub, n3_tn, n3_le_t, n3_le_f, n3_lt_t, n3_lt_f, n3_eq_f, n3_eq_t, n3_inb, n3_rem, n3_div, n3_zb, bb_0, bb_1, zb_bb, bb_T, bb_F, n3_dec, n3_m1, n3_eqm, n3_eqmt, n3_ltm, n3_mlt, n3_lem, n3_mle, n3_neg_lt, n3_nlt_neg, n3_nle_neg, n3_neg_le]
  · rw [if_neg (show ¬ s + 1 = 0 by omega), Nat.add_sub_cancel, bdW_keep (F := F) (F 0) s hs]
    have hfr := bdW_le (F := F) s
    have hq := (bq_le (F := F) (s := s) hfr).2
    rw [bdW_at]
    by_cases hq : bq F s (bdW F s).1 < 24
    · rw [if_pos hq, if_neg (show ¬ bq F s (bdW F s).1 = 4294967295 by omega)]
      simp (disch := omega) only [bd_X12_beds_157, jn_X12_beds_230, ↓ob (hR.1), ↓ob (hR.2.1), ↓ob (hR.2.2.1), ↓ob (hR.2.2.2.1), ↓ob (hR.2.2.2.2.1), ↓ob (hR.2.2.2.2.2.1), ↓ob (hR.2.2.2.2.2.2.1), ↓ob (hR.2.2.2.2.2.2.2.1), ↓ob (hR.2.2.2.2.2.2.2.2.1), ↓ob (hR.2.2.2.2.2.2.2.2.2.1), ↓ob (hR.2.2.2.2.2.2.2.2.2.2.1), ↓ob (hR.2.2.2.2.2.2.2.2.2.2.2.1), ↓ob (hR.2.2.2.2.2.2.2.2.2.2.2.2.1), ↓ob (hR.2.2.2.2.2.2.2.2.2.2.2.2.2.1), ↓ob (hR.2.2.2.2.2.2.2.2.2.2.2.2.2.2.1), ↓ob (hR.2.2.2.2.2.2.2.2.2.2.2.2.2.2.2.1), ↓ob (hR.2.2.2.2.2.2.2.2.2.2.2.2.2.2.2.2.1), ↓ob (hR.2.2.2.2.2.2.2.2.2.2.2.2.2.2.2.2.2.1), hR.2.2.2.2.2.2.2.2.2.2.2.2.2.2.2.2.2.2.1, hR.2.2.2.2.2.2.2.2.2.2.2.2.2.2.2.2.2.2.2.1, hR.2.2.2.2.2.2.2.2.2.2.2.2.2.2.2.2.2.2.2.2.1, hR.2.2.2.2.2.2.2.2.2.2.2.2.2.2.2.2.2.2.2.2.2.1, hR.2.2.2.2.2.2.2.2.2.2.2.2.2.2.2.2.2.2.2.2.2.2.1, hR.2.2.2.2.2.2.2.2.2.2.2.2.2.2.2.2.2.2.2.2.2.2.2.1, hR.2.2.2.2.2.2.2.2.2.2.2.2.2.2.2.2.2.2.2.2.2.2.2.2.1, hR.2.2.2.2.2.2.2.2.2.2.2.2.2.2.2.2.2.2.2.2.2.2.2.2.2.1, hR.2.2.2.2.2.2.2.2.2.2.2.2.2.2.2.2.2.2.2.2.2.2.2.2.2.2.1, hR.2.2.2.2.2.2.2.2.2.2.2.2.2.2.2.2.2.2.2.2.2.2.2.2.2.2.2.1, hR.2.2.2.2.2.2.2.2.2.2.2.2.2.2.2.2.2.2.2.2.2.2.2.2.2.2.2.2.1, hR.2.2.2.2.2.2.2.2.2.2.2.2.2.2.2.2.2.2.2.2.2.2.2.2.2.2.2.2.2.1, hR.2.2.2.2.2.2.2.2.2.2.2.2.2.2.2.2.2.2.2.2.2.2.2.2.2.2.2.2.2.2.1, hR.2.2.2.2.2.2.2.2.2.2.2.2.2.2.2.2.2.2.2.2.2.2.2.2.2.2.2.2.2.2.2.1, hR.2.2.2.2.2.2.2.2.2.2.2.2.2.2.2.2.2.2.2.2.2.2.2.2.2.2.2.2.2.2.2.2.1, hR.2.2.2.2.2.2.2.2.2.2.2.2.2.2.2.2.2.2.2.2.2.2.2.2.2.2.2.2.2.2.2.2.2.1, hR.2.2.2.2.2.2.2.2.2.2.2.2.2.2.2.2.2.2.2.2.2.2.2.2.2.2.2.2.2.2.2.2.2.2.1, hR.2.2.2.2.2.2.2.2.2.2.2.2.2.2.2.2.2.2.2.2.2.2.2.2.2.2.2.2.2.2.2.2.2.2.2, ↓lt_e, ↓gd_e, ↓Option.bind_some, ↓reduceIte, if_true, if_false, if_pT, if_nF, decide_true, Bool.not_true, Bool.not_false, not_true_eq_false, not_false_eq_true, Bool.false_eq_true, Bool.true_eq_false, eq_self, n3_lit, n3_add, n3_mul, n3_sub, n3_tn, n3_le_t, n3_le_f, n3_lt_t, n3_lt_f, n3_eq_f, n3_eq_t, n3_inb, n3_rem, n3_div, n3_zb, bb_0, bb_1, zb_bb, bb_T, bb_F, n3_dec, n3_m1, n3_eqm, n3_eqmt, n3_ltm, n3_mlt, n3_lem, n3_mle, n3_neg_lt, n3_nlt_neg, n3_nle_neg, n3_neg_le]
    · rw [if_neg hq, if_pos rfl]
      simp (disch := omega) only [bd_X12_beds_157, jn_X12_beds_230, n3_neg1, ↓ob (hR.1), ↓ob (hR.2.1), ↓ob (hR.2.2.1), ↓ob (hR.2.2.2.1), ↓ob (hR.2.2.2.2.1), ↓ob (hR.2.2.2.2.2.1), ↓ob (hR.2.2.2.2.2.2.1), ↓ob (hR.2.2.2.2.2.2.2.1), ↓ob (hR.2.2.2.2.2.2.2.2.1), ↓ob (hR.2.2.2.2.2.2.2.2.2.1), ↓ob (hR.2.2.2.2.2.2.2.2.2.2.1), ↓ob (hR.2.2.2.2.2.2.2.2.2.2.2.1), ↓ob (hR.2.2.2.2.2.2.2.2.2.2.2.2.1), ↓ob (hR.2.2.2.2.2.2.2.2.2.2.2.2.2.1), ↓ob (hR.2.2.2.2.2.2.2.2.2.2.2.2.2.2.1), ↓ob (hR.2.2.2.2.2.2.2.2.2.2.2.2.2.2.2.1), ↓ob (hR.2.2.2.2.2.2.2.2.2.2.2.2.2.2.2.2.1), ↓ob (hR.2.2.2.2.2.2.2.2.2.2.2.2.2.2.2.2.2.1), hR.2.2.2.2.2.2.2.2.2.2.2.2.2.2.2.2.2.2.1, hR.2.2.2.2.2.2.2.2.2.2.2.2.2.2.2.2.2.2.2.1, hR.2.2.2.2.2.2.2.2.2.2.2.2.2.2.2.2.2.2.2.2.1, hR.2.2.2.2.2.2.2.2.2.2.2.2.2.2.2.2.2.2.2.2.2.1, hR.2.2.2.2.2.2.2.2.2.2.2.2.2.2.2.2.2.2.2.2.2.2.1, hR.2.2.2.2.2.2.2.2.2.2.2.2.2.2.2.2.2.2.2.2.2.2.2.1, hR.2.2.2.2.2.2.2.2.2.2.2.2.2.2.2.2.2.2.2.2.2.2.2.2.1, hR.2.2.2.2.2.2.2.2.2.2.2.2.2.2.2.2.2.2.2.2.2.2.2.2.2.1, hR.2.2.2.2.2.2.2.2.2.2.2.2.2.2.2.2.2.2.2.2.2.2.2.2.2.2.1, hR.2.2.2.2.2.2.2.2.2.2.2.2.2.2.2.2.2.2.2.2.2.2.2.2.2.2.2.1, hR.2.2.2.2.2.2.2.2.2.2.2.2.2.2.2.2.2.2.2.2.2.2.2.2.2.2.2.2.1, hR.2.2.2.2.2.2.2.2.2.2.2.2.2.2.2.2.2.2.2.2.2.2.2.2.2.2.2.2.2.1, hR.2.2.2.2.2.2.2.2.2.2.2.2.2.2.2.2.2.2.2.2.2.2.2.2.2.2.2.2.2.2.1, hR.2.2.2.2.2.2.2.2.2.2.2.2.2.2.2.2.2.2.2.2.2.2.2.2.2.2.2.2.2.2.2.1, hR.2.2.2.2.2.2.2.2.2.2.2.2.2.2.2.2.2.2.2.2.2.2.2.2.2.2.2.2.2.2.2.2.1, hR.2.2.2.2.2.2.2.2.2.2.2.2.2.2.2.2.2.2.2.2.2.2.2.2.2.2.2.2.2.2.2.2.2.1, hR.2.2.2.2.2.2.2.2.2.2.2.2.2.2.2.2.2.2.2.2.2.2.2.2.2.2.2.2.2.2.2.2.2.2.1, hR.2.2.2.2.2.2.2.2.2.2.2.2.2.2.2.2.2.2.2.2.2.2.2.2.2.2.2.2.2.2.2.2.2.2.2, ↓lt_e, ↓gd_e, ↓Option.bind_some, ↓reduceIte, if_true, if_false, if_pT, if_nF, decide_true, Bool.not_true, Bool.not_false, not_true_eq_false, not_false_eq_true, Bool.false_eq_true, Bool.true_eq_false, eq_self, n3_lit, n3_add, n3_mul, n3_sub, n3_tn, n3_le_t, n3_le_f, n3_lt_t, n3_lt_f, n3_eq_f, n3_eq_t, n3_inb, n3_rem, n3_div, n3_zb, bb_0, bb_1, zb_bb, bb_T, bb_F, n3_dec, n3_m1, n3_eqm, n3_eqmt, n3_ltm, n3_mlt, n3_lem, n3_mle, n3_neg_lt, n3_nlt_neg, n3_nle_neg, n3_neg_le]
theorem r_beds {N : Nat} (hN : 1099511627776 ≤ N) {Λ : Lay} {ad : Nat → Nat} {μ : Mem} {F : Nat → Nat} (hR : LyR Λ ad) (hW : Row μ (ad 182) 1222 F)  (hj : Inj ad) (hw : WF F) (x : Int32) (v : Nat) (hx : x = n3 4294967295 ∧ v = bB F 0 0 ∨ ∃ s, s < F 0 ∧ x = n3 s ∧ v = (bdW F (F 0)).2 s) : ∃ μ', lp_X12_beds_35 N Λ (ad 181) x (n3 0, μ) = some (n3 v, μ') ∧ Fr ad (fun i => i = 197) μ μ' := by
  have hb := hw.1; unfold WB at hb
  unfold lp_X12_beds_35
  refine cw_ik (P := fun i y => ∃ μ1 : Mem, y = (n3 i, μ1) ∧ (∀ q, q < i → μ1.1 (ad 197) (25 * F 0 + q) = n3 0) ∧ Fr ad (fun i => i = 197) μ μ1) (Q := fun X => ∃ μ', X = some (n3 v, μ') ∧ Fr ad (fun i => i = 197) μ μ') 25 ⟨μ, rfl, fun e he => absurd he (Nat.not_lt_zero e), Fr.refl μ⟩ (fun i hi y hy k => ?_) (fun y hy k => ?_) (show 25 < N by omega)
  · obtain ⟨μ1, rfl, hz, hf⟩ := hy
    left
    have hW1 := hW.fr hf (by omega)
    refine ⟨_, ⟨mset μ1 (ad 197) (25 * F 0 + i) (n3 0), rfl, fun e he => ?_, hf.set hj (by rfl)⟩, ?_⟩
    · by_cases ee : e = i
      · rw [ee, mse]
      · rw [msn (by omega)]; exact hz e (by omega)
    · simp (disch := omega) only [bd_X12_beds_35, m_X12_bedAt, r_ships hR hW1, ↓ob (hR.1), ↓ob (hR.2.1), ↓ob (hR.2.2.1), ↓ob (hR.2.2.2.1), ↓ob (hR.2.2.2.2.1), ↓ob (hR.2.2.2.2.2.1), ↓ob (hR.2.2.2.2.2.2.1), ↓ob (hR.2.2.2.2.2.2.2.1), ↓ob (hR.2.2.2.2.2.2.2.2.1), ↓ob (hR.2.2.2.2.2.2.2.2.2.1), ↓ob (hR.2.2.2.2.2.2.2.2.2.2.1), ↓ob (hR.2.2.2.2.2.2.2.2.2.2.2.1), ↓ob (hR.2.2.2.2.2.2.2.2.2.2.2.2.1), ↓ob (hR.2.2.2.2.2.2.2.2.2.2.2.2.2.1), ↓ob (hR.2.2.2.2.2.2.2.2.2.2.2.2.2.2.1), ↓ob (hR.2.2.2.2.2.2.2.2.2.2.2.2.2.2.2.1), ↓ob (hR.2.2.2.2.2.2.2.2.2.2.2.2.2.2.2.2.1), ↓ob (hR.2.2.2.2.2.2.2.2.2.2.2.2.2.2.2.2.2.1), hR.2.2.2.2.2.2.2.2.2.2.2.2.2.2.2.2.2.2.1, hR.2.2.2.2.2.2.2.2.2.2.2.2.2.2.2.2.2.2.2.1, hR.2.2.2.2.2.2.2.2.2.2.2.2.2.2.2.2.2.2.2.2.1, hR.2.2.2.2.2.2.2.2.2.2.2.2.2.2.2.2.2.2.2.2.2.1, hR.2.2.2.2.2.2.2.2.2.2.2.2.2.2.2.2.2.2.2.2.2.2.1, hR.2.2.2.2.2.2.2.2.2.2.2.2.2.2.2.2.2.2.2.2.2.2.2.1, hR.2.2.2.2.2.2.2.2.2.2.2.2.2.2.2.2.2.2.2.2.2.2.2.2.1, hR.2.2.2.2.2.2.2.2.2.2.2.2.2.2.2.2.2.2.2.2.2.2.2.2.2.1, hR.2.2.2.2.2.2.2.2.2.2.2.2.2.2.2.2.2.2.2.2.2.2.2.2.2.2.1, hR.2.2.2.2.2.2.2.2.2.2.2.2.2.2.2.2.2.2.2.2.2.2.2.2.2.2.2.1, hR.2.2.2.2.2.2.2.2.2.2.2.2.2.2.2.2.2.2.2.2.2.2.2.2.2.2.2.2.1, hR.2.2.2.2.2.2.2.2.2.2.2.2.2.2.2.2.2.2.2.2.2.2.2.2.2.2.2.2.2.1, hR.2.2.2.2.2.2.2.2.2.2.2.2.2.2.2.2.2.2.2.2.2.2.2.2.2.2.2.2.2.2.1, hR.2.2.2.2.2.2.2.2.2.2.2.2.2.2.2.2.2.2.2.2.2.2.2.2.2.2.2.2.2.2.2.1, hR.2.2.2.2.2.2.2.2.2.2.2.2.2.2.2.2.2.2.2.2.2.2.2.2.2.2.2.2.2.2.2.2.1, hR.2.2.2.2.2.2.2.2.2.2.2.2.2.2.2.2.2.2.2.2.2.2.2.2.2.2.2.2.2.2.2.2.2.1, hR.2.2.2.2.2.2.2.2.2.2.2.2.2.2.2.2.2.2.2.2.2.2.2.2.2.2.2.2.2.2.2.2.2.2.1, hR.2.2.2.2.2.2.2.2.2.2.2.2.2.2.2.2.2.2.2.2.2.2.2.2.2.2.2.2.2.2.2.2.2.2.2, ↓lt_e, ↓gd_e, ↓Option.bind_some, ↓reduceIte, if_true, if_false, if_pT, if_nF, decide_true, Bool.not_true, Bool.not_false, not_true_eq_false, not_false_eq_true, Bool.false_eq_true, Bool.true_eq_false, eq_self, n3_lit, n3_add, n3_mul, n3_sub, n3_tn, n3_le_t, n3_le_f, n3_lt_t, n3_lt_f, n3_eq_f, n3_eq_t, n3_inb, n3_rem, n3_div, n3_zb, bb_0, bb_1, zb_bb, bb_T, bb_F, n3_dec, n3_m1, n3_eqm, n3_eqmt, n3_ltm, n3_mlt, n3_lem, n3_mle, n3_neg_lt, n3_nlt_neg, n3_nle_neg, n3_neg_le]
  · obtain ⟨μ1, rfl, hz, hf⟩ := hy
    have hW1 := hW.fr hf (by omega)
    have est1 : bd_X12_beds_35 N Λ μ1 k (ad 181) x (n3 25) = lp_X12_beds_68 N Λ (ad 181) x (n3 (F 0) - n3 1, μ1) := by
      simp (disch := omega) only [bd_X12_beds_35, r_ships hR hW1, ↓ob (hR.1), ↓ob (hR.2.1), ↓ob (hR.2.2.1), ↓ob (hR.2.2.2.1), ↓ob (hR.2.2.2.2.1), ↓ob (hR.2.2.2.2.2.1), ↓ob (hR.2.2.2.2.2.2.1), ↓ob (hR.2.2.2.2.2.2.2.1), ↓ob (hR.2.2.2.2.2.2.2.2.1), ↓ob (hR.2.2.2.2.2.2.2.2.2.1), ↓ob (hR.2.2.2.2.2.2.2.2.2.2.1), ↓ob (hR.2.2.2.2.2.2.2.2.2.2.2.1), ↓ob (hR.2.2.2.2.2.2.2.2.2.2.2.2.1), ↓ob (hR.2.2.2.2.2.2.2.2.2.2.2.2.2.1), ↓ob (hR.2.2.2.2.2.2.2.2.2.2.2.2.2.2.1), ↓ob (hR.2.2.2.2.2.2.2.2.2.2.2.2.2.2.2.1), ↓ob (hR.2.2.2.2.2.2.2.2.2.2.2.2.2.2.2.2.1), ↓ob (hR.2.2.2.2.2.2.2.2.2.2.2.2.2.2.2.2.2.1), hR.2.2.2.2.2.2.2.2.2.2.2.2.2.2.2.2.2.2.1, hR.2.2.2.2.2.2.2.2.2.2.2.2.2.2.2.2.2.2.2.1, hR.2.2.2.2.2.2.2.2.2.2.2.2.2.2.2.2.2.2.2.2.1, hR.2.2.2.2.2.2.2.2.2.2.2.2.2.2.2.2.2.2.2.2.2.1, hR.2.2.2.2.2.2.2.2.2.2.2.2.2.2.2.2.2.2.2.2.2.2.1, hR.2.2.2.2.2.2.2.2.2.2.2.2.2.2.2.2.2.2.2.2.2.2.2.1, hR.2.2.2.2.2.2.2.2.2.2.2.2.2.2.2.2.2.2.2.2.2.2.2.2.1, hR.2.2.2.2.2.2.2.2.2.2.2.2.2.2.2.2.2.2.2.2.2.2.2.2.2.1, hR.2.2.2.2.2.2.2.2.2.2.2.2.2.2.2.2.2.2.2.2.2.2.2.2.2.2.1, hR.2.2.2.2.2.2.2.2.2.2.2.2.2.2.2.2.2.2.2.2.2.2.2.2.2.2.2.1, hR.2.2.2.2.2.2.2.2.2.2.2.2.2.2.2.2.2.2.2.2.2.2.2.2.2.2.2.2.1, hR.2.2.2.2.2.2.2.2.2.2.2.2.2.2.2.2.2.2.2.2.2.2.2.2.2.2.2.2.2.1, hR.2.2.2.2.2.2.2.2.2.2.2.2.2.2.2.2.2.2.2.2.2.2.2.2.2.2.2.2.2.2.1, hR.2.2.2.2.2.2.2.2.2.2.2.2.2.2.2.2.2.2.2.2.2.2.2.2.2.2.2.2.2.2.2.1, hR.2.2.2.2.2.2.2.2.2.2.2.2.2.2.2.2.2.2.2.2.2.2.2.2.2.2.2.2.2.2.2.2.1, hR.2.2.2.2.2.2.2.2.2.2.2.2.2.2.2.2.2.2.2.2.2.2.2.2.2.2.2.2.2.2.2.2.2.1, hR.2.2.2.2.2.2.2.2.2.2.2.2.2.2.2.2.2.2.2.2.2.2.2.2.2.2.2.2.2.2.2.2.2.2.1, hR.2.2.2.2.2.2.2.2.2.2.2.2.2.2.2.2.2.2.2.2.2.2.2.2.2.2.2.2.2.2.2.2.2.2.2, ↓lt_e, ↓gd_e, ↓Option.bind_some, ↓reduceIte, if_true, if_false, if_pT, if_nF, decide_true, Bool.not_true, Bool.not_false, not_true_eq_false, not_false_eq_true, Bool.false_eq_true, Bool.true_eq_false, eq_self, n3_lit, n3_add, n3_mul, n3_sub, n3_tn, n3_le_t, n3_le_f, n3_lt_t, n3_lt_f, n3_eq_f, n3_eq_t, n3_inb, n3_rem, n3_div, n3_zb, bb_0, bb_1, zb_bb, bb_T, bb_F, n3_dec, n3_m1, n3_eqm, n3_eqmt, n3_ltm, n3_mlt, n3_lem, n3_mle, n3_neg_lt, n3_nlt_neg, n3_nle_neg, n3_neg_le]
    show ∃ μ', bd_X12_beds_35 N Λ μ1 k (ad 181) x (n3 25) = some (n3 v, μ') ∧ Fr ad (fun i => i = 197) μ μ'
    rw [est1]
    unfold lp_X12_beds_68
    refine cw_ik (P := fun i y => ∃ μ2 : Mem, y = (n3 (F 0 - i) - n3 1, μ2) ∧ (∀ s q, F 0 - i ≤ s → s ≤ F 0 → q ≤ 24 → μ2.1 (ad 197) (25 * s + q) = n3 (bB F s q)) ∧ Fr ad (fun i => i = 197) μ μ2) (Q := fun X => ∃ μ', X = some (n3 v, μ') ∧ Fr ad (fun i => i = 197) μ μ') (F 0) ⟨μ1, rfl, fun s q h1 h2 h3 => ?_, hf⟩ (fun i hi y hy k => ?_) (fun y hy k => ?_) (show F 0 < N by omega)
    · rw [show s = F 0 by omega, bB_e]; exact hz _ (by omega)
    · obtain ⟨μ2, rfl, hT2, hf2⟩ := hy
      left
      have e1 : F 0 - i - 1 = F 0 - (i + 1) := by omega
      have est2 : bd_X12_beds_68 N Λ μ2 k (ad 181) x (n3 (F 0 - i) - n3 1) = lp_X12_beds_74 N Λ k (ad 181) x (n3 (F 0 - (i + 1))) (n3 0, μ2) := by
        simp (disch := omega) only [bd_X12_beds_68, e1, ↓ob (hR.1), ↓ob (hR.2.1), ↓ob (hR.2.2.1), ↓ob (hR.2.2.2.1), ↓ob (hR.2.2.2.2.1), ↓ob (hR.2.2.2.2.2.1), ↓ob (hR.2.2.2.2.2.2.1), ↓ob (hR.2.2.2.2.2.2.2.1), ↓ob (hR.2.2.2.2.2.2.2.2.1), ↓ob (hR.2.2.2.2.2.2.2.2.2.1), ↓ob (hR.2.2.2.2.2.2.2.2.2.2.1), ↓ob (hR.2.2.2.2.2.2.2.2.2.2.2.1), ↓ob (hR.2.2.2.2.2.2.2.2.2.2.2.2.1), ↓ob (hR.2.2.2.2.2.2.2.2.2.2.2.2.2.1), ↓ob (hR.2.2.2.2.2.2.2.2.2.2.2.2.2.2.1), ↓ob (hR.2.2.2.2.2.2.2.2.2.2.2.2.2.2.2.1), ↓ob (hR.2.2.2.2.2.2.2.2.2.2.2.2.2.2.2.2.1), ↓ob (hR.2.2.2.2.2.2.2.2.2.2.2.2.2.2.2.2.2.1), hR.2.2.2.2.2.2.2.2.2.2.2.2.2.2.2.2.2.2.1, hR.2.2.2.2.2.2.2.2.2.2.2.2.2.2.2.2.2.2.2.1, hR.2.2.2.2.2.2.2.2.2.2.2.2.2.2.2.2.2.2.2.2.1, hR.2.2.2.2.2.2.2.2.2.2.2.2.2.2.2.2.2.2.2.2.2.1, hR.2.2.2.2.2.2.2.2.2.2.2.2.2.2.2.2.2.2.2.2.2.2.1, hR.2.2.2.2.2.2.2.2.2.2.2.2.2.2.2.2.2.2.2.2.2.2.2.1, hR.2.2.2.2.2.2.2.2.2.2.2.2.2.2.2.2.2.2.2.2.2.2.2.2.1, hR.2.2.2.2.2.2.2.2.2.2.2.2.2.2.2.2.2.2.2.2.2.2.2.2.2.1, hR.2.2.2.2.2.2.2.2.2.2.2.2.2.2.2.2.2.2.2.2.2.2.2.2.2.2.1, hR.2.2.2.2.2.2.2.2.2.2.2.2.2.2.2.2.2.2.2.2.2.2.2.2.2.2.2.1, hR.2.2.2.2.2.2.2.2.2.2.2.2.2.2.2.2.2.2.2.2.2.2.2.2.2.2.2.2.1, hR.2.2.2.2.2.2.2.2.2.2.2.2.2.2.2.2.2.2.2.2.2.2.2.2.2.2.2.2.2.1, hR.2.2.2.2.2.2.2.2.2.2.2.2.2.2.2.2.2.2.2.2.2.2.2.2.2.2.2.2.2.2.1, hR.2.2.2.2.2.2.2.2.2.2.2.2.2.2.2.2.2.2.2.2.2.2.2.2.2.2.2.2.2.2.2.1, hR.2.2.2.2.2.2.2.2.2.2.2.2.2.2.2.2.2.2.2.2.2.2.2.2.2.2.2.2.2.2.2.2.1, hR.2.2.2.2.2.2.2.2.2.2.2.2.2.2.2.2.2.2.2.2.2.2.2.2.2.2.2.2.2.2.2.2.2.1, hR.2.2.2.2.2.2.2.2.2.2.2.2.2.2.2.2.2.2.2.2.2.2.2.2.2.2.2.2.2.2.2.2.2.2.1, hR.2.2.2.2.2.2.2.2.2.2.2.2.2.2.2.2.2.2.2.2.2.2.2.2.2.2.2.2.2.2.2.2.2.2.2, ↓lt_e, ↓gd_e, ↓Option.bind_some, ↓reduceIte, if_true, if_false, if_pT, if_nF, decide_true, Bool.not_true, Bool.not_false, not_true_eq_false, not_false_eq_true, Bool.false_eq_true, Bool.true_eq_false, eq_self, n3_lit, n3_add, n3_mul, n3_sub, n3_tn, n3_le_t, n3_le_f, n3_lt_t, n3_lt_f, n3_eq_f, n3_eq_t, n3_inb, n3_rem, n3_div, n3_zb, bb_0, bb_1, zb_bb, bb_T, bb_F, n3_dec, n3_m1, n3_eqm, n3_eqmt, n3_ltm, n3_mlt, n3_lem, n3_mle, n3_neg_lt, n3_nlt_neg, n3_nle_neg, n3_neg_le]
      show ∃ s', _ ∧ bd_X12_beds_68 N Λ μ2 k (ad 181) x (n3 (F 0 - i) - n3 1) = k s'
      rw [est2]
      generalize hsv : F 0 - (i + 1) = s at *
      have hsF : s < F 0 := by omega
      unfold lp_X12_beds_74
      refine cw_ik (P := fun fr y => ∃ μ3 : Mem, y = (n3 fr, μ3) ∧ (∀ t q, s + 1 ≤ t → t ≤ F 0 → q ≤ 24 → μ3.1 (ad 197) (25 * t + q) = n3 (bB F t q)) ∧ (∀ q, q < fr → μ3.1 (ad 197) (25 * s + q) = n3 (bB F s q)) ∧ Fr ad (fun i => i = 197) μ μ3) (Q := fun X => ∃ s' : Int32 × Mem, (∃ μ3 : Mem, s' = (n3 s - n3 1, μ3) ∧ (∀ t q, s ≤ t → t ≤ F 0 → q ≤ 24 → μ3.1 (ad 197) (25 * t + q) = n3 (bB F t q)) ∧ Fr ad (fun i => i = 197) μ μ3) ∧ X = k s') 25 ⟨μ2, rfl, fun t q h1 h2 h3 => hT2 t q (by omega) h2 h3, fun q h1 => absurd h1 (Nat.not_lt_zero q), hf2⟩ (fun fr hfr y hy k' => ?_) (fun y hy k' => ?_) (show 25 < N by omega)
      · obtain ⟨μ3, rfl, hA3, hB3, hf3⟩ := hy
        left
        have hW3 := hW.fr hf3 (by omega)
        have est3 : bd_X12_beds_74 N Λ μ3 k k' (ad 181) x (n3 s) (n3 fr) = lp_X12_beds_86 N Λ k k' (ad 181) x (n3 s) (n3 fr) (n3 0, n3 0, μ3) := by
          simp (disch := omega) only [bd_X12_beds_74, ↓ob (hR.1), ↓ob (hR.2.1), ↓ob (hR.2.2.1), ↓ob (hR.2.2.2.1), ↓ob (hR.2.2.2.2.1), ↓ob (hR.2.2.2.2.2.1), ↓ob (hR.2.2.2.2.2.2.1), ↓ob (hR.2.2.2.2.2.2.2.1), ↓ob (hR.2.2.2.2.2.2.2.2.1), ↓ob (hR.2.2.2.2.2.2.2.2.2.1), ↓ob (hR.2.2.2.2.2.2.2.2.2.2.1), ↓ob (hR.2.2.2.2.2.2.2.2.2.2.2.1), ↓ob (hR.2.2.2.2.2.2.2.2.2.2.2.2.1), ↓ob (hR.2.2.2.2.2.2.2.2.2.2.2.2.2.1), ↓ob (hR.2.2.2.2.2.2.2.2.2.2.2.2.2.2.1), ↓ob (hR.2.2.2.2.2.2.2.2.2.2.2.2.2.2.2.1), ↓ob (hR.2.2.2.2.2.2.2.2.2.2.2.2.2.2.2.2.1), ↓ob (hR.2.2.2.2.2.2.2.2.2.2.2.2.2.2.2.2.2.1), hR.2.2.2.2.2.2.2.2.2.2.2.2.2.2.2.2.2.2.1, hR.2.2.2.2.2.2.2.2.2.2.2.2.2.2.2.2.2.2.2.1, hR.2.2.2.2.2.2.2.2.2.2.2.2.2.2.2.2.2.2.2.2.1, hR.2.2.2.2.2.2.2.2.2.2.2.2.2.2.2.2.2.2.2.2.2.1, hR.2.2.2.2.2.2.2.2.2.2.2.2.2.2.2.2.2.2.2.2.2.2.1, hR.2.2.2.2.2.2.2.2.2.2.2.2.2.2.2.2.2.2.2.2.2.2.2.1, hR.2.2.2.2.2.2.2.2.2.2.2.2.2.2.2.2.2.2.2.2.2.2.2.2.1, hR.2.2.2.2.2.2.2.2.2.2.2.2.2.2.2.2.2.2.2.2.2.2.2.2.2.1, hR.2.2.2.2.2.2.2.2.2.2.2.2.2.2.2.2.2.2.2.2.2.2.2.2.2.2.1, hR.2.2.2.2.2.2.2.2.2.2.2.2.2.2.2.2.2.2.2.2.2.2.2.2.2.2.2.1, hR.2.2.2.2.2.2.2.2.2.2.2.2.2.2.2.2.2.2.2.2.2.2.2.2.2.2.2.2.1, hR.2.2.2.2.2.2.2.2.2.2.2.2.2.2.2.2.2.2.2.2.2.2.2.2.2.2.2.2.2.1, hR.2.2.2.2.2.2.2.2.2.2.2.2.2.2.2.2.2.2.2.2.2.2.2.2.2.2.2.2.2.2.1, hR.2.2.2.2.2.2.2.2.2.2.2.2.2.2.2.2.2.2.2.2.2.2.2.2.2.2.2.2.2.2.2.1, hR.2.2.2.2.2.2.2.2.2.2.2.2.2.2.2.2.2.2.2.2.2.2.2.2.2.2.2.2.2.2.2.2.1, hR.2.2.2.2.2.2.2.2.2.2.2.2.2.2.2.2.2.2.2.2.2.2.2.2.2.2.2.2.2.2.2.2.2.1, hR.2.2.2.2.2.2.2.2.2.2.2.2.2.2.2.2.2.2.2.2.2.2.2.2.2.2.2.2.2.2.2.2.2.2.1, hR.2.2.2.2.2.2.2.2.2.2.2.2.2.2.2.2.2.2.2.2.2.2.2.2.2.2.2.2.2.2.2.2.2.2.2, ↓lt_e, ↓gd_e, ↓Option.bind_some, ↓reduceIte, if_true, if_false, if_pT, if_nF, decide_true, Bool.not_true, Bool.not_false, not_true_eq_false, not_false_eq_true, Bool.false_eq_true, Bool.true_eq_false, eq_self, n3_lit, n3_add, n3_mul, n3_sub, n3_tn, n3_le_t, n3_le_f, n3_lt_t, n3_lt_f, n3_eq_f, n3_eq_t, n3_inb, n3_rem, n3_div, n3_zb, bb_0, bb_1, zb_bb, bb_T, bb_F, n3_dec, n3_m1, n3_eqm, n3_eqmt, n3_ltm, n3_mlt, n3_lem, n3_mle, n3_neg_lt, n3_nlt_neg, n3_nle_neg, n3_neg_le]
        refine ⟨(n3 (fr + 1), mset μ3 (ad 197) (25 * s + fr) (n3 (bB F s fr))), ⟨_, rfl, fun t q h1 h2 h3 => ?_, fun q h1 => ?_, hf3.set hj (by rfl)⟩, ?_⟩
        · rw [msn (by omega)]; exact hA3 t q h1 h2 h3
        · by_cases eq : q = fr
          · rw [eq, mse]
          · rw [msn (by omega)]; exact hB3 q (by omega)
        · show bd_X12_beds_74 N Λ μ3 k k' (ad 181) x (n3 s) (n3 fr) = _
          rw [est3]
          unfold lp_X12_beds_86
          have bn := bB_100 hw (s := s + 1) (p := fr) (by omega) (by omega)
          refine cw_it (fun p => (n3 (if p ≤ 24 then rb F s fr p else bB F s fr), n3 p, μ3)) 25 rfl (fun p hp k2 => ?_) (fun k2 => ?_) (by omega)
          · rw [if_pos (show p ≤ 24 by omega)]
            have rl := rb_100 (fr := fr) hw hsF p
            by_cases ep : p = 24
            · have bi := r_bedIf24 (N := N) hR hW3 (s := s) (fr := fr) (by omega) (by omega) (fun q h => hA3 (s + 1) q (by omega) (by omega) h)
              have hmx := rb_bB (fr := fr) hsF (by omega)
              rw [ep] at rl ⊢
              rw [if_neg (show ¬ 24 + 1 ≤ 24 by omega), ← hmx]
              simp (disch := omega) only [bd_X12_beds_86, bi, n3_imax, ↓ob (hR.1), ↓ob (hR.2.1), ↓ob (hR.2.2.1), ↓ob (hR.2.2.2.1), ↓ob (hR.2.2.2.2.1), ↓ob (hR.2.2.2.2.2.1), ↓ob (hR.2.2.2.2.2.2.1), ↓ob (hR.2.2.2.2.2.2.2.1), ↓ob (hR.2.2.2.2.2.2.2.2.1), ↓ob (hR.2.2.2.2.2.2.2.2.2.1), ↓ob (hR.2.2.2.2.2.2.2.2.2.2.1), ↓ob (hR.2.2.2.2.2.2.2.2.2.2.2.1), ↓ob (hR.2.2.2.2.2.2.2.2.2.2.2.2.1), ↓ob (hR.2.2.2.2.2.2.2.2.2.2.2.2.2.1), ↓ob (hR.2.2.2.2.2.2.2.2.2.2.2.2.2.2.1), ↓ob (hR.2.2.2.2.2.2.2.2.2.2.2.2.2.2.2.1), ↓ob (hR.2.2.2.2.2.2.2.2.2.2.2.2.2.2.2.2.1), ↓ob (hR.2.2.2.2.2.2.2.2.2.2.2.2.2.2.2.2.2.1), hR.2.2.2.2.2.2.2.2.2.2.2.2.2.2.2.2.2.2.1, hR.2.2.2.2.2.2.2.2.2.2.2.2.2.2.2.2.2.2.2.1, hR.2.2.2.2.2.2.2.2.2.2.2.2.2.2.2.2.2.2.2.2.1, hR.2.2.2.2.2.2.2.2.2.2.2.2.2.2.2.2.2.2.2.2.2.1, hR.2.2.2.2.2.2.2.2.2.2.2.2.2.2.2.2.2.2.2.2.2.2.1, hR.2.2.2.2.2.2.2.2.2.2.2.2.2.2.2.2.2.2.2.2.2.2.2.1, hR.2.2.2.2.2.2.2.2.2.2.2.2.2.2.2.2.2.2.2.2.2.2.2.2.1, hR.2.2.2.2.2.2.2.2.2.2.2.2.2.2.2.2.2.2.2.2.2.2.2.2.2.1, hR.2.2.2.2.2.2.2.2.2.2.2.2.2.2.2.2.2.2.2.2.2.2.2.2.2.2.1, hR.2.2.2.2.2.2.2.2.2.2.2.2.2.2.2.2.2.2.2.2.2.2.2.2.2.2.2.1, hR.2.2.2.2.2.2.2.2.2.2.2.2.2.2.2.2.2.2.2.2.2.2.2.2.2.2.2.2.1, hR.2.2.2.2.2.2.2.2.2.2.2.2.2.2.2.2.2.2.2.2.2.2.2.2.2.2.2.2.2.1, hR.2.2.2.2.2.2.2.2.2.2.2.2.2.2.2.2.2.2.2.2.2.2.2.2.2.2.2.2.2.2.1, hR.2.2.2.2.2.2.2.2.2.2.2.2.2.2.2.2.2.2.2.2.2.2.2.2.2.2.2.2.2.2.2.1, hR.2.2.2.2.2.2.2.2.2.2.2.2.2.2.2.2.2.2.2.2.2.2.2.2.2.2.2.2.2.2.2.2.1, hR.2.2.2.2.2.2.2.2.2.2.2.2.2.2.2.2.2.2.2.2.2.2.2.2.2.2.2.2.2.2.2.2.2.1, hR.2.2.2.2.2.2.2.2.2.2.2.2.2.2.2.2.2.2.2.2.2.2.2.2.2.2.2.2.2.2.2.2.2.2.1, hR.2.2.2.2.2.2.2.2.2.2.2.2.2.2.2.2.2.2.2.2.2.2.2.2.2.2.2.2.2.2.2.2.2.2.2, ↓lt_e, ↓gd_e, ↓Option.bind_some, ↓reduceIte, if_true, if_false, if_pT, if_nF, decide_true, Bool.not_true, Bool.not_false, not_true_eq_false, not_false_eq_true, Bool.false_eq_true, Bool.true_eq_false, eq_self, n3_lit, n3_add, n3_mul, n3_sub, n3_tn, n3_le_t, n3_le_f, n3_lt_t, n3_lt_f, n3_eq_f, n3_eq_t, n3_inb, n3_rem, n3_div, n3_zb, bb_0, bb_1, zb_bb, bb_T, bb_F, n3_dec, n3_m1, n3_eqm, n3_eqmt, n3_ltm, n3_mlt, n3_lem, n3_mle, n3_neg_lt, n3_nlt_neg, n3_nle_neg, n3_neg_le]
            · have bi := r_bedIf hN hR hW3 hw (s := s) (fr := fr) (p := p) hsF (by omega) (by omega) (fun q h => hA3 (s + 1) q (by omega) (by omega) h)
              rw [if_pos (show p + 1 ≤ 24 by omega)]
              have es : rb F s fr (p + 1) = if fr ≤ p ∧ wtb F s p = true then max (rb F s fr p) (bhv F s p) else rb F s fr p := rfl
              rw [es]
              by_cases hc : fr ≤ p ∧ wtb F s p = true
              · have := bhv_100 hw hsF hc.2
                rw [if_pos hc] at bi ⊢
                simp (disch := omega) only [bd_X12_beds_86, bi, n3_imax, ↓ob (hR.1), ↓ob (hR.2.1), ↓ob (hR.2.2.1), ↓ob (hR.2.2.2.1), ↓ob (hR.2.2.2.2.1), ↓ob (hR.2.2.2.2.2.1), ↓ob (hR.2.2.2.2.2.2.1), ↓ob (hR.2.2.2.2.2.2.2.1), ↓ob (hR.2.2.2.2.2.2.2.2.1), ↓ob (hR.2.2.2.2.2.2.2.2.2.1), ↓ob (hR.2.2.2.2.2.2.2.2.2.2.1), ↓ob (hR.2.2.2.2.2.2.2.2.2.2.2.1), ↓ob (hR.2.2.2.2.2.2.2.2.2.2.2.2.1), ↓ob (hR.2.2.2.2.2.2.2.2.2.2.2.2.2.1), ↓ob (hR.2.2.2.2.2.2.2.2.2.2.2.2.2.2.1), ↓ob (hR.2.2.2.2.2.2.2.2.2.2.2.2.2.2.2.1), ↓ob (hR.2.2.2.2.2.2.2.2.2.2.2.2.2.2.2.2.1), ↓ob (hR.2.2.2.2.2.2.2.2.2.2.2.2.2.2.2.2.2.1), hR.2.2.2.2.2.2.2.2.2.2.2.2.2.2.2.2.2.2.1, hR.2.2.2.2.2.2.2.2.2.2.2.2.2.2.2.2.2.2.2.1, hR.2.2.2.2.2.2.2.2.2.2.2.2.2.2.2.2.2.2.2.2.1, hR.2.2.2.2.2.2.2.2.2.2.2.2.2.2.2.2.2.2.2.2.2.1, hR.2.2.2.2.2.2.2.2.2.2.2.2.2.2.2.2.2.2.2.2.2.2.1, hR.2.2.2.2.2.2.2.2.2.2.2.2.2.2.2.2.2.2.2.2.2.2.2.1, hR.2.2.2.2.2.2.2.2.2.2.2.2.2.2.2.2.2.2.2.2.2.2.2.2.1, hR.2.2.2.2.2.2.2.2.2.2.2.2.2.2.2.2.2.2.2.2.2.2.2.2.2.1, hR.2.2.2.2.2.2.2.2.2.2.2.2.2.2.2.2.2.2.2.2.2.2.2.2.2.2.1, hR.2.2.2.2.2.2.2.2.2.2.2.2.2.2.2.2.2.2.2.2.2.2.2.2.2.2.2.1, hR.2.2.2.2.2.2.2.2.2.2.2.2.2.2.2.2.2.2.2.2.2.2.2.2.2.2.2.2.1, hR.2.2.2.2.2.2.2.2.2.2.2.2.2.2.2.2.2.2.2.2.2.2.2.2.2.2.2.2.2.1, hR.2.2.2.2.2.2.2.2.2.2.2.2.2.2.2.2.2.2.2.2.2.2.2.2.2.2.2.2.2.2.1, hR.2.2.2.2.2.2.2.2.2.2.2.2.2.2.2.2.2.2.2.2.2.2.2.2.2.2.2.2.2.2.2.1, hR.2.2.2.2.2.2.2.2.2.2.2.2.2.2.2.2.2.2.2.2.2.2.2.2.2.2.2.2.2.2.2.2.1, hR.2.2.2.2.2.2.2.2.2.2.2.2.2.2.2.2.2.2.2.2.2.2.2.2.2.2.2.2.2.2.2.2.2.1, hR.2.2.2.2.2.2.2.2.2.2.2.2.2.2.2.2.2.2.2.2.2.2.2.2.2.2.2.2.2.2.2.2.2.2.1, hR.2.2.2.2.2.2.2.2.2.2.2.2.2.2.2.2.2.2.2.2.2.2.2.2.2.2.2.2.2.2.2.2.2.2.2, ↓lt_e, ↓gd_e, ↓Option.bind_some, ↓reduceIte, if_true, if_false, if_pT, if_nF, decide_true, Bool.not_true, Bool.not_false, not_true_eq_false, not_false_eq_true, Bool.false_eq_true, Bool.true_eq_false, eq_self, n3_lit, n3_add, n3_mul, n3_sub, n3_tn, n3_le_t, n3_le_f, n3_lt_t, n3_lt_f, n3_eq_f, n3_eq_t, n3_inb, n3_rem, n3_div, n3_zb, bb_0, bb_1, zb_bb, bb_T, bb_F, n3_dec, n3_m1, n3_eqm, n3_eqmt, n3_ltm, n3_mlt, n3_lem, n3_mle, n3_neg_lt, n3_nlt_neg, n3_nle_neg, n3_neg_le]
              · rw [if_neg hc] at bi ⊢
                simp (disch := omega) only [bd_X12_beds_86, bi, n3_imax2, ↓ob (hR.1), ↓ob (hR.2.1), ↓ob (hR.2.2.1), ↓ob (hR.2.2.2.1), ↓ob (hR.2.2.2.2.1), ↓ob (hR.2.2.2.2.2.1), ↓ob (hR.2.2.2.2.2.2.1), ↓ob (hR.2.2.2.2.2.2.2.1), ↓ob (hR.2.2.2.2.2.2.2.2.1), ↓ob (hR.2.2.2.2.2.2.2.2.2.1), ↓ob (hR.2.2.2.2.2.2.2.2.2.2.1), ↓ob (hR.2.2.2.2.2.2.2.2.2.2.2.1), ↓ob (hR.2.2.2.2.2.2.2.2.2.2.2.2.1), ↓ob (hR.2.2.2.2.2.2.2.2.2.2.2.2.2.1), ↓ob (hR.2.2.2.2.2.2.2.2.2.2.2.2.2.2.1), ↓ob (hR.2.2.2.2.2.2.2.2.2.2.2.2.2.2.2.1), ↓ob (hR.2.2.2.2.2.2.2.2.2.2.2.2.2.2.2.2.1), ↓ob (hR.2.2.2.2.2.2.2.2.2.2.2.2.2.2.2.2.2.1), hR.2.2.2.2.2.2.2.2.2.2.2.2.2.2.2.2.2.2.1, hR.2.2.2.2.2.2.2.2.2.2.2.2.2.2.2.2.2.2.2.1, hR.2.2.2.2.2.2.2.2.2.2.2.2.2.2.2.2.2.2.2.2.1, hR.2.2.2.2.2.2.2.2.2.2.2.2.2.2.2.2.2.2.2.2.2.1, hR.2.2.2.2.2.2.2.2.2.2.2.2.2.2.2.2.2.2.2.2.2.2.1, hR.2.2.2.2.2.2.2.2.2.2.2.2.2.2.2.2.2.2.2.2.2.2.2.1, hR.2.2.2.2.2.2.2.2.2.2.2.2.2.2.2.2.2.2.2.2.2.2.2.2.1, hR.2.2.2.2.2.2.2.2.2.2.2.2.2.2.2.2.2.2.2.2.2.2.2.2.2.1, hR.2.2.2.2.2.2.2.2.2.2.2.2.2.2.2.2.2.2.2.2.2.2.2.2.2.2.1, hR.2.2.2.2.2.2.2.2.2.2.2.2.2.2.2.2.2.2.2.2.2.2.2.2.2.2.2.1, hR.2.2.2.2.2.2.2.2.2.2.2.2.2.2.2.2.2.2.2.2.2.2.2.2.2.2.2.2.1, hR.2.2.2.2.2.2.2.2.2.2.2.2.2.2.2.2.2.2.2.2.2.2.2.2.2.2.2.2.2.1, hR.2.2.2.2.2.2.2.2.2.2.2.2.2.2.2.2.2.2.2.2.2.2.2.2.2.2.2.2.2.2.1, hR.2.2.2.2.2.2.2.2.2.2.2.2.2.2.2.2.2.2.2.2.2.2.2.2.2.2.2.2.2.2.2.1, hR.2.2.2.2.2.2.2.2.2.2.2.2.2.2.2.2.2.2.2.2.2.2.2.2.2.2.2.2.2.2.2.2.1, hR.2.2.2.2.2.2.2.2.2.2.2.2.2.2.2.2.2.2.2.2.2.2.2.2.2.2.2.2.2.2.2.2.2.1, hR.2.2.2.2.2.2.2.2.2.2.2.2.2.2.2.2.2.2.2.2.2.2.2.2.2.2.2.2.2.2.2.2.2.2.1, hR.2.2.2.2.2.2.2.2.2.2.2.2.2.2.2.2.2.2.2.2.2.2.2.2.2.2.2.2.2.2.2.2.2.2.2, ↓lt_e, ↓gd_e, ↓Option.bind_some, ↓reduceIte, if_true, if_false, if_pT, if_nF, decide_true, Bool.not_true, Bool.not_false, not_true_eq_false, not_false_eq_true, Bool.false_eq_true, Bool.true_eq_false, eq_self, n3_lit, n3_add, n3_mul, n3_sub, n3_tn, n3_le_t, n3_le_f, n3_lt_t, n3_lt_f, n3_eq_f, n3_eq_t, n3_inb, n3_rem, n3_div, n3_zb, bb_0, bb_1, zb_bb, bb_T, bb_F, n3_dec, n3_m1, n3_eqm, n3_eqmt, n3_ltm, n3_mlt, n3_lem, n3_mle, n3_neg_lt, n3_nlt_neg, n3_nle_neg, n3_neg_le]
          · rw [if_neg (show ¬ 25 ≤ 24 by omega)]
            simp (disch := omega) only [bd_X12_beds_86, m_X12_bedAt, ↓ob (hR.1), ↓ob (hR.2.1), ↓ob (hR.2.2.1), ↓ob (hR.2.2.2.1), ↓ob (hR.2.2.2.2.1), ↓ob (hR.2.2.2.2.2.1), ↓ob (hR.2.2.2.2.2.2.1), ↓ob (hR.2.2.2.2.2.2.2.1), ↓ob (hR.2.2.2.2.2.2.2.2.1), ↓ob (hR.2.2.2.2.2.2.2.2.2.1), ↓ob (hR.2.2.2.2.2.2.2.2.2.2.1), ↓ob (hR.2.2.2.2.2.2.2.2.2.2.2.1), ↓ob (hR.2.2.2.2.2.2.2.2.2.2.2.2.1), ↓ob (hR.2.2.2.2.2.2.2.2.2.2.2.2.2.1), ↓ob (hR.2.2.2.2.2.2.2.2.2.2.2.2.2.2.1), ↓ob (hR.2.2.2.2.2.2.2.2.2.2.2.2.2.2.2.1), ↓ob (hR.2.2.2.2.2.2.2.2.2.2.2.2.2.2.2.2.1), ↓ob (hR.2.2.2.2.2.2.2.2.2.2.2.2.2.2.2.2.2.1), hR.2.2.2.2.2.2.2.2.2.2.2.2.2.2.2.2.2.2.1, hR.2.2.2.2.2.2.2.2.2.2.2.2.2.2.2.2.2.2.2.1, hR.2.2.2.2.2.2.2.2.2.2.2.2.2.2.2.2.2.2.2.2.1, hR.2.2.2.2.2.2.2.2.2.2.2.2.2.2.2.2.2.2.2.2.2.1, hR.2.2.2.2.2.2.2.2.2.2.2.2.2.2.2.2.2.2.2.2.2.2.1, hR.2.2.2.2.2.2.2.2.2.2.2.2.2.2.2.2.2.2.2.2.2.2.2.1, hR.2.2.2.2.2.2.2.2.2.2.2.2.2.2.2.2.2.2.2.2.2.2.2.2.1, hR.2.2.2.2.2.2.2.2.2.2.2.2.2.2.2.2.2.2.2.2.2.2.2.2.2.1, hR.2.2.2.2.2.2.2.2.2.2.2.2.2.2.2.2.2.2.2.2.2.2.2.2.2.2.1, hR.2.2.2.2.2.2.2.2.2.2.2.2.2.2.2.2.2.2.2.2.2.2.2.2.2.2.2.1, hR.2.2.2.2.2.2.2.2.2.2.2.2.2.2.2.2.2.2.2.2.2.2.2.2.2.2.2.2.1, hR.2.2.2.2.2.2.2.2.2.2.2.2.2.2.2.2.2.2.2.2.2.2.2.2.2.2.2.2.2.1, hR.2.2.2.2.2.2.2.2.2.2.2.2.2.2.2.2.2.2.2.2.2.2.2.2.2.2.2.2.2.2.1, hR.2.2.2.2.2.2.2.2.2.2.2.2.2.2.2.2.2.2.2.2.2.2.2.2.2.2.2.2.2.2.2.1, hR.2.2.2.2.2.2.2.2.2.2.2.2.2.2.2.2.2.2.2.2.2.2.2.2.2.2.2.2.2.2.2.2.1, hR.2.2.2.2.2.2.2.2.2.2.2.2.2.2.2.2.2.2.2.2.2.2.2.2.2.2.2.2.2.2.2.2.2.1, hR.2.2.2.2.2.2.2.2.2.2.2.2.2.2.2.2.2.2.2.2.2.2.2.2.2.2.2.2.2.2.2.2.2.2.1, hR.2.2.2.2.2.2.2.2.2.2.2.2.2.2.2.2.2.2.2.2.2.2.2.2.2.2.2.2.2.2.2.2.2.2.2, ↓lt_e, ↓gd_e, ↓Option.bind_some, ↓reduceIte, if_true, if_false, if_pT, if_nF, decide_true, Bool.not_true, Bool.not_false, not_true_eq_false, not_false_eq_true, Bool.false_eq_true, Bool.true_eq_false, eq_self, n3_lit, n3_add, n3_mul, n3_sub, n3_tn, n3_le_t, n3_le_f, n3_lt_t, n3_lt_f, n3_eq_f, n3_eq_t, n3_inb, n3_rem, n3_div, n3_zb, bb_0, bb_1, zb_bb, bb_T, bb_F, n3_dec, n3_m1, n3_eqm, n3_eqmt, n3_ltm, n3_mlt, n3_lem, n3_mle, n3_neg_lt, n3_nlt_neg, n3_nle_neg, n3_neg_le]
      · obtain ⟨μ3, rfl, hA3, hB3, hf3⟩ := hy
        refine ⟨_, ⟨μ3, rfl, fun t q h1 h2 h3 => ?_, hf3⟩, ?_⟩
        · by_cases et : t = s
          · rw [et]; exact hB3 q (by omega)
          · exact hA3 t q (by omega) h2 h3
        · simp (disch := omega) only [bd_X12_beds_74, ↓ob (hR.1), ↓ob (hR.2.1), ↓ob (hR.2.2.1), ↓ob (hR.2.2.2.1), ↓ob (hR.2.2.2.2.1), ↓ob (hR.2.2.2.2.2.1), ↓ob (hR.2.2.2.2.2.2.1), ↓ob (hR.2.2.2.2.2.2.2.1), ↓ob (hR.2.2.2.2.2.2.2.2.1), ↓ob (hR.2.2.2.2.2.2.2.2.2.1), ↓ob (hR.2.2.2.2.2.2.2.2.2.2.1), ↓ob (hR.2.2.2.2.2.2.2.2.2.2.2.1), ↓ob (hR.2.2.2.2.2.2.2.2.2.2.2.2.1), ↓ob (hR.2.2.2.2.2.2.2.2.2.2.2.2.2.1), ↓ob (hR.2.2.2.2.2.2.2.2.2.2.2.2.2.2.1), ↓ob (hR.2.2.2.2.2.2.2.2.2.2.2.2.2.2.2.1), ↓ob (hR.2.2.2.2.2.2.2.2.2.2.2.2.2.2.2.2.1), ↓ob (hR.2.2.2.2.2.2.2.2.2.2.2.2.2.2.2.2.2.1), hR.2.2.2.2.2.2.2.2.2.2.2.2.2.2.2.2.2.2.1, hR.2.2.2.2.2.2.2.2.2.2.2.2.2.2.2.2.2.2.2.1, hR.2.2.2.2.2.2.2.2.2.2.2.2.2.2.2.2.2.2.2.2.1, hR.2.2.2.2.2.2.2.2.2.2.2.2.2.2.2.2.2.2.2.2.2.1, hR.2.2.2.2.2.2.2.2.2.2.2.2.2.2.2.2.2.2.2.2.2.2.1, hR.2.2.2.2.2.2.2.2.2.2.2.2.2.2.2.2.2.2.2.2.2.2.2.1, hR.2.2.2.2.2.2.2.2.2.2.2.2.2.2.2.2.2.2.2.2.2.2.2.2.1, hR.2.2.2.2.2.2.2.2.2.2.2.2.2.2.2.2.2.2.2.2.2.2.2.2.2.1, hR.2.2.2.2.2.2.2.2.2.2.2.2.2.2.2.2.2.2.2.2.2.2.2.2.2.2.1, hR.2.2.2.2.2.2.2.2.2.2.2.2.2.2.2.2.2.2.2.2.2.2.2.2.2.2.2.1, hR.2.2.2.2.2.2.2.2.2.2.2.2.2.2.2.2.2.2.2.2.2.2.2.2.2.2.2.2.1, hR.2.2.2.2.2.2.2.2.2.2.2.2.2.2.2.2.2.2.2.2.2.2.2.2.2.2.2.2.2.1, hR.2.2.2.2.2.2.2.2.2.2.2.2.2.2.2.2.2.2.2.2.2.2.2.2.2.2.2.2.2.2.1, hR.2.2.2.2.2.2.2.2.2.2.2.2.2.2.2.2.2.2.2.2.2.2.2.2.2.2.2.2.2.2.2.1, hR.2.2.2.2.2.2.2.2.2.2.2.2.2.2.2.2.2.2.2.2.2.2.2.2.2.2.2.2.2.2.2.2.1, hR.2.2.2.2.2.2.2.2.2.2.2.2.2.2.2.2.2.2.2.2.2.2.2.2.2.2.2.2.2.2.2.2.2.1, hR.2.2.2.2.2.2.2.2.2.2.2.2.2.2.2.2.2.2.2.2.2.2.2.2.2.2.2.2.2.2.2.2.2.2.1, hR.2.2.2.2.2.2.2.2.2.2.2.2.2.2.2.2.2.2.2.2.2.2.2.2.2.2.2.2.2.2.2.2.2.2.2, ↓lt_e, ↓gd_e, ↓Option.bind_some, ↓reduceIte, if_true, if_false, if_pT, if_nF, decide_true, Bool.not_true, Bool.not_false, not_true_eq_false, not_false_eq_true, Bool.false_eq_true, Bool.true_eq_false, eq_self, n3_lit, n3_lt_t, n3_dec]
    · obtain ⟨μ2, rfl, hT2, hf2⟩ := hy
      have hW2 := hW.fr hf2 (by omega)
      refine ⟨μ2, ?_, hf2⟩
      rcases hx with ⟨rfl, rfl⟩ | ⟨s, hs, rfl, rfl⟩
      · have ht : μ2.1 (ad 197) 0 = n3 (bB F 0 0) := by have := hT2 0 0 (by omega) (by omega) (by omega); rw [Nat.mul_zero] at this; exact this
        simp (disch := omega) only [bd_X12_beds_68, Nat.sub_self, ↓ob (hR.1), ↓ob (hR.2.1), ↓ob (hR.2.2.1), ↓ob (hR.2.2.2.1), ↓ob (hR.2.2.2.2.1), ↓ob (hR.2.2.2.2.2.1), ↓ob (hR.2.2.2.2.2.2.1), ↓ob (hR.2.2.2.2.2.2.2.1), ↓ob (hR.2.2.2.2.2.2.2.2.1), ↓ob (hR.2.2.2.2.2.2.2.2.2.1), ↓ob (hR.2.2.2.2.2.2.2.2.2.2.1), ↓ob (hR.2.2.2.2.2.2.2.2.2.2.2.1), ↓ob (hR.2.2.2.2.2.2.2.2.2.2.2.2.1), ↓ob (hR.2.2.2.2.2.2.2.2.2.2.2.2.2.1), ↓ob (hR.2.2.2.2.2.2.2.2.2.2.2.2.2.2.1), ↓ob (hR.2.2.2.2.2.2.2.2.2.2.2.2.2.2.2.1), ↓ob (hR.2.2.2.2.2.2.2.2.2.2.2.2.2.2.2.2.1), ↓ob (hR.2.2.2.2.2.2.2.2.2.2.2.2.2.2.2.2.2.1), hR.2.2.2.2.2.2.2.2.2.2.2.2.2.2.2.2.2.2.1, hR.2.2.2.2.2.2.2.2.2.2.2.2.2.2.2.2.2.2.2.1, hR.2.2.2.2.2.2.2.2.2.2.2.2.2.2.2.2.2.2.2.2.1, hR.2.2.2.2.2.2.2.2.2.2.2.2.2.2.2.2.2.2.2.2.2.1, hR.2.2.2.2.2.2.2.2.2.2.2.2.2.2.2.2.2.2.2.2.2.2.1, hR.2.2.2.2.2.2.2.2.2.2.2.2.2.2.2.2.2.2.2.2.2.2.2.1, hR.2.2.2.2.2.2.2.2.2.2.2.2.2.2.2.2.2.2.2.2.2.2.2.2.1, hR.2.2.2.2.2.2.2.2.2.2.2.2.2.2.2.2.2.2.2.2.2.2.2.2.2.1, hR.2.2.2.2.2.2.2.2.2.2.2.2.2.2.2.2.2.2.2.2.2.2.2.2.2.2.1, hR.2.2.2.2.2.2.2.2.2.2.2.2.2.2.2.2.2.2.2.2.2.2.2.2.2.2.2.1, hR.2.2.2.2.2.2.2.2.2.2.2.2.2.2.2.2.2.2.2.2.2.2.2.2.2.2.2.2.1, hR.2.2.2.2.2.2.2.2.2.2.2.2.2.2.2.2.2.2.2.2.2.2.2.2.2.2.2.2.2.1, hR.2.2.2.2.2.2.2.2.2.2.2.2.2.2.2.2.2.2.2.2.2.2.2.2.2.2.2.2.2.2.1, hR.2.2.2.2.2.2.2.2.2.2.2.2.2.2.2.2.2.2.2.2.2.2.2.2.2.2.2.2.2.2.2.1, hR.2.2.2.2.2.2.2.2.2.2.2.2.2.2.2.2.2.2.2.2.2.2.2.2.2.2.2.2.2.2.2.2.1, hR.2.2.2.2.2.2.2.2.2.2.2.2.2.2.2.2.2.2.2.2.2.2.2.2.2.2.2.2.2.2.2.2.2.1, hR.2.2.2.2.2.2.2.2.2.2.2.2.2.2.2.2.2.2.2.2.2.2.2.2.2.2.2.2.2.2.2.2.2.2.1, hR.2.2.2.2.2.2.2.2.2.2.2.2.2.2.2.2.2.2.2.2.2.2.2.2.2.2.2.2.2.2.2.2.2.2.2, ht, ↓lt_e, ↓gd_e, ↓Option.bind_some, ↓reduceIte, if_true, if_false, if_pT, if_nF, decide_true, Bool.not_true, Bool.not_false, not_true_eq_false, not_false_eq_true, Bool.false_eq_true, Bool.true_eq_false, eq_self, n3_lit, n3_add, n3_mul, n3_sub, n3_tn, n3_le_t, n3_le_f, n3_lt_t, n3_lt_f, n3_eq_f, n3_eq_t, n3_inb, n3_rem, n3_div, n3_zb, bb_0, bb_1, zb_bb, bb_T, bb_F, n3_dec, n3_m1, n3_eqm, n3_eqmt, n3_ltm, n3_mlt, n3_lem, n3_mle, n3_neg_lt, n3_nlt_neg, n3_nle_neg, n3_neg_le]
      · have bw := r_bedwalk hN hR hW2 hw hs (fun t q h1 h2 => hT2 t q (by omega) h1 h2)
        simp (disch := omega) only [bd_X12_beds_68, Nat.sub_self, ↓ob (hR.1), ↓ob (hR.2.1), ↓ob (hR.2.2.1), ↓ob (hR.2.2.2.1), ↓ob (hR.2.2.2.2.1), ↓ob (hR.2.2.2.2.2.1), ↓ob (hR.2.2.2.2.2.2.1), ↓ob (hR.2.2.2.2.2.2.2.1), ↓ob (hR.2.2.2.2.2.2.2.2.1), ↓ob (hR.2.2.2.2.2.2.2.2.2.1), ↓ob (hR.2.2.2.2.2.2.2.2.2.2.1), ↓ob (hR.2.2.2.2.2.2.2.2.2.2.2.1), ↓ob (hR.2.2.2.2.2.2.2.2.2.2.2.2.1), ↓ob (hR.2.2.2.2.2.2.2.2.2.2.2.2.2.1), ↓ob (hR.2.2.2.2.2.2.2.2.2.2.2.2.2.2.1), ↓ob (hR.2.2.2.2.2.2.2.2.2.2.2.2.2.2.2.1), ↓ob (hR.2.2.2.2.2.2.2.2.2.2.2.2.2.2.2.2.1), ↓ob (hR.2.2.2.2.2.2.2.2.2.2.2.2.2.2.2.2.2.1), hR.2.2.2.2.2.2.2.2.2.2.2.2.2.2.2.2.2.2.1, hR.2.2.2.2.2.2.2.2.2.2.2.2.2.2.2.2.2.2.2.1, hR.2.2.2.2.2.2.2.2.2.2.2.2.2.2.2.2.2.2.2.2.1, hR.2.2.2.2.2.2.2.2.2.2.2.2.2.2.2.2.2.2.2.2.2.1, hR.2.2.2.2.2.2.2.2.2.2.2.2.2.2.2.2.2.2.2.2.2.2.1, hR.2.2.2.2.2.2.2.2.2.2.2.2.2.2.2.2.2.2.2.2.2.2.2.1, hR.2.2.2.2.2.2.2.2.2.2.2.2.2.2.2.2.2.2.2.2.2.2.2.2.1, hR.2.2.2.2.2.2.2.2.2.2.2.2.2.2.2.2.2.2.2.2.2.2.2.2.2.1, hR.2.2.2.2.2.2.2.2.2.2.2.2.2.2.2.2.2.2.2.2.2.2.2.2.2.2.1, hR.2.2.2.2.2.2.2.2.2.2.2.2.2.2.2.2.2.2.2.2.2.2.2.2.2.2.2.1, hR.2.2.2.2.2.2.2.2.2.2.2.2.2.2.2.2.2.2.2.2.2.2.2.2.2.2.2.2.1, hR.2.2.2.2.2.2.2.2.2.2.2.2.2.2.2.2.2.2.2.2.2.2.2.2.2.2.2.2.2.1, hR.2.2.2.2.2.2.2.2.2.2.2.2.2.2.2.2.2.2.2.2.2.2.2.2.2.2.2.2.2.2.1, hR.2.2.2.2.2.2.2.2.2.2.2.2.2.2.2.2.2.2.2.2.2.2.2.2.2.2.2.2.2.2.2.1, hR.2.2.2.2.2.2.2.2.2.2.2.2.2.2.2.2.2.2.2.2.2.2.2.2.2.2.2.2.2.2.2.2.1, hR.2.2.2.2.2.2.2.2.2.2.2.2.2.2.2.2.2.2.2.2.2.2.2.2.2.2.2.2.2.2.2.2.2.1, hR.2.2.2.2.2.2.2.2.2.2.2.2.2.2.2.2.2.2.2.2.2.2.2.2.2.2.2.2.2.2.2.2.2.2.1, hR.2.2.2.2.2.2.2.2.2.2.2.2.2.2.2.2.2.2.2.2.2.2.2.2.2.2.2.2.2.2.2.2.2.2.2, bw, ↓lt_e, ↓gd_e, ↓Option.bind_some, ↓reduceIte, if_true, if_false, if_pT, if_nF, decide_true, Bool.not_true, Bool.not_false, not_true_eq_false, not_false_eq_true, Bool.false_eq_true, Bool.true_eq_false, eq_self, n3_lit, n3_add, n3_mul, n3_sub, n3_tn, n3_le_t, n3_le_f, n3_lt_t, n3_lt_f, n3_eq_f, n3_eq_t, n3_inb, n3_rem, n3_div, n3_zb, bb_0, bb_1, zb_bb, bb_T, bb_F, n3_dec, n3_m1, n3_eqm, n3_eqmt, n3_ltm, n3_mlt, n3_lem, n3_mle, n3_neg_lt, n3_nlt_neg, n3_nle_neg, n3_neg_le]
theorem R_beds_f {N : Nat} (hN : 1099511627776 ≤ N) {Λ : Lay} {ad : Nat → Nat} {μ : Mem} {F : Nat → Nat} {m : Nat} {A : Nat → Nat → Nat} {b : Nat} {J : Nat → Nat} {T : Nat → Int32} {n : Nat} {f : Int32} (hY : Ly Λ ad) (h : RR ad μ F m A b J T n f) (ho : Ok F m A b J T n)  (x : Int32) (hx : inr x (F 0) = false) (hm : ¬ x = n3 4294967295) : RV ad μ (m_X12_beds N Λ μ (ad 181) x) 1 0 F m A b J T n f := by
  have hj := hY.1
  have hR := hY.2.1
  have hW := h.1
  have hw := ho.1
  have hl := ho.2.1
  have hb := hw.1; unfold WB at hb
  unfold m_X12_beds
  refine RV.start hY.1 h (fun μ0 h0 t0 => RV.thrown hY.1 h0 ?_)
  have ns := r_noSh (N := N) hR h0.1 hb.1 x
  rw [m1_n3, if_neg hm, ns, hx]
  have e : jn_X12_beds_24 N Λ μ0 (ad 181) x (ad 181) (n3 1) = some (n3 0, mset μ0 (ad 181) 0 (n3 1)) := by
    unfold jn_X12_beds_24; rw [r_thr1]; rfl
  simp (disch := omega) only [n3_lit, e, ↓lt_e, ↓gd_e, ↓Option.bind_some, ↓reduceIte, if_true, if_false, if_pT, if_nF, decide_true, Bool.not_true, Bool.not_false, not_true_eq_false, not_false_eq_true, Bool.false_eq_true, Bool.true_eq_false, eq_self, n3_lit, n3_add, n3_mul, n3_sub, n3_tn, n3_le_t, n3_le_f, n3_lt_t, n3_lt_f, n3_eq_f, n3_eq_t, n3_inb, n3_rem, n3_div, n3_zb, bb_0, bb_1, zb_bb, bb_T, bb_F, n3_dec, n3_m1, n3_eqm, n3_eqmt, n3_ltm, n3_mlt, n3_lem, n3_mle, n3_neg_lt, n3_nlt_neg, n3_nle_neg, n3_neg_le]
theorem R_beds_m {N : Nat} (hN : 1099511627776 ≤ N) {Λ : Lay} {ad : Nat → Nat} {μ : Mem} {F : Nat → Nat} {m : Nat} {A : Nat → Nat → Nat} {b : Nat} {J : Nat → Nat} {T : Nat → Int32} {n : Nat} {f : Int32} (hY : Ly Λ ad) (h : RR ad μ F m A b J T n f) (ho : Ok F m A b J T n)  : RV ad μ (m_X12_beds N Λ μ (ad 181) (n3 4294967295)) 0 (n3 (bB F 0 0)) F m A b J T n f := by
  have hj := hY.1
  have hR := hY.2.1
  have hW := h.1
  have hw := ho.1
  have hl := ho.2.1
  have hb := hw.1; unfold WB at hb
  unfold m_X12_beds
  refine RV.start hY.1 h (fun μ0 h0 t0 => ?_)
  obtain ⟨μ1, e1, f1⟩ := r_beds hN hR h0.1 hj hw (n3 4294967295) (bB F 0 0) (Or.inl ⟨rfl, rfl⟩)
  refine RV.scr h0 t0 (f1.mono (fun i hi => by unfold ScX; omega)) ?_
  simp (disch := omega) only [jn_X12_beds_23, jn_X12_beds_24, r_thr0, e1, ↓lt_e, ↓gd_e, ↓Option.bind_some, ↓reduceIte, if_true, if_false, if_pT, if_nF, decide_true, Bool.not_true, Bool.not_false, not_true_eq_false, not_false_eq_true, Bool.false_eq_true, Bool.true_eq_false, eq_self, n3_lit, n3_add, n3_mul, n3_sub, n3_tn, n3_le_t, n3_le_f, n3_lt_t, n3_lt_f, n3_eq_f, n3_eq_t, n3_inb, n3_rem, n3_div, n3_zb, bb_0, bb_1, zb_bb, bb_T, bb_F, n3_dec, n3_m1, n3_eqm, n3_eqmt, n3_ltm, n3_mlt, n3_lem, n3_mle, n3_neg_lt, n3_nlt_neg, n3_nle_neg, n3_neg_le]
theorem R_beds_t {N : Nat} (hN : 1099511627776 ≤ N) {Λ : Lay} {ad : Nat → Nat} {μ : Mem} {F : Nat → Nat} {m : Nat} {A : Nat → Nat → Nat} {b : Nat} {J : Nat → Nat} {T : Nat → Int32} {n : Nat} {f : Int32} (hY : Ly Λ ad) (h : RR ad μ F m A b J T n f) (ho : Ok F m A b J T n)  (s : Nat) (hs : s < F 0) : RV ad μ (m_X12_beds N Λ μ (ad 181) (n3 s)) 0 (n3 ((bdW F (F 0)).2 s)) F m A b J T n f := by
  have hj := hY.1
  have hR := hY.2.1
  have hW := h.1
  have hw := ho.1
  have hl := ho.2.1
  have hb := hw.1; unfold WB at hb
  unfold m_X12_beds
  refine RV.start hY.1 h (fun μ0 h0 t0 => ?_)
  have ns := r_noSh (N := N) hR h0.1 hb.1 (n3 s)
  obtain ⟨μ1, e1, f1⟩ := r_beds hN hR h0.1 hj hw (n3 s) ((bdW F (F 0)).2 s) (Or.inr ⟨s, hs, rfl, rfl⟩)
  refine RV.scr h0 t0 (f1.mono (fun i hi => by unfold ScX; omega)) ?_
  simp (disch := omega) only [jn_X12_beds_23, jn_X12_beds_24, ns, inr_n3, r_thr0, e1, ↓lt_e, ↓gd_e, ↓Option.bind_some, ↓reduceIte, if_true, if_false, if_pT, if_nF, decide_true, Bool.not_true, Bool.not_false, not_true_eq_false, not_false_eq_true, Bool.false_eq_true, Bool.true_eq_false, eq_self, n3_lit, n3_add, n3_mul, n3_sub, n3_tn, n3_le_t, n3_le_f, n3_lt_t, n3_lt_f, n3_eq_f, n3_eq_t, n3_inb, n3_rem, n3_div, n3_zb, bb_0, bb_1, zb_bb, bb_T, bb_F, n3_dec, n3_m1, n3_eqm, n3_eqmt, n3_ltm, n3_mlt, n3_lem, n3_mle, n3_neg_lt, n3_nlt_neg, n3_nle_neg, n3_neg_le]

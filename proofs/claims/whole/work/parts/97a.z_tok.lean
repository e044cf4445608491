/-! things in a text -/
def kd (x : Int32) : Nat := if n3 97 ≤ x ∧ x ≤ n3 122 then 1 else if n3 48 ≤ x ∧ x ≤ n3 57 then 2 else if x = n3 32 then 0 else 3
theorem kd_1 (x : Int32) : kd x = 1 ↔ n3 97 ≤ x ∧ x ≤ n3 122 := by
  unfold kd; split
  · next h => exact ⟨fun _ => h, fun _ => rfl⟩
  · next h =>
    split
    · exact ⟨fun e => absurd e (by decide), fun e => absurd e h⟩
    · split
      · exact ⟨fun e => absurd e (by decide), fun e => absurd e h⟩
      · exact ⟨fun e => absurd e (by decide), fun e => absurd e h⟩
theorem i32_lt {x : Int32} {a : Nat} (ha : a < 2147483648) : n3 a ≤ x ↔ (a : Int) ≤ x.toInt := by rw [Int32.le_iff_toInt_le, n3_toInt ha]
theorem i32_gt {x : Int32} {a : Nat} (ha : a < 2147483648) : x ≤ n3 a ↔ x.toInt ≤ (a : Int) := by rw [Int32.le_iff_toInt_le, n3_toInt ha]
theorem i32_eq {x : Int32} {a : Nat} (ha : a < 2147483648) : x = n3 a ↔ x.toInt = (a : Int) := by rw [← Int32.toInt_inj, n3_toInt ha]
theorem kd_2 (x : Int32) : kd x = 2 ↔ n3 48 ≤ x ∧ x ≤ n3 57 := by
  unfold kd
  simp (disch := omega) only [i32_lt, i32_gt, i32_eq]
  split
  · omega
  · split
    · omega
    · split <;> omega
theorem kd_0 (x : Int32) : kd x = 0 ↔ n3 32 ≤ x ∧ x ≤ n3 32 := by
  unfold kd
  simp (disch := omega) only [i32_lt, i32_gt, i32_eq]
  split
  · omega
  · split
    · omega
    · split <;> omega
theorem kd_le (x : Int32) : kd x ≤ 3 := by
  unfold kd
  split
  · omega
  · split
    · omega
    · split <;> omega
theorem kd_s {x : Int32} {c : Nat} (hc : c = 40 ∨ c = 41 ∨ c = 43 ∨ c = 59 ∨ c = 60 ∨ c = 62) (h : x = n3 c) : kd x = 3 := by
  subst h
  rcases hc with rfl | rfl | rfl | rfl | rfl | rfl <;> decide
/-- the end of a row of signs of kind k -/
def rne (T : Nat → Int32) (n k : Nat) : Nat → Nat → Nat
  | 0, p => p
  | d + 1, p => if p < n ∧ kd (T p) = k then rne T n k d (p + 1) else p
def re (T : Nat → Int32) (n k p : Nat) : Nat := rne T n k (n - p) p
theorem re_t {T : Nat → Int32} {n k p : Nat} (h : p < n) (hk : kd (T p) = k) : re T n k p = re T n k (p + 1) := by
  unfold re
  rw [show n - p = (n - (p + 1)) + 1 by omega]
  exact if_pos ⟨h, hk⟩
theorem re_f {T : Nat → Int32} {n k p : Nat} (h : ¬ (p < n ∧ kd (T p) = k)) : re T n k p = p := by
  unfold re
  cases n - p with
  | zero => rfl
  | succ d => exact if_neg h
theorem re_ge (T : Nat → Int32) (n k : Nat) : ∀ (d p : Nat), p ≤ rne T n k d p
  | 0, p => Nat.le_refl p
  | d + 1, p => by
    unfold rne; split
    · have := re_ge T n k d (p + 1); omega
    · exact Nat.le_refl p
theorem re_le (T : Nat → Int32) (n k : Nat) : ∀ (d p : Nat), p ≤ n → rne T n k d p ≤ n
  | 0, p, h => h
  | d + 1, p, h => by
    unfold rne; split
    · exact re_le T n k d (p + 1) (by omega)
    · exact h
theorem re_1 (T : Nat → Int32) (n k p : Nat) : p ≤ re T n k p := re_ge T n k _ p
theorem re_2 (T : Nat → Int32) {n k p : Nat} (h : p ≤ n) : re T n k p ≤ n := re_le T n k _ p h
theorem re_n (T : Nat → Int32) (n k : Nat) : re T n k n = n := re_f (by omega)
theorem re_in (T : Nat → Int32) (n k : Nat) : ∀ (d p j : Nat), p ≤ j → j < rne T n k d p → j < n ∧ kd (T j) = k
  | 0, p, j, h1, h2 => by unfold rne at h2; omega
  | d + 1, p, j, h1, h2 => by
    unfold rne at h2
    split at h2
    · next h =>
      by_cases e : j = p
      · subst e; exact h
      · exact re_in T n k d (p + 1) j (by omega) h2
    · omega
theorem re_end (T : Nat → Int32) (n k : Nat) : ∀ (d p : Nat), p ≤ n → n ≤ p + d → ¬ (rne T n k d p < n ∧ kd (T (rne T n k d p)) = k)
  | 0, p, h1, h2 => by unfold rne; omega
  | d + 1, p, h1, h2 => by
    unfold rne; split
    · exact re_end T n k d (p + 1) (by omega) (by omega)
    · next h => exact h
theorem re_x (T : Nat → Int32) {n k p : Nat} (h : p ≤ n) : ¬ (re T n k p < n ∧ kd (T (re T n k p)) = k) := re_end T n k _ p h (by omega)
theorem re_m (T : Nat → Int32) {n k p j : Nat} (h1 : p ≤ j) (h2 : j < re T n k p) : j < n ∧ kd (T j) = k := re_in T n k _ p j h1 h2
theorem re_id (T : Nat → Int32) {n k p : Nat} (h : p ≤ n) : re T n k (re T n k p) = re T n k p := re_f (re_x T h)
theorem re_mid (T : Nat → Int32) {n k p : Nat} : ∀ d, p + d ≤ re T n k p → re T n k (p + d) = re T n k p
  | 0, _ => rfl
  | d + 1, h => by
    have hm := re_m T (show p ≤ p + d by omega) (show p + d < re T n k p by omega)
    exact (re_t hm.1 hm.2).symm.trans (re_mid T d (by omega))
/-- the end of the thing at p -/
def te (T : Nat → Int32) (n p : Nat) : Nat := if p < n then (if kd (T p) = 3 then p + 1 else re T n (kd (T p)) p) else p
def nb (T : Nat → Int32) (n p : Nat) : Nat := re T n 0 p
def BT (T : Nat → Int32) (n : Nat) : Nat → Nat
  | 0 => nb T n 0
  | i + 1 => nb T n (te T n (BT T n i))
theorem te_le (T : Nat → Int32) {n p : Nat} (h : p ≤ n) : te T n p ≤ n := by
  unfold te; split
  · split
    · omega
    · exact re_2 T h
  · exact h
theorem te_lt (T : Nat → Int32) {n p : Nat} (h : p < n) : p < te T n p := by
  unfold te; rw [if_pos h]; split
  · omega
  · rw [re_t h rfl]; have := re_1 T n (kd (T p)) (p + 1); omega
theorem te_n (T : Nat → Int32) (n : Nat) : te T n n = n := if_neg (Nat.lt_irrefl n)
theorem BT_le (T : Nat → Int32) (n : Nat) : ∀ i, BT T n i ≤ n
  | 0 => re_2 T (Nat.zero_le n)
  | i + 1 => re_2 T (te_le T (BT_le T n i))
theorem BT_nb (T : Nat → Int32) (n : Nat) : ∀ i, nb T n (BT T n i) = BT T n i
  | 0 => re_id T (Nat.zero_le n)
  | i + 1 => re_id T (te_le T (BT_le T n i))
theorem BT_kd (T : Nat → Int32) {n i : Nat} (h : BT T n i < n) : kd (T (BT T n i)) ≠ 0 := by
  intro e
  have := BT_nb T n i
  unfold nb at this
  rw [re_t h e] at this
  have := re_1 T n 0 (BT T n i + 1)
  omega
theorem BT_s (T : Nat → Int32) (n i : Nat) : BT T n (i + 1) = nb T n (te T n (BT T n i)) := rfl
theorem BT_lt (T : Nat → Int32) {n i : Nat} (h : BT T n i < n) : BT T n i < BT T n (i + 1) := by
  have h1 := te_lt T h
  have h2 := re_1 T n 0 (te T n (BT T n i))
  rw [BT_s]; unfold nb; omega
/-- the kind of the thing i -/
def KT (T : Nat → Int32) (n i : Nat) : Nat := if BT T n i < n then kd (T (BT T n i)) else 0
theorem KT_t {T : Nat → Int32} {n i : Nat} (h : BT T n i < n) : KT T n i = kd (T (BT T n i)) := if_pos h
theorem KT_n {T : Nat → Int32} {n i : Nat} (h : BT T n i = n) : KT T n i = 0 := if_neg (by omega)
theorem KT_le (T : Nat → Int32) (n i : Nat) : KT T n i ≤ 3 := by
  unfold KT; split
  · exact kd_le _
  · omega
theorem KT_0 {T : Nat → Int32} {n i : Nat} (h : KT T n i ≠ 0) : BT T n i < n := by
  unfold KT at h; split at h
  · next h1 => exact h1
  · exact absurd rfl h
theorem te_k {T : Nat → Int32} {n i k : Nat} (h : KT T n i = k) (hk : k = 1 ∨ k = 2) : te T n (BT T n i) = re T n k (BT T n i) := by
  have h1 := KT_0 (T := T) (n := n) (i := i) (by omega)
  rw [KT_t h1] at h
  unfold te; rw [if_pos h1, if_neg (by omega), h]
theorem te_3 {T : Nat → Int32} {n i : Nat} (h : KT T n i = 3) : te T n (BT T n i) = BT T n i + 1 := by
  have h1 := KT_0 (T := T) (n := n) (i := i) (by omega)
  rw [KT_t h1] at h
  unfold te; rw [if_pos h1, if_pos h]
/-- whether a word stands there -/
def wdB (T : Nat → Int32) (p w : Nat) : Nat → Bool
  | 0 => true
  | j + 1 => wdB T p w j && decide (T (p + j) = sch w j)
theorem wdB_m {T : Nat → Int32} {p w j : Nat} (h : wdB T p w j = false) : ∀ d, wdB T p w (j + d) = false
  | 0 => h
  | d + 1 => by
    show (wdB T p w (j + d) && _) = false
    rw [wdB_m h d]; rfl
def WT (T : Nat → Int32) (n i w : Nat) : Bool := decide (KT T n i = 1 ∧ te T n (BT T n i) - BT T n i = lenWS.getD w 0) && wdB T (BT T n i) w (lenWS.getD w 0)
theorem WT_k {T : Nat → Int32} {n i w : Nat} (h : KT T n i ≠ 1) : WT T n i w = false := by unfold WT; rw [decide_eq_false (fun e => h e.1)]; rfl
theorem WT_l {T : Nat → Int32} {n i w : Nat} (h : te T n (BT T n i) - BT T n i ≠ lenWS.getD w 0) : WT T n i w = false := by unfold WT; rw [decide_eq_false (fun e => h e.2)]; rfl
theorem WT_e {T : Nat → Int32} {n i w : Nat} (h : KT T n i = 1) (h' : te T n (BT T n i) - BT T n i = lenWS.getD w 0) : WT T n i w = wdB T (BT T n i) w (lenWS.getD w 0) := by unfold WT; rw [decide_eq_true ⟨h, h'⟩]; rfl
theorem WT_K {T : Nat → Int32} {n i w : Nat} (h : WT T n i w = true) : KT T n i = 1 := by
  unfold WT at h; simp only [Bool.and_eq_true, decide_eq_true_eq] at h; exact h.1.1
theorem lenWS_b : ∀ w, w < 23 → 2 ≤ lenWS.getD w 0 ∧ lenWS.getD w 0 ≤ 7 := by decide
/-- two words are not one -/
theorem WT_u {T : Nat → Int32} {n i w w' : Nat} (h : WT T n i w = true) (hw : w < 23) (hw' : w' < 23) (hne : w ≠ w') : WT T n i w' = false := by
  cases h2 : WT T n i w' with
  | false => rfl
  | true =>
    exfalso
    unfold WT at h h2
    simp only [Bool.and_eq_true, decide_eq_true_eq] at h h2
    have hl : lenWS.getD w 0 = lenWS.getD w' 0 := h.1.2.symm.trans h2.1.2
    have hat : ∀ (w L : Nat), wdB T (BT T n i) w L = true → ∀ j, j < L → T (BT T n i + j) = sch w j := by
      intro w L
      induction L with
      | zero => intro _ j hj; omega
      | succ L ih =>
        intro hh j hj
        unfold wdB at hh
        simp only [Bool.and_eq_true, decide_eq_true_eq] at hh
        by_cases e : j = L
        · subst e; exact hh.2
        · exact ih hh.1 j (by omega)
    have e : ∀ j, j < lenWS.getD w 0 → sch w j = sch w' j := fun j hj => by
      rw [← hat w _ h.2 j hj, hat w' _ h2.2 j (by omega)]
    have key : ∀ w, w < 23 → ∀ w', w' < 23 → lenWS.getD w 0 = lenWS.getD w' 0 → (∀ j, j < 7 → j < lenWS.getD w 0 → sch w j = sch w' j) → w = w' := by decide +kernel
    exact hne (key w hw w' hw' hl (fun j _ hj => e j hj))
def ST (T : Nat → Int32) (n i c : Nat) : Bool := decide (BT T n i < n ∧ T (BT T n i) = n3 c)
/-- the number that stands there -/
def dg (T : Nat → Int32) (p : Nat) : Nat → Nat
  | 0 => 0
  | d + 1 => 10 * dg T p d + (u3 (T (p + d)) - 48)
abbrev NVp (T : Nat → Int32) (n i lo hi : Nat) : Prop := KT T n i = 2 ∧ te T n (BT T n i) - BT T n i ≤ 3 ∧ lo ≤ dg T (BT T n i) (te T n (BT T n i) - BT T n i) ∧ dg T (BT T n i) (te T n (BT T n i) - BT T n i) ≤ hi
def NTv (T : Nat → Int32) (n i : Nat) : Nat := dg T (BT T n i) (te T n (BT T n i) - BT T n i)
theorem dig_b {x : Int32} (h : kd x = 2) : 48 ≤ u3 x ∧ u3 x ≤ 57 := by
  have h1 := (kd_2 x).1 h
  rw [i32_lt (by omega), i32_gt (by omega)] at h1
  have h2 := u3_cond x
  have h3 := u3_lt x
  split at h2 <;> omega
theorem dg_le {T : Nat → Int32} {p : Nat} : ∀ d, (∀ j, j < d → kd (T (p + j)) = 2) → dg T p d < 10 ^ d
  | 0, _ => by show 0 < 1; omega
  | d + 1, h => by
    have h1 := dg_le d (fun j hj => h j (by omega))
    have h2 := dig_b (h d (by omega))
    show 10 * dg T p d + (u3 (T (p + d)) - 48) < 10 ^ (d + 1)
    rw [Nat.pow_succ]; omega
